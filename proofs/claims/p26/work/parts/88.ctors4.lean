/-! the constructors, printed by wip/gen/ctors.py: Matching, Text, the model, the class -/
section Ctor4
def hMt (h : Hp) : Hp := hup (hup (hup (hup (hup (hup (hup (hup (hup (hup (h) 19 0 20) 19 1 21) 19 2 22) 19 3 23) 19 4 24) 19 5 25) 19 6 26) 19 7 (0)) 19 8 (0)) 19 9 (0)
set_option maxRecDepth 20000 in
theorem ct_X0 {h : Hp} (f : FR h 20 27) : CtN M_X0_init 1 7 640 19 20 27 h (hMt h) := by
  refine CtN.mk ok_X0_init pl_X0_init rfl rfl rfl rfl ?_
  refine y_aload rfl rfl ?_
  refine y_obj rfl ol_X0_3 (by omega) ?_
  refine y_aload rfl rfl ?_
  refine y_sipush (x := ((144 : Nat) : Int)) rfl (by omega) ?_
  refine y_newarr (atype := .int) (ty := .int) (cx := 0) rfl ar_int kd_20 (by omega) (f.a (c := 0) (by omega) (by omega) kd_20 (by omega)) (fun ca => rfl) (fun U cA h => h) rfl (by decide) (by omega) rfl (by omega) ?_
  refine y_put (v := vr 20) (x := ((20 : Nat) : Int)) rfl pf_X0_9 kd_19 (by omega) (by omega) (fun ad => (fvl_r (i := 19) (o := 1) rfl).symm) (fun ad => ⟨rfl, rfl⟩) ?_
  have f1 := (f.sub (lo' := 21) (by omega) (Nat.le_refl _)).up (a := 19) (k := 0) (x := ((20 : Nat) : Int)) (by omega)
  refine y_aload rfl rfl ?_
  refine y_sipush (x := ((144 : Nat) : Int)) rfl (by omega) ?_
  refine y_newarr (atype := .int) (ty := .int) (cx := 0) rfl ar_int kd_21 (by omega) (f1.a (c := 0) (by omega) (by omega) kd_21 (by omega)) (fun ca => rfl) (fun U cA h => h) rfl (by decide) (by omega) rfl (by omega) ?_
  refine y_put (v := vr 21) (x := ((21 : Nat) : Int)) rfl pf_X0_15 kd_19 (by omega) (by omega) (fun ad => (fvl_r (i := 19) (o := 2) rfl).symm) (fun ad => ⟨rfl, rfl⟩) ?_
  have f2 := (f1.sub (lo' := 22) (by omega) (Nat.le_refl _)).up (a := 19) (k := 1) (x := ((21 : Nat) : Int)) (by omega)
  refine y_aload rfl rfl ?_
  refine y_sipush (x := ((144 : Nat) : Int)) rfl (by omega) ?_
  refine y_newarr (atype := .boolean) (ty := .boolean) (cx := 1) rfl ar_boolean kd_22 (by omega) (f2.a (c := 1) (by omega) (by omega) kd_22 (by omega)) (fun ca => rfl) (fun U cA h => h) rfl (by decide) (by omega) rfl (by omega) ?_
  refine y_put (v := vr 22) (x := ((22 : Nat) : Int)) rfl pf_X0_18 kd_19 (by omega) (by omega) (fun ad => (fvl_r (i := 19) (o := 3) rfl).symm) (fun ad => ⟨rfl, rfl⟩) ?_
  have f3 := (f2.sub (lo' := 23) (by omega) (Nat.le_refl _)).up (a := 19) (k := 2) (x := ((22 : Nat) : Int)) (by omega)
  refine y_aload rfl rfl ?_
  refine y_sipush (x := ((144 : Nat) : Int)) rfl (by omega) ?_
  refine y_newarr (atype := .boolean) (ty := .boolean) (cx := 1) rfl ar_boolean kd_23 (by omega) (f3.a (c := 1) (by omega) (by omega) kd_23 (by omega)) (fun ca => rfl) (fun U cA h => h) rfl (by decide) (by omega) rfl (by omega) ?_
  refine y_put (v := vr 23) (x := ((23 : Nat) : Int)) rfl pf_X0_22 kd_19 (by omega) (by omega) (fun ad => (fvl_r (i := 19) (o := 4) rfl).symm) (fun ad => ⟨rfl, rfl⟩) ?_
  have f4 := (f3.sub (lo' := 24) (by omega) (Nat.le_refl _)).up (a := 19) (k := 3) (x := ((23 : Nat) : Int)) (by omega)
  refine y_aload rfl rfl ?_
  refine y_bipush (x := ((40 : Nat) : Int)) rfl (by omega) ?_
  refine y_newarr (atype := .int) (ty := .int) (cx := 0) rfl ar_int kd_24 (by omega) (f4.a (c := 0) (by omega) (by omega) kd_24 (by omega)) (fun ca => rfl) (fun U cA h => h) rfl (by decide) (by omega) rfl (by omega) ?_
  refine y_put (v := vr 24) (x := ((24 : Nat) : Int)) rfl pf_X0_25 kd_19 (by omega) (by omega) (fun ad => (fvl_r (i := 19) (o := 5) rfl).symm) (fun ad => ⟨rfl, rfl⟩) ?_
  have f5 := (f4.sub (lo' := 25) (by omega) (Nat.le_refl _)).up (a := 19) (k := 4) (x := ((24 : Nat) : Int)) (by omega)
  refine y_aload rfl rfl ?_
  refine y_bipush (x := ((12 : Nat) : Int)) rfl (by omega) ?_
  refine y_newarr (atype := .int) (ty := .int) (cx := 0) rfl ar_int kd_25 (by omega) (f5.a (c := 0) (by omega) (by omega) kd_25 (by omega)) (fun ca => rfl) (fun U cA h => h) rfl (by decide) (by omega) rfl (by omega) ?_
  refine y_put (v := vr 25) (x := ((25 : Nat) : Int)) rfl pf_X0_28 kd_19 (by omega) (by omega) (fun ad => (fvl_r (i := 19) (o := 6) rfl).symm) (fun ad => ⟨rfl, rfl⟩) ?_
  have f6 := (f5.sub (lo' := 26) (by omega) (Nat.le_refl _)).up (a := 19) (k := 5) (x := ((25 : Nat) : Int)) (by omega)
  refine y_aload rfl rfl ?_
  refine y_bipush (x := ((12 : Nat) : Int)) rfl (by omega) ?_
  refine y_newarr (atype := .int) (ty := .int) (cx := 0) rfl ar_int kd_26 (by omega) (f6.a (c := 0) (by omega) (by omega) kd_26 (by omega)) (fun ca => rfl) (fun U cA h => h) rfl (by decide) (by omega) rfl (by omega) ?_
  refine y_put (v := vr 26) (x := ((26 : Nat) : Int)) rfl pf_X0_31 kd_19 (by omega) (by omega) (fun ad => (fvl_r (i := 19) (o := 7) rfl).symm) (fun ad => ⟨rfl, rfl⟩) ?_
  have f7 := (f6.sub (lo' := 27) (by omega) (Nat.le_refl _)).up (a := 19) (k := 6) (x := ((26 : Nat) : Int)) (by omega)
  refine y_aload rfl rfl ?_
  refine y_iconst rfl ?_
  refine y_put (v := vi (0)) (x := 0) rfl pf_X0_34 kd_19 (by omega) (by omega) (fun ad => (fvl_i rfl).symm) (fun ad => ⟨rfl, rfl⟩) ?_
  have f8 := f7.up (a := 19) (k := 7) (x := (0)) (by omega)
  refine y_aload rfl rfl ?_
  refine y_iconst rfl ?_
  refine y_put (v := vi (0)) (x := 0) rfl pf_X0_38 kd_19 (by omega) (by omega) (fun ad => (fvl_i rfl).symm) (fun ad => ⟨rfl, rfl⟩) ?_
  have f9 := f8.up (a := 19) (k := 8) (x := (0)) (by omega)
  refine y_aload rfl rfl ?_
  refine y_iconst rfl ?_
  refine y_put (v := vi (0)) (x := 0) rfl pf_X0_41 kd_19 (by omega) (by omega) (fun ad => (fvl_i rfl).symm) (fun ad => ⟨rfl, rfl⟩) ?_
  have f10 := f9.up (a := 19) (k := 9) (x := (0)) (by omega)
  exact y_ret rfl rfl (by omega)
def hTx (h : Hp) : Hp := hup (hup (hup (hup (hup (h) 28 0 29) 28 1 (0)) 28 2 (0)) 28 3 (-1)) 28 4 30
set_option maxRecDepth 20000 in
theorem ct_X3 {h : Hp} (f : FR h 29 31) : CtN M_X3_init 1 2 64 28 29 31 h (hTx h) := by
  refine CtN.mk ok_X3_init pl_X3_init rfl rfl rfl rfl ?_
  refine y_aload rfl rfl ?_
  refine y_obj rfl ol_X3_3 (by omega) ?_
  refine y_aload rfl rfl ?_
  refine y_bipush (x := ((60 : Nat) : Int)) rfl (by omega) ?_
  refine y_newarr (atype := .char) (ty := .char) (cx := 2) rfl ar_char kd_29 (by omega) (f.a (c := 2) (by omega) (by omega) kd_29 (by omega)) (fun ca => rfl) (fun U cA h => h) rfl (by decide) (by omega) rfl (by omega) ?_
  refine y_put (v := vr 29) (x := ((29 : Nat) : Int)) rfl pf_X3_9 kd_28 (by omega) (by omega) (fun ad => (fvl_r (i := 28) (o := 1) rfl).symm) (fun ad => ⟨rfl, rfl⟩) ?_
  have f1 := (f.sub (lo' := 30) (by omega) (Nat.le_refl _)).up (a := 28) (k := 0) (x := ((29 : Nat) : Int)) (by omega)
  refine y_aload rfl rfl ?_
  refine y_iconst rfl ?_
  refine y_put (v := vi (0)) (x := 0) rfl pf_X3_15 kd_28 (by omega) (by omega) (fun ad => (fvl_i rfl).symm) (fun ad => ⟨rfl, rfl⟩) ?_
  have f2 := f1.up (a := 28) (k := 1) (x := (0)) (by omega)
  refine y_aload rfl rfl ?_
  refine y_iconst rfl ?_
  refine y_put (v := vi (0)) (x := 0) rfl pf_X3_19 kd_28 (by omega) (by omega) (fun ad => (fvl_i rfl).symm) (fun ad => ⟨rfl, rfl⟩) ?_
  have f3 := f2.up (a := 28) (k := 2) (x := (0)) (by omega)
  refine y_aload rfl rfl ?_
  refine y_iconst rfl ?_
  refine y_put (v := vi (-1)) (x := -1) rfl pf_X3_22 kd_28 (by omega) (by omega) (fun ad => (fvl_i rfl).symm) (fun ad => ⟨rfl, rfl⟩) ?_
  have f4 := f3.up (a := 28) (k := 3) (x := (-1)) (by omega)
  refine y_aload rfl rfl ?_
  refine y_iconst (x := ((4 : Nat) : Int)) rfl ?_
  refine y_newarr (atype := .int) (ty := .int) (cx := 0) rfl ar_int kd_30 (by omega) (f4.a (c := 0) (by omega) (by omega) kd_30 (by omega)) (fun ca => rfl) (fun U cA h => h) rfl (by decide) (by omega) rfl (by omega) ?_
  refine y_put (v := vr 30) (x := ((30 : Nat) : Int)) rfl pf_X3_25 kd_28 (by omega) (by omega) (fun ad => (fvl_r (i := 28) (o := 2) rfl).symm) (fun ad => ⟨rfl, rfl⟩) ?_
  have f5 := (f4.sub (lo' := 31) (by omega) (Nat.le_refl _)).up (a := 28) (k := 4) (x := ((30 : Nat) : Int)) (by omega)
  exact y_ret rfl rfl (by omega)
end Ctor4
