/-! the constructors: each from its start to its end -/
section Ctor3
/-- what a new cell holds -/
def hF : Hp := fun i k => if (kd i).1 < 10 then (if (off (kd i).1 k).isSome then -1 else 0) else if (kd i).1 = 13 then -1 else if 84 ≤ i ∧ i < 87 then sA i k else 0
def FR (h : Hp) (lo hi : Nat) : Prop := ∀ i, lo ≤ i → i < hi → h i = hF i
theorem FR.o {h : Hp} {lo hi i c n : Nat} (f : FR h lo hi) (h1 : lo ≤ i) (h2 : i < hi) (hk : kd i = (c, n)) (hc : c < 10) : fr c h i := fun j _ => by
  rw [f i h1 h2]
  unfold hF
  rw [hk, if_pos (by exact hc)]
theorem FR.a {h : Hp} {lo hi i c n : Nat} (f : FR h lo hi) (h1 : lo ≤ i) (h2 : i < hi) (hk : kd i = (10 + c, n)) (hc : c < 3) : ∀ j, h i j = 0 := fun j => by
  have h84 : i < 76 := kd_lt (c := 10 + c) (by rw [hk]) (by omega)
  rw [f i h1 h2]
  unfold hF
  rw [hk, if_neg (by show ¬ 10 + c < 10; omega), if_neg (by show ¬ 10 + c = 13; omega), if_neg (by omega)]
theorem FR.q {h : Hp} {lo hi i n : Nat} (f : FR h lo hi) (h1 : lo ≤ i) (h2 : i < hi) (hk : kd i = (13, n)) : ∀ j, h i j = -1 := fun j => by
  rw [f i h1 h2]
  unfold hF
  rw [hk, if_neg (by show ¬ 13 < 10; omega), if_pos rfl]
theorem FR.sub {h : Hp} {lo hi lo' hi' : Nat} (f : FR h lo hi) (h1 : lo ≤ lo') (h2 : hi' ≤ hi) : FR h lo' hi' := fun i a b => f i (by omega) (by omega)
theorem FR.up {h : Hp} {lo hi a k : Nat} {x : Int} (f : FR h lo hi) (q : a < lo) : FR (hup h a k x) lo hi := fun i h1 h2 => by
  rw [hup_o (by omega)]
  exact f i h1 h2
def hRows (h : Hp) (r : Nat) : Hp := hup (hup h r 0 ((r + 1 : Nat) : Int)) r 1 0
theorem FR.rows {h : Hp} {lo hi r : Nat} (f : FR h lo hi) (q : r < lo) : FR (hRows h r) lo hi := (f.up q).up q
set_option maxRecDepth 20000 in
theorem ct_X2 {r : Nat} {h : Hp} (hk : kd r = (2, 0)) (f : FR h (r + 1) (r + 2)) : CtN M_X2_init 1 1 72 r (r + 1) (r + 2) h (hRows h r) := by
  have k1 := kR_1 hk
  have l1 : r + 1 < 76 := kd_lt (c := 10) (by rw [k1]) (by omega)
  refine CtN.mk ok_X2_init pl_X2_init rfl rfl rfl rfl ?_
  refine y_aload rfl rfl ?_
  refine y_obj rfl ol_X2_3 (by omega) ?_
  refine y_aload rfl rfl ?_
  refine y_bipush (x := ((72 : Nat) : Int)) rfl (by omega) ?_
  refine y_newarr (atype := .int) (ty := .int) (cx := 0) rfl ar_int k1 (by omega) (f.a (c := 0) (by omega) (by omega) k1 (by omega)) (fun ca => rfl) (fun U cA h => h) rfl (by decide) (by omega) rfl (by omega) ?_
  refine y_put (v := vr (r + 1)) (x := ((r + 1 : Nat) : Int)) rfl pf_X2_9 hk (by omega) (by omega) (fun ad => (fvl_r rfl).symm) (fun ad => ⟨rfl, rfl⟩) ?_
  refine y_aload rfl rfl ?_
  refine y_iconst rfl ?_
  refine y_put (v := vi 0) (x := 0) rfl pf_X2_15 hk (by omega) (by omega) (fun ad => (fvl_i rfl).symm) (fun ad => ⟨rfl, rfl⟩) ?_
  exact y_ret rfl rfl (by omega)
def hOff (h : Hp) (o : Nat) : Hp :=
  hset (hup (hup (hup (hRows (hup (hRows (hup (hRows h (o + 1)) o 0 ((o + 1 : Nat) : Int)) (o + 3)) o 1 ((o + 3 : Nat) : Int)) (o + 5)) o 2 ((o + 5 : Nat) : Int)) o 3 ((o + 7 : Nat) : Int)) o 4 ((o + 8 : Nat) : Int)) (o + 7)
theorem FR.off {h : Hp} {lo hi o : Nat} (f : FR h lo hi) (q : o + 9 ≤ lo) : FR (hOff h o) lo hi := fun i h1 h2 => by
  unfold hOff
  have g := ((((((((f.rows (r := o + 1) (by omega)).up (a := o) (k := 0) (x := ((o + 1 : Nat) : Int)) (by omega)).rows (r := o + 3) (by omega)).up (a := o) (k := 1) (x := ((o + 3 : Nat) : Int)) (by omega)).rows (r := o + 5) (by omega)).up (a := o) (k := 2) (x := ((o + 5 : Nat) : Int)) (by omega)).up (a := o) (k := 3) (x := ((o + 7 : Nat) : Int)) (by omega)).up (a := o) (k := 4) (x := ((o + 8 : Nat) : Int)) (by omega)) i h1 h2
  rw [← g]
  funext b
  unfold hset
  rw [if_neg (by omega)]
set_option maxRecDepth 20000 in
theorem ct_X1 {o : Nat} {h : Hp} (hk : kd o = (1, 0)) (f : FR h (o + 1) (o + 9)) : CtN M_X1_init 2 8 241 o (o + 1) (o + 9) h (hOff h o) := by
  have k1 := kO_1 hk
  have k3 := kO_3 hk
  have k5 := kO_5 hk
  have k7 := kO_7 hk
  have k8 := kO_8 hk
  have l8 : o + 8 < 76 := kd_lt (c := 10) (by rw [k8]) (by omega)
  refine CtN.mk ok_X1_init pl_X1_init rfl rfl rfl rfl ?_
  refine y_aload rfl rfl ?_
  refine y_obj rfl ol_X1_3 (by omega) ?_
  refine y_aload rfl rfl ?_
  refine y_new ko2 df_2 nl_X1_9 il_X1_11 k1 (f.o (by omega) (by omega) k1 (by omega)) (ct_X2 k1 (f.sub (by omega) (by omega))) rfl rfl rfl (by decide) rfl (by omega) (by omega) (Nat.le_of_ble_eq_true rfl) ?_
  refine y_put (v := vr (o + 1)) (x := ((o + 1 : Nat) : Int)) rfl pf_X1_12 hk (by omega) (by omega) (fun ad => (fvl_r rfl).symm) (fun ad => ⟨rfl, rfl⟩) ?_
  have f1 : FR (hup (hRows h (o + 1)) o 0 ((o + 1 : Nat) : Int)) (o + 3) (o + 9) := ((f.sub (lo' := o + 3) (by omega) (Nat.le_refl _)).rows (by omega)).up (by omega)
  refine y_aload rfl rfl ?_
  refine y_new ko2 df_2 nl_X1_9 il_X1_11 k3 (f1.o (by omega) (by omega) k3 (by omega)) (ct_X2 k3 (f1.sub (by omega) (by omega))) rfl rfl rfl (by decide) rfl (by omega) (by omega) (Nat.le_of_ble_eq_true rfl) ?_
  refine y_put (v := vr (o + 3)) (x := ((o + 3 : Nat) : Int)) rfl pf_X1_18 hk (by omega) (by omega) (fun ad => (fvl_r rfl).symm) (fun ad => ⟨rfl, rfl⟩) ?_
  have f2 := ((f1.sub (lo' := o + 5) (by omega) (Nat.le_refl _)).rows (r := o + 3) (by omega)).up (a := o) (k := 1) (x := ((o + 3 : Nat) : Int)) (by omega)
  refine y_aload rfl rfl ?_
  refine y_new ko2 df_2 nl_X1_9 il_X1_11 k5 (f2.o (by omega) (by omega) k5 (by omega)) (ct_X2 k5 (f2.sub (by omega) (by omega))) rfl rfl rfl (by decide) rfl (by omega) (by omega) (Nat.le_of_ble_eq_true rfl) ?_
  refine y_put (v := vr (o + 5)) (x := ((o + 5 : Nat) : Int)) rfl pf_X1_21 hk (by omega) (by omega) (fun ad => (fvl_r rfl).symm) (fun ad => ⟨rfl, rfl⟩) ?_
  have f3 := ((f2.sub (lo' := o + 7) (by omega) (Nat.le_refl _)).rows (r := o + 5) (by omega)).up (a := o) (k := 2) (x := ((o + 5 : Nat) : Int)) (by omega)
  refine y_aload rfl rfl ?_
  refine y_bipush (x := ((7 : Nat) : Int)) rfl (by omega) ?_
  refine y_newarr (atype := .int) (ty := .int) (cx := 0) rfl ar_int k7 (by omega) (f3.a (c := 0) (by omega) (by omega) k7 (by omega)) (fun ca => rfl) (fun U cA h => h) rfl (by decide) (by omega) rfl (by omega) ?_
  refine y_put (v := vr (o + 7)) (x := ((o + 7 : Nat) : Int)) rfl pf_X1_24 hk (by omega) (by omega) (fun ad => (fvl_r rfl).symm) (fun ad => ⟨rfl, rfl⟩) ?_
  have f4 := (f3.sub (lo' := o + 8) (by omega) (Nat.le_refl _)).up (a := o) (k := 3) (x := ((o + 7 : Nat) : Int)) (by omega)
  refine y_aload rfl rfl ?_
  refine y_bipush (x := ((12 : Nat) : Int)) rfl (by omega) ?_
  refine y_newarr (atype := .int) (ty := .int) (cx := 0) rfl ar_int k8 (by omega) (f4.a (c := 0) (by omega) (by omega) k8 (by omega)) (fun ca => rfl) (fun U cA h => h) rfl (by decide) (by omega) rfl (by omega) ?_
  refine y_put (v := vr (o + 8)) (x := ((o + 8 : Nat) : Int)) rfl pf_X1_28 hk (by omega) (by omega) (fun ad => (fvl_r rfl).symm) (fun ad => ⟨rfl, rfl⟩) ?_
  refine y_sget gs_X1_31 rfl ?_
  refine y_iconst rfl ?_
  refine y_aload rfl rfl ?_
  refine y_getR gf_X1_24 hk (by omega) (j := o + 7) (fun ad => ?_) rfl ?_
  · rw [hup_far (by omega), hup_same]
    exact fvl_r rfl
  refine y_iconst rfl ?_
  refine y_bipush rfl (by omega) ?_
  refine y_copy k7 cp_X1_34 (by omega) (by omega) (by omega) (by omega) (by decide) rfl ?_
  exact y_ret rfl rfl (by omega)
end Ctor3
