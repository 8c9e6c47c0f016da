/-! the constructor of the class -/
section Ctor5
theorem kd_his : ∀ i, i < 5 → kd (31 + 9 * i) = (1, 0) := by decide +kernel
def hLp : Nat → Nat → Hp → Hp
  | 0, _, h => h
  | m + 1, i, h => hLp m (i + 1) (hup (hOff h (31 + 9 * i)) 27 i ((31 + 9 * i : Nat) : Int))
def hCl0 (h : Hp) : Hp :=
  hup (hup (hup (hup (hup (hTx (hup (hup (hup (hMt (hup (hOff (hup (hOff h 1) 0 0 ((1 : Nat) : Int)) 10) 0 1 ((10 : Nat) : Int))) 0 2 ((19 : Nat) : Int)) 0 3 ((27 : Nat) : Int)) 0 4 0)) 0 5 ((28 : Nat) : Int)) 0 6 0) 0 7 (-1)) 0 8 (-1)) 0 9 (-1)
def hCl (h : Hp) : Hp := hLp 5 0 (hCl0 h)
theorem row_off {h : Hp} {o a : Nat} (q : a < o ∨ o + 9 ≤ a) : hOff h o a = h a := by
  have q0 : a ≠ o := by omega
  have q1 : a ≠ o + 1 := by omega
  have q3 : a ≠ o + 3 := by omega
  have q5 : a ≠ o + 5 := by omega
  unfold hOff
  have e : ∀ g : Hp, hset g (o + 7) a = g a := fun g => by
    funext b
    unfold hset
    rw [if_neg (by omega)]
  rw [e, hup_o q0, hup_o q0, hup_o q0]
  unfold hRows
  rw [hup_o q5, hup_o q5, hup_o q0, hup_o q3, hup_o q3, hup_o q0, hup_o q1, hup_o q1]
theorem row_Mt {h : Hp} {a : Nat} (q : a ≠ 19) : hMt h a = h a := by
  unfold hMt
  rw [hup_o q, hup_o q, hup_o q, hup_o q, hup_o q, hup_o q, hup_o q, hup_o q, hup_o q, hup_o q]
theorem row_Tx {h : Hp} {a : Nat} (q : a ≠ 28) : hTx h a = h a := by
  unfold hTx
  rw [hup_o q, hup_o q, hup_o q, hup_o q, hup_o q]
theorem FR.keep {h h' : Hp} {lo hi : Nat} (f : FR h lo hi) (q : ∀ a, lo ≤ a → a < hi → h' a = h a) : FR h' lo hi := fun i h1 h2 => (q i h1 h2).trans (f i h1 h2)
set_option maxRecDepth 20000 in
theorem ct_loop : ∀ (m i : Nat) (h : Hp), i + m = 5 → FR h (31 + 9 * i) 76 → h 0 3 = ((27 : Nat) : Int) →
    Y M_X4_init 3 75 2446 43 [some (vr 0), some (vi (i : Int))] [] (31 + 9 * i) h (30 + 9 * i) (1216 + 246 * i) 76 (hLp m i h) := by
  have kk := kd_27
  intro m
  induction m with
  | zero =>
    intro i h hi f e
    obtain rfl : i = 5 := by omega
    refine y_iload rfl rfl ?_
    refine y_aload rfl rfl ?_
    refine y_getR gf_X4_26 kd_0 (by omega) (j := 27) (fun ad => ?_) rfl ?_
    · rw [e]
      exact fvl_r (i := 0) (o := 27) rfl
    refine y_alenq kd_27 (by omega) rfl ?_
    refine y_ge_t rfl ⟨by omega, by omega⟩ ⟨by omega, by omega⟩ (by omega) ?_
    exact y_ret rfl rfl (by omega)
  | succ m ih =>
    intro i h hi f e
    have ko := kd_his i (by omega)
    refine y_iload rfl rfl ?_
    refine y_aload rfl rfl ?_
    refine y_getR gf_X4_26 kd_0 (by omega) (j := 27) (fun ad => ?_) rfl ?_
    · rw [e]
      exact fvl_r (i := 0) (o := 27) rfl
    refine y_alenq kd_27 (by omega) rfl ?_
    refine y_ge_f rfl ⟨by omega, by omega⟩ ⟨by omega, by omega⟩ (by omega) ?_
    refine y_aload rfl rfl ?_
    refine y_getR gf_X4_26 kd_0 (by omega) (j := 27) (fun ad => ?_) rfl ?_
    · rw [e]
      exact fvl_r (i := 0) (o := 27) rfl
    refine y_iload rfl rfl ?_
    refine y_new (N2 := 31 + 9 * i + 9) ko1 df_1 nl_X4_7 il_X4_9 ko (f.o (by omega) (by omega) ko (by omega)) (ct_X1 ko (f.sub (by omega) (by omega))) rfl rfl rfl (by decide) (by omega) (by omega) (by omega) (Nat.le_of_ble_eq_true rfl) ?_
    refine y_aast kd_27 ko (by omega) (by omega) (by omega) (by omega) (by omega) rfl ?_
    refine y_iinc rfl rfl rfl ?_
    refine y_goto rfl ?_
    have z := ih (i + 1) (hup (hOff h (31 + 9 * i)) 27 i ((31 + 9 * i : Nat) : Int)) (by omega) ((f.sub (by omega) (by omega)).keep (fun a a1 a2 => by rw [hup_o (by omega), row_off (by omega)])) (by rw [hup_far (by omega), row_off (by omega)]; exact e)
    rw [show ((i + 1 : Nat) : Int) = (i : Int) + 1 by omega, show 31 + 9 * (i + 1) = 31 + 9 * i + 9 by omega, show 30 + 9 * (i + 1) = 30 + 9 * i + 1 + 8 by omega, show 1216 + 246 * (i + 1) = 1216 + 246 * i + 5 + 241 by omega] at z
    exact z
set_option maxRecDepth 20000 in
theorem ct_X4 {h : Hp} (f : FR h 1 76) : CtN M_X4_init 3 75 2446 0 1 76 h (hCl h) := by
  refine CtN.mk ok_X4_init pl_X4_init rfl rfl rfl rfl ?_
  refine y_aload rfl rfl ?_
  refine y_obj rfl ol_X4_1 (by omega) ?_
  refine y_aload rfl rfl ?_
  refine y_new (N2 := 10) ko1 df_1 nl_X4_7 il_X4_9 kd_1 (f.o (by omega) (by omega) kd_1 (by omega)) (ct_X1 kd_1 (f.sub (by omega) (by omega))) rfl rfl rfl (by decide) rfl (by omega) (by omega) (Nat.le_of_ble_eq_true rfl) ?_
  refine y_put (v := vr 1) (x := ((1 : Nat) : Int)) rfl pf_X4_10 kd_0 (by omega) (by omega) (fun ad => (fvl_r (i := 0) (o := 1) rfl).symm) (fun ad => ⟨rfl, rfl⟩) ?_
  have f1 : FR (hup (hOff h 1) 0 0 ((1 : Nat) : Int)) 10 76 := (f.sub (by omega) (by omega)).keep (fun a a1 a2 => by rw [hup_o (by omega), row_off (by omega)])
  refine y_aload rfl rfl ?_
  refine y_new (N2 := 19) ko1 df_1 nl_X4_7 il_X4_9 kd_10 (f1.o (by omega) (by omega) kd_10 (by omega)) (ct_X1 kd_10 (f1.sub (by omega) (by omega))) rfl rfl rfl (by decide) rfl (by omega) (by omega) (Nat.le_of_ble_eq_true rfl) ?_
  refine y_put (v := vr 10) (x := ((10 : Nat) : Int)) rfl pf_X4_16 kd_0 (by omega) (by omega) (fun ad => (fvl_r (i := 0) (o := 10) rfl).symm) (fun ad => ⟨rfl, rfl⟩) ?_
  have f2 : FR (hup (hOff (hup (hOff h 1) 0 0 ((1 : Nat) : Int)) 10) 0 1 ((10 : Nat) : Int)) 19 76 := (f1.sub (by omega) (by omega)).keep (fun a a1 a2 => by rw [hup_o (by omega), row_off (by omega)])
  refine y_aload rfl rfl ?_
  refine y_new (N2 := 27) ko0 df_0 nl_X4_19 il_X4_21 kd_19 (f2.o (by omega) (by omega) kd_19 (by omega)) (ct_X0 (f2.sub (by omega) (by omega))) rfl rfl rfl (by decide) rfl (by omega) (by omega) (Nat.le_of_ble_eq_true rfl) ?_
  refine y_put (v := vr 19) (x := ((19 : Nat) : Int)) rfl pf_X4_22 kd_0 (by omega) (by omega) (fun ad => (fvl_r (i := 0) (o := 19) rfl).symm) (fun ad => ⟨rfl, rfl⟩) ?_
  have f3 : FR (hup (hMt (hup (hOff (hup (hOff h 1) 0 0 ((1 : Nat) : Int)) 10) 0 1 ((10 : Nat) : Int))) 0 2 ((19 : Nat) : Int)) 27 76 := (f2.sub (by omega) (by omega)).keep (fun a a1 a2 => by rw [hup_o (by omega), row_Mt (by omega)])
  refine y_aload rfl rfl ?_
  refine y_iconst (x := ((5 : Nat) : Int)) rfl ?_
  refine y_newq cl_X4_7 kd_27 (f3.q (by omega) (by omega) kd_27) (by omega) rfl (by omega) ?_
  refine y_put (v := vr 27) (x := ((27 : Nat) : Int)) rfl pf_X4_26 kd_0 (by omega) (by omega) (fun ad => (fvl_r (i := 0) (o := 27) rfl).symm) (fun ad => ⟨rfl, rfl⟩) ?_
  refine y_aload rfl rfl ?_
  refine y_iconst rfl ?_
  refine y_put (v := vi 0) (x := 0) rfl pf_X4_30 kd_0 (by omega) (by omega) (fun ad => (fvl_i rfl).symm) (fun ad => ⟨rfl, rfl⟩) ?_
  have f4 := ((f3.sub (lo' := 28) (by omega) (Nat.le_refl _)).up (a := 0) (k := 3) (x := ((27 : Nat) : Int)) (by omega)).up (a := 0) (k := 4) (x := 0) (by omega)
  refine y_aload rfl rfl ?_
  refine y_new (N2 := 31) ko3 df_3 nl_X4_34 il_X4_36 kd_28 (f4.o (by omega) (by omega) kd_28 (by omega)) (ct_X3 (f4.sub (by omega) (by omega))) rfl rfl rfl (by decide) rfl (by omega) (by omega) (Nat.le_of_ble_eq_true rfl) ?_
  refine y_put (v := vr 28) (x := ((28 : Nat) : Int)) rfl pf_X4_37 kd_0 (by omega) (by omega) (fun ad => (fvl_r (i := 0) (o := 28) rfl).symm) (fun ad => ⟨rfl, rfl⟩) ?_
  refine y_aload rfl rfl ?_
  refine y_iconst rfl ?_
  refine y_put (v := vi 0) (x := 0) rfl pf_X4_41 kd_0 (by omega) (by omega) (fun ad => (fvl_i rfl).symm) (fun ad => ⟨rfl, rfl⟩) ?_
  refine y_aload rfl rfl ?_
  refine y_iconst rfl ?_
  refine y_put (v := vi (-1)) (x := -1) rfl pf_X4_44 kd_0 (by omega) (by omega) (fun ad => (fvl_i rfl).symm) (fun ad => ⟨rfl, rfl⟩) ?_
  refine y_aload rfl rfl ?_
  refine y_iconst rfl ?_
  refine y_put (v := vi (-1)) (x := -1) rfl pf_X4_47 kd_0 (by omega) (by omega) (fun ad => (fvl_i rfl).symm) (fun ad => ⟨rfl, rfl⟩) ?_
  refine y_aload rfl rfl ?_
  refine y_iconst rfl ?_
  refine y_put (v := vi (-1)) (x := -1) rfl pf_X4_50 kd_0 (by omega) (by omega) (fun ad => (fvl_i rfl).symm) (fun ad => ⟨rfl, rfl⟩) ?_
  refine y_iconst rfl ?_
  refine y_istore rfl rfl ?_
  exact ct_loop 5 0 (hCl0 h) (by omega) ((f4.sub (lo' := 31) (by omega) (Nat.le_refl _)).keep (fun a a1 a2 => by
    unfold hCl0
    rw [hup_o (by omega), hup_o (by omega), hup_o (by omega), hup_o (by omega), hup_o (by omega), row_Tx (by omega)])) (by
    unfold hCl0
    rw [hup_far (by omega), hup_far (by omega), hup_far (by omega), hup_far (by omega), hup_far (by omega), row_Tx (by omega), hup_far (by omega), hup_same])
end Ctor5
