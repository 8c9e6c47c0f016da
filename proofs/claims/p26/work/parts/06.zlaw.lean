/-! the judgement Z: what the law's own methods need: longs, bits, rows of the law -/
section Steps6
variable {M : MI} {uu xw k pc t : Nat} {ls : List (Option AV)} {st : List AV} {h : Hp} {e e1 e2 : Option (Int × Hp)}
/-- a long under a name -/
def ll (x : Int64) (K : Int64 → Option (Int × Hp)) : Option (Int × Hp) := K x
theorem z_lload {j : Nat} {x : Int64} (hd : (mT M)[k]? = some (pc, .lload j, 2, t)) (hl : ls[j]? = some (some (vx (.long x)))) (kk : Z M uu xw (k + 1) ls (vx (.long x) :: st) h e) : Z M uu xw k ls st h e := by
  refine Z.pure (fun a b => avR_c (b _ _ hl) a) ?_ kk
  intro p l e s m args below meth c base D ca ad H locs la Q _ _ C L _ _ _ _ kk
  obtain ⟨o1, -, o3, o4⟩ := okM_at C.1.1 hd
  rw [o4]
  rw [o3 rfl] at kk
  exact lv_lload C.2.1 C.2.2.1 o1 (lh_at L hl) kk
theorem z_aloadX_n {j : Fin 4} {x : Value} (hd : (mT M)[k]? = some (pc, .aload_n j, 1, t)) {b : Nat} (hx : x = .ref b) (hl : ls[(j : Nat)]? = some (some (vx x))) (kk : Z M uu xw (k + 1) ls (vx x :: st) h e) : Z M uu xw k ls st h e := by
  subst hx
  refine Z.pure (fun a b => avR_c (b _ _ hl) a) ?_ kk
  intro p l e s m args below meth c base D ca ad H locs la Q _ _ C L _ _ _ _ kk
  obtain ⟨o1, -, o3, o4⟩ := okM_at C.1.1 hd
  rw [o4]
  rw [o3 rfl] at kk
  exact lv_aload_n C.2.1 C.2.2.1 o1 rfl (lh_at L hl) kk
theorem lh_set2 {ad : Nat → Nat} {la' : Array Slot} {n i : Nat} {ls : List (Option AV)} {x : Value} {v : AV} (hx : x = mv ad v) (hc : c2 ls i = false)
    (h : lv_has la' n ((i, x) :: ((List.range ls.length).filterMap (fun i => match ls[i]? with
  | some (some v) => some (i, mv ad v)
  | _ => none)).filter (fun q => !(q.1 == i) && (!(q.1 == i + 1) && !(q.1 + 1 == i && q.2.category == 2))))) : LH ad la' n ((ls.set i (some v)).set (i + 1) none) := by
  refine ⟨h.1, h.2.1, fun j w hj => ?_⟩
  by_cases e0 : j = i + 1
  · subst e0
    by_cases hl : i + 1 < (ls.set i (some v)).length
    · rw [List.getElem?_set_self hl] at hj
      cases hj
    · rw [List.getElem?_eq_none (by simp at hl ⊢; omega)] at hj
      cases hj
  rw [List.getElem?_set_ne (fun q => e0 q.symm)] at hj
  by_cases e : j = i
  · subst e
    by_cases hl : j < ls.length
    · rw [List.getElem?_set_self hl] at hj
      cases hj
      have h1 := h.2.2 (j, x) List.mem_cons_self
      rw [hx] at h1
      exact h1
    · rw [List.getElem?_eq_none (by simp; omega)] at hj
      cases hj
  · rw [List.getElem?_set_ne (fun q => e q.symm)] at hj
    have hjl := (List.getElem?_eq_some_iff.mp hj).1
    have h1 : (j, mv ad w) ∈ ((List.range ls.length).filterMap (fun i => match ls[i]? with
  | some (some v) => some (i, mv ad v)
  | _ => none)) := List.mem_filterMap.mpr ⟨j, List.mem_range.mpr hjl, by rw [hj]⟩
    refine h.2.2 (j, mv ad w) (List.mem_cons_of_mem _ (List.mem_filter.mpr ⟨h1, ?_⟩))
    simp only [Bool.and_eq_true, Bool.not_eq_true', beq_eq_false_iff_ne, ne_eq, Bool.and_eq_false_iff]
    refine ⟨e, e0, ?_⟩
    by_cases e2 : j + 1 = i
    · right
      intro h2
      rw [acat_mv] at h2
      subst e2
      unfold c2 at hc
      rw [List.getD_eq_getElem?_getD, Nat.add_sub_cancel, hj] at hc
      simp [h2] at hc
    · left
      exact e2
theorem lsR_set2 {ls : List (Option AV)} {j : Nat} {v : AV} (hv : avR v) (b : ∀ (i : Nat) (v : AV), ls[i]? = some (some v) → avR v) : ∀ (i : Nat) (w : AV), ((ls.set j (some v)).set (j + 1) none)[i]? = some (some w) → avR w := by
  intro i w hi
  by_cases e : i = j + 1
  · subst e
    by_cases hl : j + 1 < (ls.set j (some v)).length
    · rw [List.getElem?_set_self hl] at hi
      cases hi
    · rw [List.getElem?_eq_none (by simp at hl ⊢; omega)] at hi
      cases hi
  · rw [List.getElem?_set_ne (fun q => e q.symm)] at hi
    exact lsR_set hv b i w hi
theorem z_lstore {j : Nat} {x : Int64} (hd : (mT M)[k]? = some (pc, .lstore j, 2, t)) (hc : (decide (j + 1 < mN M) && !(c2 ls j)) = true) (kk : Z M uu xw (k + 1) ((ls.set j (some (vx (.long x)))).set (j + 1) none) st h e) : Z M uu xw k ls (vx (.long x) :: st) h e := by
  simp only [Bool.and_eq_true, decide_eq_true_eq, Bool.not_eq_true'] at hc
  intro a b c d r h' he
  obtain ⟨z1, z2⟩ := kk a b (avR_t c) (lsR_set2 (avR_h c) d) r h' he
  refine ⟨z1, ?_⟩
  intro p l e s m args below meth cc base D ca ad H locs la C L W0 S
  obtain ⟨o1, -, o3, o4⟩ := okM_at C.1.1 hd
  rw [o4]
  refine lv_lstore C.2.1 C.2.2.1 o1 (lh_list L) hc.1 rfl (fun ls' hl => ?_)
  have z3 := z2 p l e s m args below meth cc base D ca ad H locs ls' C (lh_set2 (v := vx (.long x)) rfl hc.2 hl) W0 S
  rw [o3 rfl] at z3
  exact z3
theorem z_lstore_n {j : Fin 4} {x : Int64} (hd : (mT M)[k]? = some (pc, .lstore_n j, 1, t)) (hc : (decide ((j : Nat) + 1 < mN M) && !(c2 ls j)) = true) (kk : Z M uu xw (k + 1) ((ls.set j (some (vx (.long x)))).set ((j : Nat) + 1) none) st h e) : Z M uu xw k ls (vx (.long x) :: st) h e := by
  simp only [Bool.and_eq_true, decide_eq_true_eq, Bool.not_eq_true'] at hc
  intro a b c d r h' he
  obtain ⟨z1, z2⟩ := kk a b (avR_t c) (lsR_set2 (avR_h c) d) r h' he
  refine ⟨z1, ?_⟩
  intro p l e s m args below meth cc base D ca ad H locs la C L W0 S
  obtain ⟨o1, -, o3, o4⟩ := okM_at C.1.1 hd
  rw [o4]
  refine lv_lstore_n C.2.1 C.2.2.1 o1 rfl (lh_list L) hc.1 rfl (fun ls' hl => ?_)
  have z3 := z2 p l e s m args below meth cc base D ca ad H locs ls' C (lh_set2 (v := vx (.long x)) rfl hc.2 hl) W0 S
  rw [o3 rfl] at z3
  exact z3
theorem z_lstoreL {j : Nat} {x : Int64} {K : Int64 → Option (Int × Hp)} (hd : (mT M)[k]? = some (pc, .lstore j, 2, t)) (hc : (decide (j + 1 < mN M) && !(c2 ls j)) = true) (kk : ∀ y, Z M uu xw (k + 1) ((ls.set j (some (vx (.long y)))).set (j + 1) none) st h (K y)) : Z M uu xw k ls (vx (.long x) :: st) h (ll x K) := z_lstore hd hc (kk _)
theorem z_lstore_nL {j : Fin 4} {x : Int64} {K : Int64 → Option (Int × Hp)} (hd : (mT M)[k]? = some (pc, .lstore_n j, 1, t)) (hc : (decide ((j : Nat) + 1 < mN M) && !(c2 ls j)) = true) (kk : ∀ y, Z M uu xw (k + 1) ((ls.set j (some (vx (.long y)))).set ((j : Nat) + 1) none) st h (K y)) : Z M uu xw k ls (vx (.long x) :: st) h (ll x K) := z_lstore_n hd hc (kk _)
theorem z_lconst {n : Fin 2} (hd : (mT M)[k]? = some (pc, .lconst n, 1, t)) (kk : Z M uu xw (k + 1) ls (vx (.long (Int64.ofNat (n : Nat))) :: st) h e) : Z M uu xw k ls st h e := by
  refine Z.pure (fun a b => avR_c (v := vx (.long _)) True.intro a) ?_ kk
  intro p l e s m args below meth c base D ca ad H locs la Q _ _ C L _ _ _ _ kk
  obtain ⟨o1, -, o3, o4⟩ := okM_at C.1.1 hd
  rw [o4]
  rw [o3 rfl] at kk
  exact lv_lconst C.2.1 C.2.2.1 o1 rfl kk
theorem i2l_of {x : Int} (h : iR x) : (Int32.ofInt x).toInt64 = Int64.ofInt x := by
  apply Int64.toInt.inj
  rw [Int32.toInt_toInt64, ofI_T h, Int64.toInt_ofInt_of_le (by have := h.1; omega) (by have := h.2; omega)]
theorem z_i2l {x : Int} (hd : (mT M)[k]? = some (pc, .i2l, 1, t)) (kk : Z M uu xw (k + 1) ls (vx (.long (Int64.ofInt x)) :: st) h e) : Z M uu xw k ls (vi x :: st) h e := by
  refine Z.pure (fun a b => avR_c (v := vx (.long _)) True.intro (avR_t a)) ?_ kk
  intro p l e s m args below meth c base D ca ad H locs la Q a _ C L _ _ _ _ kk
  obtain ⟨o1, -, o3, o4⟩ := okM_at C.1.1 hd
  rw [o4]
  rw [o3 rfl] at kk
  exact lv_i2l C.2.1 C.2.2.1 o1 (i2l_of (avR_h a)) kk
theorem z_ladd {x y : Int64} (hd : (mT M)[k]? = some (pc, .ladd, 1, t)) (kk : Z M uu xw (k + 1) ls (vx (.long (x + y)) :: st) h e) : Z M uu xw k ls (vx (.long y) :: vx (.long x) :: st) h e := by
  refine Z.pure (fun a b => avR_c (v := vx (.long _)) True.intro (avR_t (avR_t a))) ?_ kk
  intro p l e s m args below meth c base D ca ad H locs la Q _ _ C L _ _ _ _ kk
  obtain ⟨o1, -, o3, o4⟩ := okM_at C.1.1 hd
  rw [o4]
  rw [o3 rfl] at kk
  exact lv_ladd C.2.1 C.2.2.1 o1 kk
theorem z_lsub {x y : Int64} (hd : (mT M)[k]? = some (pc, .lsub, 1, t)) (kk : Z M uu xw (k + 1) ls (vx (.long (x - y)) :: st) h e) : Z M uu xw k ls (vx (.long y) :: vx (.long x) :: st) h e := by
  refine Z.pure (fun a b => avR_c (v := vx (.long _)) True.intro (avR_t (avR_t a))) ?_ kk
  intro p l e s m args below meth c base D ca ad H locs la Q _ _ C L _ _ _ _ kk
  obtain ⟨o1, -, o3, o4⟩ := okM_at C.1.1 hd
  rw [o4]
  rw [o3 rfl] at kk
  exact lv_lsub C.2.1 C.2.2.1 o1 kk
theorem z_lmul {x y : Int64} (hd : (mT M)[k]? = some (pc, .lmul, 1, t)) (kk : Z M uu xw (k + 1) ls (vx (.long (x * y)) :: st) h e) : Z M uu xw k ls (vx (.long y) :: vx (.long x) :: st) h e := by
  refine Z.pure (fun a b => avR_c (v := vx (.long _)) True.intro (avR_t (avR_t a))) ?_ kk
  intro p l e s m args below meth c base D ca ad H locs la Q _ _ C L _ _ _ _ kk
  obtain ⟨o1, -, o3, o4⟩ := okM_at C.1.1 hd
  rw [o4]
  rw [o3 rfl] at kk
  exact lv_lmul C.2.1 C.2.2.1 o1 kk
theorem z_lrem {x y : Int64} (hd : (mT M)[k]? = some (pc, .lrem, 1, t)) (kk : Z M uu xw (k + 1) ls (vx (.long (x - x / y * y)) :: st) h e) : Z M uu xw k ls (vx (.long y) :: vx (.long x) :: st) h (if ¬ y = 0 then e else none) := by
  refine Z.guard (P := ¬ y = 0) (fun hn => ?_)
  refine Z.pure (fun a b => avR_c (v := vx (.long _)) True.intro (avR_t (avR_t a))) ?_ kk
  intro p l e s m args below meth c base D ca ad H locs la Q _ _ C L _ _ _ _ kk
  obtain ⟨o1, -, o3, o4⟩ := okM_at C.1.1 hd
  rw [o4]
  rw [o3 rfl] at kk
  exact lv_lrem C.2.1 C.2.2.1 o1 hn kk
theorem z_ldiv {x y : Int64} (hd : (mT M)[k]? = some (pc, .ldiv, 1, t)) (kk : Z M uu xw (k + 1) ls (vx (.long (x / y)) :: st) h e) : Z M uu xw k ls (vx (.long y) :: vx (.long x) :: st) h (if ¬ y = 0 then e else none) := by
  refine Z.guard (P := ¬ y = 0) (fun hn => ?_)
  refine Z.pure (fun a b => avR_c (v := vx (.long _)) True.intro (avR_t (avR_t a))) ?_ kk
  intro p l e s m args below meth c base D ca ad H locs la Q _ _ C L _ _ _ _ kk
  obtain ⟨o1, -, o3, o4⟩ := okM_at C.1.1 hd
  rw [o4]
  rw [o3 rfl] at kk
  exact lv_ldiv C.2.1 C.2.2.1 o1 hn kk
theorem z_lshl {x : Int64} {y : Int} (hd : (mT M)[k]? = some (pc, .lshl, 1, t)) (kk : Z M uu xw (k + 1) ls (vx (.long (x <<< ((Int32.ofInt y).toInt64 &&& 63))) :: st) h e) : Z M uu xw k ls (vi y :: vx (.long x) :: st) h e := by
  refine Z.pure (fun a b => avR_c (v := vx (.long _)) True.intro (avR_t (avR_t a))) ?_ kk
  intro p l e s m args below meth c base D ca ad H locs la Q _ _ C L _ _ _ _ kk
  obtain ⟨o1, -, o3, o4⟩ := okM_at C.1.1 hd
  rw [o4]
  rw [o3 rfl] at kk
  exact lv_lshl C.2.1 C.2.2.1 o1 rfl kk
theorem z_lcmp {x y : Int64} (hd : (mT M)[k]? = some (pc, .lcmp, 1, t)) (kk : Z M uu xw (k + 1) ls (vi (lg_cmp x y).toInt :: st) h e) : Z M uu xw k ls (vx (.long y) :: vx (.long x) :: st) h e := by
  refine Z.pure (fun a b => avR_i (iR_T _) (avR_t (avR_t a))) ?_ kk
  intro p l e s m args below meth c base D ca ad H locs la Q _ _ C L _ _ _ _ kk
  obtain ⟨o1, -, o3, o4⟩ := okM_at C.1.1 hd
  rw [o4]
  rw [o3 rfl] at kk
  refine W.lcmp C.2.1 C.2.2.1 o1 ?_
  rw [← Int32.ofInt_toInt (lg_cmp x y)]
  exact kk
theorem z_iand {x y : Int} (hd : (mT M)[k]? = some (pc, .iand, 1, t)) (kk : Z M uu xw (k + 1) ls (vi (Int32.ofInt x &&& Int32.ofInt y).toInt :: st) h e) : Z M uu xw k ls (vi y :: vi x :: st) h e := by
  refine Z.pure (fun a b => avR_i (iR_T _) (avR_t (avR_t a))) ?_ kk
  intro p l e s m args below meth c base D ca ad H locs la Q _ _ C L _ _ _ _ kk
  obtain ⟨o1, -, o3, o4⟩ := okM_at C.1.1 hd
  rw [o4]
  rw [o3 rfl] at kk
  refine lv_iand C.2.1 C.2.2.1 o1 ?_
  rw [← Int32.ofInt_toInt (Int32.ofInt x &&& Int32.ofInt y)]
  exact kk
theorem z_ishr {x y : Int} (hd : (mT M)[k]? = some (pc, .ishr, 1, t)) (kk : Z M uu xw (k + 1) ls (vi (Int32.ofInt x >>> (Int32.ofInt y &&& 31)).toInt :: st) h e) : Z M uu xw k ls (vi y :: vi x :: st) h e := by
  refine Z.pure (fun a b => avR_i (iR_T _) (avR_t (avR_t a))) ?_ kk
  intro p l e s m args below meth c base D ca ad H locs la Q _ _ C L _ _ _ _ kk
  obtain ⟨o1, -, o3, o4⟩ := okM_at C.1.1 hd
  rw [o4]
  rw [o3 rfl] at kk
  refine lv_ishr C.2.1 C.2.2.1 o1 ?_
  rw [← Int32.ofInt_toInt (Int32.ofInt x >>> (Int32.ofInt y &&& 31))]
  exact kk
theorem z_iremG {x y : Int} (hd : (mT M)[k]? = some (pc, .irem, 1, t)) (kk : Z M uu xw (k + 1) ls (vi (wr (x - Int.tdiv x y * y)) :: st) h e) : Z M uu xw k ls (vi y :: vi x :: st) h (if 0 < y then e else none) := by
  refine Z.guard (P := 0 < y) (fun hy => ?_)
  refine Z.pure (fun a b => avR_i (wr_R _) (avR_t (avR_t a))) ?_ kk
  intro p l e s m args below meth c base D ca ad H locs la Q a _ C L _ _ _ _ kk
  obtain ⟨o1, -, o3, o4⟩ := okM_at C.1.1 hd
  have ry : iR y := avR_h a
  have rx : iR x := avR_h (avR_t a)
  rw [o4]
  rw [o3 rfl] at kk
  refine lv_irem C.2.1 C.2.2.1 o1 (fun z => ?_) ?_
  · rw [← ofI_0, ofI_inj ry iR_0] at z
    omega
  · rw [ofI_div rx ry (by omega), ofI_wr, ← Int32.ofInt_mul, ← Int32.ofInt_sub, ← ofI_wr]
    exact kk
theorem z_astore {j : Nat} {x : Nat} (hd : (mT M)[k]? = some (pc, .astore j, 2, t)) (hc : (decide ((j : Nat) < mN M) && !(c2 ls j)) = true) (kk : Z M uu xw (k + 1) (ls.set j (some (vr x))) st h e) : Z M uu xw k ls (vr x :: st) h e := by
  simp only [Bool.and_eq_true, decide_eq_true_eq, Bool.not_eq_true'] at hc
  refine Z.store (fun a b => ⟨avR_h a, avR_t a⟩) ?_ kk
  intro p l e s m args below meth c base D ca ad H locs la Q C L kk
  obtain ⟨o1, -, o3, o4⟩ := okM_at C.1.1 hd
  rw [o4]
  rw [o3 rfl] at kk
  exact lv_astore C.2.1 C.2.2.1 o1 (lh_list L) hc.1 rfl (fun ls' hl => kk ls' (lh_set rfl hc.2 hl))
/-! the law's own rows -/
theorem wcell_L {ad : Nat → Nat} {ca : Nat → ClassId} {f : Nat → Int} {i n : Nat} (hk : kd i = (20, n)) : wcell ad ca f i = .inl (ca 0, n, .inl (fun k => Int32.ofInt (f k))) := by
  unfold wcell
  rw [hk, if_neg (show ¬ (20 : Nat) = 13 by omega), if_pos (show 10 ≤ (20 : Nat) by omega)]
  show (Sum.inl (ca ((20 - 10) % 10), n, Sum.inl fun k => Int32.ofInt (f k)) : va_E) = _
  rw [show (20 - 10) % 10 = 0 by decide]
theorem kd20 {i n : Nat} (hk : kd i = (20, n)) : i < 84 ∧ n < 2000 := by
  have key : ∀ i, i < 97 → (kd i).1 = 20 → i < 84 ∧ (kd i).2 < 2000 := by decide +kernel
  rcases Nat.lt_or_ge i 97 with q | q
  · have := key i q (by rw [hk])
    rw [hk] at this
    exact this
  · have : kd i = (99, 0) := by
      unfold kd
      rw [List.getD_eq_getElem?_getD, List.getElem?_eq_none (by exact q)]
      rfl
    rw [this] at hk
    cases hk
theorem z_ialoadW {i n : Nat} {x : Int} (hd : (mT M)[k]? = some (pc, .iaload, 1, t)) (hk : kd i = (20, n)) (kk : Z M uu xw (k + 1) ls (vi (h i x.toNat) :: st) h e) (hx : (decide (i < 76 + xw) && !(mF M == 0)) = true := by rfl) : Z M uu xw k ls (vi x :: vr i :: st) h (if inb x n then e else none) := by
  simp only [Bool.and_eq_true, decide_eq_true_eq, Bool.not_eq_true', beq_eq_false_iff_ne] at hx
  refine Z.guard (P := inb x n) (fun hin => ?_)
  refine Z.read (v := vi x) (fun _ b c => avR_i (b _ _) (avR_t (avR_t c))) ?_ kk
  intro p l e s m args below meth c base D ca ad H locs la Q rs C L W0 S _ _ kk
  obtain ⟨o1, -, o3, o4⟩ := okM_at C.1.1 hd
  rw [o4]
  rw [o3 rfl] at kk
  have rx : iR x := avR_h rs
  have hg := wsN_get (N := nW ad) (ad := ad) (ca := ca) (h := h) (i := i) (by rw [C.1.2.1 hx.2]; exact hx.1)
  rw [wcell_L hk] at hg
  refine va_iald C.2.1 C.2.2.1 C.2.2.2.2.2.2.2.2.1 W0.1 i 0 hg rfl (ofI_in rx hin) o1 ?_
  rw [ofI_cl rx]
  exact kk
theorem z_iastoreW {i n : Nat} {x y : Int} (hd : (mT M)[k]? = some (pc, .iastore, 1, t)) (hk : kd i = (20, n)) (kk : Z M uu xw (k + 1) ls st (hup h i y.toNat x) e) (hx : (decide (i < 76 + xw) && !(mF M == 0)) = true := by rfl) : Z M uu xw k ls (vi x :: vi y :: vr i :: st) h (if inb y n then e else none) := by
  simp only [Bool.and_eq_true, decide_eq_true_eq, Bool.not_eq_true', beq_eq_false_iff_ne] at hx
  refine Z.guard (P := inb y n) (fun hin => ?_)
  have hi := (kd20 hk).1
  refine Z.write (ev := fun ad ca => .inl (ca 0, n, .inl (upd (fun k => Int32.ofInt (h i k)) y.toNat (Int32.ofInt x)))) hi (by rw [hk]; rfl) (fun q => by (rw [hk] at q; cases q)) (fun a => avR_h a) (fun a => avR_t (avR_t (avR_t a))) (fun ad ca => ?_) ?_ kk
  · rw [wcell_L hk, hup_s]
    congr 4
    funext q
    show (if q = y.toNat then Int32.ofInt x else Int32.ofInt (h i q)) = Int32.ofInt (if q = y.toNat then x else h i q)
    split <;> rfl
  intro p l e s m args below meth c base D ca ad H locs la Q rs C L W0 S _ _ kk
  obtain ⟨o1, -, o3, o4⟩ := okM_at C.1.1 hd
  rw [o4]
  rw [o3 rfl] at kk
  have ry : iR y := avR_h (avR_t rs)
  have hg := wsN_get (N := nW ad) (ad := ad) (ca := ca) (h := h) (i := i) (by rw [C.1.2.1 hx.2]; exact hx.1)
  rw [wcell_L hk] at hg
  refine va_iast C.2.1 C.2.2.1 C.2.2.2.2.2.2.2.2.1 W0.1 W0.2 S i 0 hg rfl (ofI_in ry hin) o1 ?_
  rw [ofI_cl ry]
  exact kk
theorem z_iastoreWL {i n : Nat} {x y : Int} {K : Hp → Option (Int × Hp)} (hk : kd i = (20, n)) (hd : (mT M)[k]? = some (pc, .iastore, 1, t)) (kk : ∀ h1, Z M uu xw (k + 1) ls st h1 (K h1)) (hx : (decide (i < 76 + xw) && !(mF M == 0)) = true := by rfl) : Z M uu xw k ls (vi x :: vi y :: vr i :: st) h (if inb y n then lt (hup h i y.toNat x) K else none) := z_iastoreW hd hk (kk _) hx
/-! a new row of the law -/
def hzr (h : Hp) (i : Nat) : Hp := fun a b => if a = i then 0 else h a b
def adW (ad : Nat → Nat) (i q : Nat) : Nat → Nat := fun j => if j = i then q else if j = 200 then ad 200 + 1 else ad j
theorem adW_o {ad : Nat → Nat} {i q j : Nat} (h1 : j ≠ i) (h2 : j ≠ 200) : adW ad i q j = ad j := by
  unfold adW
  rw [if_neg h1, if_neg h2]
theorem off_76 : ∀ i, i < 76 → ∀ k, k < 10 → (match off (kd i).1 k with | some o => decide (i + o < 76) | none => true) = true := by decide +kernel
theorem fvl_o {c k : Nat} {ad ad' : Nat → Nat} {z : Int} (h : off c k = none ∨ ∃ i : Nat, z = (i : Int) ∧ ad' i = ad i) : fvl c k ad' z = fvl c k ad z := by
  unfold fvl
  rcases h with h | ⟨i, rfl, h⟩
  · rw [h]
  · cases off c k with
    | none => rfl
    | some o =>
      show va_rf (rfo ad' _) = va_rf (rfo ad _)
      rw [rfo_s, rfo_s, h]
theorem vw_10 (c : Nat) : vw_N c ≤ 10 := by
  unfold vw_N
  match c with
  | 0 => decide
  | 1 => decide
  | 2 => decide
  | 3 => decide
  | 4 => decide
  | c + 5 => rw [List.getD_eq_getElem?_getD, List.getElem?_eq_none (by simp)]; decide
theorem wcell_ad {ad ad' : Nat → Nat} {ca : Nat → ClassId} {h : Hp} {i : Nat} (hL : LI h) (hi : i < 76 ∨ (kd i).1 = 20) (hq : ∀ j, j < 76 → ad' j = ad j) : wcell ad' ca (h i) i = wcell ad ca (h i) i := by
  unfold wcell
  by_cases c1 : (kd i).1 = 13
  · rw [if_pos c1, if_pos c1]
    congr 7
    funext k
    unfold rfo
    have := hL.2.2 i k c1
    by_cases c2 : h i k < 0
    · rw [if_pos c2, if_pos c2]
    · rw [if_neg c2, if_neg c2, hq _ (by omega)]
  · rw [if_neg c1, if_neg c1]
    by_cases c2 : 10 ≤ (kd i).1
    · rw [if_pos c2, if_pos c2]
    · rw [if_neg c2, if_neg c2]
      have i76 : i < 76 := by
        rcases hi with q | q
        · exact q
        · omega
      congr 2
      unfold ofl
      apply List.map_congr_left
      intro k hk
      have k10 : k < 10 := Nat.lt_of_lt_of_le (List.mem_range.mp hk) (vw_10 _)
      apply fvl_o
      have z := off_76 i i76 k k10
      cases ho : off (kd i).1 k with
      | none => exact Or.inl rfl
      | some o =>
        rw [ho] at z
        exact Or.inr ⟨i + o, hL.1 i k o ho, hq _ (of_decide_eq_true z)⟩
theorem wsN_ad {N : Nat} {ad ad' : Nat → Nat} {ca : Nat → ClassId} {h : Hp} (hL : LI h) (hN : N ≤ 78) (hq : ∀ j, j < N → ad' j = ad j) (hq2 : ∀ j, j < 76 → ad' j = ad j) : wsN N ad' ca h = wsN N ad ca h := by
  unfold wsN
  apply List.map_congr_left
  intro i hi
  have hi := List.mem_range.mp hi
  have c : i < 76 ∨ (kd i).1 = 20 := by
    rcases Nat.lt_or_ge i 76 with q | q
    · exact Or.inl q
    · rcases (show i = 76 ∨ i = 77 by omega) with rfl | rfl
      · exact Or.inr rfl
      · exact Or.inr rfl
  rw [hq i hi, wcell_ad hL c hq2]
theorem wsN_pushW {N : Nat} {ad : Nat → Nat} {ca : Nat → ClassId} {h : Hp} {q : Nat} {e : va_E} (hq : q = ad N) (he : e = wcell ad ca (h N) N) : wsN N ad ca h ++ [(q, e)] = wsN (N + 1) ad ca h := by
  subst hq
  subst he
  unfold wsN
  rw [List.range_succ, List.map_append]
  rfl
theorem li_hzr {h : Hp} {i : Nat} (hL : LI h) (hk : (kd i).1 = 20) (hi : i < 84) : LI (hzr h i) := by
  refine ⟨fun a b o q => ?_, fun a b q1 q2 => ?_, fun a b q => ?_⟩
  · unfold hzr
    rw [if_neg]
    · exact hL.1 a b o q
    · rintro rfl
      rw [hk] at q
      cases q
  · unfold hzr
    rw [if_neg (by omega)]
    exact hL.2.1 a b q1 q2
  · unfold hzr
    split
    · omega
    · exact hL.2.2 a b q
def refOk (i : Nat) (v : AV) : Bool := match v with
  | .inr (.inl j) => !(j == i) && !(j == 200)
  | _ => true
def lsOk (i : Nat) (ls : List (Option AV)) : Bool := ls.all (fun v => match v with | some v => refOk i v | none => true)
theorem mv_adW {ad : Nat → Nat} {i q : Nat} {v : AV} (h : refOk i v = true) : mv (adW ad i q) v = mv ad v := by
  rcases v with z | j | v
  · rfl
  · unfold refOk at h
    simp only [Bool.and_eq_true, Bool.not_eq_true', beq_eq_false_iff_ne] at h
    show Value.ref _ = Value.ref _
    rw [adW_o h.1 h.2]
  · rfl
theorem WD_sub {base : Nat} {D : va_G} {ca : Nat → ClassId} {ad ad' : Nat → Nat} {h : Hp} {H : Heap} {N : Nat} (hL : LI h) (hN : N ≤ 78) (e1 : nW ad = N) (e2 : nW ad' = N + 1) (hq : ∀ j, j < N → ad' j = ad j) (hN2 : 76 ≤ N) (w : WD base D ca ad' h H) : WD base D ca ad h H := by
  have e : wsN (N + 1) ad' ca h = wsN N ad ca h ++ [(ad' N, wcell ad' ca (h N) N)] := by
    rw [← wsN_ad hL hN hq (fun j hj => hq j (by omega))]
    exact (wsN_pushW rfl rfl).symm
  obtain ⟨w1, w2⟩ := w
  rw [e2, e] at w1 w2
  have g : ∀ (k : Nat) (x : Nat × va_E), (wsN N ad ca h)[k]? = some x → (wsN N ad ca h ++ [(ad' N, wcell ad' ca (h N) N)])[k]? = some x := fun k x hx => by
    rw [List.getElem?_append_left (List.getElem?_eq_some_iff.mp hx).1]
    exact hx
  unfold WD
  rw [e1]
  exact ⟨fun k x hx => w1 k x (g k x hx), ⟨fun i j p q hp hq hne => w2.1 i j p q (g i p hp) (g j q hq) hne, fun k x hx => w2.2 k x (g k x hx)⟩⟩
theorem QcO_sub {base : Nat} {D : va_G} {ca : Nat → ClassId} {ad ad' : Nat → Nat} {r : Int} {h' : Hp} {a : Array Value} {s : State} {o : Outcome} {t : State} (w : ∀ H, WD base D ca ad' h' H → WD base D ca ad h' H) (q : QcO M base D ca ad' r h' a s o t) : QcO M base D ca ad r h' a s o t := by
  cases hr : mR M with
  | none =>
    rw [QcO_v hr] at q ⊢
    obtain ⟨⟨u, q1, q2, q3⟩, q4⟩ := q
    exact ⟨⟨u, q1, q2, w _ q3⟩, q4⟩
  | some ty =>
    cases hl : isL ty with
    | false =>
      rw [QcO_i hr hl] at q ⊢
      obtain ⟨⟨x, u, q1, q2, q3⟩, q4⟩ := q
      exact ⟨⟨x, u, q1, q2, w _ q3⟩, q4⟩
    | true =>
      have : ty = .long := by
        cases ty <;> first | rfl | cases hl
      subst this
      rw [QcO_l hr] at q ⊢
      obtain ⟨⟨x, u, q1, q2, q3⟩, q4⟩ := q
      exact ⟨⟨x, u, q1, q2, w _ q3⟩, q4⟩
theorem PQ_sub {below : List Frame} {base : Nat} {D : va_G} {ca : Nat → ClassId} {ad ad' : Nat → Nat} {r : Int} {h' : Hp} {a : Array Value} {s t : State} (w : ∀ H, WD base D ca ad' h' H → WD base D ca ad h' H) (q : PQ M below base D ca ad' r h' a s t) : PQ M below base D ca ad r h' a s t := by
  unfold PQ at q ⊢
  split
  · rename_i c
    rw [if_pos c] at q
    exact q
  · rename_i c
    rw [if_neg c] at q
    obtain ⟨o, q1, q2, q3, q4⟩ := q
    exact ⟨o, q1, q2, QcO_sub w q3, q4⟩
theorem W.post {p : Program} {l : Launch} {e : Env} {R : Room} {s : State} {m : MethodId} {args : Array Value} {below : List Frame} {meth : Method} {c : Code} {H : Heap} {locs : List Loc} {cells slots : Nat} {Q Q' : State → Prop} {g : JFrame} (hq : ∀ t, Q' t → Q t) (k : W p l e R s m args below meth c H locs cells slots Q' g) : W p l e R s m args below meth c H locs cells slots Q g := by
  intro T hT X
  obtain ⟨t, a, b⟩ := k T hT X
  exact ⟨t, a, hq t b⟩
theorem z_newI {i : Nat} {K : Hp → Option (Int × Hp)} (hk : kd i = (20, 12)) (hx : i = 76 + xw) (harr : Cond.arrayClass (newarray.typeOf .int) ∈ lwT) (hd : (mT M)[k]? = some (pc, .newarray .int, 2, t)) (kk : ∀ h1, Z M (uu + 1) (xw + 1) (k + 1) ls (vr i :: st) h1 (K h1))
    (hls : (lsOk i ls && st.all (refOk i)) = true := by rfl) (hu : ((uu + 1).ble ((rmM M).cells) && (12 * uu + 12).ble ((rmM M).slots) && (decide (xw < 2)) && !(mF M == 0) && !(mF M == 2)) = true := by rfl) : Z M uu xw k ls (vi 12 :: st) h (lt (hzr h i) K) := by
  subst hx
  simp only [Bool.and_eq_true, decide_eq_true_eq, Nat.ble_eq, Bool.not_eq_true', beq_eq_false_iff_ne] at hls hu
  obtain ⟨⟨⟨⟨u1, u2⟩, u3⟩, u4⟩, u5⟩ := hu
  obtain ⟨s1, s2⟩ := hls
  intro a b c d r h' he
  have hL2 : LI (hzr h (76 + xw)) := li_hzr a (by rw [hk]) (by omega)
  have hR2 : hR (hzr h (76 + xw)) := fun x y => by
    unfold hzr
    split
    · exact iR_0
    · exact b x y
  obtain ⟨z1, z2⟩ := kk (hzr h (76 + xw)) hL2 hR2 (avR_c (v := vr _) True.intro (avR_t c)) d r h' he
  refine ⟨z1, ?_⟩
  intro p l e s m args below meth cc base D ca ad H locs la C L W0 S
  obtain ⟨o1, -, o3, o4⟩ := okM_at C.1.1 hd
  rw [o4]
  have hts := C.2.2.2.2.2.2.2.1
  have X := C.2.2.2.2.2.2.2.2
  have eW : nW ad = 76 + xw := C.1.2.1 u4
  have rn : iR 12 := ⟨by omega, by omega⟩
  show W p l e (rmM M) s m args below meth cc H locs uu (12 * uu) _ (F0 m pc la (.int (Int32.ofInt 12) :: st.map (mv ad)))
  refine va_newaK (N := 12) C.2.1 C.2.2.1 (hts _ harr) rfl o1 rfl (fun q => by rw [← ofI_0, ofI_lt rn iR_0] at q; omega) (by rw [ofI_cl rn]; rfl) (by decide) u1 u2 rfl fun H1 cA e1 y1 q1 hAr hNm => ?_
  have eA : cA = ca 0 := Option.some.inj (hNm.symm.trans (X.1.2 0 _ (show (tysOf ca)[0]? = some (ca 0, .int) from rfl)).2)
  have hkp : ∀ (k : Nat) (x : Nat × va_E), (wsN (nW ad) ad ca h)[k]? = some x → H1[x.1]? = H[x.1]? := fun k x hx => q1 x.1 ((W0.1 k x hx).lt)
  have bH : base ≤ H.size := by
    have g := wsN_g7 (ad := ad) (ca := ca) (h := h) (i := 0) (by omega)
    have g1 : base ≤ ad 0 := W0.2.2 0 _ g
    have g2 : ad 0 < H.size := (W0.1 0 _ g).lt
    omega
  have w200 : adW ad (76 + xw) H.size 200 = ad 200 + 1 := by
    unfold adW
    rw [if_neg (by omega), if_pos rfl]
  have eW2 : nW (adW ad (76 + xw) H.size) = 76 + xw + 1 := by
    unfold nW at eW ⊢
    rw [w200]
    omega
  have eq0 : ∀ j, j < 76 + xw → adW ad (76 + xw) H.size j = ad j := fun j hj => adW_o (by omega) (by omega)
  have eN : H.size = adW ad (76 + xw) H.size (76 + xw) := by
    unfold adW
    rw [if_pos rfl]
  have ews : wsN (76 + xw) (adW ad (76 + xw) H.size) ca (hzr h (76 + xw)) = wsN (76 + xw) ad ca h := by
    rw [wsN_ad hL2 (by omega) eq0 (fun j hj => eq0 j (by omega))]
    unfold wsN
    apply List.map_congr_left
    intro i hi
    have hi := List.mem_range.mp hi
    have : hzr h (76 + xw) i = h i := by
      funext y
      unfold hzr
      rw [if_neg (by omega)]
    rw [this]
  have ew := wcell_L (ad := adW ad (76 + xw) H.size) (ca := ca) (f := hzr h (76 + xw) (76 + xw)) hk
  rw [eW] at hkp
  have hP0 := W0.1
  have hD0 := W0.2
  rw [eW] at hP0 hD0
  have P1 : va_P D vwCl (wsN (76 + xw + 1) (adW ad (76 + xw) H.size) ca (hzr h (76 + xw))) H1 := by
    rw [← wsN_pushW eN ew.symm, ews]
    refine (hP0.kept hkp).app (fun k x hx => ?_)
    have hz : k < 1 := (List.getElem?_eq_some_iff.mp hx).1
    rw [show k = 0 by omega] at hx
    cases hx
    show H1[H.size]? = some (vp_cell _ _)
    rw [e1, vp_cell_i, eA]
    congr 2
    funext j
    show defaultValue .int = _
    unfold hzr
    rw [if_pos rfl]
    rfl
  have D1 : va_D (fun q => base ≤ q) (wsN (76 + xw + 1) (adW ad (76 + xw) H.size) ca (hzr h (76 + xw))) := by
    rw [← wsN_pushW eN ew.symm, ews]
    exact hD0.push hP0 rfl bH
  have S1 : va_S (fun q => base ≤ q) s.heap H1 locs := ⟨Nat.le_trans S.1 (by omega), fun x y1 y2 => (q1 x (Nat.lt_of_lt_of_le y1 S.1)).trans (S.2.1 x y1 y2), S.2.2⟩
  have X2 : CX base D ca (adW ad (76 + xw) H.size) s := by
    refine ⟨X.1, X.2.1, fun i i1 i2 => ?_, True.intro⟩
    rw [adW_o (by omega) (by omega)]
    exact X.2.2.1 i i1 i2
  have C2 : ZC M (xw + 1) p s m args meth cc base D ca (adW ad (76 + xw) H.size) := ⟨⟨C.1.1, fun _ => by rw [eW2, Nat.add_assoc], fun q => absurd q u5⟩, C.2.1, C.2.2.1, C.2.2.2.1, C.2.2.2.2.1, C.2.2.2.2.2.1, C.2.2.2.2.2.2.1, C.2.2.2.2.2.2.2.1, X2⟩
  have L2 : LH (adW ad (76 + xw) H.size) la (mN M) ls := ⟨L.1, L.2.1, fun i v hi => by
    have z := List.all_eq_true.mp s1 (some v) (List.mem_of_getElem? hi)
    rw [mv_adW z]
    exact L.2.2 i v hi⟩
  have est : st.map (mv (adW ad (76 + xw) H.size)) = st.map (mv ad) := List.map_congr_left (fun v hv => mv_adW (List.all_eq_true.mp s2 v hv))
  have z := z2 p l e s m args below meth cc base D ca (adW ad (76 + xw) H.size) H1 locs la C2 L2 ⟨by rw [eW2]; exact P1, by rw [eW2]; exact D1⟩ S1
  rw [o3 rfl, List.map_cons, est, show mv (adW ad (76 + xw) H.size) (vr (76 + xw)) = .ref (adW ad (76 + xw) H.size (76 + xw)) from rfl, ← eN] at z
  exact W.post (fun t q => PQ_sub (fun H2 w => WD_sub (N := 76 + xw) z1.2.1 (by omega) eW eW2 eq0 (by omega) w) q) z
end Steps6
