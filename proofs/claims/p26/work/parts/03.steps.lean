/-! the judgement Z, instruction by instruction: what moves no cell -/
section Steps1
theorem lh_at {ad : Nat → Nat} {la : Array Slot} {n : Nat} {ls : List (Option AV)} (h : LH ad la n ls) {i : Nat} {v : AV} (hi : ls[i]? = some (some v)) : la[i]? = some (.val (mv ad v)) := h.2.2 i v hi
/-- is the value ahead of a place one of two slots -/
def c2 (ls : List (Option AV)) (i : Nat) : Bool := match ls.getD (i - 1) none with
  | some v => decide (acat v = 2)
  | none => false
theorem lh_list {ad : Nat → Nat} {la : Array Slot} {n : Nat} {ls : List (Option AV)} (h : LH ad la n ls) : lv_has la n ((List.range ls.length).filterMap (fun i => match ls[i]? with
  | some (some v) => some (i, mv ad v)
  | _ => none)) := by
  refine ⟨h.1, h.2.1, fun q hq => ?_⟩
  obtain ⟨i, hi, hv⟩ := List.mem_filterMap.mp hq
  split at hv
  · rename_i v hv2
    cases hv
    exact h.2.2 i v hv2
  · cases hv
theorem lh_set {ad : Nat → Nat} {la' : Array Slot} {n i : Nat} {ls : List (Option AV)} {x : Value} {v : AV} (hx : x = mv ad v) (hc : c2 ls i = false)
    (h : lv_has la' n ((i, x) :: ((List.range ls.length).filterMap (fun i => match ls[i]? with
  | some (some v) => some (i, mv ad v)
  | _ => none)).filter (fun q => !(q.1 == i) && !(q.1 + 1 == i && q.2.category == 2)))) : LH ad la' n (ls.set i (some v)) := by
  refine ⟨h.1, h.2.1, fun j w hj => ?_⟩
  by_cases e : j = i
  · subst e
    by_cases hl : j < ls.length
    · rw [List.getElem?_set_self hl] at hj
      cases hj
      have h1 := h.2.2 (j, x) List.mem_cons_self
      rw [hx] at h1
      exact h1
    · rw [List.getElem?_eq_none (by simp; omega)] at hj
      cases hj
  · rw [List.getElem?_set_ne (fun q => e q.symm)] at hj
    have hjl := (List.getElem?_eq_some_iff.mp hj).1
    have h1 : (j, mv ad w) ∈ ((List.range ls.length).filterMap (fun i => match ls[i]? with
  | some (some v) => some (i, mv ad v)
  | _ => none)) := List.mem_filterMap.mpr ⟨j, List.mem_range.mpr hjl, by rw [hj]⟩
    refine h.2.2 (j, mv ad w) (List.mem_cons_of_mem _ (List.mem_filter.mpr ⟨h1, ?_⟩))
    simp only [Bool.and_eq_true, Bool.not_eq_true', beq_eq_false_iff_ne, ne_eq, Bool.and_eq_false_iff]
    refine ⟨e, ?_⟩
    by_cases e2 : j + 1 = i
    · right
      intro h2
      rw [acat_mv] at h2
      subst e2
      unfold c2 at hc
      rw [List.getD_eq_getElem?_getD, Nat.add_sub_cancel, hj] at hc
      simp [h2] at hc
    · left
      exact e2
/-- a step that moves no cell and no local -/
theorem Z.pure {M : MI} {uu xw k k2 : Nat} {ls : List (Option AV)} {st st2 : List AV} {h : Hp} {e : Option (Int × Hp)} (hr : (∀ v ∈ st, avR v) → (∀ (i : Nat) (v : AV), ls[i]? = some (some v) → avR v) → ∀ v ∈ st2, avR v)
    (hw : ∀ (p : Program) (l : Launch) (e : Env) (s : State) (m : MethodId) (args : Array Value) (below : List Frame) (meth : Method) (c : Code) (base : Nat) (D : va_G) (ca : Nat → ClassId) (ad : Nat → Nat) (H : Heap) (locs : List Loc) (la : Array Slot) (Q : State → Prop), (∀ v ∈ st, avR v) → (∀ (i : Nat) (v : AV), ls[i]? = some (some v) → avR v) →
      ZC M xw p s m args meth c base D ca ad → LH ad la (mN M) ls → WD base D ca ad h H → va_S (fun q => base ≤ q) s.heap H locs → LI h → hR h →
      W p l e (rmM M) s m args below meth c H locs uu (12 * uu) Q (F0 m (pcO M k2) la (st2.map (mv ad))) → W p l e (rmM M) s m args below meth c H locs uu (12 * uu) Q (F0 m (pcO M k) la (st.map (mv ad))))
    (kk : Z M uu xw k2 ls st2 h e) : Z M uu xw k ls st h e := by
  intro a b c d r h' he
  obtain ⟨z1, z2⟩ := kk a b (hr c d) d r h' he
  refine ⟨z1, ?_⟩
  intro p l e s m args below meth cc base D ca ad H locs la C L W0 S
  exact hw p l e s m args below meth cc base D ca ad H locs la _ c d C L W0 S a b (z2 p l e s m args below meth cc base D ca ad H locs la C L W0 S)
theorem avR_c {v : AV} {st : List AV} (h1 : avR v) (h2 : ∀ w ∈ st, avR w) : ∀ w ∈ v :: st, avR w := List.forall_mem_cons.mpr ⟨h1, h2⟩
theorem avR_i {x : Int} {st : List AV} (h1 : iR x) (h2 : ∀ w ∈ st, avR w) : ∀ w ∈ vi x :: st, avR w := avR_c (v := vi x) h1 h2
theorem avR_t {v : AV} {st : List AV} (h : ∀ w ∈ v :: st, avR w) : ∀ w ∈ st, avR w := (List.forall_mem_cons.mp h).2
theorem avR_h {v : AV} {st : List AV} (h : ∀ w ∈ v :: st, avR w) : avR v := (List.forall_mem_cons.mp h).1
variable {M : MI} {uu xw k pc t : Nat} {ls : List (Option AV)} {st : List AV} {h : Hp} {e e1 e2 : Option (Int × Hp)}
theorem z_iload_n {j : Fin 4} {x : Int} (hd : (mT M)[k]? = some (pc, .iload_n j, 1, t)) (hl : ls[(j : Nat)]? = some (some (vi x))) (kk : Z M uu xw (k + 1) ls (vi x :: st) h e) : Z M uu xw k ls st h e := by
  refine Z.pure (fun a b => avR_c (b _ _ hl) a) ?_ kk
  intro p l e s m args below meth c base D ca ad H locs la Q _ _ C L _ _ _ _ kk
  obtain ⟨o1, -, o3, o4⟩ := okM_at C.1.1 hd
  rw [o4]
  rw [o3 rfl] at kk
  exact lv_iload_n C.2.1 C.2.2.1 o1 rfl (lh_at L hl) kk
theorem z_iload {j : Nat} {x : Int} (hd : (mT M)[k]? = some (pc, .iload j, 2, t)) (hl : ls[j]? = some (some (vi x))) (kk : Z M uu xw (k + 1) ls (vi x :: st) h e) : Z M uu xw k ls st h e := by
  refine Z.pure (fun a b => avR_c (b _ _ hl) a) ?_ kk
  intro p l e s m args below meth c base D ca ad H locs la Q _ _ C L _ _ _ _ kk
  obtain ⟨o1, -, o3, o4⟩ := okM_at C.1.1 hd
  rw [o4]
  rw [o3 rfl] at kk
  exact lv_iload C.2.1 C.2.2.1 o1 (lh_at L hl) kk
theorem z_aload_n {j : Fin 4} {x : Nat} (hd : (mT M)[k]? = some (pc, .aload_n j, 1, t)) (hl : ls[(j : Nat)]? = some (some (vr x))) (kk : Z M uu xw (k + 1) ls (vr x :: st) h e) : Z M uu xw k ls st h e := by
  refine Z.pure (fun a b => avR_c (b _ _ hl) a) ?_ kk
  intro p l e s m args below meth c base D ca ad H locs la Q _ _ C L _ _ _ _ kk
  obtain ⟨o1, -, o3, o4⟩ := okM_at C.1.1 hd
  rw [o4]
  rw [o3 rfl] at kk
  exact lv_aload_n C.2.1 C.2.2.1 o1 rfl (lh_at L hl) kk
theorem z_aload {j : Nat} {x : Nat} (hd : (mT M)[k]? = some (pc, .aload j, 2, t)) (hl : ls[j]? = some (some (vr x))) (kk : Z M uu xw (k + 1) ls (vr x :: st) h e) : Z M uu xw k ls st h e := by
  refine Z.pure (fun a b => avR_c (b _ _ hl) a) ?_ kk
  intro p l e s m args below meth c base D ca ad H locs la Q _ _ C L _ _ _ _ kk
  obtain ⟨o1, -, o3, o4⟩ := okM_at C.1.1 hd
  rw [o4]
  rw [o3 rfl] at kk
  exact lv_aload C.2.1 C.2.2.1 o1 (lh_at L hl) kk
theorem z_iconst {x : Int} (hd : (mT M)[k]? = some (pc, .iconst x, 1, t)) (hx : (decide (-128 ≤ x) && decide (x < 128)) = true) (kk : Z M uu xw (k + 1) ls (vi x :: st) h e) : Z M uu xw k ls st h e := by
  simp only [Bool.and_eq_true, decide_eq_true_eq] at hx
  refine Z.pure (fun a b => avR_i (show iR x from ⟨by omega, by omega⟩) a) ?_ kk
  intro p l e s m args below meth c base D ca ad H locs la Q _ _ C L _ _ _ _ kk
  obtain ⟨o1, -, o3, o4⟩ := okM_at C.1.1 hd
  rw [o4]
  rw [o3 rfl] at kk
  exact lv_iconst C.2.1 C.2.2.1 o1 rfl kk
theorem i8_of {x : Int} (h1 : -128 ≤ x) (h2 : x < 128) : (Int8.ofInt x).toInt32 = Int32.ofInt x := by
  apply Int32.toInt.inj
  rw [Int8.toInt_toInt32, Int8.toInt_ofInt_of_le (by omega) (by omega), Int32.toInt_ofInt_of_le (by omega) (by omega)]
theorem i16_of {x : Int} (h1 : -32768 ≤ x) (h2 : x < 32768) : (Int16.ofInt x).toInt32 = Int32.ofInt x := by
  apply Int32.toInt.inj
  rw [Int16.toInt_toInt32, Int16.toInt_ofInt_of_le (by omega) (by omega), Int32.toInt_ofInt_of_le (by omega) (by omega)]
theorem z_bipush {x : Int} (hd : (mT M)[k]? = some (pc, .bipush x, 2, t)) (hx : (decide (-128 ≤ x) && decide (x < 128)) = true) (kk : Z M uu xw (k + 1) ls (vi x :: st) h e) : Z M uu xw k ls st h e := by
  simp only [Bool.and_eq_true, decide_eq_true_eq] at hx
  refine Z.pure (fun a b => avR_i (show iR x from ⟨by omega, by omega⟩) a) ?_ kk
  intro p l e s m args below meth c base D ca ad H locs la Q _ _ C L _ _ _ _ kk
  obtain ⟨o1, -, o3, o4⟩ := okM_at C.1.1 hd
  rw [o4]
  rw [o3 rfl] at kk
  exact lv_bipush C.2.1 C.2.2.1 o1 (i8_of hx.1 hx.2) kk
theorem z_sipush {x : Int} (hd : (mT M)[k]? = some (pc, .sipush x, 3, t)) (hx : (decide (-32768 ≤ x) && decide (x < 32768)) = true) (kk : Z M uu xw (k + 1) ls (vi x :: st) h e) : Z M uu xw k ls st h e := by
  simp only [Bool.and_eq_true, decide_eq_true_eq] at hx
  refine Z.pure (fun a b => avR_i (show iR x from ⟨by omega, by omega⟩) a) ?_ kk
  intro p l e s m args below meth c base D ca ad H locs la Q _ _ C L _ _ _ _ kk
  obtain ⟨o1, -, o3, o4⟩ := okM_at C.1.1 hd
  rw [o4]
  rw [o3 rfl] at kk
  exact lv_sipush C.2.1 C.2.2.1 o1 (i16_of hx.1 hx.2) kk
theorem z_ldc {x : Int} {ix : Nat} (hd : (mT M)[k]? = some (pc, .ldc ix, 2, t)) (hc : Cond.constant (mO M) ix (Int32.ofInt x) ∈ lwT) (hx : (decide (-2147483648 ≤ x) && decide (x < 2147483648)) = true) (kk : Z M uu xw (k + 1) ls (vi x :: st) h e) : Z M uu xw k ls st h e := by
  simp only [Bool.and_eq_true, decide_eq_true_eq] at hx
  refine Z.pure (fun a b => avR_i (show iR x from hx) a) ?_ kk
  intro p l e s m args below meth c base D ca ad H locs la Q _ _ C L _ _ _ _ kk
  obtain ⟨o1, -, o3, o4⟩ := okM_at C.1.1 hd
  rw [o4]
  rw [o3 rfl] at kk
  exact lv_ldc C.2.1 C.2.2.1 C.2.2.2.2.2.2.1 (C.2.2.2.2.2.2.2.1 _ hc) o1 kk
theorem z_iadd {x y : Int} (hd : (mT M)[k]? = some (pc, .iadd, 1, t)) (kk : Z M uu xw (k + 1) ls (vi (wr (x + y)) :: st) h e) : Z M uu xw k ls (vi y :: vi x :: st) h e := by
  refine Z.pure (fun a b => avR_i (wr_R _) (avR_t (avR_t a))) ?_ kk
  intro p l e s m args below meth c base D ca ad H locs la Q _ _ C L _ _ _ _ kk
  obtain ⟨o1, -, o3, o4⟩ := okM_at C.1.1 hd
  rw [o4]
  rw [o3 rfl] at kk
  refine lv_iadd C.2.1 C.2.2.1 o1 ?_
  rw [← Int32.ofInt_add, ← ofI_wr]
  exact kk
theorem z_isub {x y : Int} (hd : (mT M)[k]? = some (pc, .isub, 1, t)) (kk : Z M uu xw (k + 1) ls (vi (wr (x - y)) :: st) h e) : Z M uu xw k ls (vi y :: vi x :: st) h e := by
  refine Z.pure (fun a b => avR_i (wr_R _) (avR_t (avR_t a))) ?_ kk
  intro p l e s m args below meth c base D ca ad H locs la Q _ _ C L _ _ _ _ kk
  obtain ⟨o1, -, o3, o4⟩ := okM_at C.1.1 hd
  rw [o4]
  rw [o3 rfl] at kk
  refine lv_isub C.2.1 C.2.2.1 o1 ?_
  rw [← Int32.ofInt_sub, ← ofI_wr]
  exact kk
theorem z_imul {x y : Int} (hd : (mT M)[k]? = some (pc, .imul, 1, t)) (kk : Z M uu xw (k + 1) ls (vi (wr (x * y)) :: st) h e) : Z M uu xw k ls (vi y :: vi x :: st) h e := by
  refine Z.pure (fun a b => avR_i (wr_R _) (avR_t (avR_t a))) ?_ kk
  intro p l e s m args below meth c base D ca ad H locs la Q _ _ C L _ _ _ _ kk
  obtain ⟨o1, -, o3, o4⟩ := okM_at C.1.1 hd
  rw [o4]
  rw [o3 rfl] at kk
  refine lv_imul C.2.1 C.2.2.1 o1 ?_
  rw [← Int32.ofInt_mul, ← ofI_wr]
  exact kk
theorem z_ineg {x : Int} (hd : (mT M)[k]? = some (pc, .ineg, 1, t)) (kk : Z M uu xw (k + 1) ls (vi (wr (-x)) :: st) h e) : Z M uu xw k ls (vi x :: st) h e := by
  refine Z.pure (fun a b => avR_i (wr_R _) (avR_t a)) ?_ kk
  intro p l e s m args below meth c base D ca ad H locs la Q _ _ C L _ _ _ _ kk
  obtain ⟨o1, -, o3, o4⟩ := okM_at C.1.1 hd
  rw [o4]
  rw [o3 rfl] at kk
  refine lv_ineg C.2.1 C.2.2.1 o1 ?_
  rw [← Int32.ofInt_neg, ← ofI_wr]
  exact kk
theorem ofI_div {x y : Int} (hx : iR x) (hy : iR y) (h1 : y ≠ -1) : Int32.ofInt x / Int32.ofInt y = Int32.ofInt (wr (x.tdiv y)) := by
  rw [ofI_wr]
  apply Int32.toInt.inj
  rw [Int32.toInt_div, ofI_T hx, ofI_T hy, Int32.toInt_ofInt]
theorem z_idiv {x y : Int} (hd : (mT M)[k]? = some (pc, .idiv, 1, t)) (hy : (decide (0 < y)) = true) (kk : Z M uu xw (k + 1) ls (vi (wr (x.tdiv y)) :: st) h e) : Z M uu xw k ls (vi y :: vi x :: st) h e := by
  simp only [decide_eq_true_eq] at hy
  refine Z.pure (fun a b => avR_i (wr_R _) (avR_t (avR_t a))) ?_ kk
  intro p l e s m args below meth c base D ca ad H locs la Q a _ C L _ _ _ _ kk
  obtain ⟨o1, -, o3, o4⟩ := okM_at C.1.1 hd
  have ry : iR y := avR_h a
  have rx : iR x := avR_h (avR_t a)
  rw [o4]
  rw [o3 rfl] at kk
  refine lv_idiv C.2.1 C.2.2.1 o1 (fun z => ?_) ?_
  · rw [← ofI_0, ofI_inj ry iR_0] at z
    omega
  · rw [ofI_div rx ry (by omega)]
    exact kk
theorem z_irem {x y : Int} (hd : (mT M)[k]? = some (pc, .irem, 1, t)) (hy : (decide (0 < y)) = true) (kk : Z M uu xw (k + 1) ls (vi (wr (x - x.tdiv y * y)) :: st) h e) : Z M uu xw k ls (vi y :: vi x :: st) h e := by
  simp only [decide_eq_true_eq] at hy
  refine Z.pure (fun a b => avR_i (wr_R _) (avR_t (avR_t a))) ?_ kk
  intro p l e s m args below meth c base D ca ad H locs la Q a _ C L _ _ _ _ kk
  obtain ⟨o1, -, o3, o4⟩ := okM_at C.1.1 hd
  have ry : iR y := avR_h a
  have rx : iR x := avR_h (avR_t a)
  rw [o4]
  rw [o3 rfl] at kk
  refine lv_irem C.2.1 C.2.2.1 o1 (fun z => ?_) ?_
  · rw [← ofI_0, ofI_inj ry iR_0] at z
    omega
  · rw [ofI_div rx ry (by omega), ofI_wr, ← Int32.ofInt_mul, ← Int32.ofInt_sub, ← ofI_wr]
    exact kk
theorem z_pop {v : AV} (hd : (mT M)[k]? = some (pc, .pop, 1, t)) (hv : acat v = 1) (kk : Z M uu xw (k + 1) ls st h e) : Z M uu xw k ls (v :: st) h e := by
  refine Z.pure (fun a b => avR_t a) ?_ kk
  intro p l e s m args below meth c base D ca ad H locs la Q a _ C L _ _ _ _ kk
  obtain ⟨o1, -, o3, o4⟩ := okM_at C.1.1 hd
  rw [o4]
  rw [o3 rfl] at kk
  exact lv_pop C.2.1 C.2.2.1 o1 (by rw [acat_mv]; exact hv) kk
theorem z_dup {v : AV} (hd : (mT M)[k]? = some (pc, .dup, 1, t)) (hv : acat v = 1) (kk : Z M uu xw (k + 1) ls (v :: v :: st) h e) : Z M uu xw k ls (v :: st) h e := by
  refine Z.pure (fun a b => avR_c (avR_h a) a) ?_ kk
  intro p l e s m args below meth c base D ca ad H locs la Q a _ C L _ _ _ _ kk
  obtain ⟨o1, -, o3, o4⟩ := okM_at C.1.1 hd
  rw [o4]
  rw [o3 rfl] at kk
  exact lv_dup C.2.1 C.2.2.1 o1 (by rw [acat_mv]; exact hv) kk
theorem z_dup2 {v w : AV} (hd : (mT M)[k]? = some (pc, .dup2, 1, t)) (hv : acat v = 1) (hw : acat w = 1) (kk : Z M uu xw (k + 1) ls (v :: w :: v :: w :: st) h e) : Z M uu xw k ls (v :: w :: st) h e := by
  refine Z.pure (fun a b => avR_c (avR_h a) (avR_c (avR_h (avR_t a)) a)) ?_ kk
  intro p l e s m args below meth c base D ca ad H locs la Q a _ C L _ _ _ _ kk
  obtain ⟨o1, -, o3, o4⟩ := okM_at C.1.1 hd
  rw [o4]
  rw [o3 rfl] at kk
  exact lv_dup2_11 C.2.1 C.2.2.1 o1 (by rw [acat_mv]; exact hv) (by rw [acat_mv]; exact hw) kk
theorem z_goto {o : Int} (hd : (mT M)[k]? = some (pc, .goto o, 3, t)) (kk : Z M uu xw t ls st h e) : Z M uu xw k ls st h e := by
  refine Z.pure (fun a b => a) ?_ kk
  intro p l e s m args below meth c base D ca ad H locs la Q a _ C L _ _ _ _ kk
  obtain ⟨o1, o2, o3, o4⟩ := okM_at C.1.1 hd
  rw [o4]
  exact lv_goto C.2.1 C.2.2.1 o1 (of_decide_eq_true o2) kk
theorem z_ifnull {o : Int} {x : Nat} (hd : (mT M)[k]? = some (pc, .ifnull o, 3, t)) (kk : Z M uu xw (k + 1) ls st h e) : Z M uu xw k ls (vr x :: st) h e := by
  refine Z.pure (fun a b => avR_t a) ?_ kk
  intro p l e s m args below meth c base D ca ad H locs la Q a _ C L _ _ _ _ kk
  obtain ⟨o1, o2, o3, o4⟩ := okM_at C.1.1 hd
  rw [o4]
  rw [o3 rfl] at kk
  exact lv_ifnull C.2.1 C.2.2.1 o1 kk
/-- a branch -/
theorem Z.branch {t f : Nat} {st2 : List AV} {P : Prop} [Decidable P] (hr : (∀ v ∈ st, avR v) → ∀ v ∈ st2, avR v)
    (hw : ∀ (p : Program) (l : Launch) (e : Env) (s : State) (m : MethodId) (args : Array Value) (below : List Frame) (meth : Method) (c : Code) (base : Nat) (D : va_G) (ca : Nat → ClassId) (ad : Nat → Nat) (H : Heap) (locs : List Loc) (la : Array Slot) (Q : State → Prop), (∀ v ∈ st, avR v) →
      ZC M xw p s m args meth c base D ca ad →
      (P → W p l e (rmM M) s m args below meth c H locs uu (12 * uu) Q (F0 m (pcO M t) la (st2.map (mv ad)))) → (¬ P → W p l e (rmM M) s m args below meth c H locs uu (12 * uu) Q (F0 m (pcO M f) la (st2.map (mv ad)))) → W p l e (rmM M) s m args below meth c H locs uu (12 * uu) Q (F0 m (pcO M k) la (st.map (mv ad))))
    (kt : Z M uu xw t ls st2 h e1) (kf : Z M uu xw f ls st2 h e2) : Z M uu xw k ls st h (if P then e1 else e2) := by
  intro a b c d r h' he
  by_cases hP : P
  · rw [if_pos hP] at he
    obtain ⟨z1, z2⟩ := kt a b (hr c) d r h' he
    refine ⟨z1, ?_⟩
    intro p l e s m args below meth cc base D ca ad H locs la C L W0 S
    exact hw p l e s m args below meth cc base D ca ad H locs la _ c C (fun _ => z2 p l e s m args below meth cc base D ca ad H locs la C L W0 S) (fun hn => absurd hP hn)
  · rw [if_neg hP] at he
    obtain ⟨z1, z2⟩ := kf a b (hr c) d r h' he
    refine ⟨z1, ?_⟩
    intro p l e s m args below meth cc base D ca ad H locs la C L W0 S
    exact hw p l e s m args below meth cc base D ca ad H locs la _ c C (fun hp => absurd hp hP) (fun _ => z2 p l e s m args below meth cc base D ca ad H locs la C L W0 S)
theorem z_icmp_eq {o : Int} {x y : Int} (hd : (mT M)[k]? = some (pc, .if_icmp .eq o, 3, t)) (kt : Z M uu xw t ls st h e1) (kf : Z M uu xw (k + 1) ls st h e2) : Z M uu xw k ls (vi y :: vi x :: st) h (if x = y then e1 else e2) := by
  refine Z.branch (fun a => avR_t (avR_t a)) ?_ kt kf
  intro p l e s m args below meth c base D ca ad H locs la Q a C kt kf
  obtain ⟨o1, o2, o3, o4⟩ := okM_at C.1.1 hd
  have ry : iR y := avR_h a
  have rx : iR x := avR_h (avR_t a)
  rw [o4]
  rw [o3 rfl] at kf
  exact lv_icmp_eq C.2.1 C.2.2.1 o1 (of_decide_eq_true o2) (fun q => kt (by first | exact (ofI_inj rx ry).mp q | exact (ofI_lt rx ry).mp q | exact (ofI_le rx ry).mp q | exact (ofI_lt ry rx).mp q | exact (ofI_le ry rx).mp q | exact fun z => q ((ofI_inj rx ry).mpr z))) (fun q => kf (by first | exact fun z => z ((ofI_inj rx ry).mp q) | exact fun z => q ((ofI_inj rx ry).mpr z) | exact fun z => q ((ofI_lt rx ry).mpr z) | exact fun z => q ((ofI_le rx ry).mpr z) | exact fun z => q ((ofI_lt ry rx).mpr z) | exact fun z => q ((ofI_le ry rx).mpr z)))
theorem z_icmp_ne {o : Int} {x y : Int} (hd : (mT M)[k]? = some (pc, .if_icmp .ne o, 3, t)) (kt : Z M uu xw t ls st h e1) (kf : Z M uu xw (k + 1) ls st h e2) : Z M uu xw k ls (vi y :: vi x :: st) h (if ¬ x = y then e1 else e2) := by
  refine Z.branch (fun a => avR_t (avR_t a)) ?_ kt kf
  intro p l e s m args below meth c base D ca ad H locs la Q a C kt kf
  obtain ⟨o1, o2, o3, o4⟩ := okM_at C.1.1 hd
  have ry : iR y := avR_h a
  have rx : iR x := avR_h (avR_t a)
  rw [o4]
  rw [o3 rfl] at kf
  exact lv_icmp_ne C.2.1 C.2.2.1 o1 (of_decide_eq_true o2) (fun q => kt (by first | exact (ofI_inj rx ry).mp q | exact (ofI_lt rx ry).mp q | exact (ofI_le rx ry).mp q | exact (ofI_lt ry rx).mp q | exact (ofI_le ry rx).mp q | exact fun z => q ((ofI_inj rx ry).mpr z))) (fun q => kf (by first | exact fun z => z ((ofI_inj rx ry).mp q) | exact fun z => q ((ofI_inj rx ry).mpr z) | exact fun z => q ((ofI_lt rx ry).mpr z) | exact fun z => q ((ofI_le rx ry).mpr z) | exact fun z => q ((ofI_lt ry rx).mpr z) | exact fun z => q ((ofI_le ry rx).mpr z)))
theorem z_icmp_lt {o : Int} {x y : Int} (hd : (mT M)[k]? = some (pc, .if_icmp .lt o, 3, t)) (kt : Z M uu xw t ls st h e1) (kf : Z M uu xw (k + 1) ls st h e2) : Z M uu xw k ls (vi y :: vi x :: st) h (if x < y then e1 else e2) := by
  refine Z.branch (fun a => avR_t (avR_t a)) ?_ kt kf
  intro p l e s m args below meth c base D ca ad H locs la Q a C kt kf
  obtain ⟨o1, o2, o3, o4⟩ := okM_at C.1.1 hd
  have ry : iR y := avR_h a
  have rx : iR x := avR_h (avR_t a)
  rw [o4]
  rw [o3 rfl] at kf
  exact lv_icmp_lt C.2.1 C.2.2.1 o1 (of_decide_eq_true o2) (fun q => kt (by first | exact (ofI_inj rx ry).mp q | exact (ofI_lt rx ry).mp q | exact (ofI_le rx ry).mp q | exact (ofI_lt ry rx).mp q | exact (ofI_le ry rx).mp q | exact fun z => q ((ofI_inj rx ry).mpr z))) (fun q => kf (by first | exact fun z => z ((ofI_inj rx ry).mp q) | exact fun z => q ((ofI_inj rx ry).mpr z) | exact fun z => q ((ofI_lt rx ry).mpr z) | exact fun z => q ((ofI_le rx ry).mpr z) | exact fun z => q ((ofI_lt ry rx).mpr z) | exact fun z => q ((ofI_le ry rx).mpr z)))
theorem z_icmp_ge {o : Int} {x y : Int} (hd : (mT M)[k]? = some (pc, .if_icmp .ge o, 3, t)) (kt : Z M uu xw t ls st h e1) (kf : Z M uu xw (k + 1) ls st h e2) : Z M uu xw k ls (vi y :: vi x :: st) h (if y ≤ x then e1 else e2) := by
  refine Z.branch (fun a => avR_t (avR_t a)) ?_ kt kf
  intro p l e s m args below meth c base D ca ad H locs la Q a C kt kf
  obtain ⟨o1, o2, o3, o4⟩ := okM_at C.1.1 hd
  have ry : iR y := avR_h a
  have rx : iR x := avR_h (avR_t a)
  rw [o4]
  rw [o3 rfl] at kf
  exact lv_icmp_ge C.2.1 C.2.2.1 o1 (of_decide_eq_true o2) (fun q => kt (by first | exact (ofI_inj rx ry).mp q | exact (ofI_lt rx ry).mp q | exact (ofI_le rx ry).mp q | exact (ofI_lt ry rx).mp q | exact (ofI_le ry rx).mp q | exact fun z => q ((ofI_inj rx ry).mpr z))) (fun q => kf (by first | exact fun z => z ((ofI_inj rx ry).mp q) | exact fun z => q ((ofI_inj rx ry).mpr z) | exact fun z => q ((ofI_lt rx ry).mpr z) | exact fun z => q ((ofI_le rx ry).mpr z) | exact fun z => q ((ofI_lt ry rx).mpr z) | exact fun z => q ((ofI_le ry rx).mpr z)))
theorem z_icmp_gt {o : Int} {x y : Int} (hd : (mT M)[k]? = some (pc, .if_icmp .gt o, 3, t)) (kt : Z M uu xw t ls st h e1) (kf : Z M uu xw (k + 1) ls st h e2) : Z M uu xw k ls (vi y :: vi x :: st) h (if y < x then e1 else e2) := by
  refine Z.branch (fun a => avR_t (avR_t a)) ?_ kt kf
  intro p l e s m args below meth c base D ca ad H locs la Q a C kt kf
  obtain ⟨o1, o2, o3, o4⟩ := okM_at C.1.1 hd
  have ry : iR y := avR_h a
  have rx : iR x := avR_h (avR_t a)
  rw [o4]
  rw [o3 rfl] at kf
  exact lv_icmp_gt C.2.1 C.2.2.1 o1 (of_decide_eq_true o2) (fun q => kt (by first | exact (ofI_inj rx ry).mp q | exact (ofI_lt rx ry).mp q | exact (ofI_le rx ry).mp q | exact (ofI_lt ry rx).mp q | exact (ofI_le ry rx).mp q | exact fun z => q ((ofI_inj rx ry).mpr z))) (fun q => kf (by first | exact fun z => z ((ofI_inj rx ry).mp q) | exact fun z => q ((ofI_inj rx ry).mpr z) | exact fun z => q ((ofI_lt rx ry).mpr z) | exact fun z => q ((ofI_le rx ry).mpr z) | exact fun z => q ((ofI_lt ry rx).mpr z) | exact fun z => q ((ofI_le ry rx).mpr z)))
theorem z_icmp_le {o : Int} {x y : Int} (hd : (mT M)[k]? = some (pc, .if_icmp .le o, 3, t)) (kt : Z M uu xw t ls st h e1) (kf : Z M uu xw (k + 1) ls st h e2) : Z M uu xw k ls (vi y :: vi x :: st) h (if x ≤ y then e1 else e2) := by
  refine Z.branch (fun a => avR_t (avR_t a)) ?_ kt kf
  intro p l e s m args below meth c base D ca ad H locs la Q a C kt kf
  obtain ⟨o1, o2, o3, o4⟩ := okM_at C.1.1 hd
  have ry : iR y := avR_h a
  have rx : iR x := avR_h (avR_t a)
  rw [o4]
  rw [o3 rfl] at kf
  exact lv_icmp_le C.2.1 C.2.2.1 o1 (of_decide_eq_true o2) (fun q => kt (by first | exact (ofI_inj rx ry).mp q | exact (ofI_lt rx ry).mp q | exact (ofI_le rx ry).mp q | exact (ofI_lt ry rx).mp q | exact (ofI_le ry rx).mp q | exact fun z => q ((ofI_inj rx ry).mpr z))) (fun q => kf (by first | exact fun z => z ((ofI_inj rx ry).mp q) | exact fun z => q ((ofI_inj rx ry).mpr z) | exact fun z => q ((ofI_lt rx ry).mpr z) | exact fun z => q ((ofI_le rx ry).mpr z) | exact fun z => q ((ofI_lt ry rx).mpr z) | exact fun z => q ((ofI_le ry rx).mpr z)))
theorem z_if_eq {o : Int} {x : Int} (hd : (mT M)[k]? = some (pc, .ifCond .eq o, 3, t)) (kt : Z M uu xw t ls st h e1) (kf : Z M uu xw (k + 1) ls st h e2) : Z M uu xw k ls (vi x :: st) h (if x = 0 then e1 else e2) := by
  refine Z.branch (fun a => avR_t a) ?_ kt kf
  intro p l e s m args below meth c base D ca ad H locs la Q a C kt kf
  obtain ⟨o1, o2, o3, o4⟩ := okM_at C.1.1 hd
  have rx : iR x := avR_h a
  have ry := iR_0
  rw [o4]
  rw [o3 rfl] at kf
  exact lv_if_eq C.2.1 C.2.2.1 o1 (of_decide_eq_true o2) (fun q => kt (by first | exact (ofI_inj rx ry).mp q | exact (ofI_lt rx ry).mp q | exact (ofI_le rx ry).mp q | exact (ofI_lt ry rx).mp q | exact (ofI_le ry rx).mp q | exact fun z => q ((ofI_inj rx ry).mpr z))) (fun q => kf (by first | exact fun z => z ((ofI_inj rx ry).mp q) | exact fun z => q ((ofI_inj rx ry).mpr z) | exact fun z => q ((ofI_lt rx ry).mpr z) | exact fun z => q ((ofI_le rx ry).mpr z) | exact fun z => q ((ofI_lt ry rx).mpr z) | exact fun z => q ((ofI_le ry rx).mpr z)))
theorem z_if_ne {o : Int} {x : Int} (hd : (mT M)[k]? = some (pc, .ifCond .ne o, 3, t)) (kt : Z M uu xw t ls st h e1) (kf : Z M uu xw (k + 1) ls st h e2) : Z M uu xw k ls (vi x :: st) h (if ¬ x = 0 then e1 else e2) := by
  refine Z.branch (fun a => avR_t a) ?_ kt kf
  intro p l e s m args below meth c base D ca ad H locs la Q a C kt kf
  obtain ⟨o1, o2, o3, o4⟩ := okM_at C.1.1 hd
  have rx : iR x := avR_h a
  have ry := iR_0
  rw [o4]
  rw [o3 rfl] at kf
  exact lv_if_ne C.2.1 C.2.2.1 o1 (of_decide_eq_true o2) (fun q => kt (by first | exact (ofI_inj rx ry).mp q | exact (ofI_lt rx ry).mp q | exact (ofI_le rx ry).mp q | exact (ofI_lt ry rx).mp q | exact (ofI_le ry rx).mp q | exact fun z => q ((ofI_inj rx ry).mpr z))) (fun q => kf (by first | exact fun z => z ((ofI_inj rx ry).mp q) | exact fun z => q ((ofI_inj rx ry).mpr z) | exact fun z => q ((ofI_lt rx ry).mpr z) | exact fun z => q ((ofI_le rx ry).mpr z) | exact fun z => q ((ofI_lt ry rx).mpr z) | exact fun z => q ((ofI_le ry rx).mpr z)))
theorem z_if_lt {o : Int} {x : Int} (hd : (mT M)[k]? = some (pc, .ifCond .lt o, 3, t)) (kt : Z M uu xw t ls st h e1) (kf : Z M uu xw (k + 1) ls st h e2) : Z M uu xw k ls (vi x :: st) h (if x < 0 then e1 else e2) := by
  refine Z.branch (fun a => avR_t a) ?_ kt kf
  intro p l e s m args below meth c base D ca ad H locs la Q a C kt kf
  obtain ⟨o1, o2, o3, o4⟩ := okM_at C.1.1 hd
  have rx : iR x := avR_h a
  have ry := iR_0
  rw [o4]
  rw [o3 rfl] at kf
  exact lv_if_lt C.2.1 C.2.2.1 o1 (of_decide_eq_true o2) (fun q => kt (by first | exact (ofI_inj rx ry).mp q | exact (ofI_lt rx ry).mp q | exact (ofI_le rx ry).mp q | exact (ofI_lt ry rx).mp q | exact (ofI_le ry rx).mp q | exact fun z => q ((ofI_inj rx ry).mpr z))) (fun q => kf (by first | exact fun z => z ((ofI_inj rx ry).mp q) | exact fun z => q ((ofI_inj rx ry).mpr z) | exact fun z => q ((ofI_lt rx ry).mpr z) | exact fun z => q ((ofI_le rx ry).mpr z) | exact fun z => q ((ofI_lt ry rx).mpr z) | exact fun z => q ((ofI_le ry rx).mpr z)))
theorem z_if_ge {o : Int} {x : Int} (hd : (mT M)[k]? = some (pc, .ifCond .ge o, 3, t)) (kt : Z M uu xw t ls st h e1) (kf : Z M uu xw (k + 1) ls st h e2) : Z M uu xw k ls (vi x :: st) h (if 0 ≤ x then e1 else e2) := by
  refine Z.branch (fun a => avR_t a) ?_ kt kf
  intro p l e s m args below meth c base D ca ad H locs la Q a C kt kf
  obtain ⟨o1, o2, o3, o4⟩ := okM_at C.1.1 hd
  have rx : iR x := avR_h a
  have ry := iR_0
  rw [o4]
  rw [o3 rfl] at kf
  exact lv_if_ge C.2.1 C.2.2.1 o1 (of_decide_eq_true o2) (fun q => kt (by first | exact (ofI_inj rx ry).mp q | exact (ofI_lt rx ry).mp q | exact (ofI_le rx ry).mp q | exact (ofI_lt ry rx).mp q | exact (ofI_le ry rx).mp q | exact fun z => q ((ofI_inj rx ry).mpr z))) (fun q => kf (by first | exact fun z => z ((ofI_inj rx ry).mp q) | exact fun z => q ((ofI_inj rx ry).mpr z) | exact fun z => q ((ofI_lt rx ry).mpr z) | exact fun z => q ((ofI_le rx ry).mpr z) | exact fun z => q ((ofI_lt ry rx).mpr z) | exact fun z => q ((ofI_le ry rx).mpr z)))
theorem z_if_gt {o : Int} {x : Int} (hd : (mT M)[k]? = some (pc, .ifCond .gt o, 3, t)) (kt : Z M uu xw t ls st h e1) (kf : Z M uu xw (k + 1) ls st h e2) : Z M uu xw k ls (vi x :: st) h (if 0 < x then e1 else e2) := by
  refine Z.branch (fun a => avR_t a) ?_ kt kf
  intro p l e s m args below meth c base D ca ad H locs la Q a C kt kf
  obtain ⟨o1, o2, o3, o4⟩ := okM_at C.1.1 hd
  have rx : iR x := avR_h a
  have ry := iR_0
  rw [o4]
  rw [o3 rfl] at kf
  exact lv_if_gt C.2.1 C.2.2.1 o1 (of_decide_eq_true o2) (fun q => kt (by first | exact (ofI_inj rx ry).mp q | exact (ofI_lt rx ry).mp q | exact (ofI_le rx ry).mp q | exact (ofI_lt ry rx).mp q | exact (ofI_le ry rx).mp q | exact fun z => q ((ofI_inj rx ry).mpr z))) (fun q => kf (by first | exact fun z => z ((ofI_inj rx ry).mp q) | exact fun z => q ((ofI_inj rx ry).mpr z) | exact fun z => q ((ofI_lt rx ry).mpr z) | exact fun z => q ((ofI_le rx ry).mpr z) | exact fun z => q ((ofI_lt ry rx).mpr z) | exact fun z => q ((ofI_le ry rx).mpr z)))
theorem z_if_le {o : Int} {x : Int} (hd : (mT M)[k]? = some (pc, .ifCond .le o, 3, t)) (kt : Z M uu xw t ls st h e1) (kf : Z M uu xw (k + 1) ls st h e2) : Z M uu xw k ls (vi x :: st) h (if x ≤ 0 then e1 else e2) := by
  refine Z.branch (fun a => avR_t a) ?_ kt kf
  intro p l e s m args below meth c base D ca ad H locs la Q a C kt kf
  obtain ⟨o1, o2, o3, o4⟩ := okM_at C.1.1 hd
  have rx : iR x := avR_h a
  have ry := iR_0
  rw [o4]
  rw [o3 rfl] at kf
  exact lv_if_le C.2.1 C.2.2.1 o1 (of_decide_eq_true o2) (fun q => kt (by first | exact (ofI_inj rx ry).mp q | exact (ofI_lt rx ry).mp q | exact (ofI_le rx ry).mp q | exact (ofI_lt ry rx).mp q | exact (ofI_le ry rx).mp q | exact fun z => q ((ofI_inj rx ry).mpr z))) (fun q => kf (by first | exact fun z => z ((ofI_inj rx ry).mp q) | exact fun z => q ((ofI_inj rx ry).mpr z) | exact fun z => q ((ofI_lt rx ry).mpr z) | exact fun z => q ((ofI_le rx ry).mpr z) | exact fun z => q ((ofI_lt ry rx).mpr z) | exact fun z => q ((ofI_le ry rx).mpr z)))
end Steps1
