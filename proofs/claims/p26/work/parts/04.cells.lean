/-! the judgement Z, instruction by instruction: locals, cells, ends, calls -/
section Steps2
variable {M : MI} {uu xw k pc t : Nat} {ls : List (Option AV)} {st : List AV} {h : Hp} {e e1 e2 : Option (Int × Hp)}
theorem lsR_set {ls : List (Option AV)} {j : Nat} {v : AV} (hv : avR v) (b : ∀ (i : Nat) (v : AV), ls[i]? = some (some v) → avR v) : ∀ (i : Nat) (w : AV), (ls.set j (some v))[i]? = some (some w) → avR w := by
  intro i w hi
  by_cases e : i = j
  · subst e
    by_cases hl : i < ls.length
    · rw [List.getElem?_set_self hl] at hi
      cases hi
      exact hv
    · rw [List.getElem?_eq_none (by simp; omega)] at hi
      cases hi
  · rw [List.getElem?_set_ne (fun q => e q.symm)] at hi
    exact b i w hi
/-- a step that stores a local -/
theorem Z.store {k2 j : Nat} {v : AV} {st2 : List AV} (hr : (∀ w ∈ st, avR w) → (∀ (i : Nat) (v : AV), ls[i]? = some (some v) → avR v) → avR v ∧ ∀ w ∈ st2, avR w)
    (hw : ∀ (p : Program) (l : Launch) (e : Env) (s : State) (m : MethodId) (args : Array Value) (below : List Frame) (meth : Method) (c : Code) (base : Nat) (D : va_G) (ca : Nat → ClassId) (ad : Nat → Nat) (H : Heap) (locs : List Loc) (la : Array Slot) (Q : State → Prop),
      ZC M xw p s m args meth c base D ca ad → LH ad la (mN M) ls →
      (∀ la' : Array Slot, LH ad la' (mN M) (ls.set j (some v)) → W p l e (rmM M) s m args below meth c H locs uu (12 * uu) Q (F0 m (pcO M k2) la' (st2.map (mv ad)))) → W p l e (rmM M) s m args below meth c H locs uu (12 * uu) Q (F0 m (pcO M k) la (st.map (mv ad))))
    (kk : Z M uu xw k2 (ls.set j (some v)) st2 h e) : Z M uu xw k ls st h e := by
  intro a b c d r h' he
  obtain ⟨r1, r2⟩ := hr c d
  obtain ⟨z1, z2⟩ := kk a b r2 (lsR_set r1 d) r h' he
  refine ⟨z1, ?_⟩
  intro p l e s m args below meth cc base D ca ad H locs la C L W0 S
  exact hw p l e s m args below meth cc base D ca ad H locs la _ C L (fun la' L' => z2 p l e s m args below meth cc base D ca ad H locs la' C L' W0 S)
theorem z_istore_n {j : Fin 4} {x : Int} (hd : (mT M)[k]? = some (pc, .istore_n j, 1, t)) (hc : (decide ((j : Nat) < mN M) && !(c2 ls j)) = true) (kk : Z M uu xw (k + 1) (ls.set j (some (vi x))) st h e) : Z M uu xw k ls (vi x :: st) h e := by
  simp only [Bool.and_eq_true, decide_eq_true_eq, Bool.not_eq_true'] at hc
  refine Z.store (fun a b => ⟨avR_h a, avR_t a⟩) ?_ kk
  intro p l e s m args below meth c base D ca ad H locs la Q C L kk
  obtain ⟨o1, -, o3, o4⟩ := okM_at C.1.1 hd
  rw [o4]
  rw [o3 rfl] at kk
  exact lv_istore_n C.2.1 C.2.2.1 o1 rfl (lh_list L) hc.1 rfl (fun ls' hl => kk ls' (lh_set rfl hc.2 hl))
theorem z_istore {j : Nat} {x : Int} (hd : (mT M)[k]? = some (pc, .istore j, 2, t)) (hc : (decide (j < mN M) && !(c2 ls j)) = true) (kk : Z M uu xw (k + 1) (ls.set j (some (vi x))) st h e) : Z M uu xw k ls (vi x :: st) h e := by
  simp only [Bool.and_eq_true, decide_eq_true_eq, Bool.not_eq_true'] at hc
  refine Z.store (fun a b => ⟨avR_h a, avR_t a⟩) ?_ kk
  intro p l e s m args below meth c base D ca ad H locs la Q C L kk
  obtain ⟨o1, -, o3, o4⟩ := okM_at C.1.1 hd
  rw [o4]
  rw [o3 rfl] at kk
  exact lv_istore C.2.1 C.2.2.1 o1 (lh_list L) hc.1 rfl (fun ls' hl => kk ls' (lh_set rfl hc.2 hl))
theorem z_astore_n {j : Fin 4} {x : Nat} (hd : (mT M)[k]? = some (pc, .astore_n j, 1, t)) (hc : (decide ((j : Nat) < mN M) && !(c2 ls j)) = true) (kk : Z M uu xw (k + 1) (ls.set j (some (vr x))) st h e) : Z M uu xw k ls (vr x :: st) h e := by
  simp only [Bool.and_eq_true, decide_eq_true_eq, Bool.not_eq_true'] at hc
  refine Z.store (fun a b => ⟨avR_h a, avR_t a⟩) ?_ kk
  intro p l e s m args below meth c base D ca ad H locs la Q C L kk
  obtain ⟨o1, -, o3, o4⟩ := okM_at C.1.1 hd
  rw [o4]
  rw [o3 rfl] at kk
  exact lv_astore_n C.2.1 C.2.2.1 o1 rfl (lh_list L) hc.1 rfl (fun ls' hl => kk ls' (lh_set rfl hc.2 hl))
theorem z_iinc {j : Nat} {n x : Int} (hd : (mT M)[k]? = some (pc, .iinc j n, 3, t)) (hl : ls[j]? = some (some (vi x))) (hc : (decide (j < mN M) && !(c2 ls j)) = true) (kk : Z M uu xw (k + 1) (ls.set j (some (vi (wr (x + n))))) st h e) : Z M uu xw k ls st h e := by
  simp only [Bool.and_eq_true, decide_eq_true_eq, Bool.not_eq_true'] at hc
  refine Z.store (v := vi (wr (x + n))) (fun a b => ⟨wr_R (x + n), a⟩) ?_ kk
  intro p l e s m args below meth c base D ca ad H locs la Q C L kk
  obtain ⟨o1, -, o3, o4⟩ := okM_at C.1.1 hd
  rw [o4]
  rw [o3 rfl] at kk
  have hm : (j, Value.int (Int32.ofInt x)) ∈ ((List.range ls.length).filterMap (fun i => match ls[i]? with
    | some (some v) => some (i, mv ad v)
    | _ => none)) := List.mem_filterMap.mpr ⟨j, List.mem_range.mpr (List.getElem?_eq_some_iff.mp hl).1, by rw [hl]; rfl⟩
  obtain ⟨q, hq⟩ := List.getElem?_of_mem hm
  exact lv_iinc C.2.1 C.2.2.1 o1 (lh_list L) hq (by rw [← Int32.ofInt_add]) hc.1 rfl (fun ls' hl' => kk ls' (lh_set (by show Value.int _ = Value.int _; rw [ofI_wr]) hc.2 hl'))
/-! cells -/
theorem inT0 : ∀ w ∈ u_ws RX0 TX0 10, w ∈ lwT := fun w hw => List.mem_filter.mpr ⟨inX0 w hw, List.all_eq_true.mp (show (u_ws RX0 TX0 10).all goodWord = true by decide +kernel) w hw⟩
theorem inT1 : ∀ w ∈ u_ws RX1 TX1 5, w ∈ lwT := fun w hw => List.mem_filter.mpr ⟨inX1 w hw, List.all_eq_true.mp (show (u_ws RX1 TX1 5).all goodWord = true by decide +kernel) w hw⟩
theorem inT2 : ∀ w ∈ u_ws RX2 TX2 2, w ∈ lwT := fun w hw => List.mem_filter.mpr ⟨inX2 w hw, List.all_eq_true.mp (show (u_ws RX2 TX2 2).all goodWord = true by decide +kernel) w hw⟩
theorem inT3 : ∀ w ∈ u_ws RX3 TX3 5, w ∈ lwT := fun w hw => List.mem_filter.mpr ⟨inX3 w hw, List.all_eq_true.mp (show (u_ws RX3 TX3 5).all goodWord = true by decide +kernel) w hw⟩
theorem inT4 : ∀ w ∈ u_ws RX4 TX4 10, w ∈ lwT := fun w hw => List.mem_filter.mpr ⟨inX4 w hw, List.all_eq_true.mp (show (u_ws RX4 TX4 10).all goodWord = true by decide +kernel) w hw⟩
/-- a kind of object, as the tables have it -/
def KO (ci : Nat) (R : String) (T : u_T) (ty : Nat → FieldType) (N : Nat) : Prop := vwCl[ci]? = some (R, T, N) ∧ N = vw_N ci ∧ ci < 10 ∧ (∀ w ∈ u_ws R T N, w ∈ lwT) ∧ (∀ k, k < N → parseFieldDescriptor (T k).2.2.1 = some (ty k)) ∧ (∀ a, a < N → ∀ b, b < N → a ≠ b → (T a).2.1 ≠ (T b).2.1)
theorem ko0 : KO 0 RX0 TX0 tyX0 10 := ⟨rfl, rfl, by omega, inT0, tyX0_ok, nmX0⟩
theorem ko1 : KO 1 RX1 TX1 tyX1 5 := ⟨rfl, rfl, by omega, inT1, tyX1_ok, nmX1⟩
theorem ko2 : KO 2 RX2 TX2 tyX2 2 := ⟨rfl, rfl, by omega, inT2, tyX2_ok, nmX2⟩
theorem ko3 : KO 3 RX3 TX3 tyX3 5 := ⟨rfl, rfl, by omega, inT3, tyX3_ok, nmX3⟩
theorem ko4 : KO 4 RX4 TX4 tyX4 10 := ⟨rfl, rfl, by omega, inT4, tyX4_ok, nmX4⟩
/-- an entry of a pool that is a field of a kind, of the same owner or of a nest mate -/
def FL (own : String) (ix ci f : Nat) : Prop := ∃ R T ty N, KO ci R T ty N ∧ f < N ∧ ((Cond.fieldLink own ix (T f).1 (T f).2.1 (T f).2.2.1 ∈ lwT) ∨ ∃ host, Cond.fieldLinkNest own ix (T f).1 (T f).2.1 (T f).2.2.1 host ∈ lw_tbl)
theorem wcell_o {ad : Nat → Nat} {ca : Nat → ClassId} {f : Nat → Int} {i ci : Nat} (hk : kd i = (ci, 0)) (hc : ci < 10) : wcell ad ca f i = .inr (ci, ofl ci ad f) := by
  unfold wcell
  rw [hk, if_neg (by show ¬ ci = 13; omega), if_neg (by show ¬ 10 ≤ ci; omega)]
theorem ofl_get {c k : Nat} {ad : Nat → Nat} {f : Nat → Int} (hk : k < vw_N c) : (ofl c ad f)[k]? = some (fvl c k ad (f k)) := by
  unfold ofl
  rw [List.getElem?_map, List.getElem?_range hk]
  rfl
theorem ofl_len {c : Nat} {ad : Nat → Nat} {f : Nat → Int} : (ofl c ad f).length = vw_N c := by simp [ofl]
theorem ofl_set {c k : Nat} {ad : Nat → Nat} {f : Nat → Int} {x : Int} {v : Value} (hv : v = fvl c k ad x) : (ofl c ad f).set k v = ofl c ad (fun b => if b = k then x else f b) := by
  subst hv
  apply List.ext_getElem?
  intro j
  by_cases hj : j < vw_N c
  · by_cases e : j = k
    · subst e
      rw [List.getElem?_set_self (by rw [ofl_len]; exact hj), ofl_get hj]
      simp
    · rw [List.getElem?_set_ne (fun q => e q.symm), ofl_get hj, ofl_get hj]
      simp [e]
  · rw [List.getElem?_eq_none (by simp [ofl_len]; omega), List.getElem?_eq_none (by rw [ofl_len]; omega)]
theorem fvl_i {c k : Nat} {ad : Nat → Nat} {z : Int} (ho : off c k = none) : fvl c k ad z = .int (Int32.ofInt z) := by
  unfold fvl
  rw [ho]
theorem fvl_r {c k o i : Nat} {ad : Nat → Nat} (ho : off c k = some o) : fvl c k ad ((i + o : Nat) : Int) = .ref (ad (i + o)) := by
  unfold fvl
  rw [ho]
  show va_rf (rfo ad _) = _
  unfold rfo
  rw [if_neg (by omega), Int.toNat_natCast]
  rfl
theorem hup_o {h : Hp} {i k j : Nat} {x : Int} (hj : j ≠ i) : hup h i k x j = h j := by
  funext b
  simp [hup, hj]
theorem hup_s {h : Hp} {i k : Nat} {x : Int} : hup h i k x i = fun b => if b = k then x else h i b := by
  funext b
  simp [hup]
theorem li_hup {h : Hp} {i k : Nat} {x : Int} (hL : LI h) (hi : i < 84) (ho : off (kd i).1 k = none) (h13 : (kd i).1 = 13 → x < 76) : LI (hup h i k x) := by
  refine ⟨fun a b o q => ?_, fun a b q1 q2 => ?_, fun a b q => ?_⟩
  · unfold hup
    rw [if_neg]
    · exact hL.1 a b o q
    · rintro ⟨rfl, rfl⟩
      rw [ho] at q
      cases q
  · unfold hup
    rw [if_neg (by omega)]
    exact hL.2.1 a b q1 q2
  · unfold hup
    split
    · rename_i z
      exact h13 (by rw [← z.1]; exact q)
    · exact hL.2.2 a b q
theorem z_getI {ix ci f i : Nat} (hd : (mT M)[k]? = some (pc, .getfield ix, 3, t)) (hl : FL (mO M) ix ci f) (ho : off ci f = none) (hk : kd i = (ci, 0)) (kk : Z M uu xw (k + 1) ls (vi (h i f) :: st) h e) : Z M uu xw k ls (vr i :: st) h e := by
  intro a b c d r h' he
  obtain ⟨z1, z2⟩ := kk a b (avR_i (b i f) (avR_t c)) d r h' he
  refine ⟨z1, ?_⟩
  intro p l e s m args below meth cc base D ca ad H locs la C L W0 S
  have z3 := z2 p l e s m args below meth cc base D ca ad H locs la C L W0 S
  obtain ⟨o1, -, o3, o4⟩ := okM_at C.1.1 hd
  rw [o4]
  rw [o3 rfl] at z3
  obtain ⟨R, T, ty, N, ⟨k1, k2, k3, k4, k5, k6⟩, hf, hn⟩ := hl
  have hi : i < 76 := kd_lt (c := ci) (by rw [hk]) (by omega)
  have hg := wsN_g7 (ad := ad) (ca := ca) (h := h) hi
  rw [wcell_o hk k3] at hg
  have hv : (ofl ci ad (h i))[f]? = some (.int (Int32.ofInt (h i f))) := by rw [ofl_get (by omega), fvl_i ho]
  rcases hn with hn | ⟨host, hn⟩
  · exact va_get C.2.1 C.2.2.1 C.2.2.2.2.2.2.2.1 k4 C.2.2.2.2.2.2.1 C.2.2.2.2.2.2.2.2.1 W0.1 i hg k1 f hf (C.2.2.2.2.2.2.2.1 _ hn) (fun _ q => q) hv o1 z3
  · exact va_getN C.2.1 C.2.2.1 C.2.2.2.2.2.2.2.1 k4 C.2.2.2.2.2.2.1 C.2.2.2.2.2.2.2.2.1 W0.1 i hg k1 f hf (va_Nw.use rfl (C.2.2.2.2.2.2.2.2.2.1 _ hn rfl)) (fun _ q => q) hv o1 z3
theorem z_getR {ix ci f i o : Nat} (hd : (mT M)[k]? = some (pc, .getfield ix, 3, t)) (hl : FL (mO M) ix ci f) (ho : off ci f = some o) (hk : kd i = (ci, 0)) (kk : Z M uu xw (k + 1) ls (vr (i + o) :: st) h e) : Z M uu xw k ls (vr i :: st) h e := by
  intro a b c d r h' he
  obtain ⟨z1, z2⟩ := kk a b (avR_c (v := vr (i + o)) True.intro (avR_t c)) d r h' he
  refine ⟨z1, ?_⟩
  intro p l e s m args below meth cc base D ca ad H locs la C L W0 S
  have z3 := z2 p l e s m args below meth cc base D ca ad H locs la C L W0 S
  obtain ⟨o1, -, o3, o4⟩ := okM_at C.1.1 hd
  rw [o4]
  rw [o3 rfl] at z3
  obtain ⟨R, T, ty, N, ⟨k1, k2, k3, k4, k5, k6⟩, hf, hn⟩ := hl
  have hi : i < 76 := kd_lt (c := ci) (by rw [hk]) (by omega)
  have hg := wsN_g7 (ad := ad) (ca := ca) (h := h) hi
  rw [wcell_o hk k3] at hg
  have hv : (ofl ci ad (h i))[f]? = some (.ref (ad (i + o))) := by rw [ofl_get (by omega), a.1 i f o (by rw [hk]; exact ho), fvl_r ho]
  rcases hn with hn | ⟨host, hn⟩
  · exact va_get C.2.1 C.2.2.1 C.2.2.2.2.2.2.2.1 k4 C.2.2.2.2.2.2.1 C.2.2.2.2.2.2.2.2.1 W0.1 i hg k1 f hf (C.2.2.2.2.2.2.2.1 _ hn) (fun _ q => q) hv o1 z3
  · exact va_getN C.2.1 C.2.2.1 C.2.2.2.2.2.2.2.1 k4 C.2.2.2.2.2.2.1 C.2.2.2.2.2.2.2.2.1 W0.1 i hg k1 f hf (va_Nw.use rfl (C.2.2.2.2.2.2.2.2.2.1 _ hn rfl)) (fun _ q => q) hv o1 z3
/-- an entry of a pool that is a field of whole numbers, not final -/
def FI (own : String) (ix ci f : Nat) : Prop := ∃ R T ty N, KO ci R T ty N ∧ f < N ∧ (T f).2.2.2 = false ∧ ty f = .int ∧ ((Cond.fieldLink own ix (T f).1 (T f).2.1 (T f).2.2.1 ∈ lwT) ∨ ∃ host, Cond.fieldLinkNest own ix (T f).1 (T f).2.1 (T f).2.2.1 host ∈ lw_tbl)
theorem z_putI {ix ci f i : Nat} {x : Int} (hd : (mT M)[k]? = some (pc, .putfield ix, 3, t)) (hl : FI (mO M) ix ci f) (ho : off ci f = none) (hk : kd i = (ci, 0)) (kk : Z M uu xw (k + 1) ls st (hup h i f x) e) : Z M uu xw k ls (vi x :: vr i :: st) h e := by
  intro a b c d r h' he
  obtain ⟨R, T, ty, N, ⟨k1, k2, k3, k4, k5, k6⟩, hf, hfin, hty, hn⟩ := hl
  have hi : i < 76 := kd_lt (c := ci) (by rw [hk]) (by omega)
  obtain ⟨z1, z2⟩ := kk (li_hup a (by omega) (by rw [hk]; exact ho) (fun q => by (rw [hk] at q; exact absurd (show ci = 13 from q) (by omega)))) (hR_hup b (avR_h c)) (avR_t (avR_t c)) d r h' he
  refine ⟨z1, ?_⟩
  intro p l e s m args below meth cc base D ca ad H locs la C L W0 S
  obtain ⟨o1, -, o3, o4⟩ := okM_at C.1.1 hd
  rw [o4]
  have hg := wsN_g7 (ad := ad) (ca := ca) (h := h) hi
  rw [wcell_o hk k3] at hg
  have key : ∀ (H1 : Heap) (locs1 : List Loc), va_P D vwCl ((wsN (nW ad) ad ca h).set i (ad i, .inr (ci, (ofl ci ad (h i)).set f (.int (Int32.ofInt x))))) H1 → va_D (fun q => base ≤ q) ((wsN (nW ad) ad ca h).set i (ad i, .inr (ci, (ofl ci ad (h i)).set f (.int (Int32.ofInt x))))) → va_S (fun q => base ≤ q) s.heap H1 locs1 →
      W p l e (rmM M) s m args below meth cc H1 locs1 uu (12 * uu) (PQ M below base D ca ad r h' args s) (F0 m (pc + 3) la (st.map (mv ad))) := by
    intro H1 locs1 w1 w2 w3
    have e1 : (wsN (nW ad) ad ca h).set i (ad i, .inr (ci, (ofl ci ad (h i)).set f (.int (Int32.ofInt x)))) = wsN (nW ad) ad ca (hup h i f x) := by
      apply wsN_set (fun j hj => hup_o hj)
      rw [wcell_o hk k3, hup_s, ofl_set (fvl_i ho).symm]
    rw [e1] at w1 w2
    have z3 := z2 p l e s m args below meth cc base D ca ad H1 locs1 la C L ⟨w1, w2⟩ w3
    rw [o3 rfl] at z3
    exact z3
  have hdd : parseFieldDescriptor (T f).2.2.1 = some .int := by rw [k5 f hf, hty]
  rcases hn with hn | ⟨host, hn⟩
  · exact va_put C.2.1 C.2.2.1 C.2.2.2.2.2.2.2.1 k4 ty k5 k6 C.2.2.2.2.2.2.1 C.2.2.2.2.2.2.2.2.1 W0.1 W0.2 S i hg k1 f hf (C.2.2.2.2.2.2.2.1 _ hn) (fun _ q => q) hfin hdd rfl rfl (by rw [ofl_len]; omega) o1 key
  · exact va_putN C.2.1 C.2.2.1 C.2.2.2.2.2.2.2.1 k4 ty k5 k6 C.2.2.2.2.2.2.1 C.2.2.2.2.2.2.2.2.1 W0.1 W0.2 S i hg k1 f hf (va_Nw.use rfl (C.2.2.2.2.2.2.2.2.2.1 _ hn rfl)) (fun _ q => q) hfin hdd rfl rfl (by rw [ofl_len]; omega) o1 key
theorem wcell_a {ad : Nat → Nat} {ca : Nat → ClassId} {f : Nat → Int} {i c n : Nat} (hk : kd i = (10 + c, n)) (hc : c < 3) : wcell ad ca f i = .inl (ca c, n, .inl (fun k => Int32.ofInt (f k))) := by
  unfold wcell
  rw [hk, if_neg (by show ¬ 10 + c = 13; omega), if_pos (by show 10 ≤ 10 + c; omega)]
  show Sum.inl (ca ((10 + c - 10) % 10), n, _) = _
  rw [Nat.add_sub_cancel_left, Nat.mod_eq_of_lt (by omega)]
theorem wcell_q {ad : Nat → Nat} {ca : Nat → ClassId} {f : Nat → Int} {i n : Nat} (hk : kd i = (13, n)) : wcell ad ca f i = .inl (ca 3, n, .inr (.inr (.inr (.inr (fun k => rfo ad (f k)))))) := by
  unfold wcell
  rw [hk, if_pos rfl]
theorem Z.guard {P : Prop} [Decidable P] (kk : P → Z M uu xw k ls st h e) : Z M uu xw k ls st h (if P then e else none) := by
  intro a b c d r h' he
  by_cases hP : P
  · rw [if_pos hP] at he
    exact kk hP a b c d r h' he
  · rw [if_neg hP] at he
    cases he
/-- a step that reads a cell -/
theorem Z.read {v : AV} {st2 : List AV} {k2 : Nat} (hr : LI h → hR h → (∀ w ∈ st, avR w) → ∀ w ∈ st2, avR w)
    (hw : ∀ (p : Program) (l : Launch) (e : Env) (s : State) (m : MethodId) (args : Array Value) (below : List Frame) (meth : Method) (c : Code) (base : Nat) (D : va_G) (ca : Nat → ClassId) (ad : Nat → Nat) (H : Heap) (locs : List Loc) (la : Array Slot) (Q : State → Prop), (∀ v ∈ st, avR v) →
      ZC M xw p s m args meth c base D ca ad → LH ad la (mN M) ls → WD base D ca ad h H → va_S (fun q => base ≤ q) s.heap H locs → LI h → hR h →
      W p l e (rmM M) s m args below meth c H locs uu (12 * uu) Q (F0 m (pcO M k2) la (st2.map (mv ad))) → W p l e (rmM M) s m args below meth c H locs uu (12 * uu) Q (F0 m (pcO M k) la (st.map (mv ad))))
    (kk : Z M uu xw k2 ls st2 h e) : Z M uu xw k ls st h e := by
  intro a b c d r h' he
  obtain ⟨z1, z2⟩ := kk a b (hr a b c) d r h' he
  refine ⟨z1, ?_⟩
  intro p l e s m args below meth cc base D ca ad H locs la C L W0 S
  exact hw p l e s m args below meth cc base D ca ad H locs la _ c C L W0 S a b (z2 p l e s m args below meth cc base D ca ad H locs la C L W0 S)
theorem z_iaload {i n : Nat} {x : Int} (hd : (mT M)[k]? = some (pc, .iaload, 1, t)) (hk : kd i = (10, n)) (kk : Z M uu xw (k + 1) ls (vi (h i x.toNat) :: st) h e) : Z M uu xw k ls (vi x :: vr i :: st) h (if inb x n then e else none) := by
  refine Z.guard (P := inb x n) (fun hin => ?_)
  refine Z.read (v := vi x) (fun _ b c => avR_i (b _ _) (avR_t (avR_t c))) ?_ kk
  intro p l e s m args below meth c base D ca ad H locs la Q rs C L W0 S _ _ kk
  obtain ⟨o1, -, o3, o4⟩ := okM_at C.1.1 hd
  rw [o4]
  rw [o3 rfl] at kk
  have rx : iR x := avR_h rs
  have hi : i < 76 := kd_lt (c := 10) (by rw [hk]) (by omega)
  have hg := wsN_g7 (ad := ad) (ca := ca) (h := h) hi
  rw [wcell_a (c := 0) hk (by omega)] at hg
  refine va_iald C.2.1 C.2.2.1 C.2.2.2.2.2.2.2.2.1 W0.1 i 0 hg rfl (ofI_in rx hin) o1 ?_
  rw [ofI_cl rx]
  exact kk
theorem z_baload {i n : Nat} {x : Int} (hd : (mT M)[k]? = some (pc, .baload, 1, t)) (hk : kd i = (11, n)) (kk : Z M uu xw (k + 1) ls (vi (h i x.toNat) :: st) h e) : Z M uu xw k ls (vi x :: vr i :: st) h (if inb x n then e else none) := by
  refine Z.guard (P := inb x n) (fun hin => ?_)
  refine Z.read (v := vi x) (fun _ b c => avR_i (b _ _) (avR_t (avR_t c))) ?_ kk
  intro p l e s m args below meth c base D ca ad H locs la Q rs C L W0 S _ _ kk
  obtain ⟨o1, -, o3, o4⟩ := okM_at C.1.1 hd
  rw [o4]
  rw [o3 rfl] at kk
  have rx : iR x := avR_h rs
  have hi : i < 76 := kd_lt (c := 11) (by rw [hk]) (by omega)
  have hg := wsN_g7 (ad := ad) (ca := ca) (h := h) hi
  rw [wcell_a (c := 1) hk (by omega)] at hg
  refine va_zald C.2.1 C.2.2.1 C.2.2.2.2.2.2.2.2.1 W0.1 i 1 hg rfl (ofI_in rx hin) o1 ?_
  rw [ofI_cl rx]
  exact kk
theorem z_caload {i n : Nat} {x : Int} (hd : (mT M)[k]? = some (pc, .caload, 1, t)) (hk : kd i = (12, n)) (kk : Z M uu xw (k + 1) ls (vi (h i x.toNat) :: st) h e) : Z M uu xw k ls (vi x :: vr i :: st) h (if inb x n then e else none) := by
  refine Z.guard (P := inb x n) (fun hin => ?_)
  refine Z.read (v := vi x) (fun _ b c => avR_i (b _ _) (avR_t (avR_t c))) ?_ kk
  intro p l e s m args below meth c base D ca ad H locs la Q rs C L W0 S _ _ kk
  obtain ⟨o1, -, o3, o4⟩ := okM_at C.1.1 hd
  rw [o4]
  rw [o3 rfl] at kk
  have rx : iR x := avR_h rs
  have hi : i < 76 := kd_lt (c := 12) (by rw [hk]) (by omega)
  have hg := wsN_g7 (ad := ad) (ca := ca) (h := h) hi
  rw [wcell_a (c := 2) hk (by omega)] at hg
  refine va_cald C.2.1 C.2.2.1 C.2.2.2.2.2.2.2.2.1 W0.1 i 2 hg rfl (ofI_in rx hin) o1 ?_
  rw [ofI_cl rx]
  exact kk
/-- a reference in a row of offices is one of an office -/
abbrev okA (h : Hp) (i : Nat) (x : Int) (n : Nat) : Prop := inb x n ∧ 0 ≤ h i x.toNat ∧ kd (h i x.toNat).toNat = (1, 0)
theorem z_aaload {i n : Nat} {x : Int} (hd : (mT M)[k]? = some (pc, .aaload, 1, t)) (hk : kd i = (13, n)) (kk : kd (h i x.toNat).toNat = (1, 0) → Z M uu xw (k + 1) ls (vr (h i x.toNat).toNat :: st) h e) : Z M uu xw k ls (vi x :: vr i :: st) h (if okA h i x n then e else none) := by
  refine Z.guard (P := okA h i x n) (fun hin => ?_)
  refine Z.read (v := vi x) (fun _ b c => avR_c (v := vr _) True.intro (avR_t (avR_t c))) ?_ (kk hin.2.2)
  intro p l e s m args below meth c base D ca ad H locs la Q rs C L W0 S _ _ kk
  obtain ⟨o1, -, o3, o4⟩ := okM_at C.1.1 hd
  rw [o4]
  rw [o3 rfl] at kk
  have rx : iR x := avR_h rs
  have hi : i < 76 := kd_lt (c := 13) (by rw [hk]) (by omega)
  have hg := wsN_g7 (ad := ad) (ca := ca) (h := h) hi
  rw [wcell_q hk] at hg
  refine va_aldq C.2.1 C.2.2.1 C.2.2.2.2.2.2.2.2.1 W0.1 i 3 hg rfl (ofI_in rx hin.1) o1 ?_
  rw [ofI_cl rx]
  have e1 : va_rf (rfo ad (h i x.toNat)) = .ref (ad (h i x.toNat).toNat) := by
    unfold rfo
    rw [if_neg (by omega)]
    rfl
  rw [e1]
  exact kk
theorem z_alen {i c n : Nat} (hd : (mT M)[k]? = some (pc, .arraylength, 1, t)) (hk : kd i = (10 + c, n)) (hc : c < 4) (kk : Z M uu xw (k + 1) ls (vi (n : Int) :: st) h e) : Z M uu xw k ls (vr i :: st) h e := by
  have key : ∀ i, i < 76 → (kd i).2 < 2000 := by decide +kernel
  have hi : i < 76 := kd_lt (c := 10 + c) (by rw [hk]) (by omega)
  have hn := key i hi
  rw [hk] at hn
  refine Z.read (v := vi 0) (fun _ b c => avR_i (show iR (n : Int) from ⟨by omega, by omega⟩) (avR_t c)) ?_ kk
  intro p l e s m args below meth cc base D ca ad H locs la Q rs C L W0 S _ _ kk
  obtain ⟨o1, -, o3, o4⟩ := okM_at C.1.1 hd
  rw [o4]
  rw [o3 rfl] at kk
  have hg := wsN_g7 (ad := ad) (ca := ca) (h := h) hi
  have h3 : c < 3 ∨ c = 3 := by omega
  rcases h3 with h3 | rfl
  · rw [wcell_a hk h3] at hg
    obtain ⟨ty, hty⟩ : ∃ ty, (tysOf ca)[c]? = some (ca c, ty) := by
      rcases (show c = 0 ∨ c = 1 ∨ c = 2 by omega) with rfl | rfl | rfl <;> exact ⟨_, rfl⟩
    exact va_alen C.2.1 C.2.2.1 C.2.2.2.2.2.2.2.2.1 W0.1 i c hg hty (v := Int32.ofInt (n : Int)) (Int32.ofInt_eq_ofNat).symm o1 kk
  · rw [wcell_q hk] at hg
    exact va_alen C.2.1 C.2.2.1 C.2.2.2.2.2.2.2.2.1 W0.1 i 3 hg (show (tysOf ca)[3]? = some (ca 3, _) from rfl) (v := Int32.ofInt (n : Int)) (Int32.ofInt_eq_ofNat).symm o1 kk
/-- a step that writes a cell -/
theorem Z.write {i k2 : Nat} {x : Int} {j : Nat} {st2 : List AV} {ev : (Nat → Nat) → (Nat → ClassId) → va_E} (hi : i < 84) (ho : off (kd i).1 j = none) (h13 : (kd i).1 = 13 → x < 76) (hx : (∀ w ∈ st, avR w) → iR x) (hr : (∀ w ∈ st, avR w) → ∀ w ∈ st2, avR w)
    (hev : ∀ ad ca, ev ad ca = wcell ad ca (hup h i j x i) i)
    (hw : ∀ (p : Program) (l : Launch) (e : Env) (s : State) (m : MethodId) (args : Array Value) (below : List Frame) (meth : Method) (c : Code) (base : Nat) (D : va_G) (ca : Nat → ClassId) (ad : Nat → Nat) (H : Heap) (locs : List Loc) (la : Array Slot) (Q : State → Prop), (∀ v ∈ st, avR v) →
      ZC M xw p s m args meth c base D ca ad → LH ad la (mN M) ls → WD base D ca ad h H → va_S (fun q => base ≤ q) s.heap H locs → LI h → hR h →
      (∀ (H1 : Heap) (locs1 : List Loc), va_P D vwCl ((wsN (nW ad) ad ca h).set i (ad i, ev ad ca)) H1 → va_D (fun q => base ≤ q) ((wsN (nW ad) ad ca h).set i (ad i, ev ad ca)) → va_S (fun q => base ≤ q) s.heap H1 locs1 →
        W p l e (rmM M) s m args below meth c H1 locs1 uu (12 * uu) Q (F0 m (pcO M k2) la (st2.map (mv ad)))) → W p l e (rmM M) s m args below meth c H locs uu (12 * uu) Q (F0 m (pcO M k) la (st.map (mv ad))))
    (kk : Z M uu xw k2 ls st2 (hup h i j x) e) : Z M uu xw k ls st h e := by
  intro a b c d r h' he
  obtain ⟨z1, z2⟩ := kk (li_hup a hi ho h13) (hR_hup b (hx c)) (hr c) d r h' he
  refine ⟨z1, ?_⟩
  intro p l e s m args below meth cc base D ca ad H locs la C L W0 S
  refine hw p l e s m args below meth cc base D ca ad H locs la _ c C L W0 S a b ?_
  intro H1 locs1 w1 w2 w3
  have e1 : (wsN (nW ad) ad ca h).set i (ad i, ev ad ca) = wsN (nW ad) ad ca (hup h i j x) := wsN_set (fun j hj => hup_o hj) (hev ad ca)
  rw [e1] at w1 w2
  exact z2 p l e s m args below meth cc base D ca ad H1 locs1 la C L ⟨w1, w2⟩ w3
theorem off_a {i c n j : Nat} (hk : kd i = (10 + c, n)) : off (kd i).1 j = none := by
  rw [hk]
  show off (10 + c) j = none
  unfold off
  split <;> first | rfl | omega
theorem wcell_up {ad : Nat → Nat} {ca : Nat → ClassId} {h : Hp} {i c n : Nat} {x y : Int} (hk : kd i = (10 + c, n)) (hc : c < 3) : (Sum.inl (ca c, n, Sum.inl (upd (fun k => Int32.ofInt (h i k)) y.toNat (Int32.ofInt x))) : va_E) = wcell ad ca (hup h i y.toNat x i) i := by
  rw [wcell_a hk hc, hup_s]
  congr 4
  funext q
  show (if q = y.toNat then Int32.ofInt x else Int32.ofInt (h i q)) = Int32.ofInt (if q = y.toNat then x else h i q)
  split <;> rfl
theorem z_iastore {i n : Nat} {x y : Int} (hd : (mT M)[k]? = some (pc, .iastore, 1, t)) (hk : kd i = (10, n)) (kk : Z M uu xw (k + 1) ls st (hup h i y.toNat x) e) : Z M uu xw k ls (vi x :: vi y :: vr i :: st) h (if inb y n then e else none) := by
  refine Z.guard (P := inb y n) (fun hin => ?_)
  have hi : i < 76 := kd_lt (c := 10) (by rw [hk]) (by omega)
  refine Z.write (ev := fun ad ca => .inl (ca 0, n, .inl (upd (fun k => Int32.ofInt (h i k)) y.toNat (Int32.ofInt x)))) (by omega) (off_a (c := 0) hk) (fun q => by (rw [hk] at q; cases q)) (fun a => avR_h a) (fun a => avR_t (avR_t (avR_t a))) (fun ad ca => wcell_up (c := 0) hk (by omega)) ?_ kk
  intro p l e s m args below meth c base D ca ad H locs la Q rs C L W0 S _ _ kk
  obtain ⟨o1, -, o3, o4⟩ := okM_at C.1.1 hd
  rw [o4]
  rw [o3 rfl] at kk
  have ry : iR y := avR_h (avR_t rs)
  have hg := wsN_g7 (ad := ad) (ca := ca) (h := h) hi
  rw [wcell_a (c := 0) hk (by omega)] at hg
  refine va_iast C.2.1 C.2.2.1 C.2.2.2.2.2.2.2.2.1 W0.1 W0.2 S i 0 hg rfl (ofI_in ry hin) o1 ?_
  rw [ofI_cl ry]
  exact kk
abbrev isB (x : Int) : Prop := x = 0 ∨ x = 1
theorem nar_B {x : Int} (h : isB x) : vp_nar .boolean (Int32.ofInt x) = Int32.ofInt x := by
  rcases h with rfl | rfl <;> rfl
theorem z_bastore {i n : Nat} {x y : Int} (hd : (mT M)[k]? = some (pc, .bastore, 1, t)) (hk : kd i = (11, n)) (kk : Z M uu xw (k + 1) ls st (hup h i y.toNat x) e) : Z M uu xw k ls (vi x :: vi y :: vr i :: st) h (if inb y n ∧ isB x then e else none) := by
  refine Z.guard (P := inb y n ∧ isB x) (fun hin => ?_)
  have hi : i < 76 := kd_lt (c := 11) (by rw [hk]) (by omega)
  refine Z.write (ev := fun ad ca => .inl (ca 1, n, .inl (upd (fun k => Int32.ofInt (h i k)) y.toNat (Int32.ofInt x)))) (by omega) (off_a (c := 1) hk) (fun q => by (rw [hk] at q; cases q)) (fun a => avR_h a) (fun a => avR_t (avR_t (avR_t a))) (fun ad ca => wcell_up (c := 1) hk (by omega)) ?_ kk
  intro p l e s m args below meth c base D ca ad H locs la Q rs C L W0 S _ _ kk
  obtain ⟨o1, -, o3, o4⟩ := okM_at C.1.1 hd
  rw [o4]
  rw [o3 rfl] at kk
  have ry : iR y := avR_h (avR_t rs)
  have hg := wsN_g7 (ad := ad) (ca := ca) (h := h) hi
  rw [wcell_a (c := 1) hk (by omega)] at hg
  refine va_zast C.2.1 C.2.2.1 C.2.2.2.2.2.2.2.2.1 W0.1 W0.2 S i 1 hg rfl (ofI_in ry hin.1) o1 ?_
  rw [ofI_cl ry, nar_B hin.2]
  exact kk
abbrev isC (x : Int) : Prop := 0 ≤ x ∧ x < 65536
theorem nI_of_Int {x : Int} (h : 0 ≤ x) : Int32.ofInt x = nI x.toNat := by
  obtain ⟨n, rfl⟩ := Int.eq_ofNat_of_zero_le h
  rw [Int.toNat_natCast]
  exact Int32.ofInt_eq_ofNat
theorem nar_C {x : Int} (h : isC x) : narrow .char (.int (Int32.ofInt x)) = .int (Int32.ofInt x) := by
  rw [nI_of_Int h.1]
  exact (pk_charN (by omega)).1
theorem z_castore {i n : Nat} {x y : Int} (hd : (mT M)[k]? = some (pc, .castore, 1, t)) (hk : kd i = (12, n)) (kk : Z M uu xw (k + 1) ls st (hup h i y.toNat x) e) : Z M uu xw k ls (vi x :: vi y :: vr i :: st) h (if inb y n ∧ isC x then e else none) := by
  refine Z.guard (P := inb y n ∧ isC x) (fun hin => ?_)
  have hi : i < 76 := kd_lt (c := 12) (by rw [hk]) (by omega)
  refine Z.write (ev := fun ad ca => .inl (ca 2, n, .inl (upd (fun k => Int32.ofInt (h i k)) y.toNat (Int32.ofInt x)))) (by omega) (off_a (c := 2) hk) (fun q => by (rw [hk] at q; cases q)) (fun a => avR_h a) (fun a => avR_t (avR_t (avR_t a))) (fun ad ca => wcell_up (c := 2) hk (by omega)) ?_ kk
  intro p l e s m args below meth c base D ca ad H locs la Q rs C L W0 S _ _ kk
  obtain ⟨o1, -, o3, o4⟩ := okM_at C.1.1 hd
  rw [o4]
  rw [o3 rfl] at kk
  have ry : iR y := avR_h (avR_t rs)
  have hg := wsN_g7 (ad := ad) (ca := ca) (h := h) hi
  rw [wcell_a (c := 2) hk (by omega)] at hg
  refine va_cast C.2.1 C.2.2.1 C.2.2.2.2.2.2.2.2.1 W0.1 W0.2 S i 2 hg rfl (ofI_in ry hin.1) o1 ?_
  have e2 : vp_nar .char (Int32.ofInt x) = Int32.ofInt x := by unfold vp_nar; rw [nar_C hin.2]
  rw [ofI_cl ry, e2]
  exact kk
theorem z_i2c {x : Int} (hd : (mT M)[k]? = some (pc, .i2c, 1, t)) (kk : Z M uu xw (k + 1) ls (vi x :: st) h e) : Z M uu xw k ls (vi x :: st) h (if isC x then e else none) := by
  refine Z.guard (P := isC x) (fun hin => ?_)
  refine Z.pure (fun a b => a) ?_ kk
  intro p l e s m args below meth c base D ca ad H locs la Q a _ C L _ _ _ _ kk
  obtain ⟨o1, -, o3, o4⟩ := okM_at C.1.1 hd
  rw [o4]
  rw [o3 rfl] at kk
  refine lv_i2c C.2.1 C.2.2.1 o1 ?_ kk
  rw [nI_of_Int hin.1, pk_char, pk_tn (by omega), Nat.mod_eq_of_lt (by omega)]
theorem rfo_s {ad : Nat → Nat} {j : Nat} : rfo ad (j : Int) = some (ad j) := by
  unfold rfo
  rw [if_neg (by omega), Int.toNat_natCast]
theorem z_aastore {i n j : Nat} {y : Int} (hd : (mT M)[k]? = some (pc, .aastore, 1, t)) (hk : kd i = (13, n)) (hj : kd j = (1, 0)) (kk : Z M uu xw (k + 1) ls st (hup h i y.toNat (j : Int)) e) : Z M uu xw k ls (vr j :: vi y :: vr i :: st) h (if inb y n then e else none) := by
  refine Z.guard (P := inb y n) (fun hin => ?_)
  have hi : i < 76 := kd_lt (c := 13) (by rw [hk]) (by omega)
  have hj2 : j < 76 := kd_lt (c := 1) (by rw [hj]) (by omega)
  refine Z.write (ev := fun ad ca => .inl (ca 3, n, .inr (.inr (.inr (.inr (va_up (fun k => rfo ad (h i k)) y.toNat (some (ad j)))))))) (by omega) (off_a (c := 3) hk) (fun _ => by omega) (fun a => ⟨by omega, by omega⟩) (fun a => avR_t (avR_t (avR_t a))) (fun ad ca => ?_) ?_ kk
  · rw [wcell_q hk, hup_s]
    congr 7
    funext q
    show (if q = y.toNat then some (ad j) else rfo ad (h i q)) = rfo ad (if q = y.toNat then (j : Int) else h i q)
    split
    · exact rfo_s.symm
    · rfl
  intro p l e s m args below meth c base D ca ad H locs la Q rs C L W0 S _ _ kk
  obtain ⟨o1, -, o3, o4⟩ := okM_at C.1.1 hd
  rw [o4]
  rw [o3 rfl] at kk
  have ry : iR y := avR_h (avR_t rs)
  have hg := wsN_g7 (ad := ad) (ca := ca) (h := h) hi
  rw [wcell_q hk] at hg
  have hg2 := wsN_g7 (ad := ad) (ca := ca) (h := h) hj2
  rw [wcell_o hj (by omega)] at hg2
  refine va_astq C.2.1 C.2.2.1 C.2.2.2.2.2.2.2.2.1 W0.1 W0.2 S i 3 j 1 hg rfl hg2 (r := (RX1, TX1, 5)) rfl (ofI_in ry hin) o1 ?_
  rw [ofI_cl ry]
  exact kk
/-! ends -/
theorem z_ireturn {x : Int} (hd : (mT M)[k]? = some (pc, .ireturn, 1, t)) (hr : mR M = some .int) (hu : uu.ble (mB M) = true := by rfl) (hf : (mF M == 2) = false := by rfl) : Z M uu xw k ls [vi x] h (some (x, h)) := by
  intro a b c d r h' he
  cases he
  refine ⟨⟨fun _ => avR_h c, a, b⟩, ?_⟩
  intro p l e s m args below meth cc base D ca ad H locs la C L W0 S
  obtain ⟨o1, -, -, o4⟩ := okM_at C.1.1 hd
  have hu := Nat.le_of_ble_eq_true hu
  rw [o4, PQ_n hf, QcO_i hr rfl]
  refine W.widen (k := mB M) (n := 12 * mB M) hu (Nat.mul_le_mul_left 12 hu) ?_
  exact W.iret (v := Int32.ofInt x) C.2.1 C.2.2.1 (C.2.2.2.2.1.trans hr) (fun t ht hW => ⟨⟨_, (), rfl, rfl, by show WD base D ca ad h t.heap; rw [ht]; exact W0⟩, S.F ht⟩) S.2.2 o1 C.2.2.2.2.2.1
theorem z_ret {x : Int} {ty : FieldType} (hr : mR M = some ty) (hn : narrow ty (.int (Int32.ofInt x)) = .int (Int32.ofInt x)) (hd : (mT M)[k]? = some (pc, .ireturn, 1, t)) (hl : isL ty = false := by rfl) (hu : uu.ble (mB M) = true := by rfl) (hf : (mF M == 2) = false := by rfl) : Z M uu xw k ls [vi x] h (some (x, h)) := by
  intro a b c d r h' he
  cases he
  refine ⟨⟨fun _ => avR_h c, a, b⟩, ?_⟩
  intro p l e s m args below meth cc base D ca ad H locs la C L W0 S
  obtain ⟨o1, -, -, o4⟩ := okM_at C.1.1 hd
  have hu := Nat.le_of_ble_eq_true hu
  rw [o4, PQ_n hf, QcO_i hr hl]
  refine W.widen (k := mB M) (n := 12 * mB M) hu (Nat.mul_le_mul_left 12 hu) ?_
  exact W.zret (v := Int32.ofInt x) (ty := ty) C.2.1 C.2.2.1 (C.2.2.2.2.1.trans hr) hn (fun t ht hW => ⟨⟨_, (), rfl, rfl, by show WD base D ca ad h t.heap; rw [ht]; exact W0⟩, S.F ht⟩) S.2.2 o1 C.2.2.2.2.2.1
theorem z_lreturn {x : Int64} (hd : (mT M)[k]? = some (pc, .lreturn, 1, t)) (hr : mR M = some .long) (hu : uu.ble (mB M) = true := by rfl) (hf : (mF M == 2) = false := by rfl) : Z M uu xw k ls [vx (.long x)] h (some (x.toInt, h)) := by
  intro a b c d r h' he
  cases he
  refine ⟨⟨fun q => by (rw [hr] at q; cases q), a, b⟩, ?_⟩
  intro p l e s m args below meth cc base D ca ad H locs la C L W0 S
  obtain ⟨o1, -, -, o4⟩ := okM_at C.1.1 hd
  have hu := Nat.le_of_ble_eq_true hu
  rw [o4, PQ_n hf, QcO_l hr]
  refine W.widen (k := mB M) (n := 12 * mB M) hu (Nat.mul_le_mul_left 12 hu) ?_
  exact W.lret (v := x) C.2.1 C.2.2.1 (C.2.2.2.2.1.trans hr) (fun t ht hW => ⟨⟨_, (), rfl, (Int64.ofInt_toInt x).symm, by show WD base D ca ad h t.heap; rw [ht]; exact W0⟩, S.F ht⟩) S.2.2 o1 C.2.2.2.2.2.1
theorem z_zret {x : Int} (hd : (mT M)[k]? = some (pc, .ireturn, 1, t)) (hr : mR M = some .boolean) (hu : uu.ble (mB M) = true := by rfl) (hf : (mF M == 2) = false := by rfl) : Z M uu xw k ls [vi x] h (if isB x then some (x, h) else none) := by
  refine Z.guard (P := isB x) (fun hb => z_ret hr ?_ hd rfl hu hf)
  rcases hb with rfl | rfl <;> rfl
theorem z_zret0 (hd : (mT M)[k]? = some (pc, .ireturn, 1, t)) (hr : mR M = some .boolean) (hu : uu.ble (mB M) = true := by rfl) (hf : (mF M == 2) = false := by rfl) : Z M uu xw k ls [vi 0] h (some (0, h)) := z_ret hr rfl hd rfl hu hf
theorem z_zret1 (hd : (mT M)[k]? = some (pc, .ireturn, 1, t)) (hr : mR M = some .boolean) (hu : uu.ble (mB M) = true := by rfl) (hf : (mF M == 2) = false := by rfl) : Z M uu xw k ls [vi 1] h (some (1, h)) := z_ret hr rfl hd rfl hu hf
theorem z_cret {x : Int} (hd : (mT M)[k]? = some (pc, .ireturn, 1, t)) (hr : mR M = some .char) (hu : uu.ble (mB M) = true := by rfl) (hf : (mF M == 2) = false := by rfl) : Z M uu xw k ls [vi x] h (if isC x then some (x, h) else none) :=
  Z.guard (P := isC x) (fun hb => z_ret hr (nar_C hb) hd rfl hu hf)
theorem z_return (hd : (mT M)[k]? = some (pc, .return_, 1, t)) (hr : mR M = none) (hu : uu.ble (mB M) = true := by rfl) (hf : (mF M == 2) = false := by rfl) : Z M uu xw k ls [] h (some (0, h)) := by
  intro a b c d r h' he
  cases he
  refine ⟨⟨fun _ => iR_0, a, b⟩, ?_⟩
  intro p l e s m args below meth cc base D ca ad H locs la C L W0 S
  obtain ⟨o1, -, -, o4⟩ := okM_at C.1.1 hd
  have hu := Nat.le_of_ble_eq_true hu
  rw [o4, PQ_n hf, QcO_v hr]
  refine W.widen (k := mB M) (n := 12 * mB M) hu (Nat.mul_le_mul_left 12 hu) ?_
  exact W.vret C.2.1 C.2.2.1 (C.2.2.2.2.1.trans hr) (fun t ht hW => ⟨⟨(), rfl, True.intro, by show WD base D ca ad h t.heap; rw [ht]; exact W0⟩, S.F ht⟩) S.2.2 o1 C.2.2.2.2.2.1
/-- cells rounded up -/
theorem Z.up {u2 : Nat} (hu : uu ≤ u2) (z : Z M u2 xw k ls st h e) : Z M uu xw k ls st h e := by
  intro a b c d r h' he
  obtain ⟨z1, z2⟩ := z a b c d r h' he
  refine ⟨z1, ?_⟩
  intro p l e s m args below meth cc base D ca ad H locs la C L W0 S
  exact W.widen hu (Nat.mul_le_mul_left 12 hu) (z2 p l e s m args below meth cc base D ca ad H locs la C L W0 S)
end Steps2
