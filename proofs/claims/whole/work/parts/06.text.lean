/-! the judgement Z: texts, and the methods of the JDK that read them -/
section Steps5
def sCh (w j : Nat) : Int := ((sBy.getD (w - 92) []).getD j 0).toInt
theorem kdT {i n : Nat} (hk : kd i = (31, n)) : 87 ≤ i ∧ i < 92 ∧ n = sLen.getD (i - 87) 0 ∧ kd (i + 5) = (32, n) := by
  have key : ∀ i, i < 97 → (kd i).1 = 31 → 87 ≤ i ∧ i < 92 ∧ (kd i).2 = sLen.getD (i - 87) 0 ∧ kd (i + 5) = (32, (kd i).2) := by decide +kernel
  rcases Nat.lt_or_ge i 97 with q | q
  · have := key i q (by rw [hk])
    rw [hk] at this
    exact this
  · have : kd i = (99, 0) := by
      unfold kd
      rw [List.getD_eq_getElem?_getD, List.getElem?_eq_none (by exact q)]
      rfl
    rw [this] at hk
    cases hk
theorem kdB {i n : Nat} (hk : kd i = (32, n)) : 92 ≤ i ∧ i < 97 ∧ n = sLen.getD (i - 92) 0 ∧ n < 100 := by
  have key : ∀ i, i < 97 → (kd i).1 = 32 → 92 ≤ i ∧ i < 97 ∧ (kd i).2 = sLen.getD (i - 92) 0 ∧ (kd i).2 < 100 := by decide +kernel
  rcases Nat.lt_or_ge i 97 with q | q
  · have := key i q (by rw [hk])
    rw [hk] at this
    exact this
  · have : kd i = (99, 0) := by
      unfold kd
      rw [List.getD_eq_getElem?_getD, List.getElem?_eq_none (by exact q)]
      rfl
    rw [this] at hk
    cases hk
theorem kT_5 {i n : Nat} (hk : kd i = (31, n)) : kd (i + 5) = (32, n) := (kdT hk).2.2.2
variable {M : MI} {k pc t : Nat} {ls : List (Option AV)} {st : List AV} {h : Hp} {e e1 e2 : Option (Int × Hp)}
theorem z_sval {i n ix : Nat} (hk : kd i = (31, n)) (hl : Cond.fieldLink (mO M) ix "java/lang/String" "value" "[B" ∈ lwT) (hd : (mT M)[k]? = some (pc, .getfield ix, 3, t)) (kk : Z M (k + 1) ls (vr (i + 5) :: st) h e) : Z M k ls (vr i :: st) h e := by
  obtain ⟨q1, q2, q3, -⟩ := kdT hk
  refine Z.read (v := vi 0) (fun _ b c => avR_c (v := vr _) True.intro (avR_t c)) ?_ kk
  intro p l e s m args below meth c base D ca ad H locs la Q rs C L W0 S _ _ kk
  obtain ⟨o1, -, o3, o4⟩ := okM_at C.1 hd
  rw [o4]
  rw [o3 rfl] at kk
  have hS := (C.2.2.2.2.2.2.2.2.2.2.2.1.1 (i - 87) (by omega)).2.2.1
  dsimp only at hS
  rw [show 87 + (i - 87) = i by omega, show 92 + (i - 87) = i + 5 by omega] at hS
  exact vk_getf C.2.1 C.2.2.1 hS S C.2.2.2.2.2.2.1 (C.2.2.2.2.2.2.2.1 _ hl) (fun _ q => q) o1 kk
theorem z_scod {i n ix : Nat} (hk : kd i = (31, n)) (hl : Cond.fieldLink (mO M) ix "java/lang/String" "coder" "B" ∈ lwT) (hd : (mT M)[k]? = some (pc, .getfield ix, 3, t)) (kk : Z M (k + 1) ls (vi 0 :: st) h e) : Z M k ls (vr i :: st) h e := by
  obtain ⟨q1, q2, q3, -⟩ := kdT hk
  refine Z.read (v := vi 0) (fun _ b c => avR_i iR_0 (avR_t c)) ?_ kk
  intro p l e s m args below meth c base D ca ad H locs la Q rs C L W0 S _ _ kk
  obtain ⟨o1, -, o3, o4⟩ := okM_at C.1 hd
  rw [o4]
  rw [o3 rfl] at kk
  have hS := (C.2.2.2.2.2.2.2.2.2.2.2.1.1 (i - 87) (by omega)).2.1
  dsimp only at hS
  rw [show 87 + (i - 87) = i by omega] at hS
  exact vk_getf C.2.1 C.2.2.1 hS S C.2.2.2.2.2.2.1 (C.2.2.2.2.2.2.2.1 _ hl) (fun _ q => q) o1 kk
theorem z_blen {i n : Nat} (hk : kd i = (32, n)) (hd : (mT M)[k]? = some (pc, .arraylength, 1, t)) (kk : Z M (k + 1) ls (vi (n : Int) :: st) h e) : Z M k ls (vr i :: st) h e := by
  obtain ⟨q1, q2, q3, q4⟩ := kdB hk
  refine Z.read (v := vi 0) (fun _ b c => avR_i (show iR (n : Int) from ⟨by omega, by omega⟩) (avR_t c)) ?_ kk
  intro p l e s m args below meth c base D ca ad H locs la Q rs C L W0 S _ _ kk
  obtain ⟨o1, -, o3, o4⟩ := okM_at C.1 hd
  rw [o4]
  rw [o3 rfl] at kk
  have hS := (C.2.2.2.2.2.2.2.2.2.2.2.1.1 (i - 92) (by omega)).2.2.2
  dsimp only at hS
  rw [show 92 + (i - 92) = i by omega, ← q3] at hS
  exact va_tlen C.2.1 C.2.2.1 hS S (v := Int32.ofInt (n : Int)) (Int32.ofInt_eq_ofNat).symm o1 kk
theorem sCh_e (w j : Nat) : Int32.ofInt (sCh w j) = (sBy.getD (w - 92) []).getD j 0 := Int32.ofInt_toInt _
theorem z_bald {i n : Nat} {x : Int} (hk : kd i = (32, n)) (hd : (mT M)[k]? = some (pc, .baload, 1, t)) (kk : Z M (k + 1) ls (vi (sCh i x.toNat) :: st) h e) : Z M k ls (vi x :: vr i :: st) h (if inb x n then e else none) := by
  refine Z.guard (P := inb x n) (fun hin => ?_)
  obtain ⟨q1, q2, q3, q4⟩ := kdB hk
  refine Z.read (v := vi 0) (fun _ b c => avR_i (iR_T _) (avR_t (avR_t c))) ?_ kk
  intro p l e s m args below meth c base D ca ad H locs la Q rs C L W0 S _ _ kk
  obtain ⟨o1, -, o3, o4⟩ := okM_at C.1 hd
  rw [o4]
  rw [o3 rfl] at kk
  have rx : iR x := avR_h rs
  have hS := (C.2.2.2.2.2.2.2.2.2.2.2.1.1 (i - 92) (by omega)).2.2.2
  dsimp only at hS
  rw [show 92 + (i - 92) = i by omega, ← q3] at hS
  refine va_tb C.2.1 C.2.2.1 hS S (ofI_in rx hin) rfl o1 ?_
  rw [ofI_cl rx]
  have e1 : (Value.int ((sBy.getD (i - 92) []).getD x.toNat 0)) = mv ad (vi (sCh i x.toNat)) := by
    show _ = Value.int _
    rw [sCh_e]
  show W p l _ (rmM M) s m args below meth c H locs 0 0 Q (F0 m (pc + 1) la (Value.int ((sBy.getD (i - 92) []).getD x.toNat 0) :: st.map (mv ad)))
  rw [e1]
  exact kk
theorem z_comp {ix : Nat} (hl : Cond.fieldLink (mO M) ix "java/lang/String" "COMPACT_STRINGS" "Z" ∈ lwT) (hd : (mT M)[k]? = some (pc, .getstatic ix, 3, t)) (kk : Z M (k + 1) ls (vi 1 :: st) h e) : Z M k ls st h e := by
  refine Z.read (v := vi 0) (fun _ b c => avR_i (show iR 1 from ⟨by omega, by omega⟩) c) ?_ kk
  intro p l e s m args below meth c base D ca ad H locs la Q rs C L W0 S _ _ kk
  obtain ⟨o1, -, o3, o4⟩ := okM_at C.1 hd
  rw [o4]
  rw [o3 rfl] at kk
  exact va_gets C.2.1 C.2.2.1 C.2.2.2.2.2.2.2.2.2.2.2.2.2.1 S C.2.2.2.2.2.2.1 (C.2.2.2.2.2.2.2.1 _ hl) (fun _ q => q) o1 kk
/-- a static that holds a reference or none, nobody knows which -/
theorem z_sioo {ix : Nat} (hl : Cond.fieldLink (mO M) ix "jdk/internal/util/Preconditions" "SIOOBE_FORMATTER" "Ljava/util/function/BiFunction;" ∈ lwT) (hd : (mT M)[k]? = some (pc, .getstatic ix, 3, t)) (kk : ∀ v : Value, v.category = 1 → Z M (k + 1) ls (vx v :: st) h e) : Z M k ls st h e := by
  intro a b c d r h' he
  refine ⟨(kk .null rfl a b (avR_c (v := vx .null) True.intro c) d r h' he).1, ?_⟩
  intro p l e s m args below meth cc base D ca ad H locs la C L W0 S
  obtain ⟨o1, -, o3, o4⟩ := okM_at C.1 hd
  rw [o4]
  have key : ∀ v : Value, v.category = 1 → W p l e (rmM M) s m args below meth cc H locs 0 0 (MQ below (QcO M base D ca ad r h') args s 0 0 (fun q => base ≤ q)) (F0 m (pc + 3) la (v :: st.map (mv ad))) := by
    intro v hv
    have z2 := (kk v hv a b (avR_c (v := vx v) True.intro c) d r h' he).2 p l e s m args below meth cc base D ca ad H locs la C L W0 S
    rw [o3 rfl] at z2
    exact z2
  rcases C.2.2.2.2.2.2.2.2.2.2.2.2.2.2 with hz | ⟨q, hz⟩
  · exact va_gets C.2.1 C.2.2.1 hz S C.2.2.2.2.2.2.1 (C.2.2.2.2.2.2.2.1 _ hl) (fun _ q => q) o1 (key _ rfl)
  · exact va_gets C.2.1 C.2.2.1 hz S C.2.2.2.2.2.2.1 (C.2.2.2.2.2.2.2.1 _ hl) (fun _ q => q) o1 (key _ rfl)
theorem z_xload {j : Fin 4} {v : Value} (hv : True) (hd : (mT M)[k]? = some (pc, .aload_n j, 1, t)) (hl : ls[(j : Nat)]? = some (some (vx v))) (kk : Z M (k + 1) ls (vx v :: st) h e) (hr : ∃ a, v = .ref a) : Z M k ls st h e := by
  obtain ⟨a, rfl⟩ := hr
  refine Z.pure (fun a b => avR_c (b _ _ hl) a) ?_ kk
  intro p l e s m args below meth c base D ca ad H locs la Q _ _ C L _ _ _ _ kk
  obtain ⟨o1, -, o3, o4⟩ := okM_at C.1 hd
  rw [o4]
  rw [o3 rfl] at kk
  exact lv_aload_n C.2.1 C.2.2.1 o1 rfl (lh_at L hl) kk
/-- a number that is shifted by none -/
theorem z_ishr0 {x : Int} (hd : (mT M)[k]? = some (pc, .ishr, 1, t)) (kk : Z M (k + 1) ls (vi x :: st) h e) : Z M k ls (vi 0 :: vi x :: st) h e := by
  refine Z.pure (fun a b => avR_t a) ?_ kk
  intro p l e s m args below meth c base D ca ad H locs la Q _ _ C L _ _ _ _ kk
  obtain ⟨o1, -, o3, o4⟩ := okM_at C.1 hd
  rw [o4]
  rw [o3 rfl] at kk
  refine lv_ishr C.2.1 C.2.2.1 o1 ?_
  rw [show Int32.ofInt 0 = (0 : Int32) from rfl, sb_shr0]
  exact kk
theorem z_ishrG {x y : Int} (hd : (mT M)[k]? = some (pc, .ishr, 1, t)) (kk : Z M (k + 1) ls (vi x :: st) h e) : Z M k ls (vi y :: vi x :: st) h (if y = 0 then e else none) := by
  refine Z.guard (P := y = 0) (fun hy => ?_)
  subst hy
  exact z_ishr0 hd kk
theorem z_iand255 {x : Int} (hd : (mT M)[k]? = some (pc, .iand, 1, t)) (kk : Z M (k + 1) ls (vi x :: st) h e) : Z M k ls (vi 255 :: vi x :: st) h (if 0 ≤ x ∧ x < 256 then e else none) := by
  refine Z.guard (P := 0 ≤ x ∧ x < 256) (fun hin => ?_)
  refine Z.pure (fun a b => avR_t a) ?_ kk
  intro p l e s m args below meth c base D ca ad H locs la Q _ _ C L _ _ _ _ kk
  obtain ⟨o1, -, o3, o4⟩ := okM_at C.1 hd
  rw [o4]
  rw [o3 rfl] at kk
  refine lv_iand C.2.1 C.2.2.1 o1 ?_
  have e1 : Int32.ofInt x &&& Int32.ofInt 255 = Int32.ofInt x := by
    rw [nI_of_Int hin.1, pk_andN (by omega) 8 (by decide), Nat.mod_eq_of_lt (by omega)]
  rw [e1]
  exact kk
/-- a call of a text's own method -/
theorem z_callTi {M' : MI} {ix i n n2 : Nat} {rt : FieldType} {as : List AV} {K : Int → Hp → Option (Int × Hp)} (hd : (mT M)[k]? = some (pc, .invokevirtual ix, 3, t)) (hm : MV (mO M) ix M' n) (hk : kd i = (31, n2)) (hc : (mY M').cls = "java/lang/String") (hr : mR M' = some rt) (hn : as.length = n) (hlow : lowM M M' = true) (hst : ((st.map acat).sum).ble 8 = true)
    (ct : Ct M' (vr i :: as) h e1) (kk : ∀ r1 h1, Z M (k + 1) ls (vi r1 :: st) h1 (K r1 h1)) : Z M k ls (as.reverse ++ vr i :: st) h (bd e1 K) := by
  obtain ⟨t1, t2, t3, -⟩ := kdT hk
  refine Z.call (st2 := fun r => vi r :: st) ct avR_rev (fun q r hr => avR_i hr (fun w hw => q w (List.mem_append_right _ (List.mem_cons_of_mem _ hw)))) ?_ kk
  intro p l e s m args below meth c base D ca ad H locs la Q r1 h1 C L W0 S hM kk
  obtain ⟨o1, -, o3, o4⟩ := okM_at C.1 hd
  rw [o4]
  rw [o3 rfl] at kk
  unfold lowM at hlow
  simp only [Bool.and_eq_true, decide_eq_true_eq] at hlow
  obtain ⟨⟨m1, m2, m3, m4, m5⟩, m6⟩ := hm
  have hq : QcO M' base D ca ad r1 h1 = va_Qi (S := Unit) (fun z _ => z = Int32.ofInt r1) (fun _ t => WD base D ca ad h1 t.heap) (fun q => base ≤ q) := by unfold QcO; rw [hr]
  rw [hq] at hM
  have hG : GoodIn lwT (wsV (mO M) ix "java/lang/String" (mY M') (wsM M')) := by
    intro w hw
    rcases List.mem_append.mp hw with hw | hw
    · simp only [List.mem_cons, List.not_mem_nil, or_false] at hw
      rw [hc] at m3 m4
      rcases hw with rfl | rfl | rfl | rfl
      · exact lwT_G _ m1
      · exact lwT_G _ m2
      · exact lwT_G _ m3
      · exact lwT_G _ m4
    · exact wsM_G m5 w hw
  have e5 : (as.reverse ++ vr i :: st).map (mv ad) = (as.map (mv ad)).reverse ++ .ref (ad i) :: st.map (mv ad) := by simp [mv]
  rw [e5]
  have hrec := vk_recv C.2.2.2.2.2.2.2.2.2.2.2.1 (i := i - 87) (by omega) S
  rw [show 87 + (i - 87) = i by omega] at hrec
  refine va_calli (va_runV (As := as.map (mv ad)) (rest := st.map (mv ad)) ⟨C.2.1, C.2.2.1, C.2.2.2.1, C.2.2.2.2.2.2.1, C.2.2.2.2.2.2.2.1⟩ hM (cwV n C.2.2.2.2.2.2.2.1 hG rfl rfl rfl ⟨hc, m6.1, m6.2.1, m6.2.2⟩ hlow) ⟨PcO_blind, hrec, fun U hU hW => PcO_at rfl C.2.2.2.2.2.2.2.2 W0 S hU hW⟩ rfl (by simp [hn]) L.1 rfl (lv_room (by rw [acat_sum]; exact Nat.le_of_ble_eq_true hst)) o1 ⟨Nat.zero_le _, Nat.zero_le _⟩) S (fun q _ h => h) (fun q h => h) (fun r2 u t H1 locs1 ht hvm hpo hB hz1 hk1 hS1 => ?_)
  subst hpo
  have hB : WD base D ca ad h1 t.heap := hB
  rw [ht] at hB
  exact kk H1 locs1 hB hS1
theorem z_T0i {M' : MI} {ix i n2 : Nat} {rt : FieldType} {K : Int → Hp → Option (Int × Hp)} (hm : MV (mO M) ix M' 0) (hk : kd i = (31, n2)) (ct : Ct M' [vr i] h e1) (hd : (mT M)[k]? = some (pc, .invokevirtual ix, 3, t)) (hc : (mY M').cls = "java/lang/String") (hr : mR M' = some rt) (hlow : lowM M M' = true) (hst : ((st.map acat).sum).ble 8 = true)
    (kk : ∀ r1 h1, Z M (k + 1) ls (vi r1 :: st) h1 (K r1 h1)) : Z M k ls (vr i :: st) h (bd e1 K) := z_callTi (as := []) hd hm hk hc hr rfl hlow hst ct kk
theorem z_T1i {M' : MI} {ix i n2 : Nat} {v1 : AV} {rt : FieldType} {K : Int → Hp → Option (Int × Hp)} (hm : MV (mO M) ix M' 1) (hk : kd i = (31, n2)) (ct : Ct M' [vr i, v1] h e1) (hd : (mT M)[k]? = some (pc, .invokevirtual ix, 3, t)) (hc : (mY M').cls = "java/lang/String") (hr : mR M' = some rt) (hlow : lowM M M' = true) (hst : ((st.map acat).sum).ble 8 = true)
    (kk : ∀ r1 h1, Z M (k + 1) ls (vi r1 :: st) h1 (K r1 h1)) : Z M k ls (v1 :: vr i :: st) h (bd e1 K) := z_callTi (as := [v1]) hd hm hk hc hr rfl hlow hst ct kk
/-- a static call that returns nothing -/
theorem z_S2v {M' : MI} {ix : Nat} {v1 v2 : AV} {K : Int → Hp → Option (Int × Hp)} (hm : MS (mO M) ix M' 2) (ct : Ct M' [v1, v2] h e1) (hd : (mT M)[k]? = some (pc, .invokestatic ix, 3, t)) (hr : mR M' = none) (hlow : lowM M M' = true) (hst : ((st.map acat).sum).ble 8 = true)
    (kk : ∀ r1 h1, Z M (k + 1) ls st h1 (K r1 h1)) : Z M k ls (v2 :: v1 :: st) h (bd e1 K) := by
  refine Z.call (st2 := fun r => st) ct (avR_revS (as := [v1, v2])) (fun q r hr w hw => q w (List.mem_cons_of_mem _ (List.mem_cons_of_mem _ hw))) ?_ kk
  intro p l e s m args below meth c base D ca ad H locs la Q r1 h1 C L W0 S hM kk
  obtain ⟨o1, -, o3, o4⟩ := okM_at C.1 hd
  rw [o4]
  rw [o3 rfl] at kk
  unfold lowM at hlow
  simp only [Bool.and_eq_true, decide_eq_true_eq] at hlow
  obtain ⟨⟨m1, m2, m4, m5⟩, m6⟩ := hm
  have hq : QcO M' base D ca ad r1 h1 = va_Qv (S := Unit) (fun _ => True) (fun _ t => WD base D ca ad h1 t.heap) (fun q => base ≤ q) := by unfold QcO; rw [hr]
  rw [hq] at hM
  have hts := C.2.2.2.2.2.2.2.1
  refine va_callv (va_runS (As := [v1, v2].map (mv ad)) (rest := st.map (mv ad)) ⟨C.2.1, C.2.2.1, C.2.2.2.1, C.2.2.2.2.2.2.1, hts⟩ hM ⟨callB_of 2 hts (wsM_G m5) rfl rfl rfl (hts _ m4) (hts _ m1) m6 hlow, hts _ m2⟩ ⟨PcO_blind, fun U hU hW => PcO_at rfl C.2.2.2.2.2.2.2.2 W0 S hU hW⟩ rfl rfl L.1 rfl (lv_room (by rw [acat_sum]; exact Nat.le_of_ble_eq_true hst)) o1 ⟨Nat.zero_le _, Nat.zero_le _⟩) S (fun q _ h => h) (fun q h => h) (fun u t H1 locs1 ht hvm hpo hB hz1 hk1 hS1 => ?_)
  have hB : WD base D ca ad h1 t.heap := hB
  rw [ht] at hB
  exact kk H1 locs1 hB hS1
/-- the written texts -/
theorem z_ldcS {i ix : Nat} {tx : String} (hd : (mT M)[k]? = some (pc, .ldc ix, 2, t)) (hz : ∀ (ad : Nat → Nat) (s : State) (base : Nat), SF base ad s → vk_R (mO M) ix tx (ad i) s) (kk : Z M (k + 1) ls (vr i :: st) h e) : Z M k ls st h e := by
  refine Z.read (v := vi 0) (fun _ b c => avR_c (v := vr i) True.intro c) ?_ kk
  intro p l e s m args below meth c base D ca ad H locs la Q rs C L W0 S _ _ kk
  obtain ⟨o1, -, o3, o4⟩ := okM_at C.1 hd
  rw [o4]
  rw [o3 rfl] at kk
  exact va_ldcS C.2.1 C.2.2.1 C.2.2.2.2.2.2.1 (hz ad s base C.2.2.2.2.2.2.2.2.2.2) o1 kk
end Steps5
