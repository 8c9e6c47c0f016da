/-! the whole: from the entry to the end -/
section Start1
theorem entry_SF {args : Array Value} {s : State} (b : Nat) (hts : ∀ w ∈ lw_tbl, w.before args s = true) (hg : ∀ w ∈ flatC cG, w.before args s = true) : ∃ ad : Nat → Nat, AdI s.heap.size ad ∧ SF s.heap.size ad s ∧ ad 99 = b ∧ ad 200 = 0 := by
  have hA : ∀ a : Nat, a < s.heap.size → ¬ s.heap.size ≤ a := fun a h => by omega
  have row : ∀ i, 84 ≤ i → i < 87 → ∃ t : Nat, va_T .int t 7 (fun k => .int (Int32.ofInt (sA i k))) (fun q => s.heap.size ≤ q) s s.heap ∧ va_Z "OddUmbrellas" (sN i) "[I" (.ref t) (fun q => s.heap.size ≤ q) s s.heap := fun i h1 h2 => by
    obtain ⟨m1, m2⟩ := m_row i h2 h1
    obtain ⟨t, e, T⟩ := va_Tof (N := 7) (tm := tRo i) (ty := .int) (f := fun k => .int (Int32.ofInt (sA i k))) (A := fun q => s.heap.size ≤ q) (by decide) (hg _ m1) (eq_int (hg _ m2)) (fun j hj => eq_int (hg _ (m_el i h2 h1 j hj))) hA
    exact ⟨t, T, va_Zof (hts _ (lay_row i h2 h1)) (hts _ (lwN_k1 1 rfl)) e hA⟩
  obtain ⟨t0, T0, Z0⟩ := row 84 (by omega) (by omega)
  obtain ⟨t1, T1, Z1⟩ := row 85 (by omega) (by omega)
  obtain ⟨t2, T2, Z2⟩ := row 86 (by omega) (by omega)
  refine ⟨fun i => if i < 76 then s.heap.size + i else if i = 84 then t0 else if i = 85 then t1 else if i = 86 then t2 else if i = 99 then b else 0, fun i hi => ?_, ⟨fun i h1 h2 => ?_, True.intro⟩, rfl, rfl⟩
  · show (if i < 76 then s.heap.size + i else _) = _
    rw [if_pos hi]
  · rcases (show i = 84 ∨ i = 85 ∨ i = 86 by omega) with rfl | rfl | rfl
    · exact ⟨T0, Z0⟩
    · exact ⟨T1, Z1⟩
    · exact ⟨T2, Z2⟩
/-- from the object to the loop -/
theorem law_head : Z M_L_law 300 0 4 [some (vr 99), some (vr 0), none, none, none, none, none, none, none, none] [] hI (some (1, hI)) := by
  have l0 := LI_I
  have r0 := hR_I
  obtain ⟨h1, e1, R1⟩ := l_hangs (N := 0) (B := 0) (by omega) (by omega) Iv_I St_I
  have k2 : Z M_L_law 302 0 7 [some (vr 99), some (vr 0), none, none, none, none, none, none, none, none] [] h1 (some (1, hI)) := by
    obtain ⟨h2, e2, N2⟩ := l_hands (N := 0) (B := 0) (by omega) (by omega) Iv_I R1
    refine z_aload_n rfl rfl ?_
    have z := z_S1i (M := M_L_law) (uu := 302) (xw := 0) (k := 8) (ls := [some (vr 99), some (vr 0), none, none, none, none, none, none, none, none]) (st := []) (h := h1) (K := fun r h' => kP (r = 1 ∧ Gd 0 0 h') hI) ms_L_107 (t_L_hands h1) rfl rfl rfl (lowL (b := 2) rfl rfl (by omega)) rfl (fun r h' => ?_)
    · rw [e2, bd_s, kP_y ⟨rfl, s00, N2, Iv_I⟩] at z
      exact z
    · refine Z.known (fun q => ?_)
      obtain ⟨rfl, q⟩ := q
      have z := z_if_eq (M := M_L_law) (uu := 304) (xw := 0) (k := 9) (t := 12) (o := 7) (x := 1) (st := []) (ls := [some (vr 99), some (vr 0), none, none, none, none, none, none, none, none]) (h := h') (e1 := none) (e2 := some (1, hI)) rfl Z.nix ?_
      · rw [if_neg (by omega)] at z
        exact z
      refine z_iconst rfl rfl ?_
      refine z_goto rfl ?_
      refine z_istore_n rfl rfl ?_
      refine z_iconst rfl rfl ?_
      refine z_istore_n rfl rfl ?_
      exact law_loop l0 r0 42 0 h' (by omega) q
  refine z_aload_n rfl rfl ?_
  have z := z_S1i (M := M_L_law) (uu := 300) (xw := 0) (k := 5) (ls := [some (vr 99), some (vr 0), none, none, none, none, none, none, none, none]) (st := []) (h := hI) (K := fun r h' => kP (r = 1 ∧ h' = h1) hI) ms_L_96 (t_L_hangs hI) rfl rfl rfl (lowL (b := 2) rfl rfl (by omega)) rfl (fun r h' => ?_)
  · rw [e1, bd_s, kP_y ⟨rfl, rfl⟩] at z
    exact z
  · refine Z.known (fun q => ?_)
    obtain ⟨rfl, rfl⟩ := q
    have z := z_if_eq (M := M_L_law) (uu := 302) (xw := 0) (k := 6) (t := 12) (o := 14) (x := 1) (st := []) (ls := [some (vr 99), some (vr 0), none, none, none, none, none, none, none, none]) (h := h') (e1 := none) (e2 := some (1, hI)) rfl Z.nix k2
    rw [if_neg (by omega)] at z
    exact z
/-- YOUR PART: from the entry, for every script of at most 260 ints, the law comes to its end with true -/
theorem whole_start {p : Program} {e : Env} {s : State} {m : MethodId} {below : List Frame} {meth : Method} {c : Code} (l : Launch) (hflags : l.flags = flags0) {b L : Nat} {xs : Nat → Int32} (hL : L ≤ 260) (C0 : lw_At p s m meth c b L xs) : W p l e room_1 s m #[Value.ref b] below meth c s.heap [] 0 0 (lw_Z below #[Value.ref b] s) (entryFrame m ([Value.ref b] : List Value).toArray 10) := by
  obtain ⟨hx, hb, hr, hml, hown, hts, hX, hbl, hlocks, hgv⟩ := C0
  have htw : ∀ w ∈ lwT, w.before #[Value.ref b] s = true := fun w hw => hts w (List.mem_filter.mp hw).1
  have hN : lwN s := fun w hw hn => va_Nw.of (by cases w <;> first | rfl | cases hn) (hts w hw)
  obtain ⟨D, ca, hK⟩ := entry_K hts
  obtain ⟨ad, I, hSF, a99, a200⟩ := entry_SF b hts (flat_of_before _ hgv)
  have X : CX s.heap.size D ca ad s := ⟨hK, hN, hSF⟩
  have F : FS s.heap.size ad s := va_AO.of (hts _ ar_over)
  have W0 : WN 0 s.heap.size D ca ad hF s.heap := ⟨fun k q hq => by simp [wsN] at hq, ⟨fun i j p q hp => by simp [wsN] at hp, fun k q hq => by simp [wsN] at hq⟩, rfl⟩
  have S0 : va_S (fun q => s.heap.size ≤ q) s.heap s.heap [] := va_S.rf
  have eW : nW ad = 76 := by unfold nW; rw [a200]
  have C : ZC M_L_law 0 p s m #[Value.ref b] meth c s.heap.size D ca ad := ⟨⟨ok_L_law, fun _ => eW, fun _ => ⟨rfl, by rw [a99], by rw [a99]; exact hbl, L, xs, by omega, by rw [a99]; exact hX⟩⟩, hx, hb, hml, hr, hlocks, hown, htw, X⟩
  have hle := lv_entry ([Value.ref b]) (n := 10) (Nat.le_of_ble_eq_true rfl)
  rw [lg_entry_eq]
  generalize (lg_sl ([Value.ref b]) ++ List.replicate (10 - (lg_sl ([Value.ref b])).length) Slot.unset).toArray = la at hle ⊢
  have L0 : LH ad la 10 [some (vr 99), none, none, none, none, none, none, none, none, none] := by
    refine ⟨hle.1, hle.2.1, fun j v hj => ?_⟩
    match j, hj with
    | 0, hj =>
      cases hj
      have z := hle.2.2 (0, .ref b) List.mem_cons_self
      show la[0]? = some (.val (.ref (ad 99)))
      rw [a99]
      exact z
    | 1, hj => cases hj
    | 2, hj => cases hj
    | 3, hj => cases hj
    | 4, hj => cases hj
    | 5, hj => cases hj
    | 6, hj => cases hj
    | 7, hj => cases hj
    | 8, hj => cases hj
    | 9, hj => cases hj
  have dl : ∀ {k pc n t : Nat} {i : Instr}, (mT M_L_law)[k]? = some (pc, i, n, t) → decode code pc = .ok (i, n) := fun hk => (okM_at ok_L_law hk).1
  refine w_new hx hb hml hown htw X F I (Nat.le_refl _) ko4 kd_0 df_4 (fun j _ => ?_) nl_L_17 il_L_106 (ct_X4 (h := hF) (fun _ _ _ => rfl)) (by decide) (by decide) (dl (k := 0) rfl) (dl (k := 1) rfl) (dl (k := 2) rfl) W0 S0 (Nat.le_of_ble_eq_true rfl) L0.1 (fun H1 locs1 W1 S1 => ?_)
  · show hF 0 j = _
    unfold hF
    rw [kd_0]
    rfl
  refine lv_astore_n hx hb (dl (k := 3) rfl) rfl (lh_list L0) (by decide) rfl (fun la1 hl1 => ?_)
  have L1 : LH ad la1 10 [some (vr 99), some (vr 0), none, none, none, none, none, none, none, none] := lh_set (ls := [some (vr 99), none, none, none, none, none, none, none, none, none]) (i := 1) (v := vr 0) rfl rfl hl1
  have hrm : rmM M_L_law = room_1 := rfl
  have z := (law_head LI_I hR_I (fun v q => by cases q) (fun i v q => by
    match i, q with
    | 0, q => cases q; exact True.intro
    | 1, q => cases q; exact True.intro
    | 2, q => cases q
    | 3, q => cases q
    | 4, q => cases q
    | 5, q => cases q
    | 6, q => cases q
    | 7, q => cases q
    | 8, q => cases q
    | 9, q => cases q) 1 hI rfl).2 p l e s m #[Value.ref b] below meth c s.heap.size D ca ad H1 locs1 la1 C L1 (by
      show va_P D vwCl (wsN (nW ad) ad ca hI) H1 ∧ va_D (fun q => s.heap.size ≤ q) (wsN (nW ad) ad ca hI)
      rw [eW]
      exact ⟨W1.1, W1.2.1⟩) S1
  have z2 : W p l e room_1 s m #[Value.ref b] below meth c H1 locs1 300 (12 * 300) (lw_Z below #[Value.ref b] s) (F0 m 8 la1 []) := by
    unfold PQ at z
    rw [if_pos (show mF M_L_law = 2 from rfl)] at z
    exact z
  exact W.widen (k := 300) (n := 12 * 300) (by omega) (by omega) z2
end Start1
