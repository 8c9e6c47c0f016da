/-! the whole: from the entry to the end -/
section Start1
theorem entry_SF {args : Array Value} {s : State} (hts : ∀ w ∈ lw_tbl, w.before args s = true) (hg : ∀ w ∈ flatC cG, w.before args s = true) : ∃ ad : Nat → Nat, AdI s.heap.size ad ∧ SF s.heap.size ad s := by
  have hA : ∀ a : Nat, a < s.heap.size → ¬ s.heap.size ≤ a := fun a h => by omega
  have row : ∀ i, 84 ≤ i → i < 87 → ∃ t : Nat, va_T .int t 7 (fun k => .int (Int32.ofInt (sA i k))) (fun q => s.heap.size ≤ q) s s.heap ∧ va_Z "OddUmbrellas" (sN i) "[I" (.ref t) (fun q => s.heap.size ≤ q) s s.heap := fun i h1 h2 => by
    obtain ⟨m1, m2⟩ := m_row i h2 h1
    obtain ⟨t, e, T⟩ := va_Tof (N := 7) (tm := tRo i) (ty := .int) (f := fun k => .int (Int32.ofInt (sA i k))) (A := fun q => s.heap.size ≤ q) (by decide) (hg _ m1) (eq_int (hg _ m2)) (fun j hj => eq_int (hg _ (m_el i h2 h1 j hj))) hA
    exact ⟨t, T, va_Zof (hts _ (lay_row i h2 h1)) (hts _ (lwN_k1 1 rfl)) e hA⟩
  obtain ⟨t0, T0, Z0⟩ := row 84 (by omega) (by omega)
  obtain ⟨t1, T1, Z1⟩ := row 85 (by omega) (by omega)
  obtain ⟨t2, T2, Z2⟩ := row 86 (by omega) (by omega)
  obtain ⟨adK, adV, S1, S2⟩ := vk_Sof (args := args) (s := s) (N := 5) (tm := tSt) (len := sLen) (byt := sBy) (A := fun q => s.heap.size ≤ q) (by decide) (fun i hi => hg _ (m_st i hi).1) (fun i hi => hg _ (m_st i hi).2.1) (fun i hi => hg _ (m_st i hi).2.2.1) (fun i hi => hg _ (m_st i hi).2.2.2) (fun i hi j hj => hg _ (m_by i hi j hj))
    (fun i j hi hj hn => by
      rcases m_ne i hi j hj hn with z | z
      · exact Or.inl (hg _ z)
      · exact Or.inr (hg _ z)) hA
  refine ⟨fun i => if i < 84 then s.heap.size + i else if i = 84 then t0 else if i = 85 then t1 else if i = 86 then t2 else if i < 92 then adK (i - 87) else adV (i - 92), fun i hi => ?_, fun i h1 h2 => ?_, ⟨fun i hi => ?_, fun i j hi hj e => ?_⟩, ⟨?_, ?_, ?_, ?_, ?_⟩, ?_, ?_⟩
  · show (if i < 84 then s.heap.size + i else _) = _
    rw [if_pos hi]
  · rcases (show i = 84 ∨ i = 85 ∨ i = 86 by omega) with rfl | rfl | rfl
    · exact ⟨T0, Z0⟩
    · exact ⟨T1, Z1⟩
    · exact ⟨T2, Z2⟩
  · have q := S1.1 i hi
    have e1 : (if 87 + i < 84 then s.heap.size + (87 + i) else if 87 + i = 84 then t0 else if 87 + i = 85 then t1 else if 87 + i = 86 then t2 else if 87 + i < 92 then adK (87 + i - 87) else adV (87 + i - 92)) = adK i := by
      rw [if_neg (by omega), if_neg (by omega), if_neg (by omega), if_neg (by omega), if_pos (by omega), show 87 + i - 87 = i by omega]
    have e2 : (if 92 + i < 84 then s.heap.size + (92 + i) else if 92 + i = 84 then t0 else if 92 + i = 85 then t1 else if 92 + i = 86 then t2 else if 92 + i < 92 then adK (92 + i - 87) else adV (92 + i - 92)) = adV i := by
      rw [if_neg (by omega), if_neg (by omega), if_neg (by omega), if_neg (by omega), if_neg (by omega), show 92 + i - 92 = i by omega]
    dsimp only
    rw [e1, e2]
    exact q
  · dsimp only at e
    rw [if_neg (by omega), if_neg (by omega), if_neg (by omega), if_neg (by omega), if_pos (by omega), show 87 + i - 87 = i by omega, if_neg (by omega), if_neg (by omega), if_neg (by omega), if_neg (by omega), if_pos (by omega), show 87 + j - 87 = j by omega] at e
    exact S1.2 i j hi hj e
  · exact vk_R.of (hts _ (lwN_k3 39 rfl)) (S2 0 (by omega))
  · exact vk_R.of (hts _ (lwN_k3 108 rfl)) (S2 1 (by omega))
  · exact vk_R.of (hts _ (lwN_k3 109 rfl)) (S2 2 (by omega))
  · exact vk_R.of (hts _ (lwN_k3 110 rfl)) (S2 3 (by omega))
  · exact vk_R.of (hts _ (lwN_k3 111 rfl)) (S2 4 (by omega))
  · exact va_Zof (hts _ (lwN_k3 53 rfl)) (hts _ (lwN_k1 10 rfl)) (va_eqi (hg _ m_ot.1)) hA
  · exact va_Zqof (hts _ (lwN_k3 69 rfl)) (hts _ (lwN_k1 12 rfl)) (hg _ m_ot.2) hA
/-- YOUR PART: from the entry, for every script of at most 2560 ints, the law comes to its end with true ('hflags': the launch's flags, for a law that throws: no stack traces) -/
theorem whole_start {p : Program} {e : Env} {s : State} {m : MethodId} {below : List Frame} {meth : Method} {c : Code} (l : Launch) (hflags : l.flags = flags0) {b L : Nat} {xs : Nat → Int32} (hL : L ≤ 2560) (C0 : lw_At p s m meth c b L xs) : W p l e room_1 s m #[Value.ref b] below meth c s.heap [] 0 0 (lw_Z below #[Value.ref b] s) (entryFrame m ([Value.ref b] : List Value).toArray 4) := by
  obtain ⟨hx, hb, hr, hml, hown, hts, hX, hbl, hlocks, hgv⟩ := C0
  have htw : ∀ w ∈ lwT, w.before #[Value.ref b] s = true := fun w hw => hts w (List.mem_filter.mp hw).1
  have hN : lwN s := fun w hw hn => va_Nw.of (by cases w <;> first | rfl | cases hn) (hts w hw)
  obtain ⟨D, ca, hK⟩ := entry_K hts
  obtain ⟨ad, I, hSF⟩ := entry_SF hts (flat_of_before _ hgv)
  have X : CX s.heap.size D ca ad s := ⟨hK, hN, hSF⟩
  have F : FS s.heap.size ad s := va_AO.of (hts _ ar_over)
  have W0 : WN 0 s.heap.size D ca ad hF s.heap := ⟨fun k q hq => by simp [wsN] at hq, ⟨fun i j p q hp => by simp [wsN] at hp, fun k q hq => by simp [wsN] at hq⟩, rfl⟩
  have S0 : va_S (fun q => s.heap.size ≤ q) s.heap s.heap [] := va_S.rf
  have C : LCx p s m meth c b L xs s.heap.size D ca ad := ⟨hx, hb, hr, hml, hown, htw, X, hX, hbl, hlocks, rfl⟩
  have hle := lv_entry ([Value.ref b]) (n := 4) (Nat.le_of_ble_eq_true rfl)
  rw [lg_entry_eq]
  generalize (lg_sl ([Value.ref b]) ++ List.replicate (4 - (lg_sl ([Value.ref b])).length) Slot.unset).toArray = la at hle ⊢
  have L0 : LH ad la 4 [some (vx (.ref b)), none, none, none] := by
    refine ⟨hle.1, hle.2.1, fun j v hj => ?_⟩
    match j, hj with
    | 0, hj =>
      cases hj
      exact hle.2.2 (0, .ref b) List.mem_cons_self
    | 1, hj => cases hj
    | 2, hj => cases hj
    | 3, hj => cases hj
  refine w_new hx hb hml hown htw X F I (Nat.le_refl _) ko4 kd_0 df_4 (fun j _ => ?_) nl_L_7 il_L_9 (ct_X4 (h := hF) (fun _ _ _ => rfl)) (by decide) (by decide) dL_0 dL_3 dL_4 W0 S0 (Nat.le_of_ble_eq_true rfl) L0.1 (fun H1 locs1 W1 S1 => ?_)
  · show hF 0 j = _
    unfold hF
    rw [kd_0]
    rfl
  refine lv_astore_n hx hb dL_7 rfl (lh_list L0) (by decide) rfl (fun la1 hl1 => ?_)
  have L1 : LH ad la1 4 [some (vx (.ref b)), some (vr 0), none, none] := lh_set (ls := [some (vx (.ref b)), none, none, none]) (i := 1) (v := vr 0) rfl rfl hl1
  refine w_new (N := 76) hx hb hml hown htw X F I (Nat.le_refl _) ko5 kd_76 df_5 (fun j _ => ?_) nl_L_10 il_L_12 (ct_X5 (h := hCl hF) (fun i h1 h2 => row_Cl (by omega))) (by decide) (by decide) dL_8 dL_11 dL_12 W1 S1 (Nat.le_of_ble_eq_true rfl) L1.1 (fun H2 locs2 W2 S2 => ?_)
  · show hCl hF 76 j = _
    rw [row_Cl (by omega)]
    unfold hF
    rw [kd_76]
    rfl
  refine lv_astore_n hx hb dL_15 rfl (lh_list L1) (by decide) rfl (fun la2 hl2 => ?_)
  have L2 : LH ad la2 4 [some (vx (.ref b)), some (vr 0), some (vr 76), none] := lh_set (ls := [some (vx (.ref b)), some (vr 0), none, none]) (i := 2) (v := vr 76) rfl rfl hl2
  refine lv_iconst (v := 0) hx hb dL_16 rfl ?_
  refine lv_istore_n hx hb dL_17 rfl (lh_list L2) (by decide) rfl (fun la3 hl3 => ?_)
  have L3 : LH ad la3 4 (lsL b ((0 : Nat) : Int)) := lh_set (ls := [some (vx (.ref b)), some (vr 0), some (vr 76), none]) (i := 3) (v := vi ((0 : Nat) : Int)) rfl rfl hl3
  refine W.widen (k := 600000) (n := 7302250) (by decide) (by decide) ?_
  exact law_loop hL 512 0 0 hI (by omega) (by omega) (by omega) (by omega) LI_I hR_I Rel_I p l e s m below meth c s.heap.size D ca ad H2 locs2 la3 C L3 ⟨W2.1, W2.2.1⟩ S2
end Start1
