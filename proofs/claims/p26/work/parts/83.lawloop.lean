/-! the law itself: two numbers of the script a round, 42 rounds -/
section LawCell
theorem dc {i pc n t : Nat} {ins : Instr} (hk : (mT M_L_cell)[i]? = some (pc, ins, n, t)) : decode cL_cell pc = .ok (ins, n) := (okM_at ok_L_cell hk).1
theorem m_cell {l : Launch} {b L : Nat} {xs : Nat → Int32} {v : Int} (hv : 0 ≤ v ∧ v ≤ 1000) (hL : L ≤ 1000) :
    Met l (mY M_L_cell) (wsM M_L_cell) (rmM M_L_cell) (va_Pc [Value.ref b, Value.int (Int32.ofInt v)] (fun U => va_X b L xs U U.heap ∧ b < U.heap.size)) (va_Qi (S := Unit) (fun _ _ => True) (fun _ _ => True) (fun _ => False)) 0 0 (fun _ => False) := by
  refine Met.ofWF (cc := mC M_L_cell) (maxL := mN M_L_cell) (ret := mR M_L_cell) pl_L_cell rfl ?_
  intro p e s m args below meth c s₁ B hml hv2
  obtain ⟨rfl, hX, hbl⟩ := hv2
  have hts := atoms_spec (ws := wsM M_L_cell) B.pre
  have hown : s.vm.findClass RL = some m.cls := findClass_of_methodNamed B.named
  have hle := lv_entry ([Value.ref b, Value.int (Int32.ofInt v)]) (n := 2) (Nat.le_of_ble_eq_true rfl)
  rw [lg_entry_eq]
  show W p l e _ s m _ below meth c s.heap [] 0 0 _ (F0 m 0 (lg_sl [Value.ref b, Value.int (Int32.ofInt v)] ++ List.replicate (2 - (lg_sl [Value.ref b, Value.int (Int32.ofInt v)]).length) Slot.unset).toArray [])
  generalize (lg_sl [Value.ref b, Value.int (Int32.ofInt v)] ++ List.replicate (2 - (lg_sl [Value.ref b, Value.int (Int32.ofInt v)]).length) Slot.unset).toArray = la at hle ⊢
  have a0 : la[0]? = some (.val (.ref b)) := hle.2.2 (0, .ref b) List.mem_cons_self
  have a1 : la[1]? = some (.val (.int (Int32.ofInt v))) := hle.2.2 (1, .int (Int32.ofInt v)) (List.mem_cons_of_mem _ List.mem_cons_self)
  have hx := B.exec
  have hb : c.code = cL_cell := B.bytes
  have S0 : va_S (fun _ => False) s.heap s.heap [] := va_S.rf
  have rv : iR v := ⟨by omega, by omega⟩
  have rL : iR (L : Int) := ⟨by omega, by omega⟩
  have ret : ∀ x : Int32, W p l e (headSpec (wsM M_L_cell) (rmM M_L_cell)).room s m [Value.ref b, Value.int (Int32.ofInt v)].toArray below meth c s.heap [] 0 0 (MQ below (va_Qi (S := Unit) (fun _ _ => True) (fun _ _ => True) (fun _ => False)) [Value.ref b, Value.int (Int32.ofInt v)].toArray s 0 0 (fun _ => False)) (F0 m 21 la [.int x]) := fun x =>
    W.iret (v := x) hx hb B.returns (fun t ht hW => ⟨⟨x, (), rfl, True.intro, True.intro⟩, S0.F ht⟩) S0.2.2 (dc (i := 15) rfl) B.notSynchronized
  refine lv_iload_n hx hb (dc (i := 0) rfl) rfl a1 ?_
  refine lv_aload_n hx hb (dc (i := 1) rfl) rfl a0 ?_
  refine va_slen hx hb hX hbl (fun z => z) S0 (dc (i := 2) rfl) ?_
  refine lv_icmp_ge hx hb (dc (i := 3) rfl) (tgt := 12) (by decide) (fun q => ?_) (fun q => ?_)
  · refine lv_ldc hx hb hown (hts _ (List.mem_cons_of_mem _ cst_L_7)) (dc (i := 8) rfl) ?_
    refine lv_iload_n hx hb (dc (i := 9) rfl) rfl a1 ?_
    refine lv_iconst hx hb (dc (i := 10) rfl) rfl ?_
    refine lv_iadd hx hb (dc (i := 11) rfl) ?_
    refine lv_imul hx hb (dc (i := 12) rfl) ?_
    refine lv_ldc hx hb hown (hts _ (List.mem_cons_of_mem _ cst_L_8)) (dc (i := 13) rfl) ?_
    refine lv_iadd hx hb (dc (i := 14) rfl) ?_
    exact ret _
  · refine lv_aload_n hx hb (dc (i := 4) rfl) rfl a0 ?_
    refine lv_iload_n hx hb (dc (i := 5) rfl) rfl a1 ?_
    have q' : ¬ Int32.ofInt (L : Int) ≤ Int32.ofInt v := q
    rw [ofI_le rL rv] at q'
    refine va_sld hx hb hX hbl (fun z => z) S0 (ofI_in rv ⟨hv.1, by omega⟩) (dc (i := 6) rfl) ?_
    refine lv_goto hx hb (dc (i := 7) rfl) (tgt := 21) (by decide) ?_
    exact ret _
end LawCell
section LawLoop
variable {uu k t pc : Nat} {ls : List (Option AV)} {st : List AV} {h : Hp} {e : Option (Int × Hp)}
theorem z_cell {x : Int} (hd : (mT M_L_law)[k]? = some (pc, .invokestatic 110, 3, t)) (hv : 0 ≤ x ∧ x ≤ 1000) (hlow : lowM M_L_law M_L_cell uu 0 = true) (hst : ((st.map acat).sum).ble 8 = true)
    (kk : ∀ y, Z M_L_law uu 0 (k + 1) ls (vi y :: st) h e) : Z M_L_law uu 0 k ls (vi x :: vr 99 :: st) h e := by
  intro a b c d r h' he
  obtain ⟨z1, -⟩ := kk 0 a b (avR_i iR_0 (avR_t (avR_t c))) d r h' he
  refine ⟨z1, ?_⟩
  intro p l e s m args below meth cc base D ca ad H locs la C L W0 S
  obtain ⟨o1, -, o3, o4⟩ := okM_at C.1.1 hd
  rw [o4]
  obtain ⟨hbase, -, hbl, L', xs, hL, hX⟩ := C.1.2.2 rfl
  have hts := C.2.2.2.2.2.2.2.1
  obtain ⟨⟨m1, m2, m4, m5⟩, m6⟩ := ms_L_110
  have hM := m_cell (l := l) (b := ad 99) (L := L') (xs := xs) hv hL
  show W p l e (rmM M_L_law) s m args below meth cc H locs uu (12 * uu) _ (F0 m pc la (.int (Int32.ofInt x) :: .ref (ad 99) :: st.map (mv ad)))
  refine va_calli (va_runS (As := [.ref (ad 99), .int (Int32.ofInt x)]) (rest := st.map (mv ad)) ⟨C.2.1, C.2.2.1, C.2.2.2.1, C.2.2.2.2.2.2.1, hts⟩ hM ⟨callB_of 2 hts (wsM_G m5) rfl rfl rfl (hts _ m4) (hts _ m1) m6 (low_1 hlow), hts _ m2⟩ ⟨?_, ?_⟩ rfl rfl L.1 rfl (lv_room (by rw [acat_sum]; exact Nat.le_of_ble_eq_true hst)) o1 (low_2 hlow)) S (fun q _ z => z.elim) (fun q z => z.elim) (fun r2 u t H1 locs1 ht hvm hpo hB hz1 hk1 hS1 => ?_)
  · intro a U g mk q
    obtain ⟨q0, q1, q2⟩ := q
    exact ⟨q0, va_X.moved (U := U.calling g mk a) (State.WarmedH.refl (s := U)).alike q1, q2⟩
  · intro U hU hW
    refine ⟨rfl, ?_, ?_⟩
    · rw [hU]
      exact (hX.moved hW.alike).kept (S.2.1 _ hbl (by omega))
    · rw [hU]
      exact Nat.lt_of_lt_of_le hbl S.1
  · have z3 := (kk r2.toInt a b (avR_i (iR_T _) (avR_t (avR_t c))) d r h' he).2 p l e s m args below meth cc base D ca ad H1 locs1 la C L ⟨W0.1.kept (fun k x hx => hk1 x.1 ((W0.1 k x hx).lt) id), W0.2⟩ hS1
    rw [o3 rfl, List.map_cons, show mv ad (vi r2.toInt) = .int r2 from by show Value.int (Int32.ofInt r2.toInt) = _; rw [Int32.ofInt_toInt]] at z3
    exact z3
/-- the law's own end -/
theorem z_lend {h0 : Hp} (hu : uu ≤ 600) (l0 : LI h0) (r0 : hR h0) : Z M_L_law uu 0 216 ls [vi 1] h (some (1, h0)) := by
  intro a b c d r h' he
  cases he
  refine ⟨⟨fun _ => ⟨by omega, by omega⟩, l0, r0⟩, ?_⟩
  intro p l e s m args below meth cc base D ca ad H locs la C L W0 S
  obtain ⟨o1, -, -, o4⟩ := okM_at C.1.1 (k := 216) (i := .ireturn) rfl
  rw [o4]
  unfold PQ
  rw [if_pos (show mF M_L_law = 2 from rfl)]
  obtain ⟨hbase, ha, hbl, -⟩ := C.1.2.2 rfl
  subst ha
  refine W.widen (k := 600000) (n := 7302250) (by omega) (by omega) ?_
  refine va_forget (fun q hq => ?_) ?_
  · have := S.2.2 q hq
    rw [hbase] at this
    exact this
  · exact lw_ret (d0 := s.drawn) (Drawn.sameBut.refl s.drawn lw_cs) C.2.1 C.2.2.1 C.2.2.2.2.1 C.2.2.2.2.2.1 o1
abbrev lsW (y2 : Int) (k : Int) : List (Option AV) := [some (vr 99), some (vr 0), some (vi y2), some (vi k), none, none, none, none, none, none]
/-- to go on from here, if the state is one to go on from -/
noncomputable def kP (P : Prop) (h0 : Hp) : Option (Int × Hp) := @ite _ P (Classical.propDecidable P) (some (1, h0)) none
theorem kP_y {P : Prop} {h0 : Hp} (p : P) : kP P h0 = some (1, h0) := by
  unfold kP
  rw [if_pos p]
noncomputable def kG (N B : Int) (h0 : Hp) (y : Int) (h : Hp) : Option (Int × Hp) := kP (y = 1 ∧ Gd N B h) h0
theorem Z.known {P : Prop} {h0 : Hp} (z : P → Z M_L_law uu 0 k ls st h (some (1, h0))) : Z M_L_law uu 0 k ls st h (kP P h0) := by
  rcases Classical.em P with p | p
  · rw [kP_y p]
    exact z p
  · unfold kP
    rw [if_neg p]
    exact Z.nix
theorem law_tail {h0 : Hp} {y3 : Int} (hu : uu ≤ 600) (l0 : LI h0) (r0 : hR h0) : Z M_L_law uu 0 215 (lsW 1 y3) [] h (some (1, h0)) := by
  refine z_iload_n rfl rfl ?_
  exact z_lend hu l0 r0
theorem law_loop {h0 : Hp} (l0 : LI h0) (r0 : hR h0) : ∀ (m k : Nat) (h : Hp), k + m = 42 → Gd (3 * k) k h → Z M_L_law (304 + 6 * k) 0 16 (lsW 1 (k : Int)) [] h (some (1, h0)) := by
  intro m
  induction m with
  | zero =>
    intro k h hk g
    obtain rfl : k = 42 := by omega
    refine z_iload_n rfl rfl ?_
    refine z_bipush rfl rfl ?_
    have z := z_icmp_ge (M := M_L_law) (uu := 304 + 6 * 42) (xw := 0) (k := 18) (t := 215) (o := 369) (x := ((42 : Nat) : Int)) (y := 42) (st := []) (ls := lsW 1 ((42 : Nat) : Int)) (h := h) (e1 := some (1, h0)) (e2 := none) rfl (law_tail (by omega) l0 r0) Z.nix
    rw [if_pos (by omega)] at z
    exact z
  | succ m ih =>
    intro k h hk g
    refine z_iload_n rfl rfl ?_
    refine z_bipush rfl rfl ?_
    have z := z_icmp_ge (M := M_L_law) (uu := 304 + 6 * k) (xw := 0) (k := 18) (t := 215) (o := 369) (x := (k : Int)) (y := 42) (st := []) (ls := lsW 1 (k : Int)) (h := h) (e1 := none) (e2 := some (1, h0)) rfl Z.nix ?_
    · rw [if_neg (by omega)] at z
      exact z
    refine z_iload_n rfl rfl ?_
    have z := z_if_eq (M := M_L_law) (uu := 304 + 6 * k) (xw := 0) (k := 20) (t := 215) (o := 365) (x := 1) (st := []) (ls := lsW 1 (k : Int)) (h := h) (e1 := none) (e2 := some (1, h0)) rfl Z.nix ?_
    · rw [if_neg (by omega)] at z
      exact z
    have lc : lowM M_L_law M_L_cell (304 + 6 * k) 0 = true := lowL (b := 0) rfl rfl (by omega)
    refine z_aload_n rfl rfl ?_
    refine z_iconst rfl rfl ?_
    refine z_iload_n rfl rfl ?_
    refine z_imul rfl ?_
    rw [wr_id (by omega) (by omega)]
    refine z_cell rfl (by omega) lc rfl (fun x4 => ?_)
    refine z_istore rfl rfl ?_
    refine z_aload_n rfl rfl ?_
    refine z_iconst rfl rfl ?_
    refine z_iload_n rfl rfl ?_
    refine z_imul rfl ?_
    refine z_iconst rfl rfl ?_
    refine z_iadd rfl ?_
    rw [wr_id (z := (2 : Int) * (k : Int)) (by omega) (by omega), wr_id (by omega) (by omega)]
    refine z_cell rfl (by omega) lc rfl (fun x5 => ?_)
    refine z_istore rfl rfl ?_
    have hc : ∀ (y2 : Int) (h : Hp), Z M_L_law (304 + 6 * k + 6) 0 213 (lsW y2 (k : Int)) [] h (kG (3 * k + 3) (k + 1) h0 y2 h) := fun y2 h => by
      refine Z.known (fun q => ?_)
      obtain ⟨rfl, q⟩ := q
      refine z_iinc rfl rfl rfl ?_
      refine z_goto rfl ?_
      rw [wr_id (by omega) (by omega)]
      have z := ih (k + 1) h (by omega) (by
        rw [show (3 : Int) * ((k + 1 : Nat) : Int) = 3 * k + 3 by omega, show ((k + 1 : Nat) : Int) = (k : Int) + 1 by omega]
        exact q)
      rw [show 304 + 6 * (k + 1) = 304 + 6 * k + 6 by omega, show ((k + 1 : Nat) : Int) = (k : Int) + 1 by omega] at z
      exact z
    have z := t_L_law_J35 (304 + 6 * k) (by omega) (kG (3 * k + 3) (k + 1) h0) (k : Int) x4 x5 hc h
    obtain ⟨h2, e2, rfl⟩ := l_round (Q := fun h' => h' = h0) (v := 1) (c := kG (3 * k + 3) (k + 1) h0) (u0 := 304 + 6 * k) (x3 := (k : Int)) (x4 := x4) (x5 := x5) (N := 3 * k) (B := k) (by omega) (by omega) g (fun h' g' => ⟨h0, kP_y ⟨rfl, g'⟩, rfl⟩)
    rw [e2] at z
    refine Z.weak ?_ z
    exact wkL_c (wkL_c (wkL_n (wkL_c (wkL_c (wkL_c (wkL_n (wkL_n (wkL_n (wkL_n (wkL_nil _))))))))))
end LawLoop
