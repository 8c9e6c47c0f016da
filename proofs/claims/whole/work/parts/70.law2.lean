/-! the law's walk: its steps -/
section Law1
def LCx (p : Program) (s : State) (m : MethodId) (meth : Method) (c : Code) (b L : Nat) (xs : Nat → Int32) (base : Nat) (D : va_G) (ca : Nat → ClassId) (ad : Nat → Nat) : Prop :=
  p.tables.exec = Jvm.exec ∧ c.code = code ∧ meth.sig.returnType = ret ∧ c.maxLocals = 4 ∧ s.vm.findClass R_law = some m.cls ∧ (∀ w ∈ lwT, w.before #[Value.ref b] s = true) ∧ CX base D ca ad s ∧ va_X b L xs s s.heap ∧ b < s.heap.size ∧ meth.locks = false ∧ base = s.heap.size
abbrev lsL (b : Nat) (i : Int) : List (Option AV) := [some (vx (.ref b)), some (vr 0), some (vr 76), some (vi i)]
def V (b L : Nat) (xs : Nat → Int32) (pc : Nat) (i : Int) (st : List AV) (h : Hp) : Prop :=
  ∀ (p : Program) (l : Launch) (e : Env) (s : State) (m : MethodId) (below : List Frame) (meth : Method) (c : Code) (base : Nat) (D : va_G) (ca : Nat → ClassId) (ad : Nat → Nat) (H : Heap) (locs : List Loc) (la : Array Slot),
    LCx p s m meth c b L xs base D ca ad → LH ad la 4 (lsL b i) → WD base D ca ad h H → va_S (fun q => base ≤ q) s.heap H locs →
    W p l e room_1 s m #[Value.ref b] below meth c H locs 600000 7302250 (lw_Z below #[Value.ref b] s) (F0 m pc la (st.map (mv ad)))
variable {b L : Nat} {xs : Nat → Int32} {pc : Nat} {i : Int} {st : List AV} {h : Hp}
theorem V.pure {pc2 : Nat} {st2 : List AV} (hw : ∀ (p : Program) (l : Launch) (e : Env) (s : State) (m : MethodId) (below : List Frame) (meth : Method) (c : Code) (base : Nat) (D : va_G) (ca : Nat → ClassId) (ad : Nat → Nat) (H : Heap) (locs : List Loc) (la : Array Slot) (Q : State → Prop),
      LCx p s m meth c b L xs base D ca ad → LH ad la 4 (lsL b i) → va_S (fun q => base ≤ q) s.heap H locs → W p l e room_1 s m #[Value.ref b] below meth c H locs 600000 7302250 Q (F0 m pc2 la (st2.map (mv ad))) → W p l e room_1 s m #[Value.ref b] below meth c H locs 600000 7302250 Q (F0 m pc la (st.map (mv ad))))
    (kk : V b L xs pc2 i st2 h) : V b L xs pc i st h := by
  intro p l e s m below meth c base D ca ad H locs la C LL W0 S
  exact hw p l e s m below meth c base D ca ad H locs la _ C LL S (kk p l e s m below meth c base D ca ad H locs la C LL W0 S)
theorem v_aload0 (hd : decode code pc = .ok (.aload_n 0, 1)) (kk : V b L xs (pc + 1) i (vx (.ref b) :: st) h) : V b L xs pc i st h := by
  refine V.pure ?_ kk
  intro p l e s m below meth c base D ca ad H locs la Q C LL _ kk
  exact lv_aload_n C.1 C.2.1 hd rfl (lh_at LL (i := 0) rfl) kk
theorem v_aload1 (hd : decode code pc = .ok (.aload_n 1, 1)) (kk : V b L xs (pc + 1) i (vr 0 :: st) h) : V b L xs pc i st h := by
  refine V.pure ?_ kk
  intro p l e s m below meth c base D ca ad H locs la Q C LL _ kk
  exact lv_aload_n C.1 C.2.1 hd rfl (lh_at LL (i := 1) rfl) kk
theorem v_aload2 (hd : decode code pc = .ok (.aload_n 2, 1)) (kk : V b L xs (pc + 1) i (vr 76 :: st) h) : V b L xs pc i st h := by
  refine V.pure ?_ kk
  intro p l e s m below meth c base D ca ad H locs la Q C LL _ kk
  exact lv_aload_n C.1 C.2.1 hd rfl (lh_at LL (i := 2) rfl) kk
theorem v_iload3 (hd : decode code pc = .ok (.iload_n 3, 1)) (kk : V b L xs (pc + 1) i (vi i :: st) h) : V b L xs pc i st h := by
  refine V.pure ?_ kk
  intro p l e s m below meth c base D ca ad H locs la Q C LL _ kk
  exact lv_iload_n C.1 C.2.1 hd rfl (lh_at LL (i := 3) rfl) kk
theorem v_iconst {x : Int} (hd : decode code pc = .ok (.iconst x, 1)) (kk : V b L xs (pc + 1) i (vi x :: st) h) : V b L xs pc i st h := by
  refine V.pure ?_ kk
  intro p l e s m below meth c base D ca ad H locs la Q C LL _ kk
  exact lv_iconst C.1 C.2.1 hd rfl kk
theorem v_iadd {x y : Int} (hd : decode code pc = .ok (.iadd, 1)) (kk : V b L xs (pc + 1) i (vi (x + y) :: st) h) : V b L xs pc i (vi y :: vi x :: st) h := by
  refine V.pure ?_ kk
  intro p l e s m below meth c base D ca ad H locs la Q C LL _ kk
  refine lv_iadd C.1 C.2.1 hd ?_
  rw [← Int32.ofInt_add]
  exact kk
theorem v_isub {x y : Int} (hd : decode code pc = .ok (.isub, 1)) (kk : V b L xs (pc + 1) i (vi (x - y) :: st) h) : V b L xs pc i (vi y :: vi x :: st) h := by
  refine V.pure ?_ kk
  intro p l e s m below meth c base D ca ad H locs la Q C LL _ kk
  refine lv_isub C.1 C.2.1 hd ?_
  rw [← Int32.ofInt_sub]
  exact kk
abbrev sx (xs : Nat → Int32) (k : Nat) : Int := (xs k).toInt
theorem sx_R (xs : Nat → Int32) (k : Nat) : iR (sx xs k) := ⟨Int32.le_toInt _, Int32.toInt_lt _⟩
/-- a number of the script -/
theorem v_iaload {k : Nat} (hk : k < L) (hL : L ≤ 2560) (hd : decode code pc = .ok (.iaload, 1)) (kk : V b L xs (pc + 1) i (vi (sx xs k) :: st) h) : V b L xs pc i (vi (k : Int) :: vx (.ref b) :: st) h := by
  refine V.pure ?_ kk
  intro p l e s m below meth c base D ca ad H locs la Q C LL S kk
  have rk : iR (k : Int) := ⟨by omega, by omega⟩
  refine va_sld C.1 C.2.1 C.2.2.2.2.2.2.2.1 C.2.2.2.2.2.2.2.2.1 (by rw [C.2.2.2.2.2.2.2.2.2.2]; have := C.2.2.2.2.2.2.2.2.1; omega) S (ofI_in rk ⟨by omega, by omega⟩) hd ?_
  rw [ofI_cl rk, Int.toNat_natCast]
  have e : mv ad (vi (sx xs k)) = .int (xs k) := by
    show Value.int (Int32.ofInt (xs k).toInt) = _
    rw [Int32.ofInt_toInt]
  rw [List.map_cons, e] at kk
  exact kk
theorem v_arg {i k j : Nat} (hk : i + j = k) (hkL : k < L) (hL : L ≤ 2560) (d1 : decode code pc = .ok (.aload_n 0, 1)) (d2 : decode code (pc + 1) = .ok (.iload_n 3, 1)) (d3 : decode code (pc + 2) = .ok (.iconst (j : Int), 1)) (d4 : decode code (pc + 3) = .ok (.iadd, 1)) (d5 : decode code (pc + 4) = .ok (.iaload, 1)) (kk : V b L xs (pc + 5) (i : Int) (vi (sx xs k) :: st) h) : V b L xs pc (i : Int) st h := by
  refine v_aload0 d1 ?_
  refine v_iload3 d2 ?_
  refine v_iconst d3 ?_
  refine v_iadd d4 ?_
  rw [show (i : Int) + (j : Int) = (k : Int) by omega]
  exact v_iaload hkL hL d5 kk
theorem v_len (hd : decode code pc = .ok (.arraylength, 1)) (kk : V b L xs (pc + 1) i (vi (L : Int) :: st) h) : V b L xs pc i (vx (.ref b) :: st) h := by
  refine V.pure ?_ kk
  intro p l e s m below meth c base D ca ad H locs la Q C LL S kk
  exact va_slen C.1 C.2.1 C.2.2.2.2.2.2.2.1 C.2.2.2.2.2.2.2.2.1 (by rw [C.2.2.2.2.2.2.2.2.2.2]; have := C.2.2.2.2.2.2.2.2.1; omega) S hd kk
theorem v_gt_t {o : Int} {x y : Int} {tg : Nat} (rx : iR x) (ry : iR y) (q : y < x) (hd : decode code pc = .ok (.if_icmp .gt o, 3)) (ho : (pc : Int) + o = (tg : Int)) (kk : V b L xs tg i st h) : V b L xs pc i (vi y :: vi x :: st) h := by
  refine V.pure ?_ kk
  intro p l e s m below meth c base D ca ad H locs la Q C LL _ kk
  exact lv_icmp_gt C.1 C.2.1 hd ho (fun _ => kk) (fun z => by first | exact absurd ((ofI_lt ry rx).mpr q) z | (have := (ofI_le rx ry).mp z; omega))
theorem v_gt_f {o : Int} {x y : Int} {tg : Nat} (rx : iR x) (ry : iR y) (q : ¬ y < x) (hd : decode code pc = .ok (.if_icmp .gt o, 3)) (ho : (pc : Int) + o = (tg : Int)) (kk : V b L xs (pc + 3) i st h) : V b L xs pc i (vi y :: vi x :: st) h := by
  refine V.pure ?_ kk
  intro p l e s m below meth c base D ca ad H locs la Q C LL _ kk
  exact lv_icmp_gt C.1 C.2.1 hd ho (fun z => absurd ((ofI_lt ry rx).mp z) q) (fun _ => kk)
theorem v_eq {o : Int} {x : Int} {tg : Nat} (hd : decode code pc = .ok (.if_icmp .eq o, 3)) (ho : (pc : Int) + o = (tg : Int)) (kk : V b L xs tg i st h) : V b L xs pc i (vi x :: vi x :: st) h := by
  refine V.pure ?_ kk
  intro p l e s m below meth c base D ca ad H locs la Q C LL _ kk
  exact lv_icmp_eq C.1 C.2.1 hd ho (fun _ => kk) (fun z => absurd rfl z)
theorem v_goto {o : Int} {tg : Nat} (hd : decode code pc = .ok (.goto o, 3)) (ho : (pc : Int) + o = (tg : Int)) (kk : V b L xs tg i st h) : V b L xs pc i st h := by
  refine V.pure ?_ kk
  intro p l e s m below meth c base D ca ad H locs la Q C LL _ kk
  exact lv_goto C.1 C.2.1 hd ho kk
theorem v_bipush {x : Int} (hx : -128 ≤ x ∧ x < 128) (hd : decode code pc = .ok (.bipush x, 2)) (kk : V b L xs (pc + 2) i (vi x :: st) h) : V b L xs pc i st h := by
  refine V.pure ?_ kk
  intro p l e s m below meth c base D ca ad H locs la Q C LL _ kk
  exact lv_bipush C.1 C.2.1 hd (i8_of hx.1 hx.2) kk
theorem v_inc (hd : decode code pc = .ok (.iinc 3 5, 3)) (kk : V b L xs (pc + 3) (i + 5) st h) : V b L xs pc i st h := by
  intro p l e s m below meth c base D ca ad H locs la C LL W0 S
  have hm : (3, Value.int (Int32.ofInt i)) ∈ ((List.range (lsL b i).length).filterMap (fun j => match (lsL b i)[j]? with
    | some (some v) => some (j, mv ad v)
    | _ => none)) := List.mem_filterMap.mpr ⟨3, List.mem_range.mpr (show (3 : Nat) < 4 by omega), rfl⟩
  obtain ⟨q, hq⟩ := List.getElem?_of_mem hm
  exact lv_iinc C.1 C.2.1 hd (lh_list LL) hq (by rw [← Int32.ofInt_add]) (by decide) rfl (fun ls' hl' => kk p l e s m below meth c base D ca ad H locs ls' C (lh_set (ls := lsL b i) (i := 3) (v := vi (i + 5)) rfl rfl hl') W0 S)
/-- the end -/
theorem v_end (d1 : decode code pc = .ok (.iconst 1, 1)) (d2 : decode code (pc + 1) = .ok (.ireturn, 1)) : V b L xs pc i [] h := by
  intro p l e s m below meth c base D ca ad H locs la C LL W0 S
  refine lv_iconst (v := 1) C.1 C.2.1 d1 rfl ?_
  refine va_forget (fun q hq => ?_) ?_
  · have := S.2.2 q hq
    rw [C.2.2.2.2.2.2.2.2.2.2] at this
    exact this
  · exact lw_ret (d0 := s.drawn) (Drawn.sameBut.refl s.drawn lw_cs) C.1 C.2.1 C.2.2.1 C.2.2.2.2.2.2.2.2.2.1 d2
theorem v_call {M' : MI} {ix ci q n : Nat} {R : String} {T : u_T} {ty : Nat → FieldType} {cnt : Nat} {rt : FieldType} {as : List AV} {e1 : Option (Int × Hp)} {r : Int} {h1 : Hp} (hm : MV R_law ix M' n) (ko : KO ci R T ty cnt) (hk : kd q = (ci, 0)) (hc : (mY M').cls = R) (hr : mR M' = some rt) (hn : as.length = n) (hlow : (decide (mD M' + 1 ≤ 12) && decide (8 + (mN M' + 11) + 27 * mD M' ≤ 472)) = true) (hst : ((st.map acat).sum).ble 8 = true)
    (ct : Ct M' (vr q :: as) h e1) (he : e1 = some (r, h1)) (hL : LI h) (hh : hR h) (ha : ∀ v ∈ as, avR v) (hd : decode code pc = .ok (.invokevirtual ix, 3)) (kk : iR r → LI h1 → hR h1 → V b L xs (pc + 3) i (vi r :: st) h1) : V b L xs pc i (as.reverse ++ vr q :: st) h := by
  obtain ⟨⟨c1, c2, c3⟩, c4⟩ := ct hL hh (List.forall_mem_cons.mpr ⟨True.intro, ha⟩) r h1 he
  have kk := kk c1 c2 c3
  intro p l e s m below meth c base D ca ad H locs la C LL W0 S
  simp only [Bool.and_eq_true, decide_eq_true_eq] at hlow
  obtain ⟨⟨m1, m2, m3, m4, m5⟩, m6⟩ := hm
  have hM := c4 l base D ca ad
  have hq : QcO M' base D ca ad r h1 = va_Qi (S := Unit) (fun z _ => z = Int32.ofInt r) (fun _ t => WD base D ca ad h1 t.heap) (fun q => base ≤ q) := by unfold QcO; rw [hr]
  rw [hq] at hM
  have hG : GoodIn lwT (wsV R_law ix R (mY M') (wsM M')) := by
    intro w hw
    rcases List.mem_append.mp hw with hw | hw
    · simp only [List.mem_cons, List.not_mem_nil, or_false] at hw
      rw [hc] at m3 m4
      rcases hw with rfl | rfl | rfl | rfl
      · exact lwT_G _ m1
      · exact lwT_G _ m2
      · exact lwT_G _ m3
      · exact lwT_G _ m4
    · exact wsM_G m5 w hw
  have e5 : (as.reverse ++ vr q :: st).map (mv ad) = (as.map (mv ad)).reverse ++ .ref (ad q) :: st.map (mv ad) := by simp [mv]
  have hts := C.2.2.2.2.2.1
  have X := C.2.2.2.2.2.2.1
  rw [e5]
  refine va_calli (va_runV (As := as.map (mv ad)) (rest := st.map (mv ad)) ⟨C.1, C.2.1, C.2.2.2.1, C.2.2.2.2.1, hts⟩ hM (cwV n hts hG rfl rfl rfl ⟨hc, m6.1, m6.2.1, m6.2.2⟩ hlow) ⟨PcO_blind, kdV ko hk X W0, fun U hU hW => PcO_at rfl X W0 S hU hW⟩ rfl (by simp [hn]) LL.1 rfl (lv_room (by rw [acat_sum]; exact Nat.le_of_ble_eq_true hst)) hd ⟨Nat.le_refl _, Nat.le_refl _⟩) S (fun q _ h => h) (fun q h => h) (fun r2 u t H1 locs1 ht hvm hpo hB hz1 hk1 hS1 => ?_)
  subst hpo
  have hB : WD base D ca ad h1 t.heap := hB
  rw [ht] at hB
  exact kk p l e s m below meth c base D ca ad H1 locs1 la C LL hB hS1
/-! a pair of calls -/
theorem Rel.mono {N M : Int} {hC hM : Hp} (R : Rel N hC hM) (h : N ≤ M) : Rel M hC hM := by
  obtain ⟨n, r1, r2, r3, r4, r5, r6, r7, r8⟩ := R
  exact ⟨n, r1, r2, r3, r4, r5, r6.mono h, fun j j1 j2 => ⟨(r7 j j1 j2).1, (r7 j j1 j2).2.mono h⟩, r8⟩
theorem pair {N N' : Int} {fc fm : Hp → Option (Int × Hp)} {h : Hp} (R : Rel N h h) (hN : N' ≤ N + 60) (k : ∀ hM, Rel N h hM → hM 77 = h 77 → Call N N' h hM (fc h) (fm hM)) : ∃ r h1 h2, fc h = some (r, h1) ∧ fm h1 = some (r, h2) ∧ Rel (N + 60) h2 h2 := by
  obtain ⟨r, hC', hM', a, _, _, d, _⟩ := k h R rfl
  have R1 : Rel N h hC' := R.cg (fun _ _ => rfl) (fun x hx => d x hx)
  obtain ⟨r2, hC2, hM2, a2, b2, c2, d2, e2⟩ := k hC' R1 (d 77 (by omega))
  rw [a] at a2
  cases a2
  exact ⟨r, hC', hM2, a, b2, (c2.cg (fun x hx => e2 x hx) (fun _ _ => rfl)).mono hN⟩
end Law1
