/-! the judgement Z: a method out of its body, calls -/
section Steps3
/-- the locals with which a method begins -/
def lsA : List AV → List (Option AV)
  | [] => []
  | v :: r => if acat v = 2 then some v :: none :: lsA r else some v :: lsA r
theorem lsA_args (ad : Nat → Nat) : ∀ (av : List AV) (o i : Nat) (v : AV), (lsA av)[i]? = some (some v) → (o + i, mv ad v) ∈ lv_args o (av.map (mv ad)) ∧ v ∈ av
  | [], o, i, v, h => by simp [lsA] at h
  | w :: r, o, i, v, h => by
    unfold lsA at h
    by_cases hc : acat w = 2
    · rw [if_pos hc] at h
      match i, h with
      | 0, h =>
        simp at h
        subst h
        exact ⟨List.mem_cons_self, List.mem_cons_self⟩
      | 1, h => simp at h
      | i + 2, h =>
        have h1 := lsA_args ad r (o + 2) i v (by simpa using h)
        refine ⟨?_, List.mem_cons_of_mem _ h1.2⟩
        show _ ∈ (o, mv ad w) :: lv_args (if (mv ad w).category = 2 then o + 2 else o + 1) (r.map (mv ad))
        rw [acat_mv, if_pos hc]
        rw [show o + (i + 2) = o + 2 + i by omega]
        exact List.mem_cons_of_mem _ h1.1
    · rw [if_neg hc] at h
      match i, h with
      | 0, h =>
        simp at h
        subst h
        exact ⟨List.mem_cons_self, List.mem_cons_self⟩
      | i + 1, h =>
        have h1 := lsA_args ad r (o + 1) i v (by simpa using h)
        refine ⟨?_, List.mem_cons_of_mem _ h1.2⟩
        show _ ∈ (o, mv ad w) :: lv_args (if (mv ad w).category = 2 then o + 2 else o + 1) (r.map (mv ad))
        rw [acat_mv, if_neg hc]
        rw [show o + (i + 1) = o + 1 + i by omega]
        exact List.mem_cons_of_mem _ h1.1
theorem lsA_len : ∀ (ad : Nat → Nat) (av : List AV), (lg_sl (av.map (mv ad))).length = (lsA av).length
  | ad, [] => rfl
  | ad, v :: r => by
    have h1 := lsA_len ad r
    unfold lsA
    show (lg_sl (mv ad v :: r.map (mv ad))).length = _
    unfold lg_sl at h1 ⊢
    rw [List.flatMap_cons, List.length_append, h1, acat_mv]
    by_cases hc : acat v = 2
    · rw [if_pos hc, if_pos hc]
      simp only [List.length_cons, List.length_nil]
      omega
    · rw [if_neg hc, if_neg hc]
      simp only [List.length_cons, List.length_nil]
      omega
theorem Met.ofWF {l : Launch} {y : MethodName} {ws ws' : List Cond} {rm : Room} {Pc : Array Value → State → Prop} {Qc : Array Value → State → Outcome → State → Prop} {mc ms : Nat} {free : Addr → Prop} {cc : ByteArray} {maxL : Nat} {ret : Option FieldType}
    (hy : plainFor y = true) (hw : ws = Cond.code y cc maxL ret :: ws')
    (body : ∀ p e s m args below meth c s₁, BodyLoose p l y (headSpec ws rm) cc maxL ret e s m args below meth c s₁ → c.maxLocals = maxL → Pc args s →
      W p l e (headSpec ws rm).room s m args below meth c s.heap [] 0 0 (MQ below Qc args s mc ms free) (entryFrame m args maxL)) : Met l y ws rm Pc Qc mc ms free := by
  refine MetFree.of_bodySF (code := cc) (maxLocals := maxL) (ret := ret) hy ?_ ?_
  · intro args s m h hn
    obtain ⟨meth, c, h1, h2, h3, h4, h5, h6, -, -⟩ := Cond.code_spec hn (atoms_spec (ws := ws) h _ (by rw [hw]; exact List.mem_cons_self))
    exact ⟨meth, c, h1, h2, h3, h4, h5, h6⟩
  · intro p e s m args below meth c s₁ B hml hP _
    have hh0 : s₁.heap = s.heap := by rw [B.state]; rfl
    obtain ⟨t, a1, o, b1, b2, b3⟩ := body p e s m args below meth c s₁ B hml hP s₁ hh0 (Stand.of_body B)
    exact ⟨t, o, a1, b1, b2, ⟨b3.1, b3.2⟩⟩
theorem Ct.mk {M : MI} {av : List AV} {h : Hp} {e : Option (Int × Hp)} (hok : okM M = true) (hp : plainFor (mY M) = true) (ho : (mY M).cls = mO M) (hl : (decide ((lsA av).length ≤ mN M)) = true) (z : Z M 0 0 0 (lsA av ++ List.replicate (mN M - (lsA av).length) none) [] h e) (hf : (mF M == 2) = false := by rfl) : Ct M av h e := by
  intro a b c r h' he
  simp only [decide_eq_true_eq] at hl
  have hls : ∀ (i : Nat) (v : AV), (lsA av ++ List.replicate (mN M - (lsA av).length) none)[i]? = some (some v) → (lsA av)[i]? = some (some v) := by
    intro i v hi
    by_cases q : i < (lsA av).length
    · rwa [List.getElem?_append_left q] at hi
    · rw [List.getElem?_append_right (by omega), List.getElem?_replicate] at hi
      split at hi
      · cases hi
      · cases hi
  obtain ⟨z1, z2⟩ := z a b (fun _ q => by cases q) (fun i v hi => c v (lsA_args (fun q => q) av 0 i v (hls i v hi)).2) r h' he
  refine ⟨z1, ?_⟩
  intro l base D ca ad hX0
  refine Met.ofWF (cc := mC M) (maxL := mN M) (ret := mR M) hp rfl ?_
  intro p e s m args below meth c s₁ B hml hv
  obtain ⟨rfl, hX, hW⟩ := hv
  have hts := atoms_spec (ws := wsM M) B.pre
  have hown : s.vm.findClass (mO M) = some m.cls := by rw [← ho]; exact findClass_of_methodNamed B.named
  have C : ZC M 0 p s m (av.map (mv ad)).toArray meth c base D ca ad := ⟨⟨hok, hX0, fun q => by (rw [q] at hf; cases hf)⟩, B.exec, B.bytes, hml, B.returns, B.notSynchronized, hown, fun w hw => hts w (List.mem_cons_of_mem _ hw), hX⟩
  have hle := lv_entry (av.map (mv ad)) (n := mN M) (by rw [lsA_len]; exact hl)
  rw [lg_entry_eq]
  generalize (lg_sl (av.map (mv ad)) ++ List.replicate (mN M - (lg_sl (av.map (mv ad))).length) Slot.unset).toArray = la at hle ⊢
  have L : LH ad la (mN M) (lsA av ++ List.replicate (mN M - (lsA av).length) none) := by
    refine ⟨hle.1, hle.2.1, fun i v hi => ?_⟩
    have h1 := (lsA_args ad av 0 i v (hls i v hi)).1
    rw [Nat.zero_add] at h1
    exact hle.2.2 (i, mv ad v) h1
  have hpc : pcO M 0 = 0 := by
    unfold okM at hok
    simp only [Bool.and_eq_true, decide_eq_true_eq] at hok
    exact hok.1
  have z3 := z2 p l e s m (av.map (mv ad)).toArray below meth c base D ca ad s.heap [] la C L hW va_S.rf
  rw [hpc, PQ_n hf] at z3
  exact z3
/-- an entry of a pool that is a method: of a named kind (virtual), of its own owner or of a nest mate -/
def MV (own : String) (ix : Nat) (M : MI) (n : Nat) : Prop := (((Cond.methodLink own ix (mY M)) ∈ lwT) ∧ (Cond.instanceMethod (mY M)) ∈ lwT ∧ (Cond.selects (mY M).cls (mY M) (mY M)) ∈ lwT ∧ (Cond.initialized (mY M).cls) ∈ lwT ∧ Cond.code (mY M) (mC M) (mN M) (mR M) ∈ lwT) ∧ ((mY M).cls ≠ "java/lang/invoke/MethodHandle" ∧ (mY M).cls ≠ "java/lang/invoke/VarHandle" ∧ (parseMethodDescriptor (mY M).desc).map (fun d => d.parameters.length) = some n)
def MS (own : String) (ix : Nat) (M : MI) (n : Nat) : Prop := (((Cond.methodLink own ix (mY M)) ∈ lwT) ∧ (Cond.static (mY M)) ∈ lwT ∧ (Cond.initialized (mY M).cls) ∈ lwT ∧ Cond.code (mY M) (mC M) (mN M) (mR M) ∈ lwT) ∧ ((mY M).cls ≠ "java/lang/invoke/MethodHandle" ∧ (mY M).cls ≠ "java/lang/invoke/VarHandle" ∧ (parseMethodDescriptor (mY M).desc).map (fun d => d.parameters.length) = some n)
def MSN (own : String) (ix : Nat) (M : MI) (n : Nat) : Prop := (∃ host, ((Cond.methodLinkNest own ix (mY M) host) ∈ lw_tbl)) ∧ ((Cond.static (mY M)) ∈ lwT ∧ (Cond.initialized (mY M).cls) ∈ lwT ∧ Cond.code (mY M) (mC M) (mN M) (mR M) ∈ lwT) ∧ ((mY M).cls ≠ "java/lang/invoke/MethodHandle" ∧ (mY M).cls ≠ "java/lang/invoke/VarHandle" ∧ (parseMethodDescriptor (mY M).desc).map (fun d => d.parameters.length) = some n)
/-- the callee is lower, its locals fit, so do its cells; one of the law's own is called in the law's world alone -/
def lowM (M M' : MI) (uu xw : Nat) : Bool := (decide ((rmM M').frames + 1 ≤ (rmM M).frames) && decide (8 + (mN M' + 11) + (rmM M').locals ≤ (rmM M).locals)) && ((mF M' == 0 || (!(mF M == 0) && xw == 0)) && ((decide (uu + mB M' ≤ (rmM M).cells) && decide (12 * uu + 12 * mB M' ≤ (rmM M).slots)) && (decide ((rmM M').cells = mB M') && decide ((rmM M').slots = 12 * mB M'))))
theorem low_1 {M M' : MI} {uu xw : Nat} (h : lowM M M' uu xw = true) : (rmM M').frames + 1 ≤ (rmM M).frames ∧ 8 + (mN M' + 11) + (rmM M').locals ≤ (rmM M).locals := by
  unfold lowM at h
  simp only [Bool.and_eq_true, decide_eq_true_eq] at h
  exact h.1
theorem low_2 {M M' : MI} {uu xw : Nat} (h : lowM M M' uu xw = true) : uu + mB M' ≤ (rmM M).cells ∧ 12 * uu + 12 * mB M' ≤ (rmM M).slots := by
  unfold lowM at h
  simp only [Bool.and_eq_true, decide_eq_true_eq] at h
  exact h.2.2.1
theorem low_3 {M M' : MI} {uu xw : Nat} (h : lowM M M' uu xw = true) : (rmM M').cells = mB M' ∧ (rmM M').slots = 12 * mB M' := by
  unfold lowM at h
  simp only [Bool.and_eq_true, decide_eq_true_eq] at h
  exact h.2.2.2
theorem low_x {M M' : MI} {uu xw : Nat} {ad : Nat → Nat} (h : lowM M M' uu xw = true) (o : okX M xw ad) : okX M' 0 ad := by
  unfold lowM at h
  simp only [Bool.and_eq_true, decide_eq_true_eq, Bool.or_eq_true, beq_iff_eq, Bool.not_eq_true', beq_eq_false_iff_ne] at h
  intro q
  rcases h.2.1 with z | z
  · exact absurd z q
  · have := o z.1
    rw [z.2] at this
    exact this
theorem wsM_G {M : MI} (h : Cond.code (mY M) (mC M) (mN M) (mR M) ∈ lwT) : GoodIn lwT (wsM M) := fun w hw => by
  rcases List.mem_cons.mp hw with rfl | hw
  · exact lwT_G _ h
  · exact lwT_G _ hw
theorem acat_sum (ad : Nat → Nat) : ∀ (st : List AV), ((st.map (mv ad)).map fun v => v.category).sum = (st.map acat).sum
  | [] => rfl
  | v :: r => by
    have h1 := acat_sum ad r
    simp only [List.map_cons, List.sum_cons, acat_mv, h1]
theorem PcO_blind {M : MI} {base : Nat} {D : va_G} {ca : Nat → ClassId} {ad : Nat → Nat} {av : List AV} {h : Hp} : FrameBlind (PcO M base D ca ad av h) := by
  intro a U g mk q
  obtain ⟨q0, q1, q2⟩ := q
  refine ⟨q0, ?_, q2⟩
  exact CX.at (U := U.calling g mk a) q1 (State.WarmedH.refl (s := U)) (fun _ _ _ => rfl)
theorem PcO_at {M : MI} {base : Nat} {D : va_G} {ca : Nat → ClassId} {ad : Nat → Nat} {av : List AV} {h : Hp} {s U : State} {H : Heap} {locs : List Loc} {as : List Value} (has : as = av.map (mv ad)) (hX : CX base D ca ad s) (hW : WD base D ca ad h H) (hS : va_S (fun q => base ≤ q) s.heap H locs) (hU : U.heap = H) (hw : s.WarmedH U.vm) : PcO M base D ca ad av h as.toArray U := by
  refine ⟨by rw [has], hX.at hw (fun a q1 q2 => by rw [hU]; exact hS.2.1 a q1 q2), by rw [hU]; exact hW⟩
variable {M : MI} {uu xw k pc t : Nat} {ls : List (Option AV)} {st : List AV} {h : Hp} {e e1 e2 : Option (Int × Hp)}
/-- a call, whatever its kind: what is behind it -/
theorem Z.call {M' : MI} {as stk : List AV} {st2 : Int → List AV} {K : Int → Hp → Option (Int × Hp)} {k2 : Nat} (ct : Ct M' as h e1) (has : (∀ v ∈ stk, avR v) → ∀ v ∈ as, avR v) (hst : (∀ v ∈ stk, avR v) → ∀ r, rR M' r → ∀ v ∈ st2 r, avR v) (hlow : lowM M M' uu xw = true)
    (hw : ∀ (p : Program) (l : Launch) (e : Env) (s : State) (m : MethodId) (args : Array Value) (below : List Frame) (meth : Method) (c : Code) (base : Nat) (D : va_G) (ca : Nat → ClassId) (ad : Nat → Nat) (H : Heap) (locs : List Loc) (la : Array Slot) (Q : State → Prop) (r1 : Int) (h1 : Hp),
      ZC M xw p s m args meth c base D ca ad → LH ad la (mN M) ls → WD base D ca ad h H → va_S (fun q => base ≤ q) s.heap H locs →
      Met l (mY M') (wsM M') (rmM M') (PcO M' base D ca ad as h) (QcO M' base D ca ad r1 h1) (mB M') (12 * mB M') (fun q => base ≤ q) →
      (∀ (H1 : Heap) (locs1 : List Loc), WD base D ca ad h1 H1 → va_S (fun q => base ≤ q) s.heap H1 locs1 → W p l e (rmM M) s m args below meth c H1 locs1 (uu + mB M') (12 * uu + 12 * mB M') Q (F0 m (pcO M k2) la ((st2 r1).map (mv ad)))) →
      W p l e (rmM M) s m args below meth c H locs uu (12 * uu) Q (F0 m (pcO M k) la (stk.map (mv ad))))
    (kk : ∀ r1 h1, Z M (uu + mB M') xw k2 ls (st2 r1) h1 (K r1 h1)) : Z M uu xw k ls stk h (bd e1 K) := by
  intro a b c d r h' he
  cases hq : e1 with
  | none =>
    rw [hq] at he
    cases he
  | some q =>
    obtain ⟨r1, h1⟩ := q
    rw [hq] at he
    obtain ⟨⟨c1, c2, c3⟩, c4⟩ := ct a b (has c) r1 h1 hq
    obtain ⟨z1, z2⟩ := kk r1 h1 c2 c3 (hst c r1 c1) d r h' he
    refine ⟨z1, ?_⟩
    intro p l e s m args below meth cc base D ca ad H locs la C L W0 S
    exact hw p l e s m args below meth cc base D ca ad H locs la _ r1 h1 C L W0 S (c4 l base D ca ad (low_x hlow C.1.2.1)) (fun H1 locs1 w1 s1 => by
      have z3 := z2 p l e s m args below meth cc base D ca ad H1 locs1 la C L w1 s1
      rw [Nat.mul_add] at z3
      exact z3)
theorem avR_rev {as st : List AV} {v : AV} (h : ∀ w ∈ as.reverse ++ v :: st, avR w) : ∀ w ∈ v :: as, avR w := by
  intro w hw
  apply h
  rcases List.mem_cons.mp hw with rfl | hw
  · exact List.mem_append_right _ List.mem_cons_self
  · exact List.mem_append_left _ (List.mem_reverse.mpr hw)
theorem kdV {ci i : Nat} {R : String} {T : u_T} {ty : Nat → FieldType} {N : Nat} {base : Nat} {D : va_G} {ca : Nat → ClassId} {ad : Nat → Nat} {h : Hp} {H : Heap} {s : State} (ko : KO ci R T ty N) (hk : kd i = (ci, 0)) (hX : CX base D ca ad s) (hW : WD base D ca ad h H) : ∃ cell : Cell, H[ad i]? = some cell ∧ cell.vm.isStatics = false ∧ s.vm.findClass R = some cell.cls := by
  obtain ⟨k1, k2, k3, -⟩ := ko
  have hi : i < 76 := kd_lt (c := ci) (by rw [hk]) (by omega)
  have hg := wsN_g7 (ad := ad) (ca := ca) (h := h) hi
  rw [wcell_o hk k3] at hg
  exact va_recv hX.1 hW.1 (ci := ci) (q0 := i) k1 hg
theorem z_callVi {M' : MI} {ix ci i n : Nat} {R : String} {T : u_T} {ty : Nat → FieldType} {N : Nat} {rt : FieldType} {as : List AV} {K : Int → Hp → Option (Int × Hp)} (ko : KO ci R T ty N) (hd : (mT M)[k]? = some (pc, .invokevirtual ix, 3, t)) (hm : MV (mO M) ix M' n) (hk : kd i = (ci, 0)) (hc : (mY M').cls = R) (hr : mR M' = some rt) (hl : isL rt = false) (hn : as.length = n) (hlow : lowM M M' uu xw = true) (hst : ((st.map acat).sum).ble 8 = true)
    (ct : Ct M' (vr i :: as) h e1) (kk : ∀ r1 h1, Z M (uu + mB M') xw (k + 1) ls (vi r1 :: st) h1 (K r1 h1)) : Z M uu xw k ls (as.reverse ++ vr i :: st) h (bd e1 K) := by
  refine Z.call (st2 := fun r => vi r :: st) ct avR_rev (fun q r hr2 => avR_i (hr2 (by rw [hr]; exact hl)) (fun w hw => q w (List.mem_append_right _ (List.mem_cons_of_mem _ hw)))) hlow ?_ kk
  intro p l e s m args below meth c base D ca ad H locs la Q r1 h1 C L W0 S hM kk
  obtain ⟨o1, -, o3, o4⟩ := okM_at C.1.1 hd
  rw [o4]
  rw [o3 rfl] at kk
  have hlo := low_1 hlow
  have hlc := low_2 hlow
  have hlr := low_3 hlow
  obtain ⟨⟨m1, m2, m3, m4, m5⟩, m6⟩ := hm
  rw [QcO_i hr hl] at hM
  have hG : GoodIn lwT (wsV (mO M) ix R (mY M') (wsM M')) := by
    intro w hw
    rcases List.mem_append.mp hw with hw | hw
    · simp only [List.mem_cons, List.not_mem_nil, or_false] at hw
      rw [hc] at m3 m4
      rcases hw with rfl | rfl | rfl | rfl
      · exact lwT_G _ m1
      · exact lwT_G _ m2
      · exact lwT_G _ m3
      · exact lwT_G _ m4
    · exact wsM_G m5 w hw
  have e5 : (as.reverse ++ vr i :: st).map (mv ad) = (as.map (mv ad)).reverse ++ .ref (ad i) :: st.map (mv ad) := by simp [mv]
  rw [e5]
  refine va_calli (va_runV (As := as.map (mv ad)) (rest := st.map (mv ad)) ⟨C.2.1, C.2.2.1, C.2.2.2.1, C.2.2.2.2.2.2.1, C.2.2.2.2.2.2.2.1⟩ hM (cwV n C.2.2.2.2.2.2.2.1 hG rfl hlr.1 hlr.2 ⟨hc, m6.1, m6.2.1, m6.2.2⟩ hlo) ⟨PcO_blind, kdV ko hk C.2.2.2.2.2.2.2.2 W0, fun U hU hW => PcO_at rfl C.2.2.2.2.2.2.2.2 W0 S hU hW⟩ rfl (by simp [hn]) L.1 rfl (lv_room (by rw [acat_sum]; exact Nat.le_of_ble_eq_true hst)) o1 hlc) S (fun q _ h => h) (fun q h => h) (fun r2 u t H1 locs1 ht hvm hpo hB hz1 hk1 hS1 => ?_)
  subst hpo
  have hB : WD base D ca ad h1 t.heap := hB
  rw [ht] at hB
  exact kk H1 locs1 hB hS1
theorem z_callVv {M' : MI} {ix ci i n : Nat} {R : String} {T : u_T} {ty : Nat → FieldType} {N : Nat} {as : List AV} {K : Int → Hp → Option (Int × Hp)} (ko : KO ci R T ty N) (hd : (mT M)[k]? = some (pc, .invokevirtual ix, 3, t)) (hm : MV (mO M) ix M' n) (hk : kd i = (ci, 0)) (hc : (mY M').cls = R) (hr : mR M' = none) (hn : as.length = n) (hlow : lowM M M' uu xw = true) (hst : ((st.map acat).sum).ble 8 = true)
    (ct : Ct M' (vr i :: as) h e1) (kk : ∀ r1 h1, Z M (uu + mB M') xw (k + 1) ls st h1 (K r1 h1)) : Z M uu xw k ls (as.reverse ++ vr i :: st) h (bd e1 K) := by
  refine Z.call (st2 := fun r => st) ct avR_rev (fun q r hr w hw => q w (List.mem_append_right _ (List.mem_cons_of_mem _ hw))) hlow ?_ kk
  intro p l e s m args below meth c base D ca ad H locs la Q r1 h1 C L W0 S hM kk
  obtain ⟨o1, -, o3, o4⟩ := okM_at C.1.1 hd
  rw [o4]
  rw [o3 rfl] at kk
  have hlo := low_1 hlow
  have hlc := low_2 hlow
  have hlr := low_3 hlow
  obtain ⟨⟨m1, m2, m3, m4, m5⟩, m6⟩ := hm
  rw [QcO_v hr] at hM
  have hG : GoodIn lwT (wsV (mO M) ix R (mY M') (wsM M')) := by
    intro w hw
    rcases List.mem_append.mp hw with hw | hw
    · simp only [List.mem_cons, List.not_mem_nil, or_false] at hw
      rw [hc] at m3 m4
      rcases hw with rfl | rfl | rfl | rfl
      · exact lwT_G _ m1
      · exact lwT_G _ m2
      · exact lwT_G _ m3
      · exact lwT_G _ m4
    · exact wsM_G m5 w hw
  have e5 : (as.reverse ++ vr i :: st).map (mv ad) = (as.map (mv ad)).reverse ++ .ref (ad i) :: st.map (mv ad) := by simp [mv]
  rw [e5]
  refine va_callv (va_runV (As := as.map (mv ad)) (rest := st.map (mv ad)) ⟨C.2.1, C.2.2.1, C.2.2.2.1, C.2.2.2.2.2.2.1, C.2.2.2.2.2.2.2.1⟩ hM (cwV n C.2.2.2.2.2.2.2.1 hG rfl hlr.1 hlr.2 ⟨hc, m6.1, m6.2.1, m6.2.2⟩ hlo) ⟨PcO_blind, kdV ko hk C.2.2.2.2.2.2.2.2 W0, fun U hU hW => PcO_at rfl C.2.2.2.2.2.2.2.2 W0 S hU hW⟩ rfl (by simp [hn]) L.1 rfl (lv_room (by rw [acat_sum]; exact Nat.le_of_ble_eq_true hst)) o1 hlc) S (fun q _ h => h) (fun q h => h) (fun u t H1 locs1 ht hvm hpo hB hz1 hk1 hS1 => ?_)
  have hB : WD base D ca ad h1 t.heap := hB
  rw [ht] at hB
  exact kk H1 locs1 hB hS1
theorem avR_revS {as st : List AV} (h : ∀ w ∈ as.reverse ++ st, avR w) : ∀ w ∈ as, avR w := fun w hw => h w (List.mem_append_left _ (List.mem_reverse.mpr hw))
/-- a static call, all that return a number -/
theorem z_callSi {M' : MI} {ix n : Nat} {rt : FieldType} {as : List AV} {K : Int → Hp → Option (Int × Hp)} (hd : (mT M)[k]? = some (pc, .invokestatic ix, 3, t)) (hm : MS (mO M) ix M' n) (hr : mR M' = some rt) (hl : isL rt = false) (hn : as.length = n) (hlow : lowM M M' uu xw = true) (hst : ((st.map acat).sum).ble 8 = true)
    (ct : Ct M' as h e1) (kk : ∀ r1 h1, Z M (uu + mB M') xw (k + 1) ls (vi r1 :: st) h1 (K r1 h1)) : Z M uu xw k ls (as.reverse ++ st) h (bd e1 K) := by
  refine Z.call (st2 := fun r => vi r :: st) ct avR_revS (fun q r hr2 => avR_i (hr2 (by rw [hr]; exact hl)) (fun w hw => q w (List.mem_append_right _ hw))) hlow ?_ kk
  intro p l e s m args below meth c base D ca ad H locs la Q r1 h1 C L W0 S hM kk
  obtain ⟨o1, -, o3, o4⟩ := okM_at C.1.1 hd
  rw [o4]
  rw [o3 rfl] at kk
  have hlo := low_1 hlow
  have hlc := low_2 hlow
  have hlr := low_3 hlow
  obtain ⟨⟨m1, m2, m4, m5⟩, m6⟩ := hm
  rw [QcO_i hr hl] at hM
  have e5 : (as.reverse ++ st).map (mv ad) = (as.map (mv ad)).reverse ++ st.map (mv ad) := by simp
  rw [e5]
  have hts := C.2.2.2.2.2.2.2.1
  refine va_calli (va_runS (As := as.map (mv ad)) (rest := st.map (mv ad)) ⟨C.2.1, C.2.2.1, C.2.2.2.1, C.2.2.2.2.2.2.1, hts⟩ hM ⟨callB_of n hts (wsM_G m5) rfl hlr.1 hlr.2 (hts _ m4) (hts _ m1) m6 hlo, hts _ m2⟩ ⟨PcO_blind, fun U hU hW => PcO_at rfl C.2.2.2.2.2.2.2.2 W0 S hU hW⟩ rfl (by simp [hn]) L.1 rfl (lv_room (by rw [acat_sum]; exact Nat.le_of_ble_eq_true hst)) o1 hlc) S (fun q _ h => h) (fun q h => h) (fun r2 u t H1 locs1 ht hvm hpo hB hz1 hk1 hS1 => ?_)
  subst hpo
  have hB : WD base D ca ad h1 t.heap := hB
  rw [ht] at hB
  exact kk H1 locs1 hB hS1
/-- a static call, one that returns a long -/
theorem z_callSl {M' : MI} {ix n : Nat} {as : List AV} {K : Int → Hp → Option (Int × Hp)} (hd : (mT M)[k]? = some (pc, .invokestatic ix, 3, t)) (hm : MS (mO M) ix M' n) (hr : mR M' = some .long) (hn : as.length = n) (hlow : lowM M M' uu xw = true) (hst : ((st.map acat).sum).ble 8 = true)
    (ct : Ct M' as h e1) (kk : ∀ r1 h1, Z M (uu + mB M') xw (k + 1) ls (vx (.long (Int64.ofInt r1)) :: st) h1 (K r1 h1)) : Z M uu xw k ls (as.reverse ++ st) h (bd e1 K) := by
  refine Z.call (st2 := fun r => vx (.long (Int64.ofInt r)) :: st) ct avR_revS (fun q r hr2 => avR_c (v := vx (.long _)) True.intro (fun w hw => q w (List.mem_append_right _ hw))) hlow ?_ kk
  intro p l e s m args below meth c base D ca ad H locs la Q r1 h1 C L W0 S hM kk
  obtain ⟨o1, -, o3, o4⟩ := okM_at C.1.1 hd
  rw [o4]
  rw [o3 rfl] at kk
  have hlo := low_1 hlow
  have hlc := low_2 hlow
  have hlr := low_3 hlow
  obtain ⟨⟨m1, m2, m4, m5⟩, m6⟩ := hm
  rw [QcO_l hr] at hM
  have e5 : (as.reverse ++ st).map (mv ad) = (as.map (mv ad)).reverse ++ st.map (mv ad) := by simp
  rw [e5]
  have hts := C.2.2.2.2.2.2.2.1
  refine va_calll (va_runS (As := as.map (mv ad)) (rest := st.map (mv ad)) ⟨C.2.1, C.2.2.1, C.2.2.2.1, C.2.2.2.2.2.2.1, hts⟩ hM ⟨callB_of n hts (wsM_G m5) rfl hlr.1 hlr.2 (hts _ m4) (hts _ m1) m6 hlo, hts _ m2⟩ ⟨PcO_blind, fun U hU hW => PcO_at rfl C.2.2.2.2.2.2.2.2 W0 S hU hW⟩ rfl (by simp [hn]) L.1 rfl (lv_room (by rw [acat_sum]; exact Nat.le_of_ble_eq_true hst)) o1 hlc) S (fun q _ h => h) (fun q h => h) (fun r2 u t H1 locs1 ht hvm hpo hB hz1 hk1 hS1 => ?_)
  subst hpo
  have hB : WD base D ca ad h1 t.heap := hB
  rw [ht] at hB
  exact kk H1 locs1 hB hS1
theorem z_callNi {M' : MI} {ix n : Nat} {rt : FieldType} {as : List AV} {K : Int → Hp → Option (Int × Hp)} (hd : (mT M)[k]? = some (pc, .invokestatic ix, 3, t)) (hm : MSN (mO M) ix M' n) (hr : mR M' = some rt) (hl : isL rt = false) (hn : as.length = n) (hlow : lowM M M' uu xw = true) (hst : ((st.map acat).sum).ble 8 = true)
    (ct : Ct M' as h e1) (kk : ∀ r1 h1, Z M (uu + mB M') xw (k + 1) ls (vi r1 :: st) h1 (K r1 h1)) : Z M uu xw k ls (as.reverse ++ st) h (bd e1 K) := by
  refine Z.call (st2 := fun r => vi r :: st) ct avR_revS (fun q r hr2 => avR_i (hr2 (by rw [hr]; exact hl)) (fun w hw => q w (List.mem_append_right _ hw))) hlow ?_ kk
  intro p l e s m args below meth c base D ca ad H locs la Q r1 h1 C L W0 S hM kk
  obtain ⟨o1, -, o3, o4⟩ := okM_at C.1.1 hd
  rw [o4]
  rw [o3 rfl] at kk
  have hlo := low_1 hlow
  have hlc := low_2 hlow
  have hlr := low_3 hlow
  obtain ⟨⟨host, m1⟩, ⟨m2, m4, m5⟩, m6⟩ := hm
  rw [QcO_i hr hl] at hM
  have e5 : (as.reverse ++ st).map (mv ad) = (as.map (mv ad)).reverse ++ st.map (mv ad) := by simp
  rw [e5]
  have hts := C.2.2.2.2.2.2.2.1
  refine va_calli (va_runSN (As := as.map (mv ad)) (rest := st.map (mv ad)) ⟨C.2.1, C.2.2.1, C.2.2.2.1, C.2.2.2.2.2.2.1, hts⟩ hM ⟨va_cnB n hts (wsM_G m5) rfl hlr.1 hlr.2 (C.2.2.2.2.2.2.2.2.2.1 _ m1 rfl) (hts _ m4) m6 hlo, hts _ m2, True.intro⟩ ⟨PcO_blind, fun U hU hW => PcO_at rfl C.2.2.2.2.2.2.2.2 W0 S hU hW⟩ rfl (by simp [hn]) L.1 rfl (lv_room (by rw [acat_sum]; exact Nat.le_of_ble_eq_true hst)) o1 hlc) S (fun q _ h => h) (fun q h => h) (fun r2 u t H1 locs1 ht hvm hpo hB hz1 hk1 hS1 => ?_)
  subst hpo
  have hB : WD base D ca ad h1 t.heap := hB
  rw [ht] at hB
  exact kk H1 locs1 hB hS1
end Steps3
