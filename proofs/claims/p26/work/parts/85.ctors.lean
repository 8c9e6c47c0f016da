/-! the constructors: a world that grows, instruction by instruction -/
section Ctor1
def WN (N base : Nat) (D : va_G) (ca : Nat → ClassId) (ad : Nat → Nat) (h : Hp) (H : Heap) : Prop := va_P D vwCl (wsN N ad ca h) H ∧ va_D (fun q => base ≤ q) (wsN N ad ca h) ∧ H.size = base + N
def AdI (base : Nat) (ad : Nat → Nat) : Prop := ∀ i, i < 76 → ad i = base + i
/-- rows of offices can be made -/
def FS (_ : Nat) (_ : Nat → Nat) (s : State) : Prop := va_AO RX1 s
theorem FS.at {base : Nat} {ad : Nat → Nat} {s U : State} (h : FS base ad s) (hv : s.WarmedH U.vm) (_ : ∀ a : Nat, a < s.heap.size → ¬ base ≤ a → U.heap[a]? = s.heap[a]?) : FS base ad U := va_AO.moved hv.alike h
def QN (N base : Nat) (D : va_G) (ca : Nat → ClassId) (ad : Nat → Nat) (h' : Hp) : Array Value → State → Outcome → State → Prop := va_Qv (S := Unit) (fun _ => True) (fun _ t => WN N base D ca ad h' t.heap) (fun q => base ≤ q)
def PN (N base : Nat) (D : va_G) (ca : Nat → ClassId) (ad : Nat → Nat) (av : List AV) (h : Hp) : Array Value → State → Prop := va_Pc (av.map (mv ad)) (fun U => CX base D ca ad U ∧ FS base ad U ∧ WN N base D ca ad h U.heap)
def rmN (d c sl : Nat) : Room := { frames := d, cells := c, slots := sl, locals := 27 * d }
def CtN (M : MI) (d mc ms i N N' : Nat) (h h' : Hp) : Prop := ∀ (l : Launch) (base : Nat) (D : va_G) (ca : Nat → ClassId) (ad : Nat → Nat), AdI base ad → Met l (mY M) (wsM M) (rmN d mc ms) (PN N base D ca ad [vr i] h) (QN N' base D ca ad h') mc ms (fun q => base ≤ q)
def Y (M : MI) (d mc ms k : Nat) (ls : List (Option AV)) (st : List AV) (N : Nat) (h : Hp) (cn sn N' : Nat) (h' : Hp) : Prop :=
  ∀ (p : Program) (l : Launch) (e : Env) (s : State) (m : MethodId) (args : Array Value) (below : List Frame) (meth : Method) (c : Code) (base : Nat) (D : va_G) (ca : Nat → ClassId) (ad : Nat → Nat) (H : Heap) (locs : List Loc) (la : Array Slot),
    ZC M 0 p s m args meth c base D ca ad → meth.name = "<init>" → AdI base ad → FS base ad s → (base ≤ s.heap.size ∧ s.heap.size + cn = base + N) → LH ad la (mN M) ls → WN N base D ca ad h H → va_S (fun q => base ≤ q) s.heap H locs →
    W p l e (rmN d mc ms) s m args below meth c H locs cn sn (MQ below (QN N' base D ca ad h') args s mc ms (fun q => base ≤ q)) (F0 m (pcO M k) la (st.map (mv ad)))
theorem PN_blind {N base : Nat} {D : va_G} {ca : Nat → ClassId} {ad : Nat → Nat} {av : List AV} {h : Hp} : FrameBlind (PN N base D ca ad av h) := by
  intro a U g mk q
  obtain ⟨q0, q1, q2, q3⟩ := q
  refine ⟨q0, ?_, ?_, q3⟩
  · exact CX.at (U := U.calling g mk a) q1 (State.WarmedH.refl (s := U)) (fun _ _ _ => rfl)
  · exact FS.at (U := U.calling g mk a) q2 (State.WarmedH.refl (s := U)) (fun _ _ _ => rfl)
theorem PN_at {N base : Nat} {D : va_G} {ca : Nat → ClassId} {ad : Nat → Nat} {av : List AV} {h : Hp} {s U : State} {H : Heap} {locs : List Loc} {as : List Value} (has : as = av.map (mv ad)) (hX : CX base D ca ad s) (hF : FS base ad s) (hW : WN N base D ca ad h H) (hS : va_S (fun q => base ≤ q) s.heap H locs) (hU : U.heap = H) (hw : s.WarmedH U.vm) : PN N base D ca ad av h as.toArray U := by
  refine ⟨by rw [has], hX.at hw (fun a q1 q2 => by rw [hU]; exact hS.2.1 a q1 q2), hF.at hw (fun a q1 q2 => by rw [hU]; exact hS.2.1 a q1 q2), by rw [hU]; exact hW⟩
theorem CtN.mk {M : MI} {d mc ms i N N' : Nat} {h h' : Hp} (hok : okM M = true) (hp : plainFor (mY M) = true) (ho : (mY M).cls = mO M) (hnm : (mY M).name = "<init>") (hl : (decide (1 ≤ mN M)) = true) (hf : mF M = 0) (y : Y M d mc ms 0 (some (vr i) :: List.replicate (mN M - 1) none) [] N h 0 0 N' h') : CtN M d mc ms i N N' h h' := by
  simp only [decide_eq_true_eq] at hl
  intro l base D ca ad I
  refine Met.ofWF (cc := mC M) (maxL := mN M) (ret := mR M) hp rfl ?_
  intro p e s m args below meth c s₁ B hml hv
  obtain ⟨rfl, hX, hF, hW⟩ := hv
  have hts := atoms_spec (ws := wsM M) B.pre
  have hown : s.vm.findClass (mO M) = some m.cls := by rw [← ho]; exact findClass_of_methodNamed B.named
  have hin : meth.name = (mY M).name := (name_of_methodNamed B.named B.method).1
  have C : ZC M 0 p s m ([vr i].map (mv ad)).toArray meth c base D ca ad := ⟨⟨hok, fun q => absurd hf q, fun q => by (rw [hf] at q; cases q)⟩, B.exec, B.bytes, hml, B.returns, B.notSynchronized, hown, fun w hw => hts w (List.mem_cons_of_mem _ hw), hX⟩
  have hle := lv_entry ([vr i].map (mv ad)) (n := mN M) (by rw [lsA_len]; exact hl)
  rw [lg_entry_eq]
  generalize (lg_sl ([vr i].map (mv ad)) ++ List.replicate (mN M - (lg_sl ([vr i].map (mv ad))).length) Slot.unset).toArray = la at hle ⊢
  have L : LH ad la (mN M) (some (vr i) :: List.replicate (mN M - 1) none) := by
    refine ⟨hle.1, hle.2.1, fun j v hj => ?_⟩
    cases j with
    | zero =>
      simp at hj
      subst hj
      exact hle.2.2 (0, mv ad (vr i)) List.mem_cons_self
    | succ j =>
      simp [List.getElem?_replicate] at hj
  have hpc : pcO M 0 = 0 := by
    unfold okM at hok
    simp only [Bool.and_eq_true, decide_eq_true_eq] at hok
    exact hok.1
  have z3 := y p l e s m ([vr i].map (mv ad)).toArray below meth c base D ca ad s.heap [] la C (hin.trans hnm) I hF (by rw [hW.2.2]; omega) L hW va_S.rf
  rw [hpc] at z3
  exact z3
/-! the world grows by a cell -/
theorem wsN_push {N : Nat} {ad : Nat → Nat} {ca : Nat → ClassId} {h : Hp} {q : Nat} {e : va_E} (hq : q = ad N) (he : e = wcell ad ca (h N) N) : wsN N ad ca h ++ [(q, e)] = wsN (N + 1) ad ca h := by
  subst hq
  subst he
  unfold wsN
  rw [List.range_succ, List.map_append]
  rfl
def fr (ci : Nat) (h : Hp) (N : Nat) : Prop := ∀ j, j < vw_N ci → h N j = if (off ci j).isSome then -1 else 0
theorem wn_size {N base : Nat} {D : va_G} {ca : Nat → ClassId} {ad : Nat → Nat} {h : Hp} {H : Heap} (I : AdI base ad) (hN : 1 ≤ N ∧ N ≤ 76) (hP : va_P D vwCl (wsN N ad ca h) H) (hs : H.size ≤ base + N) : H.size = base + N := by
  have g := (hP (N - 1) _ (wsN_get (ad := ad) (ca := ca) (h := h) (by omega))).lt
  have e : ad (N - 1) < H.size := g
  rw [I (N - 1) (by omega)] at e
  omega
section W1
variable {p : Program} {l : Launch} {e : Env} {R : Room} {s : State} {m : MethodId} {args : Array Value} {below : List Frame} {meth : Method} {c : Code} {H : Heap} {locs : List Loc} {cells slots : Nat} {Q : State → Prop}
variable {cc : ByteArray} {pc nL : Nat} {la : Array Slot} {rest : List Value} {own : String} {base : Nat} {D : va_G} {ca : Nat → ClassId} {ad : Nat → Nat} {h h2 : Hp} {N N2 : Nat}
theorem W.size {g : JFrame} (kk : H.size ≤ s.heap.size + cells → W p l e R s m args below meth c H locs cells slots Q g) : W p l e R s m args below meth c H locs cells slots Q g := fun T hT X => kk (by
  have z := X.same.2.2.1
  rw [← hT]
  exact z) T hT X
theorem w_new {RR : String} {T : u_T} {ty : Nat → FieldType} {cnt ci ix ix2 d2 mc2 ms2 : Nat} {M2 : MI} (hx : p.tables.exec = Jvm.exec) (hb : c.code = cc) (hml : c.maxLocals = nL) (hown : s.vm.findClass own = some m.cls) (hts : ∀ w ∈ lwT, w.before args s = true) (X : CX base D ca ad s) (F : FS base ad s) (I : AdI base ad) (hbs : base ≤ s.heap.size)
    (ko : KO ci RR T ty cnt) (hk : kd N = (ci, 0)) (hdf : ∀ j, j < cnt → defaultValue (ty j) = (match off ci j with | some _ => Value.null | none => .int 0)) (hf : fr ci h N) (nl : NL own ix RR cnt) (il : IL own ix2 M2) (ct : CtN M2 d2 mc2 ms2 N (N + 1) N2 h h2) (hroom : d2 + 1 ≤ R.frames ∧ 8 + (mN M2 + 11) + 27 * d2 ≤ R.locals) (hc : cells + (1 + mc2) ≤ R.cells ∧ slots + (cnt + ms2) ≤ R.slots)
    (dec1 : decode cc pc = .ok (.new ix, 3)) (dec2 : decode cc (pc + 3) = .ok (.dup, 1)) (dec3 : decode cc (pc + 4) = .ok (.invokespecial ix2, 3)) (W0 : WN N base D ca ad h H) (S : va_S (fun q => base ≤ q) s.heap H locs) (stk : ((Value.ref (ad N) :: rest).map fun v => v.category).sum ≤ 8) (hsize : la.size = nL)
    (kk : ∀ H1 locs1, WN N2 base D ca ad h2 H1 → va_S (fun q => base ≤ q) s.heap H1 locs1 → W p l e R s m args below meth c H1 locs1 (cells + 1 + mc2) (slots + cnt + ms2) Q (F0 m (pc + 7) la (.ref (ad N) :: rest))) : W p l e R s m args below meth c H locs cells slots Q (F0 m pc la rest) := by
  obtain ⟨k1, k2, k3, k4, k5, k6⟩ := ko
  have hi : N < 76 := kd_lt (c := ci) (by rw [hk]) (by omega)
  have hK := X.1
  have hKn := hK.1 ci _ k1
  refine W.newcK hx hb hown (hts _ nl.1) (hts _ nl.2.1) (hts _ nl.2.2) rfl dec1 (by omega) (by omega) hKn.2.1 rfl fun H1 kC hkC e1 z1 o1 => ?_
  have hkp : ∀ (k : Nat) (x : Nat × va_E), (wsN N ad ca h)[k]? = some x → H1[x.1]? = H[x.1]? := fun k x hx => o1 x.1 ((W0.1 k x hx).lt)
  have eN : H.size = ad N := by rw [W0.2.2, I N hi]
  have hfs : ∀ j, j < cnt → defaultValue (ty j) = vp_V (ofl ci ad (h N)) j := fun j hj => by
    rw [hdf j hj]
    have g := ofl_get (c := ci) (ad := ad) (f := h N) (k := j) (by omega)
    unfold vp_V
    rw [List.getD_eq_getElem?_getD, g, hf j (by omega)]
    unfold fvl
    cases off ci j with
    | none => rfl
    | some o => rfl
  have P1 : va_P D vwCl (wsN (N + 1) ad ca h) H1 := by
    rw [← wsN_push (ad := ad) (ca := ca) (h := h) (N := N) eN (wcell_o hk k3).symm]
    refine (W0.1.kept hkp).app (fun k x hx => ?_)
    have hz : k < 1 := (List.getElem?_eq_some_iff.mp hx).1
    rw [show k = 0 by omega] at hx
    cases hx
    exact ⟨_, k1, (u_born ty hts k4 hKn hkC e1 k5).to hfs⟩
  have D1 : va_D (fun q => base ≤ q) (wsN (N + 1) ad ca h) := by
    rw [← wsN_push (ad := ad) (ca := ca) (h := h) (N := N) eN (wcell_o hk k3).symm]
    exact W0.2.1.push W0.1 rfl (by rw [W0.2.2]; omega)
  have S1 : va_S (fun q => base ≤ q) s.heap H1 locs := ⟨Nat.le_trans S.1 (by omega), fun x q1 q2 => (o1 x (Nat.lt_of_lt_of_le q1 S.1)).trans (S.2.1 x q1 q2), S.2.2⟩
  have W1 : WN (N + 1) base D ca ad h H1 := ⟨P1, D1, by rw [z1, W0.2.2]; omega⟩
  rw [eN]
  refine lv_dup hx hb dec2 rfl ?_
  obtain ⟨i1, i2, i3, i4, i5, i6, i7⟩ := il
  have hG : GoodIn lwT (wsM M2) := wsM_G i4
  have pre : PreS s H1 (PN (N + 1) base D ca ad [vr N] h) [Value.ref (ad N)] := ⟨PN_blind, fun U hU hW => PN_at rfl X F W1 S1 hU hW⟩
  have fin : ∀ (u : Unit) (t : State) (H2 : Heap) (locs1 : List Loc), t.heap = H2 → s.vm.Alike t.vm → True → WN N2 base D ca ad h2 t.heap → H1.size ≤ H2.size → (∀ q : Nat, q < H1.size → ¬ base ≤ q → H2[q]? = H1[q]?) → va_S (fun q => base ≤ q) s.heap H2 locs1 → W p l e R s m args below meth c H2 locs1 (cells + 1 + mc2) (slots + cnt + ms2) Q (F0 m (pc + 4 + 3) la (.ref (ad N) :: rest)) := fun u t H2 locs1 ht hvm _ hB _ _ hS2 => by
    rw [ht] at hB
    exact kk H2 locs1 hB hS2
  rcases i1 with i1 | ⟨host, i1⟩
  · exact va_callv (va_runI (As := []) (rest := .ref (ad N) :: rest) ⟨hx, hb, hml, hown, hts⟩ (ct l base D ca ad I) (cwI 0 hts hG (by show wsM M2 = _; unfold wsM; rw [i6]) rfl rfl (hts _ i3) (hts _ i1) (hts _ i2) i5 i7 hroom) pre rfl rfl hsize rfl (lv_room stk) dec3 ⟨by omega, by omega⟩) S1 (fun q _ h => h) (fun q h => h) fin
  · exact va_callv (va_runIN (As := []) (rest := .ref (ad N) :: rest) ⟨hx, hb, hml, hown, hts⟩ (ct l base D ca ad I) ⟨va_cnB 0 hts hG (by show wsM M2 = _; unfold wsM; rw [i6]) rfl rfl (X.2.1 _ i1 rfl) (hts _ i3) i7 hroom, i5, hts _ i2⟩ pre rfl rfl hsize rfl (lv_room stk) dec3 ⟨by omega, by omega⟩) S1 (fun q _ h => h) (fun q h => h) fin
end W1
end Ctor1
