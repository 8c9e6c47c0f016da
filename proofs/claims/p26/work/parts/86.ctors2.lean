/-! the constructors: the instructions -/
section Ctor2
variable {M : MI} {d mc ms k pc t : Nat} {ls : List (Option AV)} {st : List AV} {N cn sn N' : Nat} {h h' : Hp}
theorem Y.pure {k2 : Nat} {st2 : List AV} (hw : ∀ (p : Program) (l : Launch) (e : Env) (s : State) (m : MethodId) (args : Array Value) (below : List Frame) (meth : Method) (c : Code) (base : Nat) (D : va_G) (ca : Nat → ClassId) (ad : Nat → Nat) (H : Heap) (locs : List Loc) (la : Array Slot) (Q : State → Prop),
      ZC M 0 p s m args meth c base D ca ad → LH ad la (mN M) ls → W p l e (rmN d mc ms) s m args below meth c H locs cn sn Q (F0 m (pcO M k2) la (st2.map (mv ad))) → W p l e (rmN d mc ms) s m args below meth c H locs cn sn Q (F0 m (pcO M k) la (st.map (mv ad))))
    (kk : Y M d mc ms k2 ls st2 N h cn sn N' h') : Y M d mc ms k ls st N h cn sn N' h' := by
  intro p l e s m args below meth c base D ca ad H locs la C hin I F hbs L W0 S
  exact hw p l e s m args below meth c base D ca ad H locs la _ C L (kk p l e s m args below meth c base D ca ad H locs la C hin I F hbs L W0 S)
theorem y_aload {j : _root_.Fin 4} {x : Nat} (hd : (mT M)[k]? = some (pc, .aload_n j, 1, t)) (hl : ls[(j : Nat)]? = some (some (vr x))) (kk : Y M d mc ms (k + 1) ls (vr x :: st) N h cn sn N' h') : Y M d mc ms k ls st N h cn sn N' h' := by
  refine Y.pure ?_ kk
  intro p l e s m args below meth c base D ca ad H locs la Q C L kk
  obtain ⟨o1, -, o3, o4⟩ := okM_at C.1.1 hd
  rw [o4]
  rw [o3 rfl] at kk
  exact lv_aload_n C.2.1 C.2.2.1 o1 rfl (lh_at L hl) kk
theorem y_iload {j : _root_.Fin 4} {x : Int} (hd : (mT M)[k]? = some (pc, .iload_n j, 1, t)) (hl : ls[(j : Nat)]? = some (some (vi x))) (kk : Y M d mc ms (k + 1) ls (vi x :: st) N h cn sn N' h') : Y M d mc ms k ls st N h cn sn N' h' := by
  refine Y.pure ?_ kk
  intro p l e s m args below meth c base D ca ad H locs la Q C L kk
  obtain ⟨o1, -, o3, o4⟩ := okM_at C.1.1 hd
  rw [o4]
  rw [o3 rfl] at kk
  exact lv_iload_n C.2.1 C.2.2.1 o1 rfl (lh_at L hl) kk
theorem y_iconst {x : Int} (hd : (mT M)[k]? = some (pc, .iconst x, 1, t)) (kk : Y M d mc ms (k + 1) ls (vi x :: st) N h cn sn N' h') : Y M d mc ms k ls st N h cn sn N' h' := by
  refine Y.pure ?_ kk
  intro p l e s m args below meth c base D ca ad H locs la Q C L kk
  obtain ⟨o1, -, o3, o4⟩ := okM_at C.1.1 hd
  rw [o4]
  rw [o3 rfl] at kk
  exact lv_iconst C.2.1 C.2.2.1 o1 rfl kk
theorem y_bipush {x : Int} (hd : (mT M)[k]? = some (pc, .bipush x, 2, t)) (hx : -128 ≤ x ∧ x < 128) (kk : Y M d mc ms (k + 1) ls (vi x :: st) N h cn sn N' h') : Y M d mc ms k ls st N h cn sn N' h' := by
  refine Y.pure ?_ kk
  intro p l e s m args below meth c base D ca ad H locs la Q C L kk
  obtain ⟨o1, -, o3, o4⟩ := okM_at C.1.1 hd
  rw [o4]
  rw [o3 rfl] at kk
  exact lv_bipush C.2.1 C.2.2.1 o1 (i8_of hx.1 hx.2) kk
theorem y_sipush {x : Int} (hd : (mT M)[k]? = some (pc, .sipush x, 3, t)) (hx : -32768 ≤ x ∧ x < 32768) (kk : Y M d mc ms (k + 1) ls (vi x :: st) N h cn sn N' h') : Y M d mc ms k ls st N h cn sn N' h' := by
  refine Y.pure ?_ kk
  intro p l e s m args below meth c base D ca ad H locs la Q C L kk
  obtain ⟨o1, -, o3, o4⟩ := okM_at C.1.1 hd
  rw [o4]
  rw [o3 rfl] at kk
  exact lv_sipush C.2.1 C.2.2.1 o1 (i16_of hx.1 hx.2) kk
theorem y_goto {o : Int} (hd : (mT M)[k]? = some (pc, .goto o, 3, t)) (kk : Y M d mc ms t ls st N h cn sn N' h') : Y M d mc ms k ls st N h cn sn N' h' := by
  refine Y.pure ?_ kk
  intro p l e s m args below meth c base D ca ad H locs la Q C L kk
  obtain ⟨o1, o2, o3, o4⟩ := okM_at C.1.1 hd
  rw [o4]
  exact lv_goto C.2.1 C.2.2.1 o1 (of_decide_eq_true o2) kk
theorem y_ge_t {o : Int} {x y : Int} (hd : (mT M)[k]? = some (pc, .if_icmp .ge o, 3, t)) (rx : iR x) (ry : iR y) (q : y ≤ x) (kk : Y M d mc ms t ls st N h cn sn N' h') : Y M d mc ms k ls (vi y :: vi x :: st) N h cn sn N' h' := by
  refine Y.pure ?_ kk
  intro p l e s m args below meth c base D ca ad H locs la Q C L kk
  obtain ⟨o1, o2, o3, o4⟩ := okM_at C.1.1 hd
  rw [o4]
  exact lv_icmp_ge C.2.1 C.2.2.1 o1 (of_decide_eq_true o2) (fun _ => kk) (fun z => absurd q (by first | exact fun z2 => z ((ofI_le ry rx).mpr z2) | (have := (ofI_lt rx ry).mp z; omega)))
theorem y_ge_f {o : Int} {x y : Int} (hd : (mT M)[k]? = some (pc, .if_icmp .ge o, 3, t)) (rx : iR x) (ry : iR y) (q : ¬ y ≤ x) (kk : Y M d mc ms (k + 1) ls st N h cn sn N' h') : Y M d mc ms k ls (vi y :: vi x :: st) N h cn sn N' h' := by
  refine Y.pure ?_ kk
  intro p l e s m args below meth c base D ca ad H locs la Q C L kk
  obtain ⟨o1, o2, o3, o4⟩ := okM_at C.1.1 hd
  rw [o4]
  rw [o3 rfl] at kk
  exact lv_icmp_ge C.2.1 C.2.2.1 o1 (of_decide_eq_true o2) (fun z => absurd ((ofI_le ry rx).mp z) q) (fun _ => kk)
theorem Y.store {k2 j : Nat} {v : AV} {st2 : List AV}
    (hw : ∀ (p : Program) (l : Launch) (e : Env) (s : State) (m : MethodId) (args : Array Value) (below : List Frame) (meth : Method) (c : Code) (base : Nat) (D : va_G) (ca : Nat → ClassId) (ad : Nat → Nat) (H : Heap) (locs : List Loc) (la : Array Slot) (Q : State → Prop),
      ZC M 0 p s m args meth c base D ca ad → LH ad la (mN M) ls →
      (∀ la' : Array Slot, LH ad la' (mN M) (ls.set j (some v)) → W p l e (rmN d mc ms) s m args below meth c H locs cn sn Q (F0 m (pcO M k2) la' (st2.map (mv ad)))) → W p l e (rmN d mc ms) s m args below meth c H locs cn sn Q (F0 m (pcO M k) la (st.map (mv ad))))
    (kk : Y M d mc ms k2 (ls.set j (some v)) st2 N h cn sn N' h') : Y M d mc ms k ls st N h cn sn N' h' := by
  intro p l e s m args below meth c base D ca ad H locs la C hin I F hbs L W0 S
  exact hw p l e s m args below meth c base D ca ad H locs la _ C L (fun la' L' => kk p l e s m args below meth c base D ca ad H locs la' C hin I F hbs L' W0 S)
theorem y_istore {j : _root_.Fin 4} {x : Int} (hd : (mT M)[k]? = some (pc, .istore_n j, 1, t)) (hc : (decide ((j : Nat) < mN M) && !(c2 ls j)) = true) (kk : Y M d mc ms (k + 1) (ls.set j (some (vi x))) st N h cn sn N' h') : Y M d mc ms k ls (vi x :: st) N h cn sn N' h' := by
  simp only [Bool.and_eq_true, decide_eq_true_eq, Bool.not_eq_true'] at hc
  refine Y.store ?_ kk
  intro p l e s m args below meth c base D ca ad H locs la Q C L kk
  obtain ⟨o1, -, o3, o4⟩ := okM_at C.1.1 hd
  rw [o4]
  rw [o3 rfl] at kk
  exact lv_istore_n C.2.1 C.2.2.1 o1 rfl (lh_list L) hc.1 rfl (fun ls' hl => kk ls' (lh_set rfl hc.2 hl))
theorem y_iinc {j : Nat} {n x : Int} (hd : (mT M)[k]? = some (pc, .iinc j n, 3, t)) (hl : ls[j]? = some (some (vi x))) (hc : (decide (j < mN M) && !(c2 ls j)) = true) (kk : Y M d mc ms (k + 1) (ls.set j (some (vi (x + n)))) st N h cn sn N' h') : Y M d mc ms k ls st N h cn sn N' h' := by
  simp only [Bool.and_eq_true, decide_eq_true_eq, Bool.not_eq_true'] at hc
  refine Y.store (v := vi (x + n)) ?_ kk
  intro p l e s m args below meth c base D ca ad H locs la Q C L kk
  obtain ⟨o1, -, o3, o4⟩ := okM_at C.1.1 hd
  rw [o4]
  rw [o3 rfl] at kk
  have hm : (j, Value.int (Int32.ofInt x)) ∈ ((List.range ls.length).filterMap (fun i => match ls[i]? with
    | some (some v) => some (i, mv ad v)
    | _ => none)) := List.mem_filterMap.mpr ⟨j, List.mem_range.mpr (List.getElem?_eq_some_iff.mp hl).1, by rw [hl]; rfl⟩
  obtain ⟨q, hq⟩ := List.getElem?_of_mem hm
  exact lv_iinc C.2.1 C.2.2.1 o1 (lh_list L) hq (by rw [← Int32.ofInt_add]) hc.1 rfl (fun ls' hl' => kk ls' (lh_set rfl hc.2 hl'))
/-- the object's own start -/
theorem y_obj {ix x : Nat} (hd : (mT M)[k]? = some (pc, .invokespecial ix, 3, t)) (ol : OL (mO M) ix) (h1 : 1 ≤ d) (kk : Y M d mc ms (k + 1) ls [] N h cn sn N' h') : Y M d mc ms k ls [vr x] N h cn sn N' h' := by
  refine Y.pure ?_ kk
  intro p l e s m args below meth c base D ca ad H locs la Q C L kk
  obtain ⟨o1, -, o3, o4⟩ := okM_at C.1.1 hd
  rw [o4]
  rw [o3 rfl] at kk
  have hts := C.2.2.2.2.2.2.2.1
  have rm := lv_room (m := m) (pc := pc) (ls := la) (rest := [Value.ref (ad x)]) (st := []) (Nat.zero_le 8)
  refine W.objInit C.2.1 C.2.2.1 C.2.2.2.2.2.2.1 (hts _ ol.1) (hts _ ol.2.1) (hts _ ol.2.2) rfl (L.1.trans C.2.2.2.1.symm) (rest := []) rfl o1 h1 (Nat.le_trans (Nat.add_le_add_right rm 12) ?_) kk
  show 8 + 12 ≤ 27 * d
  omega
theorem y_new {RR : String} {T : u_T} {ty : Nat → FieldType} {cnt ci ix ix2 d2 mc2 ms2 N2 t1 t2 : Nat} {M2 : MI} {h2 : Hp} (ko : KO ci RR T ty cnt) (hdf : ∀ j, j < cnt → defaultValue (ty j) = (match off ci j with | some _ => Value.null | none => .int 0)) (nl : NL (mO M) ix RR cnt) (il : IL (mO M) ix2 M2) (hk : kd N = (ci, 0)) (hf : fr ci h N) (ct : CtN M2 d2 mc2 ms2 N (N + 1) N2 h h2)
    (hd : (mT M)[k]? = some (pc, .new ix, 3, t)) (hd1 : (mT M)[k + 1]? = some (pc + 3, .dup, 1, t1)) (hd2 : (mT M)[k + 2]? = some (pc + 4, .invokespecial ix2, 3, t2)) (hm : mN M2 ≤ 8) (hN2 : N2 = N + 1 + mc2) (hdd : d2 + 1 ≤ d) (hc : cn + (1 + mc2) ≤ mc ∧ sn + (cnt + ms2) ≤ ms) (hst : (st.map acat).sum ≤ 7)
    (kk : Y M d mc ms (k + 3) ls (vr N :: st) N2 h2 (cn + 1 + mc2) (sn + cnt + ms2) N' h') : Y M d mc ms k ls st N h cn sn N' h' := by
  intro p l e s m args below meth c base D ca ad H locs la C hin I F hbs L W0 S
  obtain ⟨o1, -, o3, o4⟩ := okM_at C.1.1 hd
  obtain ⟨p1, -, p3, p4⟩ := okM_at C.1.1 hd1
  obtain ⟨q1, -, q3, q4⟩ := okM_at C.1.1 hd2
  rw [o4]
  refine w_new C.2.1 C.2.2.1 C.2.2.2.1 C.2.2.2.2.2.2.1 C.2.2.2.2.2.2.2.1 C.2.2.2.2.2.2.2.2 F I hbs.1 ko hk hdf hf nl il ct ⟨hdd, by show _ ≤ 27 * d; omega⟩ hc o1 p1 q1 W0 S ?_ L.1 (fun H1 locs1 W1 S1 => ?_)
  · rw [List.map_cons, List.sum_cons, acat_sum]
    show 1 + _ ≤ 8
    omega
  · have z := kk p l e s m args below meth c base D ca ad H1 locs1 la C hin I F ⟨hbs.1, by omega⟩ L W1 S1
    rw [show k + 3 = k + 2 + 1 by omega, q3 rfl] at z
    exact z
/-- a field of the object itself, final or not -/
theorem y_put {ix ci f i : Nat} {v : AV} {x : Int} {tf : FieldType} (hd : (mT M)[k]? = some (pc, .putfield ix, 3, t)) (hl : PF (mO M) ix ci f tf) (hk : kd i = (ci, 0)) (hi : i < N) (hN : N ≤ 76) (hv : ∀ ad, mv ad v = fvl ci f ad x) (hn : ∀ ad, narrow tf (mv ad v) = mv ad v ∧ fits tf (mv ad v) = true) (kk : Y M d mc ms (k + 1) ls st N (hup h i f x) cn sn N' h') : Y M d mc ms k ls (v :: vr i :: st) N h cn sn N' h' := by
  intro p l e s m args below meth c base D ca ad H locs la C hin I F hbs L W0 S
  obtain ⟨R, T, ty, cnt, ⟨k1, k2, k3, k4, k5, k6⟩, hf, hty, hn1, hfin⟩ := hl
  obtain ⟨o1, -, o3, o4⟩ := okM_at C.1.1 hd
  rw [o4]
  have hg := wsN_get (ad := ad) (ca := ca) (h := h) hi
  rw [wcell_o hk k3] at hg
  have key : ∀ (H1 : Heap) (locs1 : List Loc), va_P D vwCl ((wsN N ad ca h).set i (ad i, .inr (ci, (ofl ci ad (h i)).set f (mv ad v)))) H1 → va_D (fun q => base ≤ q) ((wsN N ad ca h).set i (ad i, .inr (ci, (ofl ci ad (h i)).set f (mv ad v)))) → va_S (fun q => base ≤ q) s.heap H1 locs1 →
      W p l e (rmN d mc ms) s m args below meth c H1 locs1 cn sn (MQ below (QN N' base D ca ad h') args s mc ms (fun q => base ≤ q)) (F0 m (pc + 3) la (st.map (mv ad))) := by
    intro H1 locs1 w1 w2 w3
    have e1 : (wsN N ad ca h).set i (ad i, .inr (ci, (ofl ci ad (h i)).set f (mv ad v))) = wsN N ad ca (hup h i f x) := by
      apply wsN_set (fun j hj => hup_o hj)
      rw [wcell_o hk k3, hup_s, ofl_set (hv ad)]
    rw [e1] at w1 w2
    refine W.size (fun w4 => ?_)
    have z3 := kk p l e s m args below meth c base D ca ad H1 locs1 la C hin I F hbs L ⟨w1, w2, wn_size I ⟨by omega, hN⟩ w1 (by omega)⟩ w3
    rw [o3 rfl] at z3
    exact z3
  have hdd : parseFieldDescriptor (T f).2.2.1 = some tf := by rw [k5 f hf, hty]
  obtain ⟨hnn, hft⟩ := hn ad
  have hts := C.2.2.2.2.2.2.2.1
  rcases hfin with hfin | ⟨hfin, hdecl⟩
  · exact va_put C.2.1 C.2.2.1 hts k4 ty k5 k6 C.2.2.2.2.2.2.1 C.2.2.2.2.2.2.2.2.1 W0.1 W0.2.1 S i hg k1 f hf (hts _ hn1) (fun _ q => q) hfin hdd hnn hft (by rw [ofl_len]; omega) o1 key
  · exact va_putF C.2.1 C.2.2.1 hts k4 ty k5 k6 C.2.2.2.2.2.2.1 C.2.2.2.2.2.2.2.2.1 W0.1 W0.2.1 S i hg k1 f hf (hts _ hn1) (fun _ q => q) hfin hin hdecl hdd hnn hft (by rw [ofl_len]; omega) o1 key
/-- a row of numbers -/
theorem y_newarr {atype : ArrayType} {ty : FieldType} {cx n : Nat} (hty : newarray.typeOf atype = ty) (harr : Cond.arrayClass (newarray.typeOf atype) ∈ lwT) (hk : kd N = (10 + cx, n)) (hcx : cx < 3) (hf : ∀ j, h N j = 0) (hca : ∀ ca : Nat → ClassId, (tysOf ca)[cx]? = some (ca cx, ty)) (hra : ∀ (U : State) (cA : ClassId), va_RA U cA ty → U.vm.findClass ("[" ++ (newarray.typeOf atype).toString) = some cA) (hdv : defaultValue ty = .int 0) (hbytes : n * componentBytes ty ≤ 536870912) (hn : n < 2000)
    (hd : (mT M)[k]? = some (pc, .newarray atype, 2, t)) (hc : cn + 1 ≤ mc ∧ sn + n ≤ ms) (kk : Y M d mc ms (k + 1) ls (vr N :: st) (N + 1) h (cn + 1) (sn + n) N' h') : Y M d mc ms k ls (vi (n : Int) :: st) N h cn sn N' h' := by
  intro p l e s m args below meth c base D ca ad H locs la C hin I F hbs L W0 S
  subst hty
  obtain ⟨o1, -, o3, o4⟩ := okM_at C.1.1 hd
  rw [o4]
  have hi : N < 76 := kd_lt (c := 10 + cx) (by rw [hk]) (by omega)
  have hts := C.2.2.2.2.2.2.2.1
  have X := C.2.2.2.2.2.2.2.2
  have rn : iR (n : Int) := ⟨by omega, by omega⟩
  refine va_newaK C.2.1 C.2.2.1 (hts _ harr) rfl o1 rfl (fun q => by rw [← ofI_0, ofI_lt rn iR_0] at q; omega) (by rw [ofI_cl rn, Int.toNat_natCast]) hbytes hc.1 hc.2 rfl fun H1 cA e1 z1 q1 hAr hNm => ?_
  have eA : cA = ca cx := Option.some.inj (hNm.symm.trans (hra s (ca cx) (X.1.2 cx _ (hca ca)).2))
  have eN : H.size = ad N := by rw [W0.2.2, I N hi]
  have hkp : ∀ (k : Nat) (x : Nat × va_E), (wsN N ad ca h)[k]? = some x → H1[x.1]? = H[x.1]? := fun k x hx => q1 x.1 ((W0.1 k x hx).lt)
  have ew := wcell_a (ad := ad) (ca := ca) (f := h N) hk hcx
  have P1 : va_P D vwCl (wsN (N + 1) ad ca h) H1 := by
    rw [← wsN_push (ad := ad) (ca := ca) (h := h) (N := N) eN ew.symm]
    refine (W0.1.kept hkp).app (fun k x hx => ?_)
    have hz : k < 1 := (List.getElem?_eq_some_iff.mp hx).1
    rw [show k = 0 by omega] at hx
    cases hx
    show H1[H.size]? = some (vp_cell _ _)
    rw [e1, vp_cell_i, eA]
    congr 2
    funext j
    rw [hdv, hf j]
    rfl
  have D1 : va_D (fun q => base ≤ q) (wsN (N + 1) ad ca h) := by
    rw [← wsN_push (ad := ad) (ca := ca) (h := h) (N := N) eN ew.symm]
    exact W0.2.1.push W0.1 rfl (by rw [W0.2.2]; omega)
  have S1 : va_S (fun q => base ≤ q) s.heap H1 locs := ⟨Nat.le_trans S.1 (by omega), fun x y1 y2 => (q1 x (Nat.lt_of_lt_of_le y1 S.1)).trans (S.2.1 x y1 y2), S.2.2⟩
  have z := kk p l e s m args below meth c base D ca ad H1 locs la C hin I F ⟨hbs.1, by omega⟩ L ⟨P1, D1, by rw [z1, W0.2.2]; omega⟩ S1
  rw [o3 rfl] at z
  rw [eN]
  exact z
/-- the row of references -/
theorem y_newq {ix n : Nat} (hcl : Cond.classLink (mO M) ix RX1 ∈ lwT) (hk : kd N = (13, n)) (hf : ∀ j, h N j = -1) (hn : n < 2000)
    (hd : (mT M)[k]? = some (pc, .anewarray ix, 3, t)) (hc : cn + 1 ≤ mc ∧ sn + n ≤ ms) (kk : Y M d mc ms (k + 1) ls (vr N :: st) (N + 1) h (cn + 1) (sn + n) N' h') : Y M d mc ms k ls (vi (n : Int) :: st) N h cn sn N' h' := by
  intro p l e s m args below meth c base D ca ad H locs la C hin I F hbs L W0 S
  obtain ⟨o1, -, o3, o4⟩ := okM_at C.1.1 hd
  rw [o4]
  have hi : N < 76 := kd_lt (c := 13) (by rw [hk]) (by omega)
  have hts := C.2.2.2.2.2.2.2.1
  have X := C.2.2.2.2.2.2.2.2
  have rn : iR (n : Int) := ⟨by omega, by omega⟩
  have en : (Int32.ofInt (n : Int)).toNatClampNeg = n := by rw [ofI_cl rn, Int.toNat_natCast]
  refine W.anew C.2.1 C.2.2.1 C.2.2.2.2.2.2.1 (hts _ hcl) (va_AO.use F) rfl o1 rfl (fun q => by rw [← ofI_0, ofI_lt rn iR_0] at q; omega) (by rw [en]; omega) hc.1 (by rw [en]; exact hc.2) fun cA kA comp f1 f2 f3 f4 => ?_
  rw [en]
  generalize hH1 : H.push ({ cls := cA, slots := Array.replicate n .null, vm := .none } : Cell) = H1
  have z1 : H1.size = H.size + 1 := by rw [← hH1, Array.size_push]
  have e1 : H1[H.size]? = some (arrV cA n (fun _ => .null)) := by rw [← hH1, Array.getElem?_push_size, ← arrV_new]
  have q1 : ∀ q : Nat, q < H.size → H1[q]? = H[q]? := fun q hq => by rw [← hH1, Array.getElem?_push, if_neg (Nat.ne_of_lt hq)]
  obtain ⟨kA', comp', g1, g2, g3, g4⟩ := (X.1.2 3 _ (show (tysOf ca)[3]? = some (ca 3, .object RX1) from rfl)).2
  have eA : cA = ca 3 := Option.some.inj (f1.symm.trans g4)
  have eN : H.size = ad N := by rw [W0.2.2, I N hi]
  have hkp : ∀ (k : Nat) (x : Nat × va_E), (wsN N ad ca h)[k]? = some x → H1[x.1]? = H[x.1]? := fun k x hx => q1 x.1 ((W0.1 k x hx).lt)
  have ew := wcell_q (ad := ad) (ca := ca) (f := h N) hk
  have P1 : va_P D vwCl (wsN (N + 1) ad ca h) H1 := by
    rw [← wsN_push (ad := ad) (ca := ca) (h := h) (N := N) eN ew.symm]
    refine (W0.1.kept hkp).app (fun k x hx => ?_)
    have hz : k < 1 := (List.getElem?_eq_some_iff.mp hx).1
    rw [show k = 0 by omega] at hx
    cases hx
    show H1[H.size]? = some (vp_cell _ _)
    rw [e1, vp_cell_q, eA]
    congr 2
    funext j
    rw [hf j]
    rfl
  have D1 : va_D (fun q => base ≤ q) (wsN (N + 1) ad ca h) := by
    rw [← wsN_push (ad := ad) (ca := ca) (h := h) (N := N) eN ew.symm]
    exact W0.2.1.push W0.1 rfl (by rw [W0.2.2]; omega)
  have S1 : va_S (fun q => base ≤ q) s.heap H1 locs := ⟨Nat.le_trans S.1 (by omega), fun x y1 y2 => (q1 x (Nat.lt_of_lt_of_le y1 S.1)).trans (S.2.1 x y1 y2), S.2.2⟩
  have z := kk p l e s m args below meth c base D ca ad H1 locs la C hin I F ⟨hbs.1, by omega⟩ L ⟨P1, D1, by rw [z1, W0.2.2]; omega⟩ S1
  rw [o3 rfl] at z
  rw [eN]
  exact z
theorem y_ret (hd : (mT M)[k]? = some (pc, .return_, 1, t)) (hr : mR M = none) (hc : cn ≤ mc ∧ sn ≤ ms) : Y M d mc ms k ls [] N h cn sn N h := by
  intro p l e s m args below meth c base D ca ad H locs la C hin I F hbs L W0 S
  obtain ⟨o1, -, -, o4⟩ := okM_at C.1.1 hd
  rw [o4]
  refine W.widen hc.1 hc.2 ?_
  exact W.vret C.2.1 C.2.2.1 (C.2.2.2.2.1.trans hr) (fun t ht hW => ⟨⟨(), rfl, True.intro, by show WN N base D ca ad h t.heap; rw [ht]; exact W0⟩, S.F ht⟩) S.2.2 o1 C.2.2.2.2.2.1
theorem y_getR {ix ci f i j : Nat} (hl : FL (mO M) ix ci f) (hk : kd i = (ci, 0)) (hi : i < N) (hj : ∀ ad, fvl ci f ad (h i f) = .ref (ad j)) (hd : (mT M)[k]? = some (pc, .getfield ix, 3, t)) (kk : Y M d mc ms (k + 1) ls (vr j :: st) N h cn sn N' h') : Y M d mc ms k ls (vr i :: st) N h cn sn N' h' := by
  intro p l e s m args below meth c base D ca ad H locs la C hin I F hbs L W0 S
  have z3 := kk p l e s m args below meth c base D ca ad H locs la C hin I F hbs L W0 S
  obtain ⟨o1, -, o3, o4⟩ := okM_at C.1.1 hd
  rw [o4]
  rw [o3 rfl] at z3
  obtain ⟨R, T, ty, cnt, ⟨k1, k2, k3, k4, k5, k6⟩, hf, hn⟩ := hl
  have hg := wsN_get (ad := ad) (ca := ca) (h := h) hi
  rw [wcell_o hk k3] at hg
  have hv : (ofl ci ad (h i))[f]? = some (.ref (ad j)) := by rw [ofl_get (by omega), hj ad]
  rcases hn with hn | ⟨host, hn⟩
  · exact va_get C.2.1 C.2.2.1 C.2.2.2.2.2.2.2.1 k4 C.2.2.2.2.2.2.1 C.2.2.2.2.2.2.2.2.1 W0.1 i hg k1 f hf (C.2.2.2.2.2.2.2.1 _ hn) (fun _ q => q) hv o1 z3
  · exact va_getN C.2.1 C.2.2.1 C.2.2.2.2.2.2.2.1 k4 C.2.2.2.2.2.2.1 C.2.2.2.2.2.2.2.2.1 W0.1 i hg k1 f hf (va_Nw.use rfl (C.2.2.2.2.2.2.2.2.2.1 _ hn rfl)) (fun _ q => q) hv o1 z3
theorem y_iast {i n y : Nat} {x : Int} (hk : kd i = (10, n)) (hi : i < N) (hN : N ≤ 76) (hy : y < n) (hn : n < 2000) (hd : (mT M)[k]? = some (pc, .iastore, 1, t)) (kk : Y M d mc ms (k + 1) ls st N (hup h i y x) cn sn N' h') : Y M d mc ms k ls (vi x :: vi (y : Int) :: vr i :: st) N h cn sn N' h' := by
  intro p l e s m args below meth c base D ca ad H locs la C hin I F hbs L W0 S
  obtain ⟨o1, -, o3, o4⟩ := okM_at C.1.1 hd
  rw [o4]
  have ry : iR (y : Int) := ⟨by omega, by omega⟩
  have hg := wsN_get (ad := ad) (ca := ca) (h := h) hi
  rw [wcell_a (c := 0) hk (by omega)] at hg
  refine va_iast C.2.1 C.2.2.1 C.2.2.2.2.2.2.2.2.1 W0.1 W0.2.1 S i 0 hg rfl (ofI_in ry ⟨by omega, by omega⟩) o1 (fun H1 locs1 w1 w2 w3 => ?_)
  have e1 : (wsN N ad ca h).set i (ad i, (.inl (ca 0, n, .inl (upd (fun k => Int32.ofInt (h i k)) (Int32.ofInt (y : Int)).toNatClampNeg (Int32.ofInt x))) : va_E)) = wsN N ad ca (hup h i y x) := by
    apply wsN_set (fun j hj => hup_o hj)
    rw [ofI_cl ry]
    refine Eq.trans (wcell_up (ad := ad) (c := 0) hk (by omega)) ?_
    rw [Int.toNat_natCast]
  rw [e1] at w1 w2
  refine W.size (fun w4 => ?_)
  have z3 := kk p l e s m args below meth c base D ca ad H1 locs1 la C hin I F hbs L ⟨w1, w2, wn_size I ⟨by omega, hN⟩ w1 (by omega)⟩ w3
  rw [o3 rfl] at z3
  exact z3
theorem y_alenq {i n : Nat} (hk : kd i = (13, n)) (hi : i < N) (hd : (mT M)[k]? = some (pc, .arraylength, 1, t)) (kk : Y M d mc ms (k + 1) ls (vi (n : Int) :: st) N h cn sn N' h') : Y M d mc ms k ls (vr i :: st) N h cn sn N' h' := by
  intro p l e s m args below meth c base D ca ad H locs la C hin I F hbs L W0 S
  have z3 := kk p l e s m args below meth c base D ca ad H locs la C hin I F hbs L W0 S
  obtain ⟨o1, -, o3, o4⟩ := okM_at C.1.1 hd
  rw [o4]
  rw [o3 rfl] at z3
  have hg := wsN_get (ad := ad) (ca := ca) (h := h) hi
  rw [wcell_q hk] at hg
  exact va_alen C.2.1 C.2.2.1 C.2.2.2.2.2.2.2.2.1 W0.1 i 3 hg (ty := .object RX1) rfl (v := Int32.ofInt (n : Int)) (by show Int32.ofNat n = _; rfl) o1 z3
theorem y_aast {i n j y : Nat} (hk : kd i = (13, n)) (hj : kd j = (1, 0)) (hi : i < N) (hjN : j < N) (hN : N ≤ 76) (hy : y < n) (hn : n < 2000) (hd : (mT M)[k]? = some (pc, .aastore, 1, t)) (kk : Y M d mc ms (k + 1) ls st N (hup h i y (j : Int)) cn sn N' h') : Y M d mc ms k ls (vr j :: vi (y : Int) :: vr i :: st) N h cn sn N' h' := by
  intro p l e s m args below meth c base D ca ad H locs la C hin I F hbs L W0 S
  obtain ⟨o1, -, o3, o4⟩ := okM_at C.1.1 hd
  rw [o4]
  have ry : iR (y : Int) := ⟨by omega, by omega⟩
  have hg := wsN_get (ad := ad) (ca := ca) (h := h) hi
  rw [wcell_q hk] at hg
  have hg2 := wsN_get (ad := ad) (ca := ca) (h := h) hjN
  rw [wcell_o hj (by omega)] at hg2
  refine va_astq C.2.1 C.2.2.1 C.2.2.2.2.2.2.2.2.1 W0.1 W0.2.1 S i 3 j 1 hg rfl hg2 (r := (RX1, TX1, 5)) rfl (ofI_in ry ⟨by omega, by omega⟩) o1 (fun H1 locs1 w1 w2 w3 => ?_)
  have e1 : (wsN N ad ca h).set i (ad i, (.inl (ca 3, n, .inr (.inr (.inr (.inr (va_up (fun k => rfo ad (h i k)) (Int32.ofInt (y : Int)).toNatClampNeg (some (ad j))))))) : va_E)) = wsN N ad ca (hup h i y (j : Int)) := by
    apply wsN_set (fun q hq => hup_o hq)
    rw [wcell_q hk, hup_s, ofI_cl ry, Int.toNat_natCast]
    congr 7
    funext q
    show (if q = y then some (ad j) else rfo ad (h i q)) = rfo ad (if q = y then (j : Int) else h i q)
    split
    · exact rfo_s.symm
    · rfl
  rw [e1] at w1 w2
  refine W.size (fun w4 => ?_)
  have z3 := kk p l e s m args below meth c base D ca ad H1 locs1 la C hin I F hbs L ⟨w1, w2, wn_size I ⟨by omega, hN⟩ w1 (by omega)⟩ w3
  rw [o3 rfl] at z3
  exact z3
/-- the first settings -/
theorem y_sget {ix : Nat} {host : String} (hn : Cond.fieldLinkNest (mO M) ix "OddUmbrellas" (sN 84) "[I" host ∈ lw_tbl) (hd : (mT M)[k]? = some (pc, .getstatic ix, 3, t)) (kk : Y M d mc ms (k + 1) ls (vr 84 :: st) N h cn sn N' h') : Y M d mc ms k ls st N h cn sn N' h' := by
  intro p l e s m args below meth c base D ca ad H locs la C hin I F hbs L W0 S
  have z3 := kk p l e s m args below meth c base D ca ad H locs la C hin I F hbs L W0 S
  obtain ⟨o1, -, o3, o4⟩ := okM_at C.1.1 hd
  rw [o4]
  rw [o3 rfl] at z3
  have hSF := C.2.2.2.2.2.2.2.2.2.2
  exact va_getsN C.2.1 C.2.2.1 (hSF.1 84 (by omega) (by omega)).2 S C.2.2.2.2.2.2.1 (va_Nw.use rfl (C.2.2.2.2.2.2.2.2.2.1 _ hn rfl)) (fun _ q => q) o1 z3
/-- a copy of the head of a row that stands ready into a row of the world -/
theorem w_copyT {p : Program} {l : Launch} {e : Env} {R : Room} {s : State} {m : MethodId} {args : Array Value} {below : List Frame} {meth : Method} {c : Code} {H : Heap} {locs : List Loc} {cells slots : Nat} {Q : State → Prop} {cc : ByteArray} {pc : Nat} {la : Array Slot} {rest : List Value} {own : String} {D : va_G} {cl : List vw_C} {tys : List (ClassId × FieldType)} {ws : va_W} {A : Nat → Prop} {ix : Nat} (hx : p.tables.exec = Jvm.exec) (hb : c.code = cc) (hml : c.maxLocals = la.size) (hown : s.vm.findClass own = some m.cls) (w1 : (Cond.methodLink own ix arraycopyName).before args s = true) (w2 : (Cond.native arraycopyName).before args s = true) (w3 : (Cond.static arraycopyName).before args s = true) (w4 : (Cond.initialized "java/lang/System").before args s = true)
    (hK : va_K D cl tys s) (hP : va_P D cl ws H) (hD : va_D A ws) (hS : va_S A s.heap H locs) {t0 N0 : Nat} {f : Nat → Int32} (hT : va_T .int t0 N0 (fun k => .int (f k)) A s s.heap) (q1 t1 : Nat) {a : Nat} {c1 : ClassId} {n1 : Nat} {g : Nat → Int32} (ha1 : ws[q1]? = some (a, .inl (c1, n1, .inl g))) (ht1 : tys[t1]? = some (c1, .int))
    {n : Int32} (h3 : ¬ n < 0) (h4 : n.toNatClampNeg ≤ N0) (h5 : n.toNatClampNeg ≤ n1) (hfr : 1 ≤ R.frames) (hlo : (rest.map fun v => v.category).sum + (nativeFrameWords "java/lang/System" "arraycopy" 5 + 11) ≤ R.locals) (hdg : decode cc pc = .ok (.invokestatic ix, 3))
    (kk : ∀ (H1 : Heap) (locs1 : List Loc), va_P D cl (ws.set q1 (a, .inl (c1, n1, .inl (va_cpy f g 0 0 n.toNatClampNeg)))) H1 → va_D A (ws.set q1 (a, .inl (c1, n1, .inl (va_cpy f g 0 0 n.toNatClampNeg)))) → va_S A s.heap H1 locs1 → W p l e R s m args below meth c H1 locs1 cells slots Q (F0 m (pc + 3) la rest)) : W p l e R s m args below meth c H locs cells slots Q (F0 m pc la (.int n :: .int 0 :: .ref a :: .int 0 :: .ref t0 :: rest)) := by
  have nn : n.toInt = (n.toNatClampNeg : Int) := by
    have h0 : (0 : Int) ≤ n.toInt := by
      have := Int32.not_lt.mp h3
      simpa using Int32.le_iff_toInt_le.mp this
    show n.toInt = ((n.toInt.toNat : Nat) : Int)
    omega
  have n0 : ¬ (0 : Int32) < 0 := by decide
  have z0 : (0 : Int32).toInt = 0 := rfl
  have c0 : (0 : Int32).toNatClampNeg = 0 := rfl
  obtain ⟨scr, s1, s2, s3, s4, -, s6, s7⟩ := hT
  intro T hT X
  have hl0 : t0 < s.heap.size := (Array.getElem?_eq_some_iff.mp s1).1
  have hc0 : H[t0]? = some scr := by rw [hS.2.1 t0 hl0 s7]; exact s1
  have hc1 : H[a]? = some (vp_cell c1 (n1, .inl g)) := hP q1 _ ha1
  obtain ⟨y6, k0, hk0, cm0, hkk0⟩ := s2
  obtain ⟨-, k1, hk1, cm1, hkk1⟩ := (hK.2 t1 _ ht1).1 n1 (fun j => .int (g j))
  obtain ⟨vm', X', step⟩ := X.arraycopy hx hown w1 w2 w3 w4 (src := t0) (dst := a) (cs := scr) (cd := vp_cell c1 (n1, .inl g)) (srcPos := 0) (destPos := 0) (n := n) (by rw [hT]; exact hc0) (by rw [hT]; exact hc1)
    y6 (fun _ h => by cases h) s3 (fun h => by cases h) hk0 hk1 hkk0 hkk1 (by simp [refKind]) n0 n0 h3
    (by rw [nn, z0]; omega)
    (by rw [nn, z0]; show ¬ _ > ((arrV c1 n1 (fun j => .int (g j))).slots.size : Int); rw [arrV_size]; omega)
    (fun _ _ i hi => by
      have e : scr.slots.getD ((0 : Int32).toNatClampNeg + i) .null = .int (f i) := by
        rw [c0, Nat.zero_add, Array.getD_eq_getD_getElem?, s6 i (by omega)]
        rfl
      rw [e]
      exact ⟨rfl, trivial⟩)
    (g := F0 m pc la (.int n :: .int 0 :: .ref a :: .int 0 :: .ref t0 :: rest)) rfl (by rw [hml]) (rest := rest) rfl (by rw [hb]; exact hdg) hfr (by show 2 * 0 + _ + _ ≤ _; omega)
  have e1 : copied scr (vp_cell c1 (n1, .inl g)) 0 0 n = vp_cell c1 (n1, .inl (va_cpy f g 0 0 n.toNatClampNeg)) := va_copiedX (n0 := N0) (fun z => .int z) scr c1 f g s6 (by rw [c0]; omega)
  rw [e1] at X' step
  have hl : a < H.size := (Array.getElem?_eq_some_iff.mp hc1).1
  generalize hH1 : H.setIfInBounds a (vp_cell c1 (n1, .inl (va_cpy f g 0 0 n.toNatClampNeg))) = H1 at *
  have hheap : ((T.setVm vm').setCell a (vp_cell c1 (n1, .inl (va_cpy f g 0 0 n.toNatClampNeg)))).heap = H1 := by rw [← hH1, ← hT]; rfl
  have o1 : ∀ q : Nat, q ≠ a → H1[q]? = H[q]? := fun q hq => by rw [← hH1]; simp [Array.getElem?_setIfInBounds, Ne.symm hq]
  have o2 : H1[a]? = some (vp_cell c1 (n1, .inl (va_cpy f g 0 0 n.toNatClampNeg))) := by rw [← hH1]; simp [Array.getElem?_setIfInBounds, hl]
  have o3 : H1.size = H.size := by rw [← hH1]; simp
  obtain ⟨t, a1, b1⟩ := kk H1 _ (hP.set hD ha1 o2 o1) (hD.set ha1) ⟨by rw [o3]; exact hS.1, fun q g1 g2 => by
      rw [o1 q (fun e => g2 (by rw [e]; exact hD.2 q1 _ ha1))]
      exact hS.2.1 q g1 g2, fun q hq => by
      rcases List.mem_append.mp hq with h | h
      · exact hS.2.2 q h
      · obtain ⟨z, -, hz⟩ := List.mem_map.mp h
        rw [← hz]
        exact hD.2 q1 _ ha1⟩ _ hheap X'
  exact ⟨t, step t a1, b1⟩
def hset (h : Hp) (j : Nat) : Hp := fun a b => if a = j ∧ b < 7 then sA 84 b else h a b
theorem y_copy {ix j n2 : Nat} (hj : kd j = (10, n2)) (hw : (Cond.methodLink (mO M) ix arraycopyName ∈ lwT) ∧ (Cond.native arraycopyName ∈ lwT) ∧ (Cond.static arraycopyName ∈ lwT) ∧ (Cond.initialized "java/lang/System" ∈ lwT)) (h7 : 7 ≤ n2) (hjN : j < N) (hN : N ≤ 76) (h1 : 1 ≤ d) (hst : (((st.map acat).sum + (nativeFrameWords "java/lang/System" "arraycopy" 5 + 11)).ble 27) = true) (hd : (mT M)[k]? = some (pc, .invokestatic ix, 3, t))
    (kk : Y M d mc ms (k + 1) ls st N (hset h j) cn sn N' h') : Y M d mc ms k ls (vi 7 :: vi 0 :: vr j :: vi 0 :: vr 84 :: st) N h cn sn N' h' := by
  intro p l e s m args below meth c base D ca ad H locs la C hin I F hbs L W0 S
  obtain ⟨o1, -, o3, o4⟩ := okM_at C.1.1 hd
  rw [o4]
  simp only [Nat.ble_eq] at hst
  have hts := C.2.2.2.2.2.2.2.1
  have hg2 := wsN_get (ad := ad) (ca := ca) (h := h) hjN
  rw [wcell_a (c := 0) hj (by omega)] at hg2
  have p7 : ¬ Int32.ofInt 7 < 0 := by decide
  have c7 : (Int32.ofInt 7).toNatClampNeg = 7 := rfl
  have hSF := C.2.2.2.2.2.2.2.2.2.2
  refine w_copyT C.2.1 C.2.2.1 (C.2.2.2.1.trans L.1.symm) C.2.2.2.2.2.2.1 (hts _ hw.1) (hts _ hw.2.1) (hts _ hw.2.2.1) (hts _ hw.2.2.2) C.2.2.2.2.2.2.2.2.1 W0.1 W0.2.1 S (f := fun k => Int32.ofInt (sA 84 k)) (hSF.1 84 (by omega) (by omega)).1 j 0 hg2 rfl (n := Int32.ofInt 7) p7 (by rw [c7]; omega) (by rw [c7]; omega) (by show 1 ≤ d; exact h1) (by rw [acat_sum]; show _ ≤ 27 * d; omega) o1 (fun H1 locs1 w1 w2 w3 => ?_)
  have e1 : (wsN N ad ca h).set j (ad j, (.inl (ca 0, n2, .inl (va_cpy (fun k => Int32.ofInt (sA 84 k)) (fun k => Int32.ofInt (h j k)) 0 0 (Int32.ofInt 7).toNatClampNeg)) : va_E)) = wsN N ad ca (hset h j) := by
    apply wsN_set
    · intro q hq
      funext b
      unfold hset
      rw [if_neg (fun z => hq z.1)]
    · rw [wcell_a (c := 0) hj (by omega), c7]
      congr 4
      funext q
      show (if 0 ≤ q ∧ q < 0 + 7 then Int32.ofInt (sA 84 (0 + (q - 0))) else Int32.ofInt (h j q)) = Int32.ofInt (hset h j j q)
      unfold hset
      by_cases hq : q < 7
      · rw [if_pos ⟨by omega, by omega⟩, if_pos ⟨rfl, hq⟩, show 0 + (q - 0) = q by omega]
      · rw [if_neg (by omega), if_neg (by omega)]
  rw [e1] at w1 w2
  refine W.size (fun w4 => ?_)
  have z3 := kk p l e s m args below meth c base D ca ad H1 locs1 la C hin I F hbs L ⟨w1, w2, wn_size I ⟨by omega, hN⟩ w1 (by omega)⟩ w3
  rw [o3 rfl] at z3
  exact z3
end Ctor2
