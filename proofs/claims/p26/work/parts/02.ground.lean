/-! the ground: numbers, abstract values, the heap as numbers, the layout of the cells, the judgement Z -/
section Ground
/-- the words that travel into any call, and those of nest mates, which travel beside -/
def lwT : List Cond := lw_tbl.filter goodWord
theorem lwT_of {w : Cond} (i : Nat) (h : lw_tbl[i]? = some w) (hg : goodWord w = true) : w ∈ lwT := List.mem_filter.mpr ⟨List.mem_of_getElem? h, hg⟩
theorem lwT_G : GoodIn lwT lwT := fun w hw => ⟨hw, good_of_word (List.mem_filter.mp hw).2⟩
def lwNest (w : Cond) : Bool := match w with
  | .methodLinkNest .. => true
  | .fieldLinkNest .. => true
  | _ => false
def lwN (s : State) : Prop := ∀ w ∈ lw_tbl, lwNest w = true → va_Nw w s
theorem lwN.warm {s U : State} (hW : s.WarmedH U.vm) (h : lwN s) : lwN U := by
  intro w hw hn
  have h1 := h w hw hn
  cases w with
  | methodLinkNest a i x b => exact h1.warmM hW
  | fieldLinkNest a i b n d x => exact h1.warmF hW
  | _ => cases hn
abbrev AV : Type := Int ⊕ Nat ⊕ Value
abbrev vi (z : Int) : AV := Sum.inl z
abbrev vr (i : Nat) : AV := Sum.inr (Sum.inl i)
abbrev vx (v : Value) : AV := Sum.inr (Sum.inr v)
def mv (ad : Nat → Nat) (v : AV) : Value := match v with
  | .inl z => .int (Int32.ofInt z)
  | .inr (.inl i) => .ref (ad i)
  | .inr (.inr v) => v
def iR (z : Int) : Prop := -2147483648 ≤ z ∧ z < 2147483648
def avR (v : AV) : Prop := match v with
  | .inl z => iR z
  | _ => True
def acat (v : AV) : Nat := match v with
  | .inl _ => 1
  | .inr (.inl _) => 1
  | .inr (.inr v) => v.category
theorem acat_mv (ad : Nat → Nat) (v : AV) : (mv ad v).category = acat v := by
  rcases v with z | i | v <;> rfl
abbrev Hp : Type := Nat → Nat → Int
def hR (h : Hp) : Prop := ∀ i k, iR (h i k)
def hup (h : Hp) (i k : Nat) (x : Int) : Hp := fun a b => if a = i ∧ b = k then x else h a b
/-- a number as the machine keeps it; hidden behind a choice, so that nothing computes with it -/
theorem wr_ex (z : Int) : ∃ y : Int, y = (z + 2147483648) % 4294967296 - 2147483648 := ⟨_, rfl⟩
noncomputable def wr (z : Int) : Int := Classical.choose (wr_ex z)
theorem wr_def (z : Int) : wr z = (z + 2147483648) % 4294967296 - 2147483648 := Classical.choose_spec (wr_ex z)
theorem wr_R (z : Int) : iR (wr z) := by rw [wr_def]; unfold iR; omega
theorem wr_e {z : Int} (h : iR z) : wr z = z := by rw [wr_def]; unfold iR at h; omega
theorem ofI_T {z : Int} (h : iR z) : (Int32.ofInt z).toInt = z := Int32.toInt_ofInt_of_le h.1 h.2
theorem ofI_eq {a b : Int} (h : a % 4294967296 = b % 4294967296) : Int32.ofInt a = Int32.ofInt b := by
  apply Int32.toInt.inj
  rw [Int32.toInt_ofInt, Int32.toInt_ofInt]
  show a.bmod 4294967296 = b.bmod 4294967296
  rw [Int.bmod_def, Int.bmod_def]
  have : ((4294967296 : Nat) : Int) = 4294967296 := rfl
  rw [this, h]
theorem ofI_wr (z : Int) : Int32.ofInt (wr z) = Int32.ofInt z := ofI_eq (by rw [wr_def]; omega)
theorem ofI_le {a b : Int} (ha : iR a) (hb : iR b) : Int32.ofInt a ≤ Int32.ofInt b ↔ a ≤ b := by rw [Int32.le_iff_toInt_le, ofI_T ha, ofI_T hb]
theorem ofI_lt {a b : Int} (ha : iR a) (hb : iR b) : Int32.ofInt a < Int32.ofInt b ↔ a < b := by rw [Int32.lt_iff_toInt_lt, ofI_T ha, ofI_T hb]
theorem ofI_inj {a b : Int} (ha : iR a) (hb : iR b) : Int32.ofInt a = Int32.ofInt b ↔ a = b := by
  constructor
  · intro h
    rw [← ofI_T ha, ← ofI_T hb, h]
  · intro h
    rw [h]
theorem iR_0 : iR 0 := by unfold iR; omega
theorem ofI_0 : Int32.ofInt 0 = 0 := rfl
abbrev inb (x : Int) (n : Nat) : Prop := 0 ≤ x ∧ x < n
theorem ofI_in {x : Int} {n : Nat} (hx : iR x) (h : 0 ≤ x ∧ x < n) : vp_in (Int32.ofInt x) n := vp_in_iff.mpr (by rw [ofI_T hx]; exact h)
theorem ofI_cl {x : Int} (hx : iR x) : (Int32.ofInt x).toNatClampNeg = x.toNat := by
  show (Int32.ofInt x).toInt.toNat = x.toNat
  rw [ofI_T hx]
theorem hR_hup {h : Hp} {i k : Nat} {x : Int} (hh : hR h) (hx : iR x) : hR (hup h i k x) := by
  intro a b
  unfold hup
  split
  · exact hx
  · exact hh a b
/-- the cells in the order in which they come: what each is, and of arrays how long; behind them the statics and the texts -/
def lay : List (Nat × Nat) :=
  [(4, 0)] ++ [(1, 0), (2, 0), (10, 72), (2, 0), (10, 72), (2, 0), (10, 72), (10, 7), (10, 12)] ++ [(1, 0), (2, 0), (10, 72), (2, 0), (10, 72), (2, 0), (10, 72), (10, 7), (10, 12)] ++
  [(0, 0), (10, 144), (10, 144), (11, 144), (11, 144), (10, 40), (10, 12), (10, 12)] ++ [(13, 5)] ++ [(3, 0), (12, 60), (10, 4)] ++
  [(1, 0), (2, 0), (10, 72), (2, 0), (10, 72), (2, 0), (10, 72), (10, 7), (10, 12)] ++ [(1, 0), (2, 0), (10, 72), (2, 0), (10, 72), (2, 0), (10, 72), (10, 7), (10, 12)] ++
  [(1, 0), (2, 0), (10, 72), (2, 0), (10, 72), (2, 0), (10, 72), (10, 7), (10, 12)] ++ [(1, 0), (2, 0), (10, 72), (2, 0), (10, 72), (2, 0), (10, 72), (10, 7), (10, 12)] ++
  [(1, 0), (2, 0), (10, 72), (2, 0), (10, 72), (2, 0), (10, 72), (10, 7), (10, 12)] ++
  [(20, 12), (20, 12), (99, 0), (99, 0), (99, 0), (99, 0), (99, 0), (99, 0)] ++
  [(30, 7), (30, 7), (30, 7)] ++ [(31, 5), (31, 6), (31, 5), (31, 5), (31, 4)] ++ [(32, 5), (32, 6), (32, 5), (32, 5), (32, 4)]
def kd (i : Nat) : Nat × Nat := lay.getD i (99, 0)
/-- the places of the references in an object: how far behind it the cell lies that it holds -/
def off (c k : Nat) : Option Nat := match c with
  | 0 => if k < 7 then some (k + 1) else none
  | 1 => [1, 3, 5, 7, 8][k]?
  | 2 => [1][k]?
  | 3 => [some 1, none, none, none, some 2].getD k none
  | 4 => [some 1, some 10, some 19, some 27, none, some 28].getD k none
  | _ => none
/-- the numbers of the static rows -/
def sA (i k : Nat) : Int := match i with
  | 84 => [1, 4, 2, 8, 1, 6, 5].getD k 0
  | 85 => [0, 0, 0, 1, 0, 1, 1].getD k 0
  | 86 => [3, 20, 20, 48, 9, 20, 20].getD k 0
  | _ => 0
def sN (i : Nat) : String := match i with
  | 84 => "FIRST_SETTINGS"
  | 85 => "LEAST_SETTINGS"
  | _ => "GREATEST_SETTINGS"
def LI (h : Hp) : Prop := (∀ i k o, off (kd i).1 k = some o → h i k = ((i + o : Nat) : Int)) ∧ (∀ i k, 84 ≤ i → i < 87 → h i k = sA i k) ∧ ∀ i k, (kd i).1 = 13 → h i k < 76
theorem kd_lt {i c : Nat} (h : (kd i).1 = c) (hc : c < 20) : i < 76 := by
  subst h
  have key : ∀ i, i < 97 → (kd i).1 < 20 → i < 76 := by decide +kernel
  rcases Nat.lt_or_ge i 97 with h | h
  · exact key i h hc
  · have : kd i = (99, 0) := by
      unfold kd
      rw [List.getD_eq_getElem?_getD, List.getElem?_eq_none (by exact h)]
      rfl
    rw [this] at hc
    exact absurd hc (by decide)
def rfo (ad : Nat → Nat) (z : Int) : Option Nat := if z < 0 then none else some (ad z.toNat)
def vw_N (c : Nat) : Nat := [10, 5, 2, 5, 10].getD c 0
def fvl (c k : Nat) (ad : Nat → Nat) (z : Int) : Value := match off c k with
  | some _ => va_rf (rfo ad z)
  | none => .int (Int32.ofInt z)
def ofl (c : Nat) (ad : Nat → Nat) (f : Nat → Int) : List Value := (List.range (vw_N c)).map (fun k => fvl c k ad (f k))
def wcell (ad : Nat → Nat) (ca : Nat → ClassId) (f : Nat → Int) (i : Nat) : va_E :=
  if (kd i).1 = 13 then .inl (ca 3, (kd i).2, .inr (.inr (.inr (.inr (fun k => rfo ad (f k))))))
  else if 10 ≤ (kd i).1 then .inl (ca (((kd i).1 - 10) % 10), (kd i).2, .inl (fun k => Int32.ofInt (f k)))
  else .inr ((kd i).1, ofl (kd i).1 ad f)
def tysOf (ca : Nat → ClassId) : List (ClassId × FieldType) := [(ca 0, .int), (ca 1, .boolean), (ca 2, .char), (ca 3, .object "OddUmbrellas$Office")]
def wsN (N : Nat) (ad : Nat → Nat) (ca : Nat → ClassId) (h : Hp) : va_W := (List.range N).map (fun i => (ad i, wcell ad ca (h i) i))
theorem wsN_get {N : Nat} {ad : Nat → Nat} {ca : Nat → ClassId} {h : Hp} {i : Nat} (hi : i < N) : (wsN N ad ca h)[i]? = some (ad i, wcell ad ca (h i) i) := by
  simp [wsN, hi]
theorem wsN_set {N : Nat} {ad : Nat → Nat} {ca : Nat → ClassId} {h h' : Hp} {i : Nat} (ho : ∀ j, j ≠ i → h' j = h j) {e : va_E} (he : e = wcell ad ca (h' i) i) : (wsN N ad ca h).set i (ad i, e) = wsN N ad ca h' := by
  subst he
  apply List.ext_getElem?
  intro j
  by_cases hj : j < N
  · by_cases hji : j = i
    · subst hji
      rw [List.getElem?_set_self (by simp [wsN, hj]), wsN_get hj]
    · rw [List.getElem?_set_ne (fun q => hji q.symm), wsN_get hj, wsN_get hj, ho j hji]
  · rw [List.getElem?_eq_none (by simp [wsN]; omega), List.getElem?_eq_none (by simp [wsN]; omega)]
/-- how many cells the world has: those of the class, and rows of the law behind them -/
def nW (ad : Nat → Nat) : Nat := 76 + ad 200
theorem wsN_g7 {ad : Nat → Nat} {ca : Nat → ClassId} {h : Hp} {i : Nat} (hi : i < 76) : (wsN (nW ad) ad ca h)[i]? = some (ad i, wcell ad ca (h i) i) := wsN_get (Nat.lt_of_lt_of_le hi (Nat.le_add_right 76 _))
/-- the methods: owner, name, bytes, locals, what it returns, its rows, its room, the cells that it may make, whose it is -/
abbrev MI : Type := String × MethodName × ByteArray × Nat × Option FieldType × List (Nat × Instr × Nat × Nat) × Room × Nat × Nat
def mO (M : MI) : String := M.1
def mY (M : MI) : MethodName := M.2.1
def mC (M : MI) : ByteArray := M.2.2.1
def mN (M : MI) : Nat := M.2.2.2.1
def mR (M : MI) : Option FieldType := M.2.2.2.2.1
def mT (M : MI) : List (Nat × Instr × Nat × Nat) := M.2.2.2.2.2.1
def rmM (M : MI) : Room := M.2.2.2.2.2.2.1
/-- how many cells a call of it may make, of 12 places each -/
def mB (M : MI) : Nat := M.2.2.2.2.2.2.2.1
/-- 0: the class's; 1: the law's; 2: the law -/
def mF (M : MI) : Nat := M.2.2.2.2.2.2.2.2
def pcO (M : MI) (k : Nat) : Nat := ((mT M).getD k (0, .nop, 0, 0)).1
def okJ (i : Instr) (pc t : Int) : Bool := match i with
  | .if_icmp _ o => decide (pc + o = t)
  | .ifCond _ o => decide (pc + o = t)
  | .goto o => decide (pc + o = t)
  | .ifnull o => decide (pc + o = t)
  | .ifnonnull o => decide (pc + o = t)
  | _ => true
def nxJ (i : Instr) : Bool := match i with
  | .goto _ => true
  | .ireturn => true
  | .return_ => true
  | .lreturn => true
  | .tableswitch .. => true
  | .lookupswitch .. => true
  | _ => false
def okE (M : MI) (k : Nat) (q : Nat × Instr × Nat × Nat) : Bool := decide (decode (mC M) q.1 = .ok (q.2.1, q.2.2.1)) && okJ q.2.1 (q.1 : Int) (pcO M q.2.2.2 : Int) && (nxJ q.2.1 || decide (pcO M (k + 1) = q.1 + q.2.2.1))
def okM (M : MI) : Bool := decide (pcO M 0 = 0) && (List.range (mT M).length).all (fun k => okE M k ((mT M).getD k (0, .nop, 0, 0)))
theorem okM_at {M : MI} (h : okM M = true) {k pc n t : Nat} {i : Instr} (hk : (mT M)[k]? = some (pc, i, n, t)) : decode (mC M) pc = .ok (i, n) ∧ okJ i pc (pcO M t) = true ∧ (nxJ i = false → pcO M (k + 1) = pc + n) ∧ pcO M k = pc := by
  have hl := (List.getElem?_eq_some_iff.mp hk).1
  have hg : (mT M).getD k (0, .nop, 0, 0) = (pc, i, n, t) := by rw [List.getD_eq_getElem?_getD, hk]; rfl
  unfold okM at h
  simp only [Bool.and_eq_true] at h
  have h1 := List.all_eq_true.mp h.2 k (List.mem_range.mpr hl)
  rw [hg] at h1
  unfold okE at h1
  simp only [Bool.and_eq_true, Bool.or_eq_true, decide_eq_true_eq] at h1
  refine ⟨h1.1.1, h1.1.2, fun hn => ?_, ?_⟩
  · rcases h1.2 with h2 | h2
    · rw [hn] at h2; cases h2
    · exact h2
  · show ((mT M).getD k (0, .nop, 0, 0)).1 = pc
    rw [hg]
def wsM (M : MI) : List Cond := Cond.code (mY M) (mC M) (mN M) (mR M) :: lwT
/-- what stands ready ahead of all: the static rows -/
def SF (base : Nat) (ad : Nat → Nat) (s : State) : Prop :=
  (∀ i, 84 ≤ i → i < 87 → va_T .int (ad i) 7 (fun k => .int (Int32.ofInt (sA i k))) (fun q => base ≤ q) s s.heap ∧ va_Z "OddUmbrellas" (sN i) "[I" (.ref (ad i)) (fun q => base ≤ q) s s.heap) ∧ True
def CX (base : Nat) (D : va_G) (ca : Nat → ClassId) (ad : Nat → Nat) (s : State) : Prop := va_K D vwCl (tysOf ca) s ∧ lwN s ∧ SF base ad s
def WD (base : Nat) (D : va_G) (ca : Nat → ClassId) (ad : Nat → Nat) (h : Hp) (H : Heap) : Prop := va_P D vwCl (wsN (nW ad) ad ca h) H ∧ va_D (fun q => base ≤ q) (wsN (nW ad) ad ca h)
theorem CX.at {base : Nat} {D : va_G} {ca : Nat → ClassId} {ad : Nat → Nat} {s U : State} (h : CX base D ca ad s) (hv : s.WarmedH U.vm) (hq : ∀ a : Nat, a < s.heap.size → ¬ base ≤ a → U.heap[a]? = s.heap[a]?) : CX base D ca ad U := by
  obtain ⟨hK, hN, h1, -⟩ := h
  have ha := hv.alike
  refine ⟨hK.moved ha, hN.warm hv, fun i a b => ?_, True.intro⟩
  obtain ⟨q1, q2⟩ := h1 i a b
  exact ⟨(q1.moved ha).kept hq, (q2.moved ha).kept hq⟩
def PcO (M : MI) (base : Nat) (D : va_G) (ca : Nat → ClassId) (ad : Nat → Nat) (av : List AV) (h : Hp) : Array Value → State → Prop := va_Pc (av.map (mv ad)) (fun U => CX base D ca ad U ∧ WD base D ca ad h U.heap)
def isL (t : FieldType) : Bool := match t with
  | .long => true
  | _ => false
def isLo (t : Option FieldType) : Bool := match t with
  | some t => isL t
  | none => false
def QcO (M : MI) (base : Nat) (D : va_G) (ca : Nat → ClassId) (ad : Nat → Nat) (r : Int) (h' : Hp) : Array Value → State → Outcome → State → Prop := match mR M with
  | none => va_Qv (S := Unit) (fun _ => True) (fun _ t => WD base D ca ad h' t.heap) (fun q => base ≤ q)
  | some ty => if isL ty = true then va_Ql (S := Unit) (fun x _ => x = Int64.ofInt r) (fun _ t => WD base D ca ad h' t.heap) (fun q => base ≤ q) else va_Qi (S := Unit) (fun x _ => x = Int32.ofInt r) (fun _ t => WD base D ca ad h' t.heap) (fun q => base ≤ q)
theorem QcO_v {M : MI} {base : Nat} {D : va_G} {ca : Nat → ClassId} {ad : Nat → Nat} {r : Int} {h' : Hp} (hr : mR M = none) : QcO M base D ca ad r h' = va_Qv (S := Unit) (fun _ => True) (fun _ t => WD base D ca ad h' t.heap) (fun q => base ≤ q) := by unfold QcO; rw [hr]
theorem QcO_i {M : MI} {base : Nat} {D : va_G} {ca : Nat → ClassId} {ad : Nat → Nat} {r : Int} {h' : Hp} {ty : FieldType} (hr : mR M = some ty) (hl : isL ty = false) : QcO M base D ca ad r h' = va_Qi (S := Unit) (fun x _ => x = Int32.ofInt r) (fun _ t => WD base D ca ad h' t.heap) (fun q => base ≤ q) := by
  unfold QcO
  rw [hr]
  show (if isL ty = true then _ else _) = _
  rw [if_neg (by rw [hl]; decide)]
theorem QcO_l {M : MI} {base : Nat} {D : va_G} {ca : Nat → ClassId} {ad : Nat → Nat} {r : Int} {h' : Hp} (hr : mR M = some .long) : QcO M base D ca ad r h' = va_Ql (S := Unit) (fun x _ => x = Int64.ofInt r) (fun _ t => WD base D ca ad h' t.heap) (fun q => base ≤ q) := by
  unfold QcO
  rw [hr]
  show (if isL .long = true then _ else _) = _
  rw [if_pos (show isL .long = true from rfl)]
/-- what a method answers is a number of 32 digits of two, but where it is a long -/
def rR (M : MI) (r : Int) : Prop := isLo (mR M) = false → iR r
/-- of the law's methods: how many rows of the law the world has -/
def okX (M : MI) (x : Nat) (ad : Nat → Nat) : Prop := mF M ≠ 0 → nW ad = 76 + x
/-- a method's contract: if e is an answer and a heap, the method ends so -/
def Ct (M : MI) (av : List AV) (h : Hp) (e : Option (Int × Hp)) : Prop := LI h → hR h → (∀ v ∈ av, avR v) → ∀ r h', e = some (r, h') →
  (rR M r ∧ LI h' ∧ hR h') ∧ ∀ (l : Launch) (base : Nat) (D : va_G) (ca : Nat → ClassId) (ad : Nat → Nat), okX M 0 ad → Met l (mY M) (wsM M) (rmM M) (PcO M base D ca ad av h) (QcO M base D ca ad r h') (mB M) (12 * mB M) (fun q => base ≤ q)
/-- of the law alone: where its script lies -/
def lawS (s : State) (args : Array Value) (base : Nat) (ad : Nat → Nat) : Prop := base = s.heap.size ∧ args = #[Value.ref (ad 99)] ∧ ad 99 < s.heap.size ∧ ∃ (L : Nat) (xs : Nat → Int32), L ≤ 1000 ∧ va_X (ad 99) L xs s s.heap
def ZC (M : MI) (x : Nat) (p : Program) (s : State) (m : MethodId) (args : Array Value) (meth : Method) (c : Code) (base : Nat) (D : va_G) (ca : Nat → ClassId) (ad : Nat → Nat) : Prop :=
  (okM M = true ∧ okX M x ad ∧ (mF M = 2 → lawS s args base ad)) ∧ p.tables.exec = Jvm.exec ∧ c.code = mC M ∧ c.maxLocals = mN M ∧ meth.sig.returnType = mR M ∧ meth.locks = false ∧ s.vm.findClass (mO M) = some m.cls ∧ (∀ w ∈ lwT, w.before args s = true) ∧ CX base D ca ad s
/-- the locals -/
def LH (ad : Nat → Nat) (la : Array Slot) (n : Nat) (ls : List (Option AV)) : Prop := la.size = n ∧ lv_wf la ∧ ∀ (i : Nat) (v : AV), ls[i]? = some (some v) → la[i]? = some (.val (mv ad v))
/-- the end: the law's, or that of another method -/
def PQ (M : MI) (below : List Frame) (base : Nat) (D : va_G) (ca : Nat → ClassId) (ad : Nat → Nat) (r : Int) (h' : Hp) (args : Array Value) (s : State) : State → Prop := if mF M = 2 then lw_Z below args s else MQ below (QcO M base D ca ad r h') args s (mB M) (12 * mB M) (fun q => base ≤ q)
theorem PQ_n {M : MI} {below : List Frame} {base : Nat} {D : va_G} {ca : Nat → ClassId} {ad : Nat → Nat} {r : Int} {h' : Hp} {args : Array Value} {s : State} (hf : (mF M == 2) = false) : PQ M below base D ca ad r h' args s = MQ below (QcO M base D ca ad r h') args s (mB M) (12 * mB M) (fun q => base ≤ q) := if_neg (by simpa using hf)
def ZW (M : MI) (uu xw k : Nat) (ls : List (Option AV)) (st : List AV) (h : Hp) (r : Int) (h' : Hp) : Prop :=
  ∀ (p : Program) (l : Launch) (e : Env) (s : State) (m : MethodId) (args : Array Value) (below : List Frame) (meth : Method) (c : Code) (base : Nat) (D : va_G) (ca : Nat → ClassId) (ad : Nat → Nat) (H : Heap) (locs : List Loc) (la : Array Slot),
    ZC M xw p s m args meth c base D ca ad → LH ad la (mN M) ls → WD base D ca ad h H → va_S (fun q => base ≤ q) s.heap H locs →
    W p l e (rmM M) s m args below meth c H locs uu (12 * uu) (PQ M below base D ca ad r h' args s) (F0 m (pcO M k) la (st.map (mv ad)))
def Z (M : MI) (uu xw k : Nat) (ls : List (Option AV)) (st : List AV) (h : Hp) (e : Option (Int × Hp)) : Prop :=
  LI h → hR h → (∀ v ∈ st, avR v) → (∀ (i : Nat) (v : AV), ls[i]? = some (some v) → avR v) → ∀ r h', e = some (r, h') → (rR M r ∧ LI h' ∧ hR h') ∧ ZW M uu xw k ls st h r h'
def bd (e : Option (Int × Hp)) (K : Int → Hp → Option (Int × Hp)) : Option (Int × Hp) := match e with
  | none => none
  | some q => K q.1 q.2
theorem bd_s (r : Int) (h : Hp) (K : Int → Hp → Option (Int × Hp)) : bd (some (r, h)) K = K r h := rfl
theorem bd_n (K : Int → Hp → Option (Int × Hp)) : bd none K = none := rfl
theorem Z.nix {M : MI} {uu xw k : Nat} {ls : List (Option AV)} {st : List AV} {h : Hp} : Z M uu xw k ls st h none := fun _ _ _ _ _ _ he => by cases he
/-- fewer locals known -/
def wkL (ls ls' : List (Option AV)) : Prop := ∀ (i : Nat) (v : AV), ls'[i]? = some (some v) → ls[i]? = some (some v)
theorem Z.weak {M : MI} {uu xw k : Nat} {ls ls' : List (Option AV)} {st : List AV} {h : Hp} {e : Option (Int × Hp)} (hw : wkL ls ls') (z : Z M uu xw k ls' st h e) : Z M uu xw k ls st h e := by
  intro a b c d r h' he
  obtain ⟨z1, z2⟩ := z a b c (fun i v hi => d i v (hw i v hi)) r h' he
  exact ⟨z1, fun p l e s m args below meth c base D ca ad H locs la C L W0 S => z2 p l e s m args below meth c base D ca ad H locs la C ⟨L.1, L.2.1, fun i v hi => L.2.2 i v (hw i v hi)⟩ W0 S⟩
theorem wkL_nil (ls : List (Option AV)) : wkL ls [] := fun i v h => by simp at h
theorem wkL_n {a : Option AV} {ls ls' : List (Option AV)} (h : wkL ls ls') : wkL (a :: ls) (none :: ls') := by
  intro i v hi
  cases i with
  | zero => simp at hi
  | succ i => exact h i v hi
theorem wkL_c {a : Option AV} {ls ls' : List (Option AV)} (h : wkL ls ls') : wkL (a :: ls) (a :: ls') := by
  intro i v hi
  cases i with
  | zero => exact hi
  | succ i => exact h i v hi
end Ground
