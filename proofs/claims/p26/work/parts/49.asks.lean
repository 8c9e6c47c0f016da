/-! the pure part: the order in which a claim asks -/
section Asks1
theorem pts_b {N : Int} {s : Rw} {u c : Nat} (hV : Vn s) (hD : Vd N s) (hu : (u : Int) < s 15) (hc : (c : Int) < s 16) : pts s u c ≤ 52 := by
  have s2 := hD.2.2 1 (by omega)
  have s3 := hD.2.2 2 (by omega)
  have dd := (hD.2.1 c hc).2
  rw [show sA 85 1 = 0 from rfl, show sA 86 1 = 20 from rfl, show 1 + 1 = 2 from rfl] at s2
  rw [show sA 85 2 = 0 from rfl, show sA 86 2 = 20 from rfl, show 1 + 2 = 3 from rfl] at s3
  have mb := ms_b s u c 4
  have pb := ps_b u c hV 4
  have m1 : 0 ≤ s 2 * mis s u c := Int.mul_nonneg s2.1 mb.1
  have m2 : 0 ≤ s 3 * s (78 + 6 * c + 5) := Int.mul_nonneg s3.1 dd.1
  unfold pts
  omega
theorem r81_b {N : Int} {s : Rw} (hV : Vn s) (hD : Vd N s) (k : Nat) : -1 ≤ r81 s k ∧ r81 s k ≤ 52 := by
  by_cases q : suP s k
  · have e := r81_su hD.2.2 q
    have p := pts_b hV hD q.1.1 q.1.2
    have e3 : ptP s k = pts s (k / 12) (k % 12) := rfl
    omega
  · rw [r81_no q]
    omega
abbrev su (s : Rw) (c u : Nat) : Prop := r81 s (12 * u + c) ≠ -1
abbrev bt (s : Rw) (c u v : Nat) : Prop := r81 s (12 * u + c) ≠ -1 ∧ (r81 s (12 * v + c) < r81 s (12 * u + c) ∨ (r81 s (12 * v + c) = r81 s (12 * u + c) ∧ u < v))
def bF (s : Rw) (c v u : Nat) : Int := if bt s c u v then 1 else 0
theorem bF_b (s : Rw) (c v u : Nat) : 0 ≤ bF s c v u ∧ bF s c v u ≤ 1 := by
  unfold bF
  split <;> omega
def rk (s : Rw) (c v : Nat) : Int := sm (bF s c v) 12
theorem rk_b (s : Rw) (c v : Nat) : 0 ≤ rk s c v ∧ rk s c v ≤ 12 := by
  have := sm_b1 (bF_b s c v) 12
  unfold rk
  omega
def nxF (s : Rw) (c : Nat) (a : Int) : Nat → Int
  | 0 => -1
  | v + 1 => if su s c v ∧ rk s c v = a then (v : Int) else nxF s c a v
def nx (s : Rw) (c : Nat) (a : Int) : Int := nxF s c a 12
theorem m_rk_L {N : Int} {s : Rw} {x2 : Int} {h : Hp} {c v : Nat} {c59 : Int → Hp → Option (Int × Hp)} (hV : Vn s) (hD : Vd N s) (w : WM s h) (hc : c < 12) (hv : v < 12) : ∀ (m n i : Nat), m < n → i + m = 12 →
    f_X5_asks_L13 (c : Int) x2 (v : Int) c59 n (sm (bF s c v) i) (i : Int) h = c59 (rk s c v) h := by
  intro m
  induction m with
  | zero =>
    intro n i hn hi
    obtain ⟨n, rfl⟩ : ∃ n', n = n' + 1 := ⟨n - 1, by omega⟩
    rw [f_X5_asks_L13_s, if_pos (by omega), show i = 12 by omega]
    rfl
  | succ m ih =>
    intro n i hn hi
    obtain ⟨n, rfl⟩ : ∃ n', n = n' + 1 := ⟨n - 1, by omega⟩
    have b := sm_b1 (bF_b s c v) i
    have k := ih n (i + 1) (by omega) (by omega)
    rw [show ((i + 1 : Nat) : Int) = (i : Int) + 1 by omega, sm_s] at k
    have ei : wr ((wr (12 * (i : Int))) + (c : Int)) = ((12 * i + c : Nat) : Int) := by
      rw [wr_id (z := 12 * (i : Int)) (by omega) (by omega), wr_id (by omega) (by omega)]
      omega
    have ev : wr ((wr (12 * (v : Int))) + (c : Int)) = ((12 * v + c : Nat) : Int) := by
      rw [wr_id (z := 12 * (v : Int)) (by omega) (by omega), wr_id (by omega) (by omega)]
      omega
    have ii : inb ((12 * i + c : Nat) : Int) 144 := by unfold inb; omega
    have iv : inb ((12 * v + c : Nat) : Int) 144 := by unfold inb; omega
    have bi := r81_b hV hD (12 * i + c)
    have bv := r81_b hV hD (12 * v + c)
    rw [f_X5_asks_L13_s, if_neg (by omega), ei, ev, if_pos ii, if_pos iv]
    unfold lv
    dsimp only
    rw [if_pos ii, show (((12 * i + c : Nat) : Int)).toNat = 12 * i + c by omega, show (((12 * v + c : Nat) : Int)).toNat = 12 * v + c by omega, w _ (by omega), w _ (by omega), wr_id (z := r81 s (12 * i + c) - r81 s (12 * v + c)) (by omega) (by omega), wr_id (z := (i : Int) + 1) (by omega) (by omega), wr_id (z := sm (bF s c v) i + 0) (by omega) (by omega), wr_id (z := sm (bF s c v) i + 1) (by omega) (by omega)]
    have no : ¬ bt s c i v → f_X5_asks_L13 (c : Int) x2 (v : Int) c59 n (sm (bF s c v) i + 0) ((i : Int) + 1) h = c59 (rk s c v) h := fun q => by
      rw [show bF s c v i = 0 by unfold bF; rw [if_neg q]] at k
      exact k
    have yes : bt s c i v → f_X5_asks_L13 (c : Int) x2 (v : Int) c59 n (sm (bF s c v) i + 1) ((i : Int) + 1) h = c59 (rk s c v) h := fun q => by
      rw [show bF s c v i = 1 by unfold bF; rw [if_pos q]] at k
      exact k
    by_cases c1 : r81 s (12 * i + c) = -1
    · rw [if_pos c1]
      exact no (fun q => q.1 c1)
    · rw [if_neg c1]
      by_cases c2 : 0 < r81 s (12 * i + c) - r81 s (12 * v + c)
      · rw [if_pos c2]
        exact yes ⟨c1, Or.inl (by omega)⟩
      · rw [if_neg c2]
        by_cases c3 : r81 s (12 * i + c) - r81 s (12 * v + c) = 0
        · rw [if_neg (by omega)]
          by_cases c4 : (v : Int) ≤ (i : Int)
          · rw [if_pos c4]
            exact no (fun q => by have := q.2; omega)
          · rw [if_neg c4]
            exact yes ⟨c1, Or.inr ⟨by omega, by omega⟩⟩
        · rw [if_pos c3]
          exact no (fun q => by have := q.2; omega)
theorem m_asks_L {N a : Int} {s : Rw} {h : Hp} {c : Nat} {c81 : Int → Hp → Option (Int × Hp)} (hV : Vn s) (hD : Vd N s) (w : WM s h) (hc : c < 12) (ha : h 82 c = a) : ∀ (m n v : Nat), m < n → v + m = 12 →
    f_X5_asks_L6 (c : Int) c81 n (nxF s c a v) (v : Int) h = c81 (nx s c a) h := by
  intro m
  induction m with
  | zero =>
    intro n v hn hi
    obtain ⟨n, rfl⟩ : ∃ n', n = n' + 1 := ⟨n - 1, by omega⟩
    rw [f_X5_asks_L6_s, if_pos (by omega), show v = 12 by omega]
    rfl
  | succ m ih =>
    intro n v hn hi
    obtain ⟨n, rfl⟩ : ∃ n', n = n' + 1 := ⟨n - 1, by omega⟩
    have k := ih n (v + 1) (by omega) (by omega)
    rw [show ((v + 1 : Nat) : Int) = (v : Int) + 1 by omega, show nxF s c a (v + 1) = if su s c v ∧ rk s c v = a then (v : Int) else nxF s c a v from rfl] at k
    have ev : wr ((wr (12 * (v : Int))) + (c : Int)) = ((12 * v + c : Nat) : Int) := by
      rw [wr_id (z := 12 * (v : Int)) (by omega) (by omega), wr_id (by omega) (by omega)]
      omega
    have iv : inb ((12 * v + c : Nat) : Int) 144 := by unfold inb; omega
    have ic : inb (c : Int) 12 := by unfold inb; omega
    have rkL := m_rk_L (x2 := nxF s c a v) (c59 := fun y7 h8 => if inb (wr ((wr (12 * (v : Int))) + (c : Int))) 144 then if (h8 81 (Int.toNat (wr ((wr (12 * (v : Int))) + (c : Int))))) = (-1) then f_X5_asks_L6 (c : Int) c81 n (nxF s c a v) (wr ((v : Int) + 1)) h8 else if inb (c : Int) 12 then if ¬ y7 = (h8 82 (Int.toNat (c : Int))) then f_X5_asks_L6 (c : Int) c81 n (nxF s c a v) (wr ((v : Int) + 1)) h8 else f_X5_asks_L6 (c : Int) c81 n (v : Int) (wr ((v : Int) + 1)) h8 else none else none) (v := v) hV hD w hc (by omega) 12 fu 0 (by have := fu_gt; omega) (by omega)
    rw [show sm (bF s c v) 0 = 0 from rfl, show ((0 : Nat) : Int) = 0 from rfl] at rkL
    rw [f_X5_asks_L6_s, if_neg (by omega), rkL, ev, if_pos iv, show (((12 * v + c : Nat) : Int)).toNat = 12 * v + c by omega, w _ (by omega), if_pos ic, show ((c : Int)).toNat = c by omega, ha, wr_id (z := (v : Int) + 1) (by omega) (by omega)]
    by_cases c1 : r81 s (12 * v + c) = -1
    · rw [if_pos c1]
      rw [if_neg (fun q => q.1 c1)] at k
      exact k
    · rw [if_neg c1]
      by_cases c2 : rk s c v = a
      · rw [if_pos ⟨c1, c2⟩] at k
        rw [if_neg (show ¬ ¬ rk s c v = a by omega)]
        exact k
      · rw [if_neg (fun q => c2 q.2)] at k
        rw [if_pos c2]
        exact k
theorem m_asks {N a : Int} {s : Rw} {h : Hp} {c : Nat} (hV : Vn s) (hD : Vd N s) (w : WM s h) (hc : c < 12) (ha : h 82 c = a) (a0 : 0 ≤ a) (a1 : a ≤ 100000) :
    f_X5_asks (c : Int) h = some (nx s c a, hup h 82 c (a + 1)) := by
  have ic : inb (c : Int) 12 := by unfold inb; omega
  have k := m_asks_L (c81 := fun y9 h10 => if inb (c : Int) 12 then if inb (c : Int) 12 then lt (hup h10 82 (Int.toNat (c : Int)) (wr ((h10 82 (Int.toNat (c : Int))) + 1))) fun h11 => some (y9, h11) else none else none) hV hD w hc ha 12 fu 0 (by have := fu_gt; omega) (by omega)
  rw [show nxF s c a 0 = -1 from rfl, show ((0 : Nat) : Int) = 0 from rfl] at k
  unfold f_X5_asks
  rw [k, if_pos ic, if_pos ic, show ((c : Int)).toNat = c by omega, ha, wr_id (by omega) (by omega)]
  rfl
/-! the order -/
theorem bt_irr {s : Rw} {c u : Nat} : ¬ bt s c u u := fun q => by have := q.2; omega
theorem bt_tr {s : Rw} {c u v w : Nat} (a : bt s c u v) (b : bt s c v w) : bt s c u w := by
  refine ⟨a.1, ?_⟩
  have := a.2
  have := b.2
  omega
theorem bt_tot {s : Rw} {c u v : Nat} (a : su s c u) (b : su s c v) (n : u ≠ v) : bt s c u v ∨ bt s c v u := by
  by_cases c1 : r81 s (12 * v + c) < r81 s (12 * u + c)
  · exact Or.inl ⟨a, Or.inl c1⟩
  · by_cases c2 : r81 s (12 * u + c) < r81 s (12 * v + c)
    · exact Or.inr ⟨b, Or.inl c2⟩
    · by_cases c3 : u < v
      · exact Or.inl ⟨a, Or.inr ⟨by omega, c3⟩⟩
      · exact Or.inr ⟨b, Or.inr ⟨by omega, by omega⟩⟩
theorem sm_le {f g : Nat → Int} : ∀ n : Nat, (∀ k, k < n → f k ≤ g k) → sm f n ≤ sm g n := by
  intro n
  induction n with
  | zero => intro _; exact Int.le_refl 0
  | succ n ih =>
    intro q
    have := ih (fun k hk => q k (by omega))
    have := q n (by omega)
    rw [sm_s, sm_s]
    omega
theorem sm_lt {f g : Nat → Int} {j : Nat} (hj : f j < g j) : ∀ n : Nat, j < n → (∀ k, k < n → f k ≤ g k) → sm f n < sm g n := by
  intro n
  induction n with
  | zero => intro h; omega
  | succ n ih =>
    intro h q
    rw [sm_s, sm_s]
    by_cases c : j = n
    · have := sm_le n (fun k hk => q k (by omega))
      subst c
      omega
    · have := ih (by omega) (fun k hk => q k (by omega))
      have := q n (by omega)
      omega
theorem sm_dl {f g : Nat → Int} {z : Nat} : ∀ n : Nat, (∀ k, k < n → f k = g k + if k = z then 1 else 0) → sm f n = sm g n + if z < n then 1 else 0 := by
  intro n
  induction n with
  | zero => intro _; rfl
  | succ n ih =>
    intro q
    have a := ih (fun k hk => q k (by omega))
    have b := q n (by omega)
    rw [sm_s, sm_s, a, b]
    by_cases c : n = z
    · rw [if_pos c, if_neg (by omega), if_pos (by omega)]
      omega
    · rw [if_neg c]
      by_cases c2 : z < n
      · rw [if_pos c2, if_pos (by omega)]
        omega
      · rw [if_neg c2, if_neg (by omega)]
        omega
theorem rk_lt {s : Rw} {c v w : Nat} (hv : v < 12) (b : bt s c v w) : rk s c v < rk s c w := by
  refine sm_lt (j := v) ?_ 12 hv (fun k hk => ?_)
  · unfold bF
    rw [if_neg bt_irr, if_pos b]
    omega
  · unfold bF
    by_cases q : bt s c k v
    · rw [if_pos q, if_pos (bt_tr q b)]
      exact Int.le_refl 1
    · rw [if_neg q]
      split <;> omega
theorem rk_inj {s : Rw} {c v w : Nat} (hv : v < 12) (hw : w < 12) (sv : su s c v) (sw : su s c w) (e : rk s c v = rk s c w) : v = w := by
  by_cases q : v = w
  · exact q
  · rcases bt_tot sv sw q with b | b
    · have := rk_lt hv b
      omega
    · have := rk_lt hw b
      omega
theorem worst {s : Rw} {c w : Nat} : ∀ n : Nat, (∃ u, u < n ∧ bt s c u w) → ∃ z, z < n ∧ bt s c z w ∧ ∀ u, u < n → bt s c u w → u = z ∨ bt s c u z := by
  intro n
  induction n with
  | zero => intro ⟨u, h, _⟩; omega
  | succ n ih =>
    intro ⟨u, h, b⟩
    by_cases e : ∃ u, u < n ∧ bt s c u w
    · obtain ⟨z, z1, z2, z3⟩ := ih e
      by_cases bn : bt s c n w
      · by_cases bz : bt s c n z
        · refine ⟨z, by omega, z2, fun x hx bx => ?_⟩
          by_cases xn : x = n
          · rw [xn]; exact Or.inr bz
          · exact z3 x (by omega) bx
        · have nz : bt s c z n := by
            rcases bt_tot bn.1 z2.1 (by omega) with q | q
            · exact absurd q bz
            · exact q
          refine ⟨n, by omega, bn, fun x hx bx => ?_⟩
          by_cases xn : x = n
          · exact Or.inl xn
          · rcases z3 x (by omega) bx with q | q
            · rw [q]; exact Or.inr nz
            · exact Or.inr (bt_tr q nz)
      · refine ⟨z, by omega, z2, fun x hx bx => ?_⟩
        by_cases xn : x = n
        · rw [xn] at bx; exact absurd bx bn
        · exact z3 x (by omega) bx
    · have un : u = n := by
        by_cases q : u = n
        · exact q
        · exact absurd ⟨u, by omega, b⟩ e
      refine ⟨n, by omega, by rw [← un]; exact b, fun x hx bx => ?_⟩
      by_cases xn : x = n
      · exact Or.inl xn
      · exact absurd ⟨x, by omega, bx⟩ e
theorem rk_min {s : Rw} {c w : Nat} {a : Int} (h0 : 0 ≤ a) (ha : a ≤ rk s c w) (q : ∀ u, u < 12 → bt s c u w → rk s c u < a) : rk s c w = a := by
  by_cases e : ∃ u, u < 12 ∧ bt s c u w
  · obtain ⟨z, z1, z2, z3⟩ := worst 12 e
    have := q z z1 z2
    have k := sm_dl (f := bF s c w) (g := bF s c z) (z := z) 12 (fun k hk => by
      unfold bF
      by_cases c1 : k = z
      · rw [if_pos c1, c1, if_pos z2, if_neg bt_irr]
        omega
      · rw [if_neg c1]
        by_cases c2 : bt s c k w
        · rcases z3 k hk c2 with r | r
          · exact absurd r c1
          · rw [if_pos c2, if_pos r]
            omega
        · rw [if_neg c2, if_neg (fun r => c2 (bt_tr r z2))]
          omega)
    rw [if_pos z1] at k
    have e1 : rk s c w = rk s c z + 1 := k
    omega
  · have k : rk s c w = 0 := sm_skip (f := bF s c w) (a := 0) 12 (fun k k1 k2 => by
      unfold bF
      rw [if_neg (fun r => e ⟨k, by omega, r⟩)])
    omega
theorem nxF_b {s : Rw} {c : Nat} {a : Int} : ∀ n : Nat, nxF s c a n = -1 ∧ (∀ v, v < n → su s c v → rk s c v ≠ a) ∨ (0 ≤ nxF s c a n ∧ nxF s c a n < n ∧ su s c (nxF s c a n).toNat ∧ rk s c (nxF s c a n).toNat = a) := by
  intro n
  induction n with
  | zero => exact Or.inl ⟨rfl, fun v h => by omega⟩
  | succ n ih =>
    rw [show nxF s c a (n + 1) = if su s c n ∧ rk s c n = a then (n : Int) else nxF s c a n from rfl]
    by_cases q : su s c n ∧ rk s c n = a
    · rw [if_pos q]
      refine Or.inr ⟨by omega, by omega, ?_⟩
      rw [show ((n : Int)).toNat = n by omega]
      exact q
    · rw [if_neg q]
      rcases ih with ih | ih
      · refine Or.inl ⟨ih.1, fun v hv sv => ?_⟩
        by_cases c1 : v = n
        · subst c1
          exact fun r => q ⟨sv, r⟩
        · exact ih.2 v (by omega) sv
      · exact Or.inr ⟨ih.1, by omega, ih.2.2⟩
theorem nx_b {s : Rw} {c : Nat} {a : Int} : nx s c a = -1 ∧ (∀ v, v < 12 → su s c v → rk s c v ≠ a) ∨ (0 ≤ nx s c a ∧ nx s c a < 12 ∧ su s c (nx s c a).toNat ∧ rk s c (nx s c a).toNat = a) := nxF_b 12
theorem nx_is {s : Rw} {c v : Nat} {a : Int} (hv : v < 12) (sv : su s c v) (e : rk s c v = a) : nx s c a = v := by
  rcases nx_b (s := s) (c := c) (a := a) with q | q
  · exact absurd e (q.2 v hv sv)
  · have := rk_inj (v := v) (w := (nx s c a).toNat) hv (by omega) sv q.2.2.1 (by rw [q.2.2.2]; exact e)
    omega
/-- the best pair of all is ahead of all others -/
theorem bes_best {s U C : Rw} : ∀ (n k : Nat), k < n → elP s U C k → bes s U C n ≠ -1 ∧ (k = (bes s U C n).toNat ∨ ptP s k < ptP s (bes s U C n).toNat ∨ (ptP s k = ptP s (bes s U C n).toNat ∧ (bes s U C n).toNat < k)) := by
  intro n
  induction n with
  | zero => intro k h; omega
  | succ n ih =>
    intro k hk e
    rw [show bes s U C (n + 1) = if elP s U C n then ahd s n (bes s U C n) else bes s U C n from rfl]
    have nn : ((n : Int)).toNat = n := by omega
    rcases bes_b s U C n with b | b
    · have kn : k = n := by
        by_cases q : k = n
        · exact q
        · exact absurd b (ih k (by omega) e).1
      subst kn
      rw [if_pos e]
      unfold ahd
      rw [if_pos b, nn]
      exact ⟨by omega, Or.inl rfl⟩
    · by_cases q : elP s U C n
      · rw [if_pos q]
        unfold ahd
        rw [if_neg (by omega)]
        by_cases c1 : ptP s n ≤ ptP s (bes s U C n).toNat
        · rw [if_pos c1]
          by_cases kn : k = n
          · subst kn
            exact ⟨by omega, by omega⟩
          · exact ih k (by omega) e
        · rw [if_neg c1, nn]
          refine ⟨by omega, ?_⟩
          by_cases kn : k = n
          · exact Or.inl kn
          · have := (ih k (by omega) e).2
            refine Or.inr (Or.inl ?_)
            rcases this with r | r | r
            · rw [r]; omega
            · omega
            · omega
      · rw [if_neg q]
        have kn : k ≠ n := fun r => q (by rw [← r]; exact e)
        exact ih k (by omega) e
def Ua (s : Rw) (c : Nat) (a : Int) : Rw := fun u => if rk s c u < a then 0 else -1
def Cc (c : Nat) : Rw := fun j => if j = c then -1 else 0
theorem el_is {s : Rw} {c k : Nat} {a : Int} : elP s (Ua s c a) (Cc c) k ↔ suP s k ∧ a ≤ rk s c (k / 12) ∧ k % 12 = c := by
  unfold Ua Cc
  constructor
  · intro ⟨q1, q2, q3⟩
    dsimp only at q2 q3
    refine ⟨q1, ?_, ?_⟩
    · by_cases r : rk s c (k / 12) < a
      · rw [if_pos r] at q2
        omega
      · omega
    · by_cases r : k % 12 = c
      · exact r
      · rw [if_neg r] at q3
        omega
  · intro ⟨q1, q2, q3⟩
    refine ⟨q1, ?_, ?_⟩
    · dsimp only
      rw [if_neg (by omega)]
    · dsimp only
      rw [if_pos q3]
theorem su_is {s : Rw} {c u : Nat} (hS : sok s) : su s c u ↔ suP s (12 * u + c) := by
  constructor
  · intro q
    by_cases r : suP s (12 * u + c)
    · exact r
    · exact absurd (r81_no r) q
  · intro q
    have := (r81_su hS q).1
    show r81 s (12 * u + c) ≠ -1
    omega
theorem bes_nx {s : Rw} {c : Nat} {a : Int} (hS : sok s) (hc : c < 12) (h0 : 0 ≤ a) : bes s (Ua s c a) (Cc c) 144 = if nx s c a = -1 then -1 else 12 * nx s c a + c := by
  have el : ∀ u, u < 12 → su s c u → a ≤ rk s c u → elP s (Ua s c a) (Cc c) (12 * u + c) := fun u hu q r => by
    have d := dv (u := u) hc
    rw [el_is, d.1, d.2]
    exact ⟨(su_is hS).mp q, r, rfl⟩
  rcases bes_b s (Ua s c a) (Cc c) 144 with b | b
  · rw [b]
    rcases nx_b (s := s) (c := c) (a := a) with q | q
    · rw [if_pos q.1]
    · exact absurd b (bes_best 144 _ (by omega) (el (nx s c a).toNat (by omega) q.2.2.1 (by omega))).1
  · obtain ⟨b0, b1, b2⟩ := b
    have b3 := el_is.mp b2
    obtain ⟨k, hk⟩ : ∃ k : Nat, bes s (Ua s c a) (Cc c) 144 = k := ⟨(bes s (Ua s c a) (Cc c) 144).toNat, by omega⟩
    have best := fun j hj e => (bes_best (s := s) (U := Ua s c a) (C := Cc c) 144 j hj e).2
    rw [hk] at b1 b3 best ⊢
    rw [show ((k : Int)).toNat = k by omega] at b3 best
    have sk : su s c (k / 12) := by
      rw [su_is hS, show 12 * (k / 12) + c = k by omega]
      exact b3.1
    have e := rk_min (w := k / 12) h0 b3.2.1 (fun u hu q => by
      by_cases r : rk s c u < a
      · exact r
      · have e2 := el u hu q.1 (by omega)
        have k2 := best (12 * u + c) (by omega) e2
        have p1 := (r81_su hS (el_is.mp e2).1).2
        have p2 := (r81_su hS b3.1).2
        have q2 := q.2
        rw [show 12 * (k / 12) + c = k by omega] at q2
        by_cases z : 12 * u + c = k
        · rw [show k / 12 = u by omega] at q
          exact absurd q bt_irr
        · omega)
    have n := nx_is (by omega) sk e
    rw [n, if_neg (by omega)]
    omega
end Asks1
