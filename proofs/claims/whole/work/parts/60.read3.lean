/-! the pure part: orders, in step -/
section Read3
def Stz (hC hM : Hp) (k c p : Int) (m : Nat) (e e' : Option (Int × Hp)) : Prop := ∃ ok p' G G', e = some (ok, tc hC k p' G) ∧ e' = some (ok, tm hM c p' G') ∧ p ≤ p' ∧ p' ≤ hM 76 3 ∧ (ok = 0 ∨ ok = 1) ∧ (ok = 1 → p < p' ∧ ∀ j, j < m → G j = G' j)
def Wd5 (x n1 : Nat) (W : Int64) (d : Nat) : Prop := d + n1 = 6 ∧ 1 ≤ n1 ∧ (∀ i, i < n1 → 32 ≤ sCh (x + 5) i ∧ sCh (x + 5) i ≤ 126) ∧ (∀ i, i < d → byt W i = 0) ∧ ∀ i, i < n1 → byt W (d + i) = sCh (x + 5) i
theorem l_word {hC hM : Hp} {k c p : Int} {g g' : Rw} {x n1 d : Nat} {W : Int64} (t : Tx hC hM) (w : Wd5 x n1 W d) (p0 : 0 ≤ p) (p1 : p ≤ hM 76 3) :
    ∃ ok p', f_X3_readWord x n1 (tc hC k p g) = some (ok, tc hC k p' g) ∧ f_X5_takesWord W (tm hM c p g') = some (ok, tm hM c p' g') ∧ p ≤ p' ∧ p' ≤ hM 76 3 ∧ (ok = 0 ∨ ok = 1) ∧ (ok = 1 → p < p') := by
  obtain ⟨hd, h1, hf, hz, he⟩ := w
  have a := c_word_L (k := k) (g := g) t hf n1 fu 0 p (by have := fu_gt; omega) (by omega) (by omega) p0 p1
  have b := m_word (c := c) (g := g') t hd hz (f := sCh (x + 5)) (fun i hi => ⟨he i hi, by have := hf i hi; omega⟩) p0 p1
  obtain ⟨r1, r2, r3, r4⟩ := rdI_b (f := sCh (x + 5)) t n1 0 p (fun j _ j2 => by have := hf j (by omega); omega) p0 p1
  exact ⟨_, _, a, b, r1, r2, r3, fun q => by rw [r4 q]; omega⟩
theorem l_body {hC hM : Hp} {k c p x2 y2 : Int} {g g' : Rw} {x n1 d x1 : Nat} {W : Int64} {a : Bool} (t : Tx hC hM) (w : Wd5 x n1 W d) (h1 : 1 ≤ x1) (hx : x1 ≤ 4) (ha : x2 = if a then 1 else 0) (hb : y2 = if a then 0 else 1) (p0 : 0 ≤ p) (p1 : p ≤ hM 76 3) :
    Stz hC hM k c p x1 (bd (f_X3_readWord x n1 (tc hC k p g)) fun r4 h4 => if r4 = 0 then some (0, h4) else bd (f_X3_readNumbers (x1 : Int) x2 h4) fun r5 h5 => if r5 = 0 then some (0, h5) else bd (f_X3_readSign 59 h5) fun r6 h6 => if r6 = 0 then some (0, h6) else some (1, h6))
      (bd (f_X5_takesWord W (tm hM c p g')) fun r4 h4 => if r4 = 0 then some (0, h4) else bd (f_X5_readsRow (x1 : Int) y2 h4) fun r5 h5 => if r5 = 0 then some (0, h5) else bd (f_X5_takes 59 h5) fun r6 h6 => if r6 = 0 then some (0, h6) else some (1, h6)) := by
  have l60 := t.2.2.1
  obtain ⟨ok, q, e1, e2, q1, q2, q3, q4⟩ := l_word (k := k) (c := c) (g := g) (g' := g') t w p0 p1
  rw [e1, e2, bd_s, bd_s]
  rcases q3 with rfl | rfl
  · rw [if_pos rfl, if_pos rfl]
    exact ⟨0, q, g, g', rfl, rfl, q1, q2, Or.inl rfl, fun z => by cases z⟩
  · have q5 := q4 rfl
    rw [if_neg (by omega), if_neg (by omega)]
    obtain ⟨ok2, r, G, G', f1, f2, r1, r2, r3, r4⟩ := l_row (k := k) (c := c) (g := g) (g' := g') t h1 hx ha hb (by omega) q2
    rw [f1, f2, bd_s, bd_s]
    rcases r3 with rfl | rfl
    · rw [if_pos rfl, if_pos rfl]
      exact ⟨0, r, G, G', rfl, rfl, by omega, r2, Or.inl rfl, fun z => by cases z⟩
    · rw [if_neg (by omega), if_neg (by omega), l_rs t (by omega) (by omega), l_tk t (by omega) (by omega) (by omega)]
      by_cases y : ch hM r = 59
      · have b := ch_b t r (by omega)
        rw [if_pos y, if_pos y, bd_s, bd_s, if_neg (by omega), if_neg (by omega)]
        exact ⟨1, r + 1, G, G', rfl, rfl, by omega, by omega, Or.inr rfl, fun _ => ⟨by omega, r4 rfl⟩⟩
      · rw [if_neg y, if_neg y, bd_s, bd_s, if_pos rfl, if_pos rfl]
        exact ⟨0, r, G, G', rfl, rfl, by omega, r2, Or.inl rfl, fun z => by cases z⟩
theorem l_bodyH {hC hM : Hp} {k c p : Int} {g g' : Rw} {x n1 d : Nat} {W : Int64} (t : Tx hC hM) (w : Wd5 x n1 W d) (p0 : 0 ≤ p) (p1 : p ≤ hM 76 3) :
    Stz hC hM k c p 0 (bd (f_X3_readWord x n1 (tc hC k p g)) fun r4 h4 => if r4 = 0 then some (0, h4) else bd (f_X3_readSign 59 h4) fun r6 h6 => if r6 = 0 then some (0, h6) else some (1, h6))
      (bd (f_X5_takesWord W (tm hM c p g')) fun r4 h4 => if r4 = 0 then some (0, h4) else bd (f_X5_takes 59 h4) fun r6 h6 => if r6 = 0 then some (0, h6) else some (1, h6)) := by
  have l60 := t.2.2.1
  obtain ⟨ok, r, e1, e2, q1, q2, q3, q4⟩ := l_word (k := k) (c := c) (g := g) (g' := g') t w p0 p1
  rw [e1, e2, bd_s, bd_s]
  rcases q3 with rfl | rfl
  · rw [if_pos rfl, if_pos rfl]
    exact ⟨0, r, g, g', rfl, rfl, q1, q2, Or.inl rfl, fun z => by cases z⟩
  · have q5 := q4 rfl
    rw [if_neg (by omega), if_neg (by omega), l_rs t (by omega) (by omega), l_tk t (by omega) (by omega) (by omega)]
    by_cases y : ch hM r = 59
    · have b := ch_b t r (by omega)
      rw [if_pos y, if_pos y, bd_s, bd_s, if_neg (by omega), if_neg (by omega)]
      exact ⟨1, r + 1, g, g', rfl, rfl, by omega, by omega, Or.inr rfl, fun _ => ⟨by omega, fun j hj => by omega⟩⟩
    · rw [if_neg y, if_neg y, bd_s, bd_s, if_pos rfl, if_pos rfl]
      exact ⟨0, r, g, g', rfl, rfl, by omega, q2, Or.inl rfl, fun z => by cases z⟩
theorem w_claim : Wd5 88 6 109317141916960 0 := ⟨by decide, by decide, by decide, by decide, by decide⟩
theorem w_find : Wd5 87 5 439855506464 1 := ⟨by decide, by decide, by decide, by decide, by decide⟩
theorem w_hand : Wd5 91 4 1751215716 2 := ⟨by decide, by decide, by decide, by decide, by decide⟩
theorem w_tell : Wd5 89 5 499917810720 1 := ⟨by decide, by decide, by decide, by decide, by decide⟩
theorem w_week : Wd5 90 5 512802253600 1 := ⟨by decide, by decide, by decide, by decide, by decide⟩
/-- the kind of an order, its letter, and its numbers -/
def Kd (k c : Int) (G G' : Rw) : Prop := (k = 1 ∧ c = 99 ∧ ∀ j, j < 4 → G j = G' j) ∨ (k = 0 ∧ c = 102 ∧ ∀ j, j < 4 → G j = G' j) ∨ (k = 4 ∧ c = 104) ∨ (k = 2 ∧ c = 116 ∧ ∀ j, j < 3 → G j = G' j) ∨ (k = 3 ∧ c = 119 ∧ ∀ j, j < 1 → G j = G' j)
theorem l_order {hC hM : Hp} {k0 q0 c0 p : Int} {g g' : Rw} (t : Tx hC hM) (p0 : 0 ≤ p) (p1 : p ≤ hM 76 3) :
    ∃ ok p' k c G G', f_X3_readOrder p (tc hC k0 q0 g) = some (ok, tc hC k p' G) ∧ f_X5_readsOrder (tm hM c0 p g') = some (ok, tm hM c p' G') ∧ p ≤ p' ∧ p' ≤ hM 76 3 ∧ (ok = 0 ∨ ok = 1) ∧ (ok = 1 → p < p' ∧ Kd k c G G') := by
  have l60 := t.2.2.1
  have m0 : f_X5_readsOrder (tm hM c0 p g') = f_X5_readsOrder_J13 (ch hM p) (tm hM c0 p g') := by
    unfold f_X5_readsOrder ch
    rw [tm_76.1, tm_76.2.2, tm_row (a := 78) (by omega) (by omega)]
    by_cases c : hM 76 3 ≤ p
    · rw [if_pos c, if_neg (by omega)]
    · rw [if_neg c, if_pos (by unfold inb; omega), if_pos (by omega)]
  rw [m0]
  unfold f_X3_readOrder f_X5_readsOrder_J13 lt
  dsimp only
  rw [tc_p, l_sign t p0, bd_s, tm_c, tm_76.2.1, tc_k, tc_k, tc_k, tc_k, tc_k]
  by_cases c1 : ch hM p = 99
  · rw [if_pos c1, if_pos c1]
    obtain ⟨ok, p', G, G', e1, e2, r1, r2, r3, r4⟩ := l_body (k := 1) (c := ch hM p) (x2 := 1) (y2 := 0) (a := true) (x1 := 4) (g := g) (g' := g') t w_claim (by omega) (by omega) rfl rfl p0 p1
    exact ⟨ok, p', 1, ch hM p, G, G', e1, e2, r1, r2, r3, fun z => ⟨(r4 z).1, Or.inl ⟨rfl, c1, (r4 z).2⟩⟩⟩
  rw [if_neg c1, if_neg c1]
  by_cases c2 : ch hM p = 102
  · rw [if_pos c2, if_pos c2]
    obtain ⟨ok, p', G, G', e1, e2, r1, r2, r3, r4⟩ := l_body (k := 0) (c := ch hM p) (x2 := 0) (y2 := 1) (a := false) (x1 := 4) (g := g) (g' := g') t w_find (by omega) (by omega) rfl rfl p0 p1
    exact ⟨ok, p', 0, ch hM p, G, G', e1, e2, r1, r2, r3, fun z => ⟨(r4 z).1, Or.inr (Or.inl ⟨rfl, c2, (r4 z).2⟩)⟩⟩
  rw [if_neg c2, if_neg c2]
  by_cases c3 : ch hM p = 104
  · rw [if_pos c3, if_pos c3]
    obtain ⟨ok, p', G, G', e1, e2, r1, r2, r3, r4⟩ := l_bodyH (k := 4) (c := ch hM p) (g := g) (g' := g') t w_hand p0 p1
    exact ⟨ok, p', 4, ch hM p, G, G', e1, e2, r1, r2, r3, fun z => ⟨(r4 z).1, Or.inr (Or.inr (Or.inl ⟨rfl, c3⟩))⟩⟩
  rw [if_neg c3, if_neg c3]
  by_cases c4 : ch hM p = 116
  · rw [if_pos c4, if_pos c4]
    obtain ⟨ok, p', G, G', e1, e2, r1, r2, r3, r4⟩ := l_body (k := 2) (c := ch hM p) (x2 := 0) (y2 := 1) (a := false) (x1 := 3) (g := g) (g' := g') t w_tell (by omega) (by omega) rfl rfl p0 p1
    exact ⟨ok, p', 2, ch hM p, G, G', e1, e2, r1, r2, r3, fun z => ⟨(r4 z).1, Or.inr (Or.inr (Or.inr (Or.inl ⟨rfl, c4, (r4 z).2⟩)))⟩⟩
  rw [if_neg c4, if_neg c4]
  by_cases c5 : ch hM p = 119
  · rw [if_pos c5, if_pos c5]
    obtain ⟨ok, p', G, G', e1, e2, r1, r2, r3, r4⟩ := l_body (k := 3) (c := ch hM p) (x2 := 0) (y2 := 1) (a := false) (x1 := 1) (g := g) (g' := g') t w_week (by omega) (by omega) rfl rfl p0 p1
    exact ⟨ok, p', 3, ch hM p, G, G', e1, e2, r1, r2, r3, fun z => ⟨(r4 z).1, Or.inr (Or.inr (Or.inr (Or.inr ⟨rfl, c5, (r4 z).2⟩)))⟩⟩
  rw [if_neg c5, if_neg c5]
  exact ⟨0, p, k0, ch hM p, g, g', rfl, rfl, Int.le_refl p, p1, Or.inl rfl, fun z => by cases z⟩
end Read3
