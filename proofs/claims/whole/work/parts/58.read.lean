/-! the pure part: orders read from the text -/
section Read1
/-- the sign at a place of the text; 0 behind its end -/
def ch (h : Hp) (p : Int) : Int := if p < h 76 3 then h 78 p.toNat else 0
def tc (h : Hp) (k p : Int) (g : Rw) : Hp := fun a j => if a = 28 ∧ j = 2 then p else if a = 28 ∧ j = 3 then k else if a = 30 then g j else h a j
def tm (h : Hp) (c p : Int) (g : Rw) : Hp := fun a j => if a = 76 ∧ j = 8 then p else if a = 76 ∧ j = 9 then c else if a = 83 then g j else h a j
theorem tc_p (h : Hp) (k p x : Int) (g : Rw) : hup (tc h k p g) 28 2 x = tc h k x g := by
  funext a j
  unfold hup tc
  by_cases c : a = 28 ∧ j = 2
  · rw [if_pos c, if_pos c]
  · rw [if_neg c, if_neg c, if_neg c]
theorem tc_k (h : Hp) (k p x : Int) (g : Rw) : hup (tc h k p g) 28 3 x = tc h x p g := by
  funext a j
  unfold hup tc
  by_cases c : a = 28 ∧ j = 3
  · rw [if_pos c, if_neg (by omega), if_pos c]
  · rw [if_neg c, if_neg c, if_neg c]
theorem tc_g (h : Hp) (k p x : Int) (g : Rw) (i : Nat) : hup (tc h k p g) 30 i x = tc h k p (gup g i x) := by
  funext a j
  unfold hup tc gup
  by_cases c : a = 30
  · by_cases d : j = i
    · rw [if_pos ⟨c, d⟩, if_neg (by omega), if_neg (by omega), if_pos c, if_pos d]
    · rw [if_neg (by omega), if_neg (by omega), if_neg (by omega), if_pos c, if_neg (by omega), if_neg (by omega), if_pos c, if_neg d]
  · rw [if_neg (by omega), if_neg c, if_neg c]
theorem tm_p (h : Hp) (c p x : Int) (g : Rw) : hup (tm h c p g) 76 8 x = tm h c x g := by
  funext a j
  unfold hup tm
  by_cases d : a = 76 ∧ j = 8
  · rw [if_pos d, if_pos d]
  · rw [if_neg d, if_neg d, if_neg d]
theorem tm_c (h : Hp) (c p x : Int) (g : Rw) : hup (tm h c p g) 76 9 x = tm h x p g := by
  funext a j
  unfold hup tm
  by_cases d : a = 76 ∧ j = 9
  · rw [if_pos d, if_neg (by omega), if_pos d]
  · rw [if_neg d, if_neg d, if_neg d]
theorem tm_g (h : Hp) (c p x : Int) (g : Rw) (i : Nat) : hup (tm h c p g) 83 i x = tm h c p (gup g i x) := by
  funext a j
  unfold hup tm gup
  by_cases d : a = 83
  · by_cases e : j = i
    · rw [if_pos ⟨d, e⟩, if_neg (by omega), if_neg (by omega), if_pos d, if_pos e]
    · rw [if_neg (by omega), if_neg (by omega), if_neg (by omega), if_pos d, if_neg (by omega), if_neg (by omega), if_pos d, if_neg e]
  · rw [if_neg (by omega), if_neg d, if_neg d]
theorem tc_28 {h : Hp} {k p : Int} {g : Rw} : tc h k p g 28 2 = p ∧ tc h k p g 28 3 = k ∧ tc h k p g 28 1 = h 28 1 := ⟨rfl, rfl, rfl⟩
theorem tc_30 {h : Hp} {k p : Int} {g : Rw} : tc h k p g 30 = g := rfl
theorem tc_row {h : Hp} {k p : Int} {g : Rw} {a : Nat} (q : a ≠ 28) (q2 : a ≠ 30) : tc h k p g a = h a := by
  funext j
  unfold tc
  rw [if_neg (by omega), if_neg (by omega), if_neg q2]
theorem tm_76 {h : Hp} {c p : Int} {g : Rw} : tm h c p g 76 8 = p ∧ tm h c p g 76 9 = c ∧ tm h c p g 76 3 = h 76 3 := ⟨rfl, rfl, rfl⟩
theorem tm_83 {h : Hp} {c p : Int} {g : Rw} : tm h c p g 83 = g := rfl
theorem tm_row {h : Hp} {c p : Int} {g : Rw} {a : Nat} (q : a ≠ 76) (q2 : a ≠ 83) : tm h c p g a = h a := by
  funext j
  unfold tm
  rw [if_neg (by omega), if_neg (by omega), if_neg q2]
theorem tc_self (h : Hp) : tc h (h 28 3) (h 28 2) (h 30) = h := by
  funext a j
  unfold tc
  by_cases c : a = 28 ∧ j = 2
  · rw [if_pos c, c.1, c.2]
  · rw [if_neg c]
    by_cases d : a = 28 ∧ j = 3
    · rw [if_pos d, d.1, d.2]
    · rw [if_neg d]
      by_cases e : a = 30
      · rw [if_pos e, e]
      · rw [if_neg e]
theorem tm_self (h : Hp) : tm h (h 76 9) (h 76 8) (h 83) = h := by
  funext a j
  unfold tm
  by_cases c : a = 76 ∧ j = 8
  · rw [if_pos c, c.1, c.2]
  · rw [if_neg c]
    by_cases d : a = 76 ∧ j = 9
    · rw [if_pos d, d.1, d.2]
    · rw [if_neg d]
      by_cases e : a = 83
      · rw [if_pos e, e]
      · rw [if_neg e]
theorem ch_b {hC hM : Hp} (t : Tx hC hM) (p : Int) (p0 : 0 ≤ p) : (ch hM p = 0 ∧ hM 76 3 ≤ p) ∨ (32 ≤ ch hM p ∧ ch hM p ≤ 126 ∧ p < hM 76 3) := by
  unfold ch
  by_cases c : p < hM 76 3
  · rw [if_pos c]
    have := t.2.2.2 p.toNat (by omega)
    exact Or.inr ⟨this.2.1, this.2.2, c⟩
  · rw [if_neg c]
    exact Or.inl ⟨rfl, by omega⟩
theorem l_sign {hC hM : Hp} {k p : Int} {g : Rw} (t : Tx hC hM) (p0 : 0 ≤ p) : f_X3_signHere (tc hC k p g) = some (ch hM p, tc hC k p g) := by
  obtain ⟨t1, t2, t3, t4⟩ := t
  have z : isC 0 := by unfold isC; omega
  unfold f_X3_signHere ch
  rw [tc_28.1, tc_28.2.2, t1, tc_row (a := 29) (by omega) (by omega), if_neg (by omega)]
  by_cases c : p < hM 76 3
  · have e := t4 p.toNat (by omega)
    rw [if_neg (by omega), if_neg (by omega), if_pos (by unfold inb; omega), if_pos c, if_pos (by unfold isC; omega), e.1]
  · rw [if_pos (by omega), if_pos z, if_neg c]
theorem l_rs {hC hM : Hp} {k p x : Int} {g : Rw} (t : Tx hC hM) (p0 : 0 ≤ p) (p1 : p ≤ 1000) : f_X3_readSign x (tc hC k p g) = if ch hM p = x then some (1, tc hC k (p + 1) g) else some (0, tc hC k p g) := by
  unfold f_X3_readSign
  rw [l_sign t p0, bd_s]
  by_cases c : ch hM p = x
  · rw [if_pos c, if_pos c]
    unfold lt
    rw [tc_28.1, wr_id (by omega) (by omega), tc_p]
  · rw [if_neg c, if_neg c]
theorem l_tk {hC hM : Hp} {c p x : Int} {g : Rw} (t : Tx hC hM) (p0 : 0 ≤ p) (p1 : p ≤ 1000) (hx : x ≠ 0) : f_X5_takes x (tm hM c p g) = if ch hM p = x then some (1, tm hM c (p + 1) g) else some (0, tm hM c p g) := by
  obtain ⟨t1, t2, t3, t4⟩ := t
  have no : f_X5_takes_J14 (tm hM c p g) = some (0, tm hM c p g) := by
    unfold f_X5_takes_J14 f_X5_takes_J15 lt
    dsimp only
    rw [if_pos rfl, if_pos (show isB 0 by unfold isB; omega), tm_76.1, wr_id (z := p + 0) (by omega) (by omega), tm_p, Int.add_zero]
  unfold f_X5_takes ch
  rw [tm_76.1, tm_76.2.2, tm_row (a := 78) (by omega) (by omega), no]
  by_cases d : p < hM 76 3
  · rw [if_neg (by omega), if_pos (by unfold inb; omega), if_pos d]
    by_cases e : hM 78 p.toNat = x
    · rw [if_neg (by omega), if_pos e]
      unfold f_X5_takes_J15 lt
      dsimp only
      rw [if_neg (by omega), if_pos (show isB 1 by unfold isB; omega), tm_76.1, wr_id (by omega) (by omega), tm_p]
    · rw [if_pos e, if_neg e]
  · rw [if_pos (by omega), if_neg d, if_neg (by omega)]
/-- words -/
def rdI (h : Hp) (f : Nat → Int) : Nat → Nat → Int → Int × Int
  | 0, _, p => (1, p)
  | m + 1, i, p => if ch h p = f i then rdI h f m (i + 1) (p + 1) else (0, p)
theorem rdI_s (h : Hp) (f : Nat → Int) (m i : Nat) (p : Int) : rdI h f (m + 1) i p = if ch h p = f i then rdI h f m (i + 1) (p + 1) else (0, p) := rfl
theorem rdI_b {hC hM : Hp} {f : Nat → Int} (t : Tx hC hM) : ∀ (m i : Nat) (p : Int), (∀ j, i ≤ j → j < i + m → f j ≠ 0) → 0 ≤ p → p ≤ hM 76 3 → p ≤ (rdI hM f m i p).2 ∧ (rdI hM f m i p).2 ≤ hM 76 3 ∧ ((rdI hM f m i p).1 = 0 ∨ (rdI hM f m i p).1 = 1) ∧ ((rdI hM f m i p).1 = 1 → (rdI hM f m i p).2 = p + m) := by
  intro m
  induction m with
  | zero =>
    intro i p hf p0 p1
    refine ⟨Int.le_refl _, p1, Or.inr rfl, fun _ => ?_⟩
    show p = p + ((0 : Nat) : Int)
    omega
  | succ m ih =>
    intro i p hf p0 p1
    rw [rdI_s]
    by_cases c : ch hM p = f i
    · rw [if_pos c]
      have b := ch_b t p p0
      have := hf i (by omega) (by omega)
      obtain ⟨y1, y2, y3, y4⟩ := ih (i + 1) (p + 1) (fun j j1 j2 => hf j (by omega) (by omega)) (by omega) (by omega)
      exact ⟨by omega, y2, y3, fun q => by rw [y4 q]; omega⟩
    · rw [if_neg c]
      exact ⟨Int.le_refl _, p1, Or.inl rfl, fun q => by cases q⟩
theorem c_charAt {x n : Nat} {i : Nat} {h : Hp} (hi : i < n) (b : 0 ≤ sCh (x + 5) i ∧ sCh (x + 5) i < 256) : f_J_charAt x n (i : Int) h = some (sCh (x + 5) i, h) := by
  have c : isC (sCh (x + 5) i) := by unfold isC; omega
  unfold f_J_charAt f_J_isLatin1
  rw [if_neg (by omega), if_neg (by omega), bd_s, if_neg (by omega)]
  unfold f_J_latinAt f_J_checkIndex f_J_preCheck
  rw [if_neg (by omega), if_pos (by omega), bd_s, bd_s, if_pos (by unfold inb; omega), show ((i : Int)).toNat = i by omega, if_pos b, if_pos c, if_pos c, bd_s, if_pos c]
theorem c_word_L {hC hM : Hp} {k : Int} {g : Rw} {x n1 : Nat} (t : Tx hC hM) (hf : ∀ i, i < n1 → 32 ≤ sCh (x + 5) i ∧ sCh (x + 5) i ≤ 126) : ∀ (m n i : Nat) (p : Int), m < n → i + m = n1 → n1 ≤ 10 → 0 ≤ p → p ≤ hM 76 3 →
    f_X3_readWord_L2 x n1 n (i : Int) (tc hC k p g) = some ((rdI hM (sCh (x + 5)) m i p).1, tc hC k (rdI hM (sCh (x + 5)) m i p).2 g) := by
  have l60 := t.2.2.1
  intro m
  induction m with
  | zero =>
    intro n i p hn hi h10 p0 p1
    obtain ⟨n, rfl⟩ : ∃ n', n = n' + 1 := ⟨n - 1, by omega⟩
    rw [f_X3_readWord_L2_s]
    unfold f_J_length f_J_coder
    rw [if_neg (by omega), bd_s, if_pos rfl, bd_s, if_pos (by omega)]
    rfl
  | succ m ih =>
    intro n i p hn hi h10 p0 p1
    obtain ⟨n, rfl⟩ : ∃ n', n = n' + 1 := ⟨n - 1, by omega⟩
    have f := hf i (by omega)
    rw [f_X3_readWord_L2_s]
    unfold f_J_length f_J_coder
    rw [if_neg (by omega), bd_s, if_pos rfl, bd_s, if_neg (by omega), c_charAt (by omega) (by omega), bd_s, l_rs t p0 (by omega), rdI_s]
    by_cases c : ch hM p = sCh (x + 5) i
    · rw [if_pos c, if_pos c, bd_s, if_pos (by omega), wr_id (by omega) (by omega), show (i : Int) + 1 = ((i + 1 : Nat) : Int) by omega]
      have b := ch_b t p p0
      exact ih n (i + 1) (p + 1) (by omega) (by omega) h10 (by omega) (by omega)
    · rw [if_neg c, if_neg c, bd_s, if_neg (by omega)]
def byt (x : Int64) (i : Nat) : Int := (Int64.toInt32 ((x >>> ((Int32.ofInt (40 - 8 * (i : Int))).toInt64 &&& 63)) &&& 255)).toInt
theorem m_word_L {hC hM : Hp} {c : Int} {g : Rw} {x : Int64} (t : Tx hC hM) {d n1 : Nat} {f : Nat → Int} (hd : d + n1 = 6) (z : ∀ i, i < d → byt x i = 0) (e : ∀ i, i < n1 → byt x (d + i) = f i ∧ f i ≠ 0) : ∀ (m n i : Nat) (p : Int), m + 1 < n → i + m = 6 → 0 ≤ p → p ≤ hM 76 3 →
    f_X5_takesWord_L4 x n 1 (40 - 8 * (i : Int)) (tm hM c p g) = if i < d then f_X5_takesWord_L4 x (n - (d - i)) 1 (40 - 8 * (d : Int)) (tm hM c p g) else some ((rdI hM f m (i - d) p).1, tm hM c (rdI hM f m (i - d) p).2 g) := by
  have l60 := t.2.2.1
  intro m
  induction m with
  | zero =>
    intro n i p hn hi p0 p1
    obtain ⟨n, rfl⟩ : ∃ n', n = n' + 1 := ⟨n - 1, by omega⟩
    rw [if_neg (by omega), f_X5_takesWord_L4_s, if_pos (by omega), if_pos (by unfold isB; omega)]
    rfl
  | succ m ih =>
    intro n i p hn hi p0 p1
    obtain ⟨n, rfl⟩ : ∃ n', n = n' + 1 := ⟨n - 1, by omega⟩
    rw [f_X5_takesWord_L4_s, if_neg (by omega), if_neg (by omega)]
    unfold lv
    dsimp only
    rw [show (Int64.toInt32 ((x >>> ((Int32.ofInt (40 - 8 * (i : Int))).toInt64 &&& 63)) &&& 255)).toInt = byt x i from rfl, wr_id (z := 40 - 8 * (i : Int) + -8) (by omega) (by omega), show 40 - 8 * (i : Int) + -8 = 40 - 8 * ((i + 1 : Nat) : Int) by omega]
    by_cases q : i < d
    · rw [if_pos (z i q), if_pos q, ih n (i + 1) p (by omega) (by omega) p0 p1]
      by_cases q2 : i + 1 < d
      · rw [if_pos q2, show n + 1 - (d - i) = n - (d - (i + 1)) by omega]
      · obtain rfl : i + 1 = d := by omega
        rw [if_neg (by omega), show n + 1 - (i + 1 - i) = n by omega, ih n (i + 1) p (by omega) (by omega) p0 p1, if_neg (by omega)]
    · obtain ⟨e1, e2⟩ := e (i - d) (by omega)
      rw [show d + (i - d) = i by omega] at e1
      rw [if_neg q, if_neg (by omega), l_tk t p0 (by omega) (by omega), e1, rdI_s]
      by_cases r : ch hM p = f (i - d)
      · have b := ch_b t p p0
        rw [if_pos r, if_pos r, bd_s, if_neg (by omega), ih n (i + 1) (p + 1) (by omega) (by omega) (by omega) (by omega), if_neg (by omega), show i + 1 - d = i - d + 1 by omega]
      · rw [if_neg r, if_neg r, bd_s, if_pos rfl]
        obtain ⟨n, rfl⟩ : ∃ n', n = n' + 1 := ⟨n - 1, by omega⟩
        have b0 : isB 0 := by unfold isB; omega
        rw [f_X5_takesWord_L4_s]
        by_cases y : 40 - 8 * ((i + 1 : Nat) : Int) < 0
        · rw [if_pos y, if_pos b0]
        · rw [if_neg y, if_pos rfl, if_pos b0]
theorem m_word {hC hM : Hp} {c p : Int} {g : Rw} {x : Int64} (t : Tx hC hM) {d n1 : Nat} {f : Nat → Int} (hd : d + n1 = 6) (z : ∀ i, i < d → byt x i = 0) (e : ∀ i, i < n1 → byt x (d + i) = f i ∧ f i ≠ 0) (p0 : 0 ≤ p) (p1 : p ≤ hM 76 3) :
    f_X5_takesWord x (tm hM c p g) = some ((rdI hM f n1 0 p).1, tm hM c (rdI hM f n1 0 p).2 g) := by
  have := fu_gt
  have k := m_word_L (c := c) (g := g) t hd z e 6 fu 0 p (by omega) (by omega) p0 p1
  have k2 := m_word_L (c := c) (g := g) t hd z e n1 (fu - d) d p (by omega) (by omega) p0 p1
  rw [if_neg (by omega), show d - d = 0 by omega] at k2
  rw [show (40 - 8 * ((0 : Nat) : Int)) = 40 from rfl] at k
  unfold f_X5_takesWord
  rw [k]
  by_cases q : 0 < d
  · rw [if_pos q, show fu - (d - 0) = fu - d by omega, k2]
  · obtain rfl : d = 0 := by omega
    obtain rfl : n1 = 6 := by omega
    rw [if_neg q]
end Read1
