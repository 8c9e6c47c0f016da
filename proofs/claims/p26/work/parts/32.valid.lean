/-! the pure part: what a state's numbers keep to -/
section Valid1
def uok (s : Rw) : Prop := ∀ i c : Nat, (i : Int) < s 15 → c < 4 → 0 ≤ s (18 + 5 * i + c) ∧ s (18 + 5 * i + c) ≤ 9
def cok (N : Int) (s : Rw) : Prop := ∀ i : Nat, (i : Int) < s 16 → (∀ c : Nat, c < 4 → -1 ≤ s (78 + 6 * i + c) ∧ s (78 + 6 * i + c) ≤ 9) ∧ 0 ≤ s (78 + 6 * i + 5) ∧ s (78 + 6 * i + 5) ≤ N
def sok (s : Rw) : Prop := ∀ k : Nat, k < 7 → sA 85 k ≤ s (1 + k) ∧ s (1 + k) ≤ sA 86 k
def Vd (N : Int) (s : Rw) : Prop := uok s ∧ cok N s ∧ sok s
theorem uok.congr {s s' : Rw} (q : uok s) (n : s' 15 = s 15) (e : ∀ i c : Nat, (i : Int) < s 15 → c < 4 → s' (18 + 5 * i + c) = s (18 + 5 * i + c)) : uok s' := by
  intro i c hi hc
  rw [n] at hi
  rw [e i c hi hc]
  exact q i c hi hc
theorem cok.congr {N : Int} {s s' : Rw} (q : cok N s) (n : s' 16 = s 16) (e : ∀ i c : Nat, (i : Int) < s 16 → c < 6 → c ≠ 4 → s' (78 + 6 * i + c) = s (78 + 6 * i + c)) : cok N s' := by
  intro i hi
  rw [n] at hi
  rw [e i 5 hi (by omega) (by omega)]
  refine ⟨fun c hc => ?_, (q i hi).2⟩
  rw [e i c hi (by omega) (by omega)]
  exact (q i hi).1 c hc
theorem sok.congr {s s' : Rw} (q : sok s) (e : ∀ k, 1 ≤ k → k < 8 → s' k = s k) : sok s' := by
  intro k hk
  rw [e (1 + k) (by omega) (by omega)]
  exact q k hk
theorem Vd.ag {N : Int} {s s' : Rw} (q : Vd N s) (hV : Vn s) (e : ag s s') : Vd N s' := by
  obtain ⟨v1, v2, v3⟩ := hV
  exact ⟨q.1.congr (e _ (by omega)) (fun i c _ _ => e _ (by omega)), q.2.1.congr (e _ (by omega)) (fun i c _ _ _ => e _ (by omega)), q.2.2.congr (fun k _ _ => e _ (by omega))⟩
theorem Vn.ag {s s' : Rw} (q : Vn s) (e : ag s s') : Vn s' := by
  unfold Vn at *
  rw [e 15 (by omega), e 16 (by omega), e 17 (by omega)]
  exact q
theorem Vd.mono {N M : Int} {s : Rw} (q : Vd N s) (h : N ≤ M) : Vd M s :=
  ⟨q.1, fun i hi => ⟨(q.2.1 i hi).1, (q.2.1 i hi).2.1, by have := (q.2.1 i hi).2.2; omega⟩, q.2.2⟩
/-- a number that no value, doubt or setting is -/
theorem Vd_gup {N x : Int} {i : Nat} {s : Rw} (q : Vd N s) (hV : Vn s) (hi : i = 0 ∨ (8 ≤ i ∧ i < 15)) : Vd N (gup s i x) := by
  obtain ⟨v1, v2, v3⟩ := hV
  exact ⟨q.1.congr (gup_far (by omega)) (fun a c _ _ => gup_far (by omega)), q.2.1.congr (gup_far (by omega)) (fun a c _ _ _ => gup_far (by omega)), q.2.2.congr (fun k _ _ => gup_far (by omega))⟩
theorem Vd_wri {N x y z : Int} {s : Rw} (q : Vd N s) (hV : Vn s) : Vd N (wri s x y z) := by
  obtain ⟨v1, v2, v3⟩ := hV
  exact ⟨q.1.congr (wri_lo v3.1 (by omega) (by omega) (by omega)) (fun a c _ _ => wri_lo v3.1 (by omega) (by omega) (by omega)), q.2.1.congr (wri_lo v3.1 (by omega) (by omega) (by omega)) (fun a c _ _ _ => wri_lo v3.1 (by omega) (by omega) (by omega)), q.2.2.congr (fun k _ _ => wri_lo v3.1 (by omega) (by omega) (by omega))⟩
theorem Vd_ugo {N : Int} {u : Nat} {s : Rw} (q : Vd N s) (hV : Vn s) : Vd N (ugo s u) := by
  obtain ⟨v1, v2, v3⟩ := hV
  refine ⟨fun i c hi hc => ?_, q.2.1.congr (ugo_far v1.2 (by omega) (by omega)) (fun a c _ _ _ => ugo_far v1.2 (by omega) (by omega)), q.2.2.congr (fun k _ _ => ugo_far v1.2 (by omega) (by omega))⟩
  have e15 : ugo s u 15 = s 15 - 1 := by unfold ugo; rw [if_pos rfl]
  rw [e15] at hi
  rw [ugo_c (by omega)]
  by_cases c1 : u ≤ i
  · rw [if_pos (by omega)]
    have := q.1 (i + 1) c (by omega) hc
    rw [show 18 + 5 * i + c + 5 = 18 + 5 * (i + 1) + c by omega]
    exact this
  · rw [if_neg (by omega)]
    exact q.1 i c (by omega) hc
theorem Vd_cgo {N : Int} {u : Nat} {s : Rw} (q : Vd N s) (hV : Vn s) : Vd N (cgo s u) := by
  obtain ⟨v1, v2, v3⟩ := hV
  refine ⟨q.1.congr (cgo_far v2.2 (by omega) (by omega)) (fun a c _ _ => cgo_far v2.2 (by omega) (by omega)), fun i hi => ?_, q.2.2.congr (fun k _ _ => cgo_far v2.2 (by omega) (by omega))⟩
  have e16 : cgo s u 16 = s 16 - 1 := by unfold cgo; rw [if_pos rfl]
  rw [e16] at hi
  have e : ∀ c, c < 6 → cgo s u (78 + 6 * i + c) = s (78 + 6 * (if u ≤ i then i + 1 else i) + c) := by
    intro c hc
    rw [cgo_c (by omega)]
    by_cases c1 : u ≤ i
    · rw [if_pos (by omega), if_pos c1]
      congr 1
      omega
    · rw [if_neg (by omega), if_neg c1]
  have k := q.2.1 (if u ≤ i then i + 1 else i) (by split <;> omega)
  rw [e 5 (by omega)]
  refine ⟨fun c hc => ?_, k.2⟩
  rw [e c (by omega)]
  exact k.1 c hc
theorem Vd_agp {N : Int} {p : Nat} {s : Rw} (q : Vd N s) (hV : Vn s) (hp : p ≤ 12) : Vd N (agp s p) := by
  obtain ⟨v1, v2, v3⟩ := hV
  refine ⟨q.1.congr (agp_c _ _ _ (by omega)) (fun i c hi hc => ?_), q.2.1.congr (agp_c _ _ _ (by omega)) (fun i c hi hc h4 => ?_), q.2.2.congr (fun k _ _ => agp_c _ _ _ (by omega))⟩
  · unfold agp
    rw [if_neg (by omega), if_neg (by omega)]
  · unfold agp
    rw [if_neg (by omega), if_neg (by omega)]
theorem Vd_sel {N : Int} : ∀ (n u : Nat) (s : Rw), Vn s → (u : Int) + n = s 15 → Vd N s → Vn (sel n u s) ∧ Vd N (sel n u s) ∧ sel n u s 0 = s 0 := by
  intro n
  induction n with
  | zero => intro u s hV hn hh; exact ⟨hV, hh, rfl⟩
  | succ n ih =>
    intro u s hV hn hh
    rw [sel_step]
    by_cases c : s (18 + 5 * u + 4) < s 6
    · rw [if_pos c]
      exact ih (u + 1) s hV (by omega) hh
    · rw [if_neg c]
      have v3 := hV.2.2
      have w1 := wri_V (x := 1) (y := s (18 + 5 * u + 4)) (z := s 7) hV
      have f : ∀ k, k < 150 → k ≠ 13 → k ≠ 17 → k ≠ 11 → gup (wri s 1 (s (18 + 5 * u + 4)) (s 7)) 11 (wr (s 11 + 1)) k = s k := fun k q1 q2 q3 q4 => by
        rw [gup_far q4, wri_lo v3.1 q1 q2 q3]
      have w2 := gup_V (i := 11) (x := wr (s 11 + 1)) w1 (by omega)
      have d2 := Vd_gup (i := 11) (x := wr (s 11 + 1)) (Vd_wri (x := 1) (y := s (18 + 5 * u + 4)) (z := s 7) hh hV) w1 (by omega)
      have w3 := ugo_V (u := u) w2 (by rw [f 15 (by omega) (by omega) (by omega) (by omega)]; omega)
      have d3 := Vd_ugo (u := u) d2 w2
      obtain ⟨k1, k2, k3⟩ := ih u _ w3 (by
        unfold ugo
        rw [if_pos rfl, f 15 (by omega) (by omega) (by omega) (by omega)]
        omega) d3
      refine ⟨k1, k2, ?_⟩
      rw [k3, ugo_far w2.1.2 (by omega) (by omega), f 0 (by omega) (by omega) (by omega) (by omega)]
theorem Vd_lap {N : Int} : ∀ (n u : Nat) (s : Rw), Vn s → (u : Int) + n = s 16 → Vd N s → Vn (lap n u s) ∧ Vd N (lap n u s) ∧ lap n u s 0 = s 0 := by
  intro n
  induction n with
  | zero => intro u s hV hn hh; exact ⟨hV, hh, rfl⟩
  | succ n ih =>
    intro u s hV hn hh
    rw [lap_step]
    by_cases c : s (78 + 6 * u + 4) < s 6
    · rw [if_pos c]
      exact ih (u + 1) s hV (by omega) hh
    · rw [if_neg c]
      have v3 := hV.2.2
      have w1 := wri_V (x := 2) (y := s (78 + 6 * u + 4)) (z := 0) hV
      have f : ∀ k, k < 150 → k ≠ 13 → k ≠ 17 → k ≠ 12 → gup (wri s 2 (s (78 + 6 * u + 4)) 0) 12 (wr (s 12 + 1)) k = s k := fun k q1 q2 q3 q4 => by
        rw [gup_far q4, wri_lo v3.1 q1 q2 q3]
      have w2 := gup_V (i := 12) (x := wr (s 12 + 1)) w1 (by omega)
      have d2 := Vd_gup (i := 12) (x := wr (s 12 + 1)) (Vd_wri (x := 2) (y := s (78 + 6 * u + 4)) (z := 0) hh hV) w1 (by omega)
      have w3 := cgo_V (u := u) w2 (by rw [f 16 (by omega) (by omega) (by omega) (by omega)]; omega)
      have d3 := Vd_cgo (u := u) d2 w2
      obtain ⟨k1, k2, k3⟩ := ih u _ w3 (by
        unfold cgo
        rw [if_pos rfl, f 16 (by omega) (by omega) (by omega) (by omega)]
        omega) d3
      refine ⟨k1, k2, ?_⟩
      rw [k3, cgo_far w2.2.1.2 (by omega) (by omega), f 0 (by omega) (by omega) (by omega) (by omega)]
theorem Vd_wk1 {N : Int} {s : Rw} (hV : Vn s) (q : Vd N s) : Vn (wk1 s) ∧ Vd N (wk1 s) ∧ wk1 s 0 = wr (s 0 + 1) := by
  have c : ∀ k, 1 ≤ k → k < 18 → agp (gup s 0 (wr (s 0 + 1))) 12 k = s k := fun k k1 k2 => by
    rw [agp_c _ _ _ k2, gup_far (by omega)]
  have v0 := gup_V (i := 0) (x := wr (s 0 + 1)) hV (by omega)
  have d0 := Vd_gup (i := 0) (x := wr (s 0 + 1)) q hV (by omega)
  have v1 : Vn (agp (gup s 0 (wr (s 0 + 1))) 12) := by
    unfold Vn at hV ⊢
    rw [c 15 (by omega) (by omega), c 16 (by omega) (by omega), c 17 (by omega) (by omega)]
    exact hV
  have d1 := Vd_agp (p := 12) d0 v0 (by omega)
  obtain ⟨v2, d2, e2⟩ := Vd_sel (s 15).toNat 0 _ v1 (by rw [c 15 (by omega) (by omega)]; have := hV.1; omega) d1
  obtain ⟨v3, d3, e3⟩ := Vd_lap ((sel (s 15).toNat 0 (agp (gup s 0 (wr (s 0 + 1))) 12)) 16).toNat 0 _ v2 (by have := v2.2.1; omega) d2
  refine ⟨v3, d3, ?_⟩
  unfold wk1
  rw [e3, e2, agp_c _ _ _ (by omega), gup_eq rfl]
theorem Vd_wks {N : Int} : ∀ (n : Nat) (s : Rw), Vn s → Vd N s → 0 ≤ s 0 → s 0 + n ≤ 100000 → Vn (wks n s) ∧ Vd N (wks n s) ∧ wks n s 0 = s 0 + n := by
  intro n
  induction n with
  | zero => intro s hV q _ _; exact ⟨hV, q, by show s 0 = _; omega⟩
  | succ n ih =>
    intro s hV q h0 h1
    obtain ⟨v3, d3, e3⟩ := Vd_wk1 hV q
    rw [wr_id (by omega) (by omega)] at e3
    obtain ⟨k1, k2, k3⟩ := ih _ v3 d3 (by omega) (by omega)
    rw [wks_step]
    exact ⟨k1, k2, by rw [k3, e3]; omega⟩
theorem Vn_sapU {s : Rw} {a b c d : Int} (hV : Vn s) (hn : s 15 ≤ 11) : Vn (sapU s a b c d) := by
  unfold Vn at *
  rw [sapU_far (k := 16) hn (by omega) (by omega), sapU_far (k := 17) hn (by omega) (by omega)]
  have e : sapU s a b c d 15 = s 15 + 1 := by unfold sapU; rw [if_pos rfl]
  rw [e]
  omega
theorem Vn_sapC {s : Rw} {a b c d : Int} (hV : Vn s) (hn : s 16 ≤ 11) : Vn (sapC s a b c d) := by
  unfold Vn at *
  rw [sapC_far (k := 15) hn (by omega) (by omega), sapC_far (k := 17) hn (by omega) (by omega)]
  have e : sapC s a b c d 16 = s 16 + 1 := by unfold sapC; rw [if_pos rfl]
  rw [e]
  omega
theorem Vd_sapU {N : Int} {s : Rw} {a b c d : Int} (hV : Vn s) (q : Vd N s) (hn : s 15 ≤ 11) (k : ok4 0 a b c d) : Vd N (sapU s a b c d) := by
  obtain ⟨v1, v2, v3⟩ := hV
  obtain ⟨k1, k2, k3, k4⟩ := k
  refine ⟨fun i j hi hj => ?_, q.2.1.congr (sapU_far hn (by omega) (by omega)) (fun a c _ _ _ => sapU_far hn (by omega) (by omega)), q.2.2.congr (fun k _ _ => sapU_far hn (by omega) (by omega))⟩
  have e : sapU s a b c d 15 = s 15 + 1 := by unfold sapU; rw [if_pos rfl]
  rw [e] at hi
  by_cases ci : (i : Int) = s 15
  · unfold sapU
    rw [show i = (s 15).toNat by omega]
    rcases (show j = 0 ∨ j = 1 ∨ j = 2 ∨ j = 3 by omega) with rfl | rfl | rfl | rfl
    · rw [if_neg (by omega), if_pos (by omega)]; exact k1
    · rw [if_neg (by omega), if_neg (by omega), if_pos (by omega)]; exact k2
    · rw [if_neg (by omega), if_neg (by omega), if_neg (by omega), if_pos (by omega)]; exact k3
    · rw [if_neg (by omega), if_neg (by omega), if_neg (by omega), if_neg (by omega), if_pos (by omega)]; exact k4
  · have := q.1 i j (by omega) hj
    unfold sapU
    rw [if_neg (by omega), if_neg (by omega), if_neg (by omega), if_neg (by omega), if_neg (by omega), if_neg (by omega)]
    exact this
theorem Vd_sapC {N : Int} {s : Rw} {a b c d : Int} (hN : 0 ≤ N) (hV : Vn s) (q : Vd N s) (hn : s 16 ≤ 11) (k : ok4 (-1) a b c d) : Vd N (sapC s a b c d) := by
  obtain ⟨v1, v2, v3⟩ := hV
  obtain ⟨k1, k2, k3, k4⟩ := k
  refine ⟨q.1.congr (sapC_far hn (by omega) (by omega)) (fun a c _ _ => sapC_far hn (by omega) (by omega)), fun i hi => ?_, q.2.2.congr (fun k _ _ => sapC_far hn (by omega) (by omega))⟩
  have e : sapC s a b c d 16 = s 16 + 1 := by unfold sapC; rw [if_pos rfl]
  rw [e] at hi
  by_cases ci : (i : Int) = s 16
  · rw [show i = (s 16).toNat by omega]
    refine ⟨fun j hj => ?_, ?_⟩
    · unfold sapC
      rcases (show j = 0 ∨ j = 1 ∨ j = 2 ∨ j = 3 by omega) with rfl | rfl | rfl | rfl
      · rw [if_neg (by omega), if_pos (by omega)]; exact k1
      · rw [if_neg (by omega), if_neg (by omega), if_pos (by omega)]; exact k2
      · rw [if_neg (by omega), if_neg (by omega), if_neg (by omega), if_pos (by omega)]; exact k3
      · rw [if_neg (by omega), if_neg (by omega), if_neg (by omega), if_neg (by omega), if_pos (by omega)]; exact k4
    · have e5 : sapC s a b c d (78 + 6 * (s 16).toNat + 5) = 0 := by
        unfold sapC
        rw [if_neg (by omega), if_neg (by omega), if_neg (by omega), if_neg (by omega), if_neg (by omega), if_neg (by omega), if_pos (by omega)]
      rw [e5]
      omega
  · have k := q.2.1 i (by omega)
    have f : ∀ j, j < 6 → sapC s a b c d (78 + 6 * i + j) = s (78 + 6 * i + j) := fun j hj => by
      unfold sapC
      rw [if_neg (by omega), if_neg (by omega), if_neg (by omega), if_neg (by omega), if_neg (by omega), if_neg (by omega), if_neg (by omega)]
    rw [f 5 (by omega)]
    refine ⟨fun j hj => ?_, k.2⟩
    rw [f j (by omega)]
    exact k.1 j hj
theorem Vd_tlS {N : Int} {s : Rw} {i j v : Int} (hV : Vn s) (q : Vd N s) (hN : N ≤ 1000000) (k : okT s i j v) : Vd (N + 1) (tlS s i.toNat j.toNat v) := by
  obtain ⟨v1, v2, v3⟩ := hV
  obtain ⟨k1, k2, k3⟩ := k
  have b := (q.2.1 i.toNat (by omega)).2
  have t : 0 ≤ tlD s i.toNat j.toNat v ∧ tlD s i.toNat j.toNat v ≤ N + 1 := by
    unfold tlD
    split
    · omega
    · rw [wr_id (by omega) (by omega)]
      omega
  refine ⟨q.1.congr ?_ (fun a c _ _ => ?_), fun a ha => ⟨fun c hc => ?_, ?_⟩, q.2.2.congr (fun k _ _ => ?_)⟩
  · unfold tlS
    rw [gup_far (by omega), gup_far (by omega)]
  · unfold tlS
    rw [gup_far (by omega), gup_far (by omega)]
  · unfold tlS at *
    rw [gup_far (by omega), gup_far (by omega)] at ha
    rw [gup_far (by omega)]
    by_cases c1 : a = i.toNat ∧ c = j.toNat
    · rw [gup_eq (by omega)]
      exact ⟨by have := k3.1; omega, k3.2⟩
    · rw [gup_far (by omega)]
      exact (q.2.1 a ha).1 c hc
  · unfold tlS at *
    rw [gup_far (by omega), gup_far (by omega)] at ha
    by_cases c1 : a = i.toNat
    · rw [gup_eq (by omega)]
      exact t
    · rw [gup_far (by omega), gup_far (by omega)]
      have := (q.2.1 a ha).2
      omega
  · unfold tlS
    rw [gup_far (by omega), gup_far (by omega)]
theorem Vd_set {N k v : Int} {s : Rw} (q : Vd N s) (c : okS k v) : Vd N (gup s (1 + k.toNat) v) := by
  obtain ⟨c1, c2, c3⟩ := c
  refine ⟨q.1.congr (gup_far (by omega)) (fun a c _ _ => gup_far (by omega)), q.2.1.congr (gup_far (by omega)) (fun a c _ _ _ => gup_far (by omega)), fun j hj => ?_⟩
  by_cases e : j = k.toNat
  · rw [gup_eq (by omega), e]
    exact ⟨c2, c3⟩
  · rw [gup_far (by omega)]
    exact q.2.2 j hj
end Valid1
