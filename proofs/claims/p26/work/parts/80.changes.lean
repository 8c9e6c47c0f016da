/-! what weeks would bring, handing out, telling: what is when it is done; undo takes it back -/
section Changes26
/-- the office is s -/
def Nw (N : Int) (s : Rw) (h : Hp) : Prop := ∃ n S, St n N S h ∧ S 0 = s
theorem St.nw {n : Nat} {N : Int} {S : Nat → Rw} {h : Hp} (R : St n N S h) : Nw N (S 0) h := ⟨n, S, R, rfl⟩
theorem lg_self (x : Int64) : (lg_cmp x x).toInt = 0 := by
  have e : lg_cmp x x = 0 := by
    unfold lg_cmp
    rw [if_neg (by simp), if_pos rfl]
  rw [e]
  rfl
theorem st_back {n : Nat} {N : Int} {S : Nat → Rw} {s : Rw} {h : Hp} (R : St (n - shn n + 1) N (psh n S s) h) : ∃ h' S', f_X4_undo h = some (((n - shn n : Nat) : Int), h') ∧ St (n - shn n) N S' h' ∧ S' 0 = S 0 := by
  obtain ⟨h', a, b, c⟩ := q_undo R
  refine ⟨h', _, a, b, ?_⟩
  show psh n S s (n - shn n + 1) = S 0
  exact psh_n n S s
theorem l_back {n : Nat} {N : Int} {S : Nat → Rw} {s : Rw} {h : Hp} (hN : N ≤ 1000000) (R : St (n - shn n + 1) N (psh n S s) h) :
    Fin (fun h' => Nw N (S 0) h') 1 (bd (f_X4_undo h) fun r17 h17 => if r17 < 0 then some (0, h17) else bd (f_L_print h17) fun r18 h18 => if ¬ (lg_cmp (Int64.ofInt r18) (Int64.ofInt (prS (S 0)))).toInt = 0 then some (0, h18) else some (1, h18)) := by
  obtain ⟨h1, S', a, b, c⟩ := st_back R
  rw [a, bd_s, if_neg (by omega)]
  obtain ⟨h2, d, e⟩ := l_print hN b
  rw [d, bd_s, c, if_neg (by rw [lg_self]; exact fun z => z rfl)]
  exact Fin.ret ⟨_, _, e, c⟩
theorem l_weeks {n : Nat} {N B x : Int} {S : Nat → Rw} {h : Hp} (hN : N ≤ 1000000) (hB : B ≤ 100000) (hx : 1 ≤ x ∧ x ≤ 20) (i : Iv B (S 0)) (R : St n N S h) : Fin (fun h' => Nw N (S 0) h') 1 (f_L_weeks x h) := by
  obtain ⟨w1, w2, w3⟩ := R.2.2.2.2.1
  obtain ⟨a, b, e⟩ := wks_eff hB x.toNat (S 0) w1 i
  have i' := e.iv i
  obtain ⟨⟨e1, e2⟩, ⟨e3, e4⟩, ⟨e5, e6⟩, e7, e8, e9, e10⟩ := e
  have i0 := i
  obtain ⟨⟨i1, i2, i3, i4⟩, i5, i6, ⟨i7, i8⟩, i9, i10⟩ := i0
  have v1 := w1.1
  have v2 := w1.2.1
  obtain ⟨y1, y2, y3⟩ := Vd_wks x.toNat (S 0) w1 w2 w3.1 (by omega)
  have yv1 := y1.1
  have yv2 := y1.2.1
  have k0 : vI (S 0) x 0 = a := by
    unfold vI
    rw [if_pos ⟨hx, by omega, by omega⟩, if_pos rfl, wr_id (by omega) (by omega)]
    omega
  have k1 : vI (S 0) x 1 = b := by
    unfold vI
    rw [if_pos ⟨hx, by omega, by omega⟩, if_neg (by omega), if_pos rfl, wr_id (by omega) (by omega)]
    omega
  have k2 : vI (S 0) x 2 = (mtA (wks x.toNat (S 0))).2.2 := by
    unfold vI
    rw [if_pos ⟨hx, by omega, by omega⟩, if_neg (by omega), if_neg (by omega)]
  unfold f_L_weeks
  refine Fin.go (q_ifWeeks hN R) (fun h1 R1 _ => ?_)
  refine Fin.go (q_ifWeeks hN R1) (fun h2 R2 _ => ?_)
  refine Fin.go (q_ifWeeks hN R2) (fun h3 R3 _ => ?_)
  rw [k0, k1, k2]
  refine Fin.go (cnt_8 hN R3) (fun h4 R4 _ => ?_)
  refine Fin.go (cnt_9 hN R4) (fun h5 R5 _ => ?_)
  refine Fin.go (cnt_10 hN R5) (fun h6 R6 _ => ?_)
  refine Fin.go (cnt_0 hN R6) (fun h7 R7 _ => ?_)
  obtain ⟨h8, p1, R8⟩ := l_print hN R7
  rw [p1, bd_s]
  unfold ll
  dsimp only
  obtain ⟨h9, t1, t2, -⟩ := q_weeks (x := x) R8
  have eR : weR (S 0) x = if S 0 0 + x ≤ 999 then a else -1000003 := by
    unfold weR
    rw [if_pos hx]
    split
    · omega
    · rfl
  rw [eR] at t1 t2
  rw [t1, bd_s]
  by_cases c : S 0 0 + x ≤ 999
  · rw [if_pos c] at t2 ⊢
    rcases t2 with ⟨t2, -⟩ | ⟨-, R9⟩
    · omega
    have s0 : psh n S (weS (S 0) x) 0 = wks x.toNat (S 0) := rfl
    rw [if_pos e1, if_neg (show ¬ ¬ a = a from fun z => z rfl)]
    have c8 := fun h' (r : St (n - shn n + 1) N (psh n S (weS (S 0) x)) h') => cnt_8 hN r
    refine Fin.go (cnt_8 hN R9) (fun h10 R10 _ => ?_)
    rw [s0, if_neg (by rw [wr_id (by omega) (by omega)]; omega)]
    refine Fin.go (cnt_9 hN R10) (fun h11 R11 _ => ?_)
    rw [s0, if_neg (by rw [wr_id (by omega) (by omega)]; omega)]
    refine Fin.go (cnt_3 hN R11) (fun h12 R12 _ => ?_)
    rw [s0, if_neg (show ¬ ¬ (mtA (wks x.toNat (S 0))).2.2 = (mtA (wks x.toNat (S 0))).2.2 from fun z => z rfl)]
    refine Fin.go (cnt_10 hN R12) (fun h13 R13 _ => ?_)
    refine Fin.go (cnt_26 hN R13) (fun h14 R14 _ => ?_)
    have f7 : wks x.toNat (S 0) 7 = S 0 7 := e7 7 (by omega) (by omega) (by omega) (by omega) (by omega)
    have f13 : wks x.toNat (S 0) 13 = wr (S 0 13 + wr (a * S 0 7)) := wr_cong e10 (by
      have m := wr_mod (a * S 0 7)
      omega)
    rw [s0, f7, f13, if_neg (fun z => z rfl)]
    refine Fin.go (cnt_0 hN R14) (fun h15 R15 _ => ?_)
    rw [s0, y3, if_neg (by rw [wr_id (by omega) (by omega)]; omega)]
    obtain ⟨h16, g1, R16⟩ := l_hangs hN hB (by rw [s0]; exact i') R15
    rw [g1, bd_s, if_neg (by omega)]
    unfold f_L_weeks_J103
    rw [if_neg (by omega)]
    exact l_back hN R16
  · rw [if_neg c] at t2 ⊢
    rcases t2 with ⟨-, R9⟩ | ⟨t2, -⟩
    · rw [if_neg (by omega), if_neg (by omega), if_neg (by rw [wr_id (by omega) (by omega)]; omega)]
      obtain ⟨h10, p2, R10⟩ := l_print hN R9
      rw [p2, bd_s, if_neg (by rw [lg_self]; exact fun z => z rfl)]
      exact Fin.ret R10.nw
    · omega
/-! handing out -/
theorem l_hL12 {Q : Hp → Prop} {v N x2 x3 : Int} {c : Int → Hp → Option (Int × Hp)} {S : Nat → Rw} {n : Nat} (hN : N ≤ 1000000) : ∀ (m nn u : Nat) (h : Hp), (u : Int) + m = S 0 15 → m < nn → St n N S h →
    (∀ h', St n N S h' → Fin Q v (c (hco (S 0) (mtA (S 0)).1 (S 0 15).toNat) h')) → Fin Q v (f_L_hands_L12 x2 x3 c nn (hco (S 0) (mtA (S 0)).1 u) (u : Int) h) := by
  intro m
  induction m with
  | zero =>
    intro nn u h hi hn R k
    obtain ⟨nn, rfl⟩ : ∃ n', nn = n' + 1 := ⟨nn - 1, by omega⟩
    rw [f_L_hands_L12_s]
    refine Fin.go (cnt_1 hN R) (fun h1 R1 _ => ?_)
    rw [if_pos (by omega), show u = (S 0 15).toNat by omega]
    exact k h1 R1
  | succ m ih =>
    intro nn u h hi hn R k
    obtain ⟨nn, rfl⟩ : ∃ n', nn = n' + 1 := ⟨nn - 1, by omega⟩
    have vg := R.2.2.2.2.1.1
    have v1 := vg.1
    have hu : (u : Int) < S 0 15 := by omega
    have cr := hco_R (S 0) (mtA (S 0)).1 u
    have e : hco (S 0) (mtA (S 0)).1 (u + 1) = if (mtA (S 0)).1 u = -1 then hco (S 0) (mtA (S 0)).1 u else wr (hco (S 0) (mtA (S 0)).1 u + wr (S 0 (18 + 5 * u + 4) * S 0 5)) := rfl
    have go : ∀ h', St n N S h' → Fin Q v (f_L_hands_L12 x2 x3 c nn (hco (S 0) (mtA (S 0)).1 (u + 1)) ((u : Int) + 1) h') := fun h' R' => by
      have k2 := ih nn (u + 1) h' (by omega) (by omega) R' k
      rw [show ((u + 1 : Nat) : Int) = (u : Int) + 1 by omega] at k2
      exact k2
    rw [f_L_hands_L12_s]
    refine Fin.go (cnt_1 hN R) (fun h1 R1 _ => ?_)
    rw [if_neg (by omega)]
    refine Fin.go (u_mate hN R1 hu) (fun h2 R2 _ => ?_)
    unfold lv
    rw [wr_id (z := (u : Int) + 1) (by omega) (by omega)]
    by_cases d : (mtA (S 0)).1 u = -1
    · rw [if_pos (by unfold nf; rw [if_pos d]; omega), Int.add_zero, wr_e cr]
      rw [e, if_pos d] at go
      exact go h2 R2
    · rcases mg_range vg (mtA_I (S 0)).1 u with r | ⟨-, w, -, r⟩
      · exact absurd r d
      rw [if_neg (by unfold nf; rw [if_neg d]; omega)]
      rw [e, if_neg d] at go
      refine Fin.go (u_cell (w := 4) hN R2 hu (by omega)) (fun h3 R3 _ => ?_)
      refine Fin.go (cnt_24 hN R3) (fun h4 R4 _ => ?_)
      exact go h4 R4
theorem l_hands {n : Nat} {N B : Int} {S : Nat → Rw} {h : Hp} (hN : N ≤ 1000000) (hB : B ≤ 100000) (i : Iv B (S 0)) (R : St n N S h) : Fin (fun h' => Nw N (S 0) h') 1 (f_L_hands h) := by
  obtain ⟨w1, w2, w3⟩ := R.2.2.2.2.1
  have v1 := w1.1
  have v2 := w1.2.1
  have := fu_gt
  obtain ⟨f10, f15, f16, flo, f13, fen, fiv⟩ := hdF_eff hB w1 i
  obtain ⟨⟨i1, i2, i3, i4⟩, i5, i6, ⟨i7, i8⟩, i9, i10⟩ := i
  obtain ⟨m1, m2, m3, m4⟩ := mt_num w1
  unfold f_L_hands
  refine Fin.go (cnt_3 hN R) (fun h1 R1 _ => ?_)
  refine Fin.go (cnt_7 hN R1) (fun h2 R2 _ => ?_)
  refine l_hL12 hN (S 0 15).toNat fu 0 h2 (by omega) (by omega) R2 (fun h3 R3 => ?_)
  refine Fin.go (cnt_10 hN R3) (fun h4 R4 _ => ?_)
  refine Fin.go (cnt_1 hN R4) (fun h5 R5 _ => ?_)
  refine Fin.go (cnt_2 hN R5) (fun h6 R6 _ => ?_)
  obtain ⟨h7, p1, R7⟩ := l_print hN R6
  rw [p1, bd_s]
  unfold ll
  dsimp only
  obtain ⟨h8, t1, t2, R8, -⟩ := q_hand hN (by unfold iR; omega) R7
  have s0 : psh n S (hdF (S 0)) 0 = hdF (S 0) := rfl
  rw [t1, bd_s, show haR (S 0) = (mtA (S 0)).2.2 from rfl, if_neg (show ¬ ¬ (mtA (S 0)).2.2 = (mtA (S 0)).2.2 from fun z => z rfl)]
  refine Fin.go (cnt_7 hN R8) (fun h9 R9 _ => ?_)
  rw [s0, f10, if_neg (by rw [wr_id (by omega) (by omega)]; omega)]
  refine Fin.go (cnt_10 hN R9) (fun h10 R10 _ => ?_)
  rw [s0, f13, if_neg (fun z => z rfl)]
  refine Fin.go (cnt_1 hN R10) (fun h11 R11 _ => ?_)
  rw [s0, f15, if_neg (by rw [wr_id (by omega) (by omega)]; omega)]
  refine Fin.go (cnt_2 hN R11) (fun h12 R12 _ => ?_)
  rw [s0, f16, if_neg (by rw [wr_id (by omega) (by omega)]; omega)]
  have last : ∀ h', St (n - shn n + 1) N (psh n S (hdF (S 0))) h' → Fin (fun h' => Nw N (S 0) h') 1 (f_L_hands_J99 (Int64.ofInt (prS (S 0))) h') := fun h' R' => by
    unfold f_L_hands_J99
    obtain ⟨h20, g1, R20⟩ := l_hangs hN hB (by rw [s0]; exact fiv) R'
    rw [g1, bd_s, if_neg (by omega)]
    unfold f_L_hands_J105
    rw [if_neg (by omega)]
    exact l_back hN R20
  by_cases c : (mtA (S 0)).2.2 = 0
  · rw [if_pos c]
    exact last h12 R12
  · rw [if_neg c]
    obtain ⟨n1, n2, n3⟩ := fen c
    have b1 : vB (psh n S (hdF (S 0)) 0) 0 1 = 0 := by
      rw [s0]
      unfold vB
      rw [if_neg (by omega), if_neg (by omega), show (hdF (S 0) 17 - 1 - 0) = hdF (S 0) 17 - 1 by omega]
      exact n3
    have b0 : vB (psh n S (hdF (S 0)) 0) 0 0 = S 0 0 := by
      rw [s0]
      unfold vB
      rw [if_neg (by omega), if_neg (by omega), show (hdF (S 0) 17 - 1 - 0) = hdF (S 0) 17 - 1 by omega]
      exact n2
    refine Fin.go (q_book (by omega) R12) (fun h13 R13 _ => ?_)
    rw [b1, if_neg (by omega)]
    refine Fin.go (q_book (by omega) R13) (fun h14 R14 _ => ?_)
    refine Fin.go (cnt_0 hN R14) (fun h15 R15 _ => ?_)
    rw [b0, s0, flo 0 (by omega) (by omega) (by omega), if_neg (show ¬ ¬ S 0 0 = S 0 0 from fun z => z rfl)]
    exact last h15 R15
/-! telling -/
theorem tlS_cell {s : Rw} {i j : Nat} {v : Int} (hj : j < 4) : tlS s i j v (78 + 6 * i + j) = v := by
  unfold tlS
  rw [gup_far (by omega), gup_same]
theorem l_tells {n : Nat} {N x1 x2 x3 : Int} {S : Nat → Rw} {h : Hp} (hN : 0 ≤ N ∧ N < 1000000) (h1 : 0 ≤ x1 ∧ x1 ≤ 1000) (h2 : 0 ≤ x2 ∧ x2 ≤ 3) (h3 : 0 ≤ x3 ∧ x3 ≤ 9) (R : St n N S h) : Fin (fun h' => Nw (N + 1) (S 0) h') 1 (f_L_tells x1 x2 x3 h) := by
  obtain ⟨w1, w2, w3⟩ := R.2.2.2.2.1
  have v2 := w1.2.1
  have hN' : N ≤ 1000000 := by omega
  have hN2 : N + 1 ≤ 1000000 := by omega
  obtain ⟨c, rfl⟩ : ∃ c : Nat, x1 = c := ⟨x1.toNat, by omega⟩
  obtain ⟨d, rfl⟩ : ∃ d : Nat, x2 = d := ⟨x2.toNat, by omega⟩
  unfold f_L_tells
  refine Fin.go (q_ifTold hN.2 R) (fun g1 R1 _ => ?_)
  obtain ⟨g2, p1, R2⟩ := l_print hN' R1
  rw [p1, bd_s]
  unfold ll
  refine Fin.go (cnt_2 hN' R2) (fun g3 R3 _ => ?_)
  by_cases hc : (c : Int) < S 0 16
  · have ok : okT (S 0) (c : Int) (d : Int) x3 := ⟨⟨by omega, hc⟩, ⟨by omega, by omega⟩, h3⟩
    rw [if_pos hc]
    refine Fin.go (l_doubt hN' R3 hc) (fun g4 R4 _ => ?_)
    refine Fin.go (l_cell (w := d) hN' R4 hc (by omega)) (fun g5 R5 _ => ?_)
    obtain ⟨g6, t1, t2, -⟩ := q_tell (i := (c : Int)) (j := (d : Int)) (v := x3) ⟨hN.1, hN'⟩ R5
    have eR : teR (S 0) (c : Int) (d : Int) x3 = tlD (S 0) c d x3 := by
      unfold teR
      rw [if_pos ok, show ((c : Int)).toNat = c by omega, show ((d : Int)).toNat = d by omega]
    have eT : vT (S 0) (c : Int) (d : Int) x3 = nf ((mtA (teS (S 0) (c : Int) (d : Int) x3)).2.1 c) := by
      unfold vT
      rw [if_pos ok, show ((c : Int)).toNat = c by omega]
    have t0 := tl_0 w2 hN' ok
    rw [show ((c : Int)).toNat = c by omega, show ((d : Int)).toNat = d by omega] at t0
    rw [eR] at t1 t2
    rw [t1, bd_s]
    rcases t2 with ⟨t2, -⟩ | ⟨-, R6⟩
    · omega
    have db := (w2.2.1 c hc).2
    have s0 : psh n S (teS (S 0) (c : Int) (d : Int) x3) 0 = teS (S 0) (c : Int) (d : Int) x3 := rfl
    have e16 : psh n S (teS (S 0) (c : Int) (d : Int) x3) 0 16 = S 0 16 := by
      rw [s0]
      unfold teS tlS
      rw [gup_far (by omega), gup_far (by omega)]
    have fin : ∀ s2 : Int, tlD (S 0) c d x3 = wr (S 0 (78 + 6 * c + 5) + s2) → Fin (fun h' => Nw (N + 1) (S 0) h') 1 (f_L_tells_J57 (c : Int) (d : Int) x3 (vT (S 0) (c : Int) (d : Int) x3) (Int64.ofInt (prS (S 0))) (tlD (S 0) c d x3) (S 0 (78 + 6 * c + 5)) s2 g6) := fun s2 q => by
      unfold f_L_tells_J57
      rw [if_neg (fun z => z q)]
      refine Fin.go (l_cell (w := d) hN2 R6 (by rw [e16]; exact hc) (by omega)) (fun g7 R7 _ => ?_)
      rw [s0]
      have ec : teS (S 0) (c : Int) (d : Int) x3 (78 + 6 * c + d) = x3 := by
        unfold teS
        rw [show ((c : Int)).toNat = c by omega, show ((d : Int)).toNat = d by omega]
        exact tlS_cell (by omega)
      rw [ec, if_neg (by unfold nf; rw [if_neg (by omega)]; exact fun z => z rfl)]
      refine Fin.go (l_mate hN2 R7 (by rw [e16]; exact hc)) (fun g8 R8 _ => ?_)
      rw [s0, eT, if_neg (fun z => z rfl)]
      unfold f_L_tells_J74
      rw [if_neg (by omega)]
      exact l_back hN2 R8
    by_cases k1 : S 0 (78 + 6 * c + d) = -1
    · rw [if_pos (by unfold nf; rw [if_pos k1]; omega)]
      unfold f_L_tells_J56
      refine fin 0 ?_
      unfold tlD
      rw [if_pos (Or.inl k1), Int.add_zero, wr_id (by omega) (by omega)]
    · have cb := (w2.2.1 c hc).1 d (by omega)
      have en : nf (S 0 (78 + 6 * c + d)) = S 0 (78 + 6 * c + d) := by
        unfold nf
        rw [if_neg k1]
      rw [en, if_neg (by omega)]
      by_cases k2 : S 0 (78 + 6 * c + d) = x3
      · rw [if_pos k2]
        unfold f_L_tells_J56
        refine fin 0 ?_
        unfold tlD
        rw [if_pos (Or.inr k2), Int.add_zero, wr_id (by omega) (by omega)]
      · rw [if_neg k2]
        refine fin 1 ?_
        unfold tlD
        rw [if_neg (by omega)]
  · have no : ¬ okT (S 0) (c : Int) (d : Int) x3 := fun z => hc z.1.2
    have eR : teR (S 0) (c : Int) (d : Int) x3 = -1000001 := by
      unfold teR
      rw [if_neg no]
    have eT : vT (S 0) (c : Int) (d : Int) x3 = -1000001 := by
      unfold vT
      rw [if_neg no]
    rw [if_neg hc, eT, if_neg (by omega)]
    obtain ⟨g6, t1, t2, -⟩ := q_tell (i := (c : Int)) (j := (d : Int)) (v := x3) ⟨hN.1, hN'⟩ R3
    rw [eR] at t1 t2
    rcases t2 with ⟨-, R6⟩ | ⟨t2, -⟩
    · rw [t1, bd_s, if_neg (by omega)]
      obtain ⟨g7, p2, R7⟩ := l_print hN' R6
      rw [p2, bd_s, if_neg (by rw [lg_self]; exact fun z => z rfl)]
      exact Fin.ret (R7.mono (by omega)).nw
    · omega
end Changes26
