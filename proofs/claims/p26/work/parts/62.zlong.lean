/-! a static call that returns a long -/
section Steps7
variable {M : MI} {uu xw k pc t : Nat} {ls : List (Option AV)} {st : List AV} {h : Hp} {e e1 e2 : Option (Int × Hp)}
theorem z_S1l {M' : MI} {ix : Nat} {v1 : AV} {K : Int → Hp → Option (Int × Hp)} (hm : MS (mO M) ix M' 1) (ct : Ct M' [v1] h e1) (hd : (mT M)[k]? = some (pc, .invokestatic ix, 3, t)) (hr : mR M' = some .long) (_hl : (0 : Nat) = 0) (hlow : lowM M M' uu xw = true) (hst : ((st.map acat).sum).ble 8 = true)
    (kk : ∀ r1 h1, Z M (uu + mB M') xw (k + 1) ls (vx (.long (Int64.ofInt r1)) :: st) h1 (K r1 h1)) : Z M uu xw k ls (v1 :: st) h (bd e1 K) := z_callSl (as := [v1]) hd hm hr rfl hlow hst ct kk
end Steps7
