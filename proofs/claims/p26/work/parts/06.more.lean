/-! the judgement Z: what is named on the way, calls by their number of arguments, switches, rows that are static, copies, floats, longs -/
section Steps4
/-- a heap, a number, under a name -/
def lt (h : Hp) (K : Hp → Option (Int × Hp)) : Option (Int × Hp) := K h
def lv (x : Int) (K : Int → Option (Int × Hp)) : Option (Int × Hp) := K x
variable {M : MI} {uu xw k pc t : Nat} {ls : List (Option AV)} {st : List AV} {h : Hp} {e e1 e2 : Option (Int × Hp)}
theorem z_putL {ix ci f i : Nat} {x : Int} {K : Hp → Option (Int × Hp)} (hl : FI (mO M) ix ci f) (ho : off ci f = none) (hk : kd i = (ci, 0)) (hd : (mT M)[k]? = some (pc, .putfield ix, 3, t)) (kk : ∀ h1, Z M uu xw (k + 1) ls st h1 (K h1)) : Z M uu xw k ls (vi x :: vr i :: st) h (lt (hup h i f x) K) := z_putI hd hl ho hk (kk _)
theorem z_iastoreL {i n : Nat} {x y : Int} {K : Hp → Option (Int × Hp)} (hk : kd i = (10, n)) (hd : (mT M)[k]? = some (pc, .iastore, 1, t)) (kk : ∀ h1, Z M uu xw (k + 1) ls st h1 (K h1)) : Z M uu xw k ls (vi x :: vi y :: vr i :: st) h (if inb y n then lt (hup h i y.toNat x) K else none) := z_iastore hd hk (kk _)
theorem z_bastoreL {i n : Nat} {x y : Int} {K : Hp → Option (Int × Hp)} (hk : kd i = (11, n)) (hd : (mT M)[k]? = some (pc, .bastore, 1, t)) (kk : ∀ h1, Z M uu xw (k + 1) ls st h1 (K h1)) : Z M uu xw k ls (vi x :: vi y :: vr i :: st) h (if inb y n ∧ isB x then lt (hup h i y.toNat x) K else none) := z_bastore hd hk (kk _)
theorem z_castoreL {i n : Nat} {x y : Int} {K : Hp → Option (Int × Hp)} (hk : kd i = (12, n)) (hd : (mT M)[k]? = some (pc, .castore, 1, t)) (kk : ∀ h1, Z M uu xw (k + 1) ls st h1 (K h1)) : Z M uu xw k ls (vi x :: vi y :: vr i :: st) h (if inb y n ∧ isC x then lt (hup h i y.toNat x) K else none) := z_castore hd hk (kk _)
theorem z_aastoreL {i n j : Nat} {y : Int} {K : Hp → Option (Int × Hp)} (hk : kd i = (13, n)) (hj : kd j = (1, 0)) (hd : (mT M)[k]? = some (pc, .aastore, 1, t)) (kk : ∀ h1, Z M uu xw (k + 1) ls st h1 (K h1)) : Z M uu xw k ls (vr j :: vi y :: vr i :: st) h (if inb y n then lt (hup h i y.toNat (j : Int)) K else none) := z_aastore hd hk hj (kk _)
theorem z_istore_nL {j : Fin 4} {x : Int} {K : Int → Option (Int × Hp)} (hd : (mT M)[k]? = some (pc, .istore_n j, 1, t)) (hc : (decide ((j : Nat) < mN M) && !(c2 ls j)) = true) (kk : ∀ y, Z M uu xw (k + 1) (ls.set j (some (vi y))) st h (K y)) : Z M uu xw k ls (vi x :: st) h (lv x K) := z_istore_n hd hc (kk _)
theorem z_istoreL {j : Nat} {x : Int} {K : Int → Option (Int × Hp)} (hd : (mT M)[k]? = some (pc, .istore j, 2, t)) (hc : (decide (j < mN M) && !(c2 ls j)) = true) (kk : ∀ y, Z M uu xw (k + 1) (ls.set j (some (vi y))) st h (K y)) : Z M uu xw k ls (vi x :: st) h (lv x K) := z_istore hd hc (kk _)

theorem z_V0i {M' : MI} {ix ci i : Nat} {R : String} {T : u_T} {ty : Nat → FieldType} {N : Nat} {rt : FieldType} {K : Int → Hp → Option (Int × Hp)} (ko : KO ci R T ty N) (hm : MV (mO M) ix M' 0) (hk : kd i = (ci, 0)) (ct : Ct M' (vr i :: []) h e1) (hd : (mT M)[k]? = some (pc, .invokevirtual ix, 3, t)) (hc : (mY M').cls = R) (hr : mR M' = some rt) (hl : isL rt = false) (hlow : lowM M M' uu xw = true) (hst : ((st.map acat).sum).ble 8 = true)
    (kk : ∀ r1 h1, Z M (uu + mB M') xw (k + 1) ls (vi r1 :: st) h1 (K r1 h1)) : Z M uu xw k ls (vr i :: st) h (bd e1 K) := z_callVi (as := []) ko hd hm hk hc hr hl rfl hlow hst ct kk
theorem z_V0v {M' : MI} {ix ci i : Nat} {R : String} {T : u_T} {ty : Nat → FieldType} {N : Nat} {K : Int → Hp → Option (Int × Hp)} (ko : KO ci R T ty N) (hm : MV (mO M) ix M' 0) (hk : kd i = (ci, 0)) (ct : Ct M' (vr i :: []) h e1) (hd : (mT M)[k]? = some (pc, .invokevirtual ix, 3, t)) (hc : (mY M').cls = R) (hr : mR M' = none) (hlow : lowM M M' uu xw = true) (hst : ((st.map acat).sum).ble 8 = true)
    (kk : ∀ r1 h1, Z M (uu + mB M') xw (k + 1) ls (st) h1 (K r1 h1)) : Z M uu xw k ls (vr i :: st) h (bd e1 K) := z_callVv (as := []) ko hd hm hk hc hr rfl hlow hst ct kk
theorem z_S0i {M' : MI} {ix : Nat} {rt : FieldType} {K : Int → Hp → Option (Int × Hp)} (hm : MS (mO M) ix M' 0) (ct : Ct M' [] h e1) (hd : (mT M)[k]? = some (pc, .invokestatic ix, 3, t)) (hr : mR M' = some rt) (hl : isL rt = false) (hlow : lowM M M' uu xw = true) (hst : ((st.map acat).sum).ble 8 = true)
    (kk : ∀ r1 h1, Z M (uu + mB M') xw (k + 1) ls (vi r1 :: st) h1 (K r1 h1)) : Z M uu xw k ls (st) h (bd e1 K) := z_callSi (as := []) hd hm hr hl rfl hlow hst ct kk
theorem z_N0i {M' : MI} {ix : Nat} {rt : FieldType} {K : Int → Hp → Option (Int × Hp)} (hm : MSN (mO M) ix M' 0) (ct : Ct M' [] h e1) (hd : (mT M)[k]? = some (pc, .invokestatic ix, 3, t)) (hr : mR M' = some rt) (hl : isL rt = false) (hlow : lowM M M' uu xw = true) (hst : ((st.map acat).sum).ble 8 = true)
    (kk : ∀ r1 h1, Z M (uu + mB M') xw (k + 1) ls (vi r1 :: st) h1 (K r1 h1)) : Z M uu xw k ls (st) h (bd e1 K) := z_callNi (as := []) hd hm hr hl rfl hlow hst ct kk
theorem z_V1i {M' : MI} {ix ci i : Nat} {R : String} {T : u_T} {ty : Nat → FieldType} {N : Nat} {rt : FieldType} {v1 : AV} {K : Int → Hp → Option (Int × Hp)} (ko : KO ci R T ty N) (hm : MV (mO M) ix M' 1) (hk : kd i = (ci, 0)) (ct : Ct M' (vr i :: [v1]) h e1) (hd : (mT M)[k]? = some (pc, .invokevirtual ix, 3, t)) (hc : (mY M').cls = R) (hr : mR M' = some rt) (hl : isL rt = false) (hlow : lowM M M' uu xw = true) (hst : ((st.map acat).sum).ble 8 = true)
    (kk : ∀ r1 h1, Z M (uu + mB M') xw (k + 1) ls (vi r1 :: st) h1 (K r1 h1)) : Z M uu xw k ls (v1 :: vr i :: st) h (bd e1 K) := z_callVi (as := [v1]) ko hd hm hk hc hr hl rfl hlow hst ct kk
theorem z_V1v {M' : MI} {ix ci i : Nat} {R : String} {T : u_T} {ty : Nat → FieldType} {N : Nat} {v1 : AV} {K : Int → Hp → Option (Int × Hp)} (ko : KO ci R T ty N) (hm : MV (mO M) ix M' 1) (hk : kd i = (ci, 0)) (ct : Ct M' (vr i :: [v1]) h e1) (hd : (mT M)[k]? = some (pc, .invokevirtual ix, 3, t)) (hc : (mY M').cls = R) (hr : mR M' = none) (hlow : lowM M M' uu xw = true) (hst : ((st.map acat).sum).ble 8 = true)
    (kk : ∀ r1 h1, Z M (uu + mB M') xw (k + 1) ls (st) h1 (K r1 h1)) : Z M uu xw k ls (v1 :: vr i :: st) h (bd e1 K) := z_callVv (as := [v1]) ko hd hm hk hc hr rfl hlow hst ct kk
theorem z_S1i {M' : MI} {ix : Nat} {rt : FieldType} {v1 : AV} {K : Int → Hp → Option (Int × Hp)} (hm : MS (mO M) ix M' 1) (ct : Ct M' [v1] h e1) (hd : (mT M)[k]? = some (pc, .invokestatic ix, 3, t)) (hr : mR M' = some rt) (hl : isL rt = false) (hlow : lowM M M' uu xw = true) (hst : ((st.map acat).sum).ble 8 = true)
    (kk : ∀ r1 h1, Z M (uu + mB M') xw (k + 1) ls (vi r1 :: st) h1 (K r1 h1)) : Z M uu xw k ls (v1 :: st) h (bd e1 K) := z_callSi (as := [v1]) hd hm hr hl rfl hlow hst ct kk
theorem z_N1i {M' : MI} {ix : Nat} {rt : FieldType} {v1 : AV} {K : Int → Hp → Option (Int × Hp)} (hm : MSN (mO M) ix M' 1) (ct : Ct M' [v1] h e1) (hd : (mT M)[k]? = some (pc, .invokestatic ix, 3, t)) (hr : mR M' = some rt) (hl : isL rt = false) (hlow : lowM M M' uu xw = true) (hst : ((st.map acat).sum).ble 8 = true)
    (kk : ∀ r1 h1, Z M (uu + mB M') xw (k + 1) ls (vi r1 :: st) h1 (K r1 h1)) : Z M uu xw k ls (v1 :: st) h (bd e1 K) := z_callNi (as := [v1]) hd hm hr hl rfl hlow hst ct kk
theorem z_V2i {M' : MI} {ix ci i : Nat} {R : String} {T : u_T} {ty : Nat → FieldType} {N : Nat} {rt : FieldType} {v1 v2 : AV} {K : Int → Hp → Option (Int × Hp)} (ko : KO ci R T ty N) (hm : MV (mO M) ix M' 2) (hk : kd i = (ci, 0)) (ct : Ct M' (vr i :: [v1, v2]) h e1) (hd : (mT M)[k]? = some (pc, .invokevirtual ix, 3, t)) (hc : (mY M').cls = R) (hr : mR M' = some rt) (hl : isL rt = false) (hlow : lowM M M' uu xw = true) (hst : ((st.map acat).sum).ble 8 = true)
    (kk : ∀ r1 h1, Z M (uu + mB M') xw (k + 1) ls (vi r1 :: st) h1 (K r1 h1)) : Z M uu xw k ls (v2 :: v1 :: vr i :: st) h (bd e1 K) := z_callVi (as := [v1, v2]) ko hd hm hk hc hr hl rfl hlow hst ct kk
theorem z_V2v {M' : MI} {ix ci i : Nat} {R : String} {T : u_T} {ty : Nat → FieldType} {N : Nat} {v1 v2 : AV} {K : Int → Hp → Option (Int × Hp)} (ko : KO ci R T ty N) (hm : MV (mO M) ix M' 2) (hk : kd i = (ci, 0)) (ct : Ct M' (vr i :: [v1, v2]) h e1) (hd : (mT M)[k]? = some (pc, .invokevirtual ix, 3, t)) (hc : (mY M').cls = R) (hr : mR M' = none) (hlow : lowM M M' uu xw = true) (hst : ((st.map acat).sum).ble 8 = true)
    (kk : ∀ r1 h1, Z M (uu + mB M') xw (k + 1) ls (st) h1 (K r1 h1)) : Z M uu xw k ls (v2 :: v1 :: vr i :: st) h (bd e1 K) := z_callVv (as := [v1, v2]) ko hd hm hk hc hr rfl hlow hst ct kk
theorem z_S2i {M' : MI} {ix : Nat} {rt : FieldType} {v1 v2 : AV} {K : Int → Hp → Option (Int × Hp)} (hm : MS (mO M) ix M' 2) (ct : Ct M' [v1, v2] h e1) (hd : (mT M)[k]? = some (pc, .invokestatic ix, 3, t)) (hr : mR M' = some rt) (hl : isL rt = false) (hlow : lowM M M' uu xw = true) (hst : ((st.map acat).sum).ble 8 = true)
    (kk : ∀ r1 h1, Z M (uu + mB M') xw (k + 1) ls (vi r1 :: st) h1 (K r1 h1)) : Z M uu xw k ls (v2 :: v1 :: st) h (bd e1 K) := z_callSi (as := [v1, v2]) hd hm hr hl rfl hlow hst ct kk
theorem z_N2i {M' : MI} {ix : Nat} {rt : FieldType} {v1 v2 : AV} {K : Int → Hp → Option (Int × Hp)} (hm : MSN (mO M) ix M' 2) (ct : Ct M' [v1, v2] h e1) (hd : (mT M)[k]? = some (pc, .invokestatic ix, 3, t)) (hr : mR M' = some rt) (hl : isL rt = false) (hlow : lowM M M' uu xw = true) (hst : ((st.map acat).sum).ble 8 = true)
    (kk : ∀ r1 h1, Z M (uu + mB M') xw (k + 1) ls (vi r1 :: st) h1 (K r1 h1)) : Z M uu xw k ls (v2 :: v1 :: st) h (bd e1 K) := z_callNi (as := [v1, v2]) hd hm hr hl rfl hlow hst ct kk
theorem z_V3i {M' : MI} {ix ci i : Nat} {R : String} {T : u_T} {ty : Nat → FieldType} {N : Nat} {rt : FieldType} {v1 v2 v3 : AV} {K : Int → Hp → Option (Int × Hp)} (ko : KO ci R T ty N) (hm : MV (mO M) ix M' 3) (hk : kd i = (ci, 0)) (ct : Ct M' (vr i :: [v1, v2, v3]) h e1) (hd : (mT M)[k]? = some (pc, .invokevirtual ix, 3, t)) (hc : (mY M').cls = R) (hr : mR M' = some rt) (hl : isL rt = false) (hlow : lowM M M' uu xw = true) (hst : ((st.map acat).sum).ble 8 = true)
    (kk : ∀ r1 h1, Z M (uu + mB M') xw (k + 1) ls (vi r1 :: st) h1 (K r1 h1)) : Z M uu xw k ls (v3 :: v2 :: v1 :: vr i :: st) h (bd e1 K) := z_callVi (as := [v1, v2, v3]) ko hd hm hk hc hr hl rfl hlow hst ct kk
theorem z_V3v {M' : MI} {ix ci i : Nat} {R : String} {T : u_T} {ty : Nat → FieldType} {N : Nat} {v1 v2 v3 : AV} {K : Int → Hp → Option (Int × Hp)} (ko : KO ci R T ty N) (hm : MV (mO M) ix M' 3) (hk : kd i = (ci, 0)) (ct : Ct M' (vr i :: [v1, v2, v3]) h e1) (hd : (mT M)[k]? = some (pc, .invokevirtual ix, 3, t)) (hc : (mY M').cls = R) (hr : mR M' = none) (hlow : lowM M M' uu xw = true) (hst : ((st.map acat).sum).ble 8 = true)
    (kk : ∀ r1 h1, Z M (uu + mB M') xw (k + 1) ls (st) h1 (K r1 h1)) : Z M uu xw k ls (v3 :: v2 :: v1 :: vr i :: st) h (bd e1 K) := z_callVv (as := [v1, v2, v3]) ko hd hm hk hc hr rfl hlow hst ct kk
theorem z_S3i {M' : MI} {ix : Nat} {rt : FieldType} {v1 v2 v3 : AV} {K : Int → Hp → Option (Int × Hp)} (hm : MS (mO M) ix M' 3) (ct : Ct M' [v1, v2, v3] h e1) (hd : (mT M)[k]? = some (pc, .invokestatic ix, 3, t)) (hr : mR M' = some rt) (hl : isL rt = false) (hlow : lowM M M' uu xw = true) (hst : ((st.map acat).sum).ble 8 = true)
    (kk : ∀ r1 h1, Z M (uu + mB M') xw (k + 1) ls (vi r1 :: st) h1 (K r1 h1)) : Z M uu xw k ls (v3 :: v2 :: v1 :: st) h (bd e1 K) := z_callSi (as := [v1, v2, v3]) hd hm hr hl rfl hlow hst ct kk
theorem z_N3i {M' : MI} {ix : Nat} {rt : FieldType} {v1 v2 v3 : AV} {K : Int → Hp → Option (Int × Hp)} (hm : MSN (mO M) ix M' 3) (ct : Ct M' [v1, v2, v3] h e1) (hd : (mT M)[k]? = some (pc, .invokestatic ix, 3, t)) (hr : mR M' = some rt) (hl : isL rt = false) (hlow : lowM M M' uu xw = true) (hst : ((st.map acat).sum).ble 8 = true)
    (kk : ∀ r1 h1, Z M (uu + mB M') xw (k + 1) ls (vi r1 :: st) h1 (K r1 h1)) : Z M uu xw k ls (v3 :: v2 :: v1 :: st) h (bd e1 K) := z_callNi (as := [v1, v2, v3]) hd hm hr hl rfl hlow hst ct kk
theorem z_V4i {M' : MI} {ix ci i : Nat} {R : String} {T : u_T} {ty : Nat → FieldType} {N : Nat} {rt : FieldType} {v1 v2 v3 v4 : AV} {K : Int → Hp → Option (Int × Hp)} (ko : KO ci R T ty N) (hm : MV (mO M) ix M' 4) (hk : kd i = (ci, 0)) (ct : Ct M' (vr i :: [v1, v2, v3, v4]) h e1) (hd : (mT M)[k]? = some (pc, .invokevirtual ix, 3, t)) (hc : (mY M').cls = R) (hr : mR M' = some rt) (hl : isL rt = false) (hlow : lowM M M' uu xw = true) (hst : ((st.map acat).sum).ble 8 = true)
    (kk : ∀ r1 h1, Z M (uu + mB M') xw (k + 1) ls (vi r1 :: st) h1 (K r1 h1)) : Z M uu xw k ls (v4 :: v3 :: v2 :: v1 :: vr i :: st) h (bd e1 K) := z_callVi (as := [v1, v2, v3, v4]) ko hd hm hk hc hr hl rfl hlow hst ct kk
theorem z_V4v {M' : MI} {ix ci i : Nat} {R : String} {T : u_T} {ty : Nat → FieldType} {N : Nat} {v1 v2 v3 v4 : AV} {K : Int → Hp → Option (Int × Hp)} (ko : KO ci R T ty N) (hm : MV (mO M) ix M' 4) (hk : kd i = (ci, 0)) (ct : Ct M' (vr i :: [v1, v2, v3, v4]) h e1) (hd : (mT M)[k]? = some (pc, .invokevirtual ix, 3, t)) (hc : (mY M').cls = R) (hr : mR M' = none) (hlow : lowM M M' uu xw = true) (hst : ((st.map acat).sum).ble 8 = true)
    (kk : ∀ r1 h1, Z M (uu + mB M') xw (k + 1) ls (st) h1 (K r1 h1)) : Z M uu xw k ls (v4 :: v3 :: v2 :: v1 :: vr i :: st) h (bd e1 K) := z_callVv (as := [v1, v2, v3, v4]) ko hd hm hk hc hr rfl hlow hst ct kk
theorem z_S4i {M' : MI} {ix : Nat} {rt : FieldType} {v1 v2 v3 v4 : AV} {K : Int → Hp → Option (Int × Hp)} (hm : MS (mO M) ix M' 4) (ct : Ct M' [v1, v2, v3, v4] h e1) (hd : (mT M)[k]? = some (pc, .invokestatic ix, 3, t)) (hr : mR M' = some rt) (hl : isL rt = false) (hlow : lowM M M' uu xw = true) (hst : ((st.map acat).sum).ble 8 = true)
    (kk : ∀ r1 h1, Z M (uu + mB M') xw (k + 1) ls (vi r1 :: st) h1 (K r1 h1)) : Z M uu xw k ls (v4 :: v3 :: v2 :: v1 :: st) h (bd e1 K) := z_callSi (as := [v1, v2, v3, v4]) hd hm hr hl rfl hlow hst ct kk
theorem z_N4i {M' : MI} {ix : Nat} {rt : FieldType} {v1 v2 v3 v4 : AV} {K : Int → Hp → Option (Int × Hp)} (hm : MSN (mO M) ix M' 4) (ct : Ct M' [v1, v2, v3, v4] h e1) (hd : (mT M)[k]? = some (pc, .invokestatic ix, 3, t)) (hr : mR M' = some rt) (hl : isL rt = false) (hlow : lowM M M' uu xw = true) (hst : ((st.map acat).sum).ble 8 = true)
    (kk : ∀ r1 h1, Z M (uu + mB M') xw (k + 1) ls (vi r1 :: st) h1 (K r1 h1)) : Z M uu xw k ls (v4 :: v3 :: v2 :: v1 :: st) h (bd e1 K) := z_callNi (as := [v1, v2, v3, v4]) hd hm hr hl rfl hlow hst ct kk
theorem z_V5i {M' : MI} {ix ci i : Nat} {R : String} {T : u_T} {ty : Nat → FieldType} {N : Nat} {rt : FieldType} {v1 v2 v3 v4 v5 : AV} {K : Int → Hp → Option (Int × Hp)} (ko : KO ci R T ty N) (hm : MV (mO M) ix M' 5) (hk : kd i = (ci, 0)) (ct : Ct M' (vr i :: [v1, v2, v3, v4, v5]) h e1) (hd : (mT M)[k]? = some (pc, .invokevirtual ix, 3, t)) (hc : (mY M').cls = R) (hr : mR M' = some rt) (hl : isL rt = false) (hlow : lowM M M' uu xw = true) (hst : ((st.map acat).sum).ble 8 = true)
    (kk : ∀ r1 h1, Z M (uu + mB M') xw (k + 1) ls (vi r1 :: st) h1 (K r1 h1)) : Z M uu xw k ls (v5 :: v4 :: v3 :: v2 :: v1 :: vr i :: st) h (bd e1 K) := z_callVi (as := [v1, v2, v3, v4, v5]) ko hd hm hk hc hr hl rfl hlow hst ct kk
theorem z_V5v {M' : MI} {ix ci i : Nat} {R : String} {T : u_T} {ty : Nat → FieldType} {N : Nat} {v1 v2 v3 v4 v5 : AV} {K : Int → Hp → Option (Int × Hp)} (ko : KO ci R T ty N) (hm : MV (mO M) ix M' 5) (hk : kd i = (ci, 0)) (ct : Ct M' (vr i :: [v1, v2, v3, v4, v5]) h e1) (hd : (mT M)[k]? = some (pc, .invokevirtual ix, 3, t)) (hc : (mY M').cls = R) (hr : mR M' = none) (hlow : lowM M M' uu xw = true) (hst : ((st.map acat).sum).ble 8 = true)
    (kk : ∀ r1 h1, Z M (uu + mB M') xw (k + 1) ls (st) h1 (K r1 h1)) : Z M uu xw k ls (v5 :: v4 :: v3 :: v2 :: v1 :: vr i :: st) h (bd e1 K) := z_callVv (as := [v1, v2, v3, v4, v5]) ko hd hm hk hc hr rfl hlow hst ct kk
theorem z_S5i {M' : MI} {ix : Nat} {rt : FieldType} {v1 v2 v3 v4 v5 : AV} {K : Int → Hp → Option (Int × Hp)} (hm : MS (mO M) ix M' 5) (ct : Ct M' [v1, v2, v3, v4, v5] h e1) (hd : (mT M)[k]? = some (pc, .invokestatic ix, 3, t)) (hr : mR M' = some rt) (hl : isL rt = false) (hlow : lowM M M' uu xw = true) (hst : ((st.map acat).sum).ble 8 = true)
    (kk : ∀ r1 h1, Z M (uu + mB M') xw (k + 1) ls (vi r1 :: st) h1 (K r1 h1)) : Z M uu xw k ls (v5 :: v4 :: v3 :: v2 :: v1 :: st) h (bd e1 K) := z_callSi (as := [v1, v2, v3, v4, v5]) hd hm hr hl rfl hlow hst ct kk
theorem z_N5i {M' : MI} {ix : Nat} {rt : FieldType} {v1 v2 v3 v4 v5 : AV} {K : Int → Hp → Option (Int × Hp)} (hm : MSN (mO M) ix M' 5) (ct : Ct M' [v1, v2, v3, v4, v5] h e1) (hd : (mT M)[k]? = some (pc, .invokestatic ix, 3, t)) (hr : mR M' = some rt) (hl : isL rt = false) (hlow : lowM M M' uu xw = true) (hst : ((st.map acat).sum).ble 8 = true)
    (kk : ∀ r1 h1, Z M (uu + mB M') xw (k + 1) ls (vi r1 :: st) h1 (K r1 h1)) : Z M uu xw k ls (v5 :: v4 :: v3 :: v2 :: v1 :: st) h (bd e1 K) := z_callNi (as := [v1, v2, v3, v4, v5]) hd hm hr hl rfl hlow hst ct kk
theorem z_getRn {ix ci f i o m : Nat} (hm : i + o = m) (hl : FL (mO M) ix ci f) (ho : off ci f = some o) (hk : kd i = (ci, 0)) (hd : (mT M)[k]? = some (pc, .getfield ix, 3, t)) (kk : Z M uu xw (k + 1) ls (vr m :: st) h e) : Z M uu xw k ls (vr i :: st) h e := by
  subst hm
  exact z_getR hd hl ho hk kk
def lr (x : Nat) (K : Nat → Option (Int × Hp)) : Option (Int × Hp) := K x
theorem z_astore_nQ {j : Fin 4} {x : Nat} {K : Nat → Option (Int × Hp)} (hk : kd x = (1, 0)) (hd : (mT M)[k]? = some (pc, .astore_n j, 1, t)) (hc : (decide ((j : Nat) < mN M) && !(c2 ls j)) = true) (kk : ∀ y, kd y = (1, 0) → Z M uu xw (k + 1) (ls.set j (some (vr y))) st h (K y)) : Z M uu xw k ls (vr x :: st) h (lr x K) := z_astore_n hd hc (kk _ hk)
/-! switches -/
def swO (i : Instr) (x : Int) : Option Int := match i with
  | .tableswitch d lo hi offs => if x < lo ∨ hi < x then some d else offs[(x - lo).toNat]?
  | .lookupswitch d ps => some (Op.lookupswitch.offset ps.toList d x)
  | _ => none
theorem z_table {x lo hi dd o : Int} {offs : Array Int} {len tg : Nat} (hd : (mT M)[k]? = some (pc, .tableswitch dd lo hi offs, len, t)) (hs : swO (.tableswitch dd lo hi offs) x = some o) (ht : (pc : Int) + o = (pcO M tg : Int)) (kk : Z M uu xw tg ls st h e) : Z M uu xw k ls (vi x :: st) h e := by
  refine Z.pure (fun a b => avR_t a) ?_ kk
  intro p l e s m args below meth c base D ca ad H locs la Q a _ C L _ _ _ _ kk
  obtain ⟨o1, o2, o3, o4⟩ := okM_at C.1.1 hd
  rw [o4]
  have rx : iR x := avR_h a
  unfold swO at hs
  dsimp only at hs
  by_cases hx : x < lo ∨ hi < x
  · rw [if_pos hx] at hs
    cases hs
    exact lv_tableOut C.2.1 C.2.2.1 o1 (by rw [ofI_T rx]; exact hx) ht kk
  · rw [if_neg hx] at hs
    exact lv_tableIn C.2.1 C.2.2.1 o1 (by rw [ofI_T rx]; omega) (by rw [ofI_T rx]; omega) (by rw [ofI_T rx]; exact hs) ht kk
theorem z_look {x dd o : Int} {ps : Array (Int × Int)} {len tg : Nat} (hd : (mT M)[k]? = some (pc, .lookupswitch dd ps, len, t)) (hp : (ps.toList.zip (ps.toList.drop 1)).all (fun (a, next) => a.1 < next.1) = true) (hs : Op.lookupswitch.offset ps.toList dd x = o) (ht : (pc : Int) + o = (pcO M tg : Int)) (kk : Z M uu xw tg ls st h e) : Z M uu xw k ls (vi x :: st) h e := by
  refine Z.pure (fun a b => avR_t a) ?_ kk
  intro p l e s m args below meth c base D ca ad H locs la Q a _ C L _ _ _ _ kk
  obtain ⟨o1, o2, o3, o4⟩ := okM_at C.1.1 hd
  rw [o4]
  have rx : iR x := avR_h a
  exact lv_lookup C.2.1 C.2.2.1 o1 hp (by rw [ofI_T rx]; exact hs) ht kk
theorem Z.ite {P : Prop} [Decidable P] (kt : P → Z M uu xw k ls st h e1) (kf : ¬ P → Z M uu xw k ls st h e2) : Z M uu xw k ls st h (if P then e1 else e2) := by
  by_cases hP : P
  · rw [if_pos hP]
    exact kt hP
  · rw [if_neg hP]
    exact kf hP
/-! static rows -/
theorem kdS {i n : Nat} (hk : kd i = (30, n)) : 84 ≤ i ∧ i < 87 ∧ n = 7 := by
  have key : ∀ i, i < 97 → (kd i).1 = 30 → 84 ≤ i ∧ i < 87 ∧ (kd i).2 = 7 := by decide +kernel
  rcases Nat.lt_or_ge i 97 with q | q
  · have := key i q (by rw [hk])
    rw [hk] at this
    exact this
  · have : kd i = (99, 0) := by
      unfold kd
      rw [List.getD_eq_getElem?_getD, List.getElem?_eq_none (by exact q)]
      rfl
    rw [this] at hk
    cases hk
theorem z_sget {ix i : Nat} {host : String} (hn : Cond.fieldLinkNest (mO M) ix "OddUmbrellas" (sN i) "[I" host ∈ lw_tbl) (hi : (decide (84 ≤ i) && decide (i < 87)) = true) (hd : (mT M)[k]? = some (pc, .getstatic ix, 3, t)) (kk : Z M uu xw (k + 1) ls (vr i :: st) h e) : Z M uu xw k ls st h e := by
  simp only [Bool.and_eq_true, decide_eq_true_eq] at hi
  refine Z.read (v := vi 0) (fun _ b c => avR_c (v := vr i) True.intro c) ?_ kk
  intro p l e s m args below meth c base D ca ad H locs la Q rs C L W0 S _ _ kk
  obtain ⟨o1, -, o3, o4⟩ := okM_at C.1.1 hd
  rw [o4]
  rw [o3 rfl] at kk
  have hSF := C.2.2.2.2.2.2.2.2.2.2
  exact va_getsN C.2.1 C.2.2.1 (hSF.1 i hi.1 hi.2).2 S C.2.2.2.2.2.2.1 (va_Nw.use rfl (C.2.2.2.2.2.2.2.2.2.1 _ hn rfl)) (fun _ q => q) o1 kk
theorem z_ialoadX {i n : Nat} {x : Int} (hk : kd i = (10, n) ∨ kd i = (30, n)) (hd : (mT M)[k]? = some (pc, .iaload, 1, t)) (kk : Z M uu xw (k + 1) ls (vi (h i x.toNat) :: st) h e) : Z M uu xw k ls (vi x :: vr i :: st) h (if inb x n then e else none) := by
  rcases hk with hk | hk
  · exact z_iaload hd hk kk
  refine Z.guard (P := inb x n) (fun hin => ?_)
  obtain ⟨q1, q2, rfl⟩ := kdS hk
  refine Z.read (v := vi x) (fun _ b c => avR_i (b _ _) (avR_t (avR_t c))) ?_ kk
  intro p l e s m args below meth c base D ca ad H locs la Q rs C L W0 S hLI _ kk
  obtain ⟨o1, -, o3, o4⟩ := okM_at C.1.1 hd
  rw [o4]
  rw [o3 rfl] at kk
  have rx : iR x := avR_h rs
  have hSF := C.2.2.2.2.2.2.2.2.2.2
  refine va_ti C.2.1 C.2.2.1 (hSF.1 i q1 q2).1 S (ofI_in rx hin) rfl o1 ?_
  rw [ofI_cl rx, ← hLI.2.1 i x.toNat q1 q2]
  exact kk
theorem z_alenX {i n : Nat} (hk : kd i = (10, n) ∨ kd i = (30, n)) (hd : (mT M)[k]? = some (pc, .arraylength, 1, t)) (kk : Z M uu xw (k + 1) ls (vi (n : Int) :: st) h e) : Z M uu xw k ls (vr i :: st) h e := by
  rcases hk with hk | hk
  · exact z_alen (c := 0) hd hk (by omega) kk
  obtain ⟨q1, q2, rfl⟩ := kdS hk
  refine Z.read (v := vi 0) (fun _ b c => avR_i (show iR ((7 : Nat) : Int) from ⟨by omega, by omega⟩) (avR_t c)) ?_ kk
  intro p l e s m args below meth c base D ca ad H locs la Q rs C L W0 S hLI _ kk
  obtain ⟨o1, -, o3, o4⟩ := okM_at C.1.1 hd
  rw [o4]
  rw [o3 rfl] at kk
  have hSF := C.2.2.2.2.2.2.2.2.2.2
  exact va_tlen C.2.1 C.2.2.1 (hSF.1 i q1 q2).1 S rfl o1 kk
/-! a copy of the head of a row of whole numbers into another -/
def hcpy (h : Hp) (i j n : Nat) : Hp := fun a b => if a = j ∧ b < n then h i b else h a b
theorem off_10 {i n : Nat} (hk : kd i = (10, n)) (j : Nat) : off (kd i).1 j = none := off_a (c := 0) hk
theorem li_hcpy {h : Hp} {i j n m : Nat} (hL : LI h) (hk : kd j = (10, m)) : LI (hcpy h i j n) := by
  have hj : j < 76 := kd_lt (c := 10) (by rw [hk]) (by omega)
  refine ⟨fun a b o q => ?_, fun a b q1 q2 => ?_, fun a b q => ?_⟩
  · unfold hcpy
    rw [if_neg]
    · exact hL.1 a b o q
    · rintro ⟨rfl, -⟩
      rw [off_10 hk] at q
      cases q
  · unfold hcpy
    rw [if_neg (by omega)]
    exact hL.2.1 a b q1 q2
  · unfold hcpy
    rw [if_neg (fun z => by (rw [z.1, hk] at q; cases q))]
    exact hL.2.2 a b q
theorem z_copy {ix i j n n1 n2 : Nat} {K : Int → Hp → Option (Int × Hp)} (hi : kd i = (10, n1)) (hj : kd j = (10, n2)) (hw : (Cond.methodLink (mO M) ix arraycopyName ∈ lwT) ∧ (Cond.native arraycopyName ∈ lwT) ∧ (Cond.static arraycopyName ∈ lwT) ∧ (Cond.initialized "java/lang/System" ∈ lwT)) (hn : (n.ble n1 && n.ble n2 && (1).ble ((rmM M).frames)) = true) (hst : (((st.map acat).sum + (nativeFrameWords "java/lang/System" "arraycopy" 5 + 11)).ble ((rmM M).locals)) = true) (hd : (mT M)[k]? = some (pc, .invokestatic ix, 3, t))
    (kk : ∀ h1, Z M uu xw (k + 1) ls st h1 (K 0 h1)) : Z M uu xw k ls (vi (n : Int) :: vi 0 :: vr j :: vi 0 :: vr i :: st) h (bd (some (0, hcpy h i j n)) K) := by
  simp only [Bool.and_eq_true, Nat.ble_eq] at hn hst
  have hi2 : i < 76 := kd_lt (c := 10) (by rw [hi]) (by omega)
  have hj2 : j < 76 := kd_lt (c := 10) (by rw [hj]) (by omega)
  intro a b c d r h' he
  have hR1 : hR (hcpy h i j n) := fun q1 q2 => by unfold hcpy; split <;> exact b _ _
  obtain ⟨z1, z2⟩ := kk (hcpy h i j n) (li_hcpy a hj) hR1 (avR_t (avR_t (avR_t (avR_t (avR_t c))))) d r h' he
  refine ⟨z1, ?_⟩
  intro p l e s m args below meth cc base D ca ad H locs la C L W0 S
  obtain ⟨o1, -, o3, o4⟩ := okM_at C.1.1 hd
  rw [o4]
  have hts := C.2.2.2.2.2.2.2.1
  have hg := wsN_g7 (ad := ad) (ca := ca) (h := h) hi2
  rw [wcell_a (c := 0) hi (by omega)] at hg
  have hg2 := wsN_g7 (ad := ad) (ca := ca) (h := h) hj2
  rw [wcell_a (c := 0) hj (by omega)] at hg2
  have rn : iR (n : Int) := avR_h c
  have cn : (Int32.ofInt (n : Int)).toNatClampNeg = n := by rw [ofI_cl rn, Int.toNat_natCast]
  have c0 : (Int32.ofInt 0).toNatClampNeg = 0 := rfl
  have p0 : ¬ Int32.ofInt 0 < 0 := by decide
  refine va_copyi C.2.1 C.2.2.1 (C.2.2.2.1.trans L.1.symm) C.2.2.2.2.2.2.1 (hts _ hw.1) (hts _ hw.2.1) (hts _ hw.2.2.1) (hts _ hw.2.2.2) C.2.2.2.2.2.2.2.2.1 W0.1 W0.2 S i j 0 0 hg hg2 rfl rfl rfl (sp := Int32.ofInt 0) (dp := Int32.ofInt 0) (n := Int32.ofInt (n : Int)) p0 p0 (fun q => ?_) (by rw [cn, c0]; omega) (by rw [cn, c0]; omega) (fun _ _ => rfl) hn.2 (by rw [acat_sum]; omega) o1 ?_
  · rw [← ofI_0, ofI_lt rn iR_0] at q
    omega
  · intro H1 locs1 w1 w2 w3
    have e1 : (wsN (nW ad) ad ca h).set j (ad j, (Sum.inl (ca 0, n2, Sum.inl (va_cpy (fun k => Int32.ofInt (h i k)) (fun k => Int32.ofInt (h j k)) (Int32.ofInt 0).toNatClampNeg (Int32.ofInt 0).toNatClampNeg (Int32.ofInt (n : Int)).toNatClampNeg)) : va_E)) = wsN (nW ad) ad ca (hcpy h i j n) := by
      apply wsN_set
      · intro q hq
        funext b
        simp [hcpy, hq]
      · rw [wcell_a (c := 0) hj (by omega), cn, c0]
        congr 4
        funext q
        show (if 0 ≤ q ∧ q < 0 + n then Int32.ofInt (h i (0 + (q - 0))) else Int32.ofInt (h j q)) = Int32.ofInt (hcpy h i j n j q)
        unfold hcpy
        by_cases hq : q < n
        · rw [if_pos ⟨by omega, by omega⟩, if_pos ⟨rfl, hq⟩]
          simp
        · rw [if_neg (by omega), if_neg (by omega)]
    rw [e1] at w1 w2
    have z3 := z2 p l e s m args below meth cc base D ca ad H1 locs1 la C L ⟨w1, w2⟩ w3
    rw [o3 rfl] at z3
    exact z3
/-! longs, floats, bits -/
theorem z_lload_n {j : Fin 4} {x : Int64} (hd : (mT M)[k]? = some (pc, .lload_n j, 1, t)) (hl : ls[(j : Nat)]? = some (some (vx (.long x)))) (kk : Z M uu xw (k + 1) ls (vx (.long x) :: st) h e) : Z M uu xw k ls st h e := by
  refine Z.pure (fun a b => avR_c (b _ _ hl) a) ?_ kk
  intro p l e s m args below meth c base D ca ad H locs la Q _ _ C L _ _ _ _ kk
  obtain ⟨o1, -, o3, o4⟩ := okM_at C.1.1 hd
  rw [o4]
  rw [o3 rfl] at kk
  exact lv_lload_n C.2.1 C.2.2.1 o1 rfl (lh_at L hl) kk
theorem z_ldc2 {x : Int64} {ix : Nat} (hc : Cond.constantLong (mO M) ix x ∈ lwT) (hd : (mT M)[k]? = some (pc, .ldc2_w ix, 3, t)) (kk : Z M uu xw (k + 1) ls (vx (.long x) :: st) h e) : Z M uu xw k ls st h e := by
  refine Z.pure (fun a b => avR_c (v := vx (.long x)) True.intro a) ?_ kk
  intro p l e s m args below meth c base D ca ad H locs la Q _ _ C L _ _ _ _ kk
  obtain ⟨o1, -, o3, o4⟩ := okM_at C.1.1 hd
  rw [o4]
  rw [o3 rfl] at kk
  exact lv_ldc2 C.2.1 C.2.2.1 C.2.2.2.2.2.2.1 (C.2.2.2.2.2.2.2.1 _ hc) o1 kk
theorem z_lshr {x : Int64} {y : Int} (hd : (mT M)[k]? = some (pc, .lshr, 1, t)) (kk : Z M uu xw (k + 1) ls (vx (.long (x >>> ((Int32.ofInt y).toInt64 &&& 63))) :: st) h e) : Z M uu xw k ls (vi y :: vx (.long x) :: st) h e := by
  refine Z.pure (fun a b => avR_c (v := vx (.long _)) True.intro (avR_t (avR_t a))) ?_ kk
  intro p l e s m args below meth c base D ca ad H locs la Q _ _ C L _ _ _ _ kk
  obtain ⟨o1, -, o3, o4⟩ := okM_at C.1.1 hd
  rw [o4]
  rw [o3 rfl] at kk
  exact lv_lshr C.2.1 C.2.2.1 o1 rfl kk
theorem z_land {x y : Int64} (hd : (mT M)[k]? = some (pc, .land, 1, t)) (kk : Z M uu xw (k + 1) ls (vx (.long (x &&& y)) :: st) h e) : Z M uu xw k ls (vx (.long y) :: vx (.long x) :: st) h e := by
  refine Z.pure (fun a b => avR_c (v := vx (.long _)) True.intro (avR_t (avR_t a))) ?_ kk
  intro p l e s m args below meth c base D ca ad H locs la Q _ _ C L _ _ _ _ kk
  obtain ⟨o1, -, o3, o4⟩ := okM_at C.1.1 hd
  rw [o4]
  rw [o3 rfl] at kk
  exact lv_land C.2.1 C.2.2.1 o1 kk
theorem iR_T (x : Int32) : iR x.toInt := ⟨x.le_toInt, x.toInt_lt⟩
theorem z_l2i {x : Int64} (hd : (mT M)[k]? = some (pc, .l2i, 1, t)) (kk : Z M uu xw (k + 1) ls (vi x.toInt32.toInt :: st) h e) : Z M uu xw k ls (vx (.long x) :: st) h e := by
  refine Z.pure (fun a b => avR_i (iR_T _) (avR_t a)) ?_ kk
  intro p l e s m args below meth c base D ca ad H locs la Q _ _ C L _ _ _ _ kk
  obtain ⟨o1, -, o3, o4⟩ := okM_at C.1.1 hd
  rw [o4]
  rw [o3 rfl] at kk
  exact lv_l2i C.2.1 C.2.2.1 o1 (Int32.ofInt_toInt _).symm kk
theorem z_ishl {x y : Int} (hd : (mT M)[k]? = some (pc, .ishl, 1, t)) (kk : Z M uu xw (k + 1) ls (vi (Int32.ofInt x <<< (Int32.ofInt y &&& 31)).toInt :: st) h e) : Z M uu xw k ls (vi y :: vi x :: st) h e := by
  refine Z.pure (fun a b => avR_i (iR_T _) (avR_t (avR_t a))) ?_ kk
  intro p l e s m args below meth c base D ca ad H locs la Q _ _ C L _ _ _ _ kk
  obtain ⟨o1, -, o3, o4⟩ := okM_at C.1.1 hd
  rw [o4]
  rw [o3 rfl] at kk
  refine lv_ishl C.2.1 C.2.2.1 o1 ?_
  rw [← Int32.ofInt_toInt (Int32.ofInt x <<< (Int32.ofInt y &&& 31))]
  exact kk
theorem z_ior {x y : Int} (hd : (mT M)[k]? = some (pc, .ior, 1, t)) (kk : Z M uu xw (k + 1) ls (vi (Int32.ofInt x ||| Int32.ofInt y).toInt :: st) h e) : Z M uu xw k ls (vi y :: vi x :: st) h e := by
  refine Z.pure (fun a b => avR_i (iR_T _) (avR_t (avR_t a))) ?_ kk
  intro p l e s m args below meth c base D ca ad H locs la Q _ _ C L _ _ _ _ kk
  obtain ⟨o1, -, o3, o4⟩ := okM_at C.1.1 hd
  rw [o4]
  rw [o3 rfl] at kk
  refine lv_ior C.2.1 C.2.2.1 o1 ?_
  rw [← Int32.ofInt_toInt (Int32.ofInt x ||| Int32.ofInt y)]
  exact kk
theorem z_i2f {x : Int} (hd : (mT M)[k]? = some (pc, .i2f, 1, t)) (kk : Z M uu xw (k + 1) ls (vx (.float (FP.i2f (Int32.ofInt x))) :: st) h e) : Z M uu xw k ls (vi x :: st) h e := by
  refine Z.pure (fun a b => avR_c (v := vx (.float _)) True.intro (avR_t a)) ?_ kk
  intro p l e s m args below meth c base D ca ad H locs la Q _ _ C L _ _ _ _ kk
  obtain ⟨o1, -, o3, o4⟩ := okM_at C.1.1 hd
  rw [o4]
  rw [o3 rfl] at kk
  exact lv_i2f C.2.1 C.2.2.1 o1 kk
abbrev nN (r : UInt32) : Prop := r &&& 0x7fffffff ≤ 0x7f800000

theorem z_fdiv {x y : UInt32} (hd : (mT M)[k]? = some (pc, .fdiv, 1, t)) (kk : Z M uu xw (k + 1) ls (vx (.float (FP.fdiv x y)) :: st) h e) : Z M uu xw k ls (vx (.float y) :: vx (.float x) :: st) h (if nN (FP.fdiv x y) then e else none) := by
  refine Z.guard (P := nN (FP.fdiv x y)) (fun hn => ?_)
  refine Z.pure (fun a b => avR_c (v := vx (.float _)) True.intro (avR_t (avR_t a))) ?_ kk
  intro p l e s m args below meth c base D ca ad H locs la Q _ _ C L _ _ _ _ kk
  obtain ⟨o1, -, o3, o4⟩ := okM_at C.1.1 hd
  rw [o4]
  rw [o3 rfl] at kk
  exact lv_fdiv C.2.1 C.2.2.1 o1 hn kk
theorem z_fmul {x y : UInt32} (hd : (mT M)[k]? = some (pc, .fmul, 1, t)) (kk : Z M uu xw (k + 1) ls (vx (.float (FP.fmul x y)) :: st) h e) : Z M uu xw k ls (vx (.float y) :: vx (.float x) :: st) h (if nN (FP.fmul x y) then e else none) := by
  refine Z.guard (P := nN (FP.fmul x y)) (fun hn => ?_)
  refine Z.pure (fun a b => avR_c (v := vx (.float _)) True.intro (avR_t (avR_t a))) ?_ kk
  intro p l e s m args below meth c base D ca ad H locs la Q _ _ C L _ _ _ _ kk
  obtain ⟨o1, -, o3, o4⟩ := okM_at C.1.1 hd
  rw [o4]
  rw [o3 rfl] at kk
  exact lv_fmul C.2.1 C.2.2.1 o1 hn kk
theorem z_fsub {x y : UInt32} (hd : (mT M)[k]? = some (pc, .fsub, 1, t)) (kk : Z M uu xw (k + 1) ls (vx (.float (FP.fsub x y)) :: st) h e) : Z M uu xw k ls (vx (.float y) :: vx (.float x) :: st) h (if nN (FP.fsub x y) then e else none) := by
  refine Z.guard (P := nN (FP.fsub x y)) (fun hn => ?_)
  refine Z.pure (fun a b => avR_c (v := vx (.float _)) True.intro (avR_t (avR_t a))) ?_ kk
  intro p l e s m args below meth c base D ca ad H locs la Q _ _ C L _ _ _ _ kk
  obtain ⟨o1, -, o3, o4⟩ := okM_at C.1.1 hd
  rw [o4]
  rw [o3 rfl] at kk
  exact lv_fsub C.2.1 C.2.2.1 o1 hn kk
theorem z_fcmp {x y : UInt32} {op : CmpOp} (hd : (mT M)[k]? = some (pc, .fcmp op, 1, t)) (kk : Z M uu xw (k + 1) ls (vi (Op.cmpValue (FP.fcmp x y) op).toInt :: st) h e) : Z M uu xw k ls (vx (.float y) :: vx (.float x) :: st) h e := by
  refine Z.pure (fun a b => avR_i (iR_T _) (avR_t (avR_t a))) ?_ kk
  intro p l e s m args below meth c base D ca ad H locs la Q _ _ C L _ _ _ _ kk
  obtain ⟨o1, -, o3, o4⟩ := okM_at C.1.1 hd
  rw [o4]
  rw [o3 rfl] at kk
  refine lv_fcmp C.2.1 C.2.2.1 o1 ?_
  rw [← Int32.ofInt_toInt (Op.cmpValue (FP.fcmp x y) op)]
  exact kk
theorem z_f2i {x : UInt32} (hd : (mT M)[k]? = some (pc, .f2i, 1, t)) (kk : Z M uu xw (k + 1) ls (vi (FP.f2i x).toInt :: st) h e) : Z M uu xw k ls (vx (.float x) :: st) h e := by
  refine Z.pure (fun a b => avR_i (iR_T _) (avR_t a)) ?_ kk
  intro p l e s m args below meth c base D ca ad H locs la Q _ _ C L _ _ _ _ kk
  obtain ⟨o1, -, o3, o4⟩ := okM_at C.1.1 hd
  rw [o4]
  rw [o3 rfl] at kk
  refine lv_f2i C.2.1 C.2.2.1 o1 ?_
  rw [← Int32.ofInt_toInt (FP.f2i x)]
  exact kk
theorem z_fload_n {j : Fin 4} {x : UInt32} (hd : (mT M)[k]? = some (pc, .fload_n j, 1, t)) (hl : ls[(j : Nat)]? = some (some (vx (.float x)))) (kk : Z M uu xw (k + 1) ls (vx (.float x) :: st) h e) : Z M uu xw k ls st h e := by
  refine Z.pure (fun a b => avR_c (b _ _ hl) a) ?_ kk
  intro p l e s m args below meth c base D ca ad H locs la Q _ _ C L _ _ _ _ kk
  obtain ⟨o1, -, o3, o4⟩ := okM_at C.1.1 hd
  rw [o4]
  rw [o3 rfl] at kk
  exact lv_fload_n C.2.1 C.2.2.1 o1 rfl (lh_at L hl) kk
theorem z_fstore_n {j : Fin 4} {x : UInt32} (hd : (mT M)[k]? = some (pc, .fstore_n j, 1, t)) (hc : (decide ((j : Nat) < mN M) && !(c2 ls j)) = true) (kk : Z M uu xw (k + 1) (ls.set j (some (vx (.float x)))) st h e) : Z M uu xw k ls (vx (.float x) :: st) h e := by
  simp only [Bool.and_eq_true, decide_eq_true_eq, Bool.not_eq_true'] at hc
  refine Z.store (v := vx (.float x)) (fun a b => ⟨True.intro, avR_t a⟩) ?_ kk
  intro p l e s m args below meth c base D ca ad H locs la Q C L kk
  obtain ⟨o1, -, o3, o4⟩ := okM_at C.1.1 hd
  rw [o4]
  rw [o3 rfl] at kk
  exact lv_fstore_n C.2.1 C.2.2.1 o1 rfl (lh_list L) hc.1 rfl (fun ls' hl => kk ls' (lh_set rfl hc.2 hl))
theorem z_fconst1 (hd : (mT M)[k]? = some (pc, .fconst 1, 1, t)) (kk : Z M uu xw (k + 1) ls (vx (.float 0x3f800000) :: st) h e) : Z M uu xw k ls st h e := by
  refine Z.pure (fun a b => avR_c (v := vx (.float _)) True.intro a) ?_ kk
  intro p l e s m args below meth c base D ca ad H locs la Q _ _ C L _ _ _ _ kk
  obtain ⟨o1, -, o3, o4⟩ := okM_at C.1.1 hd
  rw [o4]
  rw [o3 rfl] at kk
  exact lv_fconst1 C.2.1 C.2.2.1 o1 kk
theorem z_fconst2 (hd : (mT M)[k]? = some (pc, .fconst 2, 1, t)) (kk : Z M uu xw (k + 1) ls (vx (.float 0x40000000) :: st) h e) : Z M uu xw k ls st h e := by
  refine Z.pure (fun a b => avR_c (v := vx (.float _)) True.intro a) ?_ kk
  intro p l e s m args below meth c base D ca ad H locs la Q _ _ C L _ _ _ _ kk
  obtain ⟨o1, -, o3, o4⟩ := okM_at C.1.1 hd
  rw [o4]
  rw [o3 rfl] at kk
  exact lv_fconst2 C.2.1 C.2.2.1 o1 kk
theorem z_ldcf {x : UInt32} {ix : Nat} (hc : Cond.constantFloat (mO M) ix x ∈ lwT) (hd : (mT M)[k]? = some (pc, .ldc ix, 2, t)) (kk : Z M uu xw (k + 1) ls (vx (.float x) :: st) h e) : Z M uu xw k ls st h e := by
  refine Z.pure (fun a b => avR_c (v := vx (.float _)) True.intro a) ?_ kk
  intro p l e s m args below meth c base D ca ad H locs la Q _ _ C L _ _ _ _ kk
  obtain ⟨o1, -, o3, o4⟩ := okM_at C.1.1 hd
  rw [o4]
  rw [o3 rfl] at kk
  exact lv_ldcf C.2.1 C.2.2.1 C.2.2.2.2.2.2.1 (C.2.2.2.2.2.2.2.1 _ hc) o1 kk
end Steps4
/-! words by their place in a piece of the tables -/
theorem lw_k1 {w : Cond} (h : w ∈ tables_1_1) : w ∈ lw_tbl := List.mem_append_right _ (List.mem_append_left _ h)
theorem lw_k2 {w : Cond} (h : w ∈ tables_1_2) : w ∈ lw_tbl := List.mem_append_right _ (List.mem_append_right _ (List.mem_append_left _ h))
theorem lw_k3 {w : Cond} (h : w ∈ tables_1_3) : w ∈ lw_tbl := List.mem_append_right _ (List.mem_append_right _ (List.mem_append_right _ h))
theorem lwT_k1 {w : Cond} (i : Nat) (h : tables_1_1[i]? = some w) (hg : goodWord w = true) : w ∈ lwT := List.mem_filter.mpr ⟨lw_k1 (List.mem_of_getElem? h), hg⟩
theorem lwN_k1 {w : Cond} (i : Nat) (h : tables_1_1[i]? = some w) : w ∈ lw_tbl := lw_k1 (List.mem_of_getElem? h)
theorem lwT_k2 {w : Cond} (i : Nat) (h : tables_1_2[i]? = some w) (hg : goodWord w = true) : w ∈ lwT := List.mem_filter.mpr ⟨lw_k2 (List.mem_of_getElem? h), hg⟩
theorem lwN_k2 {w : Cond} (i : Nat) (h : tables_1_2[i]? = some w) : w ∈ lw_tbl := lw_k2 (List.mem_of_getElem? h)
theorem lwT_k3 {w : Cond} (i : Nat) (h : tables_1_3[i]? = some w) (hg : goodWord w = true) : w ∈ lwT := List.mem_filter.mpr ⟨lw_k3 (List.mem_of_getElem? h), hg⟩
theorem lwN_k3 {w : Cond} (i : Nat) (h : tables_1_3[i]? = some w) : w ∈ lw_tbl := lw_k3 (List.mem_of_getElem? h)
theorem lwT_p1 {q : MethodName × Nat} (i : Nat) (h : lw_privs_1[i]? = some q) : Cond.selects q.1.cls q.1 q.1 ∈ lwT := List.mem_filter.mpr ⟨List.mem_append_left _ (List.mem_map.mpr ⟨q, List.mem_append_left _ (List.mem_of_getElem? h), rfl⟩), rfl⟩
theorem lwT_p2 {q : MethodName × Nat} (i : Nat) (h : lw_privs_2[i]? = some q) : Cond.selects q.1.cls q.1 q.1 ∈ lwT := List.mem_filter.mpr ⟨List.mem_append_left _ (List.mem_map.mpr ⟨q, List.mem_append_right _ (List.mem_of_getElem? h), rfl⟩), rfl⟩
