/-! THE STATE OF THE OBJECT: what each call of the law answers, and the state behind it -/
def ST (h : List mC) (d : aF) (nA nH nO B n : Nat) : Prop := ∃ (C W RS SD XS YS OR was : aF) (o : Nat) (shn : Int32) (T1 : tT) (P1 : tP) (Od : tO) (T2 : tT) (P2 : tP), h = cH C (W, nI o, nI n) (RS, SD, XS, YS, OR, shn) T1 P1 Od T2 P2 ∧ zO C d RS SD XS YS shn nA nH nO B ∧ hX W was o n B ∧ o < 5 ∧ n ≤ 5
def lCt (K : mM) (as : List Value) (h : List mC) (r : Int32) (h' : List mC) : Prop := h.length = 29 ∧ (∃ fs, h[0]? = some (.inr (7, fs))) ∧ mCt K (.ref 0 :: as) h (some (.int r)) h'
theorem lCt_val {K : mM} {as : List Value} {h h' : List mC} {r r' : Int32} (e : r = r') (c : lCt K as h r h') : lCt K as h r' h' := e ▸ c
theorem ST_w {h : List mC} {d : aF} {nA nH nO B n : Nat} (S : ST h d nA nH nO B n) : wD d nA nH nO ∧ wR d nA nH ∧ wI d nO := by
  obtain ⟨C, W, RS, SD, XS, YS, OR, was, o, shn, T1, P1, Od, T2, P2, rfl, Z, hx, ho, hn⟩ := S
  exact zO_w Z
theorem ST_len {h : List mC} {d : aF} {nA nH nO B n : Nat} (S : ST h d nA nH nO B n) : h.length = 29 := by
  obtain ⟨C, W, RS, SD, XS, YS, OR, was, o, shn, T1, P1, Od, T2, P2, rfl, Z, hx, ho, hn⟩ := S
  rfl
theorem ST_n {h : List mC} {d : aF} {nA nH nO B n : Nat} (S : ST h d nA nH nO B n) : n ≤ 5 := by
  obtain ⟨C, W, RS, SD, XS, YS, OR, was, o, shn, T1, P1, Od, T2, P2, rfl, Z, hx, ho, hn⟩ := S
  exact hn
theorem ST_mono {h : List mC} {d : aF} {nA nH nO B B' n : Nat} (S : ST h d nA nH nO B n) (hB : B ≤ B') (hB' : B' < 2 ^ 28) : ST h d nA nH nO B' n := by
  obtain ⟨C, W, RS, SD, XS, YS, OR, was, o, shn, T1, P1, Od, T2, P2, rfl, ⟨z1, z2, z3, z4⟩, hx, ho, hn⟩ := S
  exact ⟨C, W, RS, SD, XS, YS, OR, was, o, shn, T1, P1, Od, T2, P2, rfl, ⟨rX_mono z1 hB, z2, z3, hB'⟩, hX_mono hx hB, ho, hn⟩
theorem E_holds {h : List mC} {d : aF} {nA nH nO B n : Nat} (S : ST h d nA nH nO B n) : ∃ h', ST h' d nA nH nO B n ∧ h.length = 29 ∧ mCt k_L_holds [.ref 0] h (some (.int 1)) h' := by
  obtain ⟨C, W, RS, SD, XS, YS, OR, was, o, shn, T1, P1, Od, T2, P2, rfl, Z, hx, ho, hn⟩ := S
  obtain ⟨P3, hk⟩ := C_L_holds (W := W) (o := o) (n := n) (OR := OR) (T1 := T1) (P1 := P1) (Od := Od) (T2 := T2) (P2 := P2) Z
  exact ⟨_, ⟨C, W, RS, SD, XS, YS, OR, was, o, shn, T1, P1, Od, T2, P3, rfl, Z, hx, ho, hn⟩, rfl, hk⟩
theorem nI_rg {y a b : Nat} (h1 : a ≤ y) (h2 : y ≤ b) (hb : b < 2 ^ 31) : q_rg (nI y) (nI a) (nI b) := ⟨nI_nlt h1 (by omega), nI_nlt h2 hb⟩
theorem E_count_0 {h : List mC} {d : aF} {nA nH nO B n : Nat} (S : ST h d nA nH nO B n) : lCt k_X7_count [.int 0] h (d 0) h := by
  obtain ⟨C, W, RS, SD, XS, YS, OR, was, o, shn, T1, P1, Od, T2, P2, rfl, Z, hx, ho, hn⟩ := S
  exact ⟨rfl, ⟨_, rfl⟩, Q_count_0 Z⟩
theorem E_count_1 {h : List mC} {d : aF} {nA nH nO B n : Nat} (S : ST h d nA nH nO B n) : lCt k_X7_count [.int 1] h (d 1) h := by
  obtain ⟨C, W, RS, SD, XS, YS, OR, was, o, shn, T1, P1, Od, T2, P2, rfl, Z, hx, ho, hn⟩ := S
  exact ⟨rfl, ⟨_, rfl⟩, Q_count_1 Z⟩
theorem E_count_6 {h : List mC} {d : aF} {nA nH nO B n : Nat} (S : ST h d nA nH nO B n) : lCt k_X7_count [.int 6] h (nI nO) h := by
  obtain ⟨C, W, RS, SD, XS, YS, OR, was, o, shn, T1, P1, Od, T2, P2, rfl, Z, hx, ho, hn⟩ := S
  exact ⟨rfl, ⟨_, rfl⟩, Q_count_6 Z⟩
theorem E_count_7 {h : List mC} {d : aF} {nA nH nO B n : Nat} (S : ST h d nA nH nO B n) : lCt k_X7_count [.int 7] h (p_all d nA nH nO).2.2 h := by
  obtain ⟨C, W, RS, SD, XS, YS, OR, was, o, shn, T1, P1, Od, T2, P2, rfl, Z, hx, ho, hn⟩ := S
  exact ⟨rfl, ⟨_, rfl⟩, Q_count_7 Z⟩
theorem E_count_9 {h : List mC} {d : aF} {nA nH nO B n : Nat} (S : ST h d nA nH nO B n) : lCt k_X7_count [.int 9] h (nI n) h := by
  obtain ⟨C, W, RS, SD, XS, YS, OR, was, o, shn, T1, P1, Od, T2, P2, rfl, Z, hx, ho, hn⟩ := S
  exact ⟨rfl, ⟨_, rfl⟩, Q_count_9 Z⟩
theorem E_hint_7 {h : List mC} {d : aF} {nA nH nO B n : Nat} (S : ST h d nA nH nO B n) {i : Nat} (hi : i < nH) : lCt k_X7_hintOf [.int (nI i), .int 7] h ((dH d i 7)) h := by
  obtain ⟨C, W, RS, SD, XS, YS, OR, was, o, shn, T1, P1, Od, T2, P2, rfl, Z, hx, ho, hn⟩ := S
  exact ⟨rfl, ⟨_, rfl⟩, Q_hint_7 Z hi⟩
theorem E_hint_8 {h : List mC} {d : aF} {nA nH nO B n : Nat} (S : ST h d nA nH nO B n) {i : Nat} (hi : i < nH) : lCt k_X7_hintOf [.int (nI i), .int 8] h ((p_all d nA nH nO).1 i) h := by
  obtain ⟨C, W, RS, SD, XS, YS, OR, was, o, shn, T1, P1, Od, T2, P2, rfl, Z, hx, ho, hn⟩ := S
  exact ⟨rfl, ⟨_, rfl⟩, Q_hint_8 Z hi⟩
theorem E_hint_15 {h : List mC} {d : aF} {nA nH nO B n : Nat} (S : ST h d nA nH nO B n) {i : Nat} (hi : i < nH) : lCt k_X7_hintOf [.int (nI i), .int 15] h ((if d (160 + i) = -1 then -10004 else d (160 + i))) h := by
  obtain ⟨C, W, RS, SD, XS, YS, OR, was, o, shn, T1, P1, Od, T2, P2, rfl, Z, hx, ho, hn⟩ := S
  exact ⟨rfl, ⟨_, rfl⟩, Q_hint_15 Z hi⟩
theorem E_hint_9 {h : List mC} {d : aF} {nA nH nO B n : Nat} (S : ST h d nA nH nO B n) {i : Nat} (hi : i < nH) (gs : ¬ (p_all d nA nH nO).2.1 i = -1) : ∃ h', ST h' d nA nH nO B n ∧ lCt k_X7_hintOf [.int (nI i), .int 9] h ((p_all d nA nH nO).2.1 i) h' := by
  obtain ⟨C, W, RS, SD, XS, YS, OR, was, o, shn, T1, P1, Od, T2, P2, rfl, Z, hx, ho, hn⟩ := S
  exact ⟨_, ⟨C, W, RS, SD, XS, YS, OR, was, o, shn, T1, P1, Od, T2, _, rfl, Z, hx, ho, hn⟩, rfl, ⟨_, rfl⟩, Q_hint_9 Z hi gs⟩
theorem E_hint_9n {h : List mC} {d : aF} {nA nH nO B n : Nat} (S : ST h d nA nH nO B n) {i : Nat} (hi : i < nH) (gs : (p_all d nA nH nO).2.1 i = -1) : lCt k_X7_hintOf [.int (nI i), .int 9] h (-10004) h := by
  obtain ⟨C, W, RS, SD, XS, YS, OR, was, o, shn, T1, P1, Od, T2, P2, rfl, Z, hx, ho, hn⟩ := S
  exact ⟨rfl, ⟨_, rfl⟩, Q_hint_9n Z hi gs⟩
theorem E_anchor_0 {h : List mC} {d : aF} {nA nH nO B n : Nat} (S : ST h d nA nH nO B n) {a : Nat} (ha : a < nA) : lCt k_X7_anchorOf [.int (nI a), .int 0] h (dA d a 0) h := by
  obtain ⟨C, W, RS, SD, XS, YS, OR, was, o, shn, T1, P1, Od, T2, P2, rfl, Z, hx, ho, hn⟩ := S
  exact ⟨rfl, ⟨_, rfl⟩, Q_anchor_0 Z ha⟩
theorem E_anchor_1 {h : List mC} {d : aF} {nA nH nO B n : Nat} (S : ST h d nA nH nO B n) {a : Nat} (ha : a < nA) : lCt k_X7_anchorOf [.int (nI a), .int 1] h (dA d a 1) h := by
  obtain ⟨C, W, RS, SD, XS, YS, OR, was, o, shn, T1, P1, Od, T2, P2, rfl, Z, hx, ho, hn⟩ := S
  exact ⟨rfl, ⟨_, rfl⟩, Q_anchor_1 Z ha⟩
set_option maxHeartbeats 4000000 in
set_option maxRecDepth 100000 in
theorem E_view {h : List mC} {d : aF} {nA nH nO B n : Nat} (S : ST h d nA nH nO B n) {w t : Int32} (g1 : q_rg w 20 400) (g2 : q_rg t 20 400) : ∃ h', ST h' (upd (upd d 2 w) 3 t) nA nH nO B (mN n) ∧ lCt k_X7_view [.int w, .int t] h ((p_all (upd (upd d 2 w) 3 t) nA nH nO).2.2) h' := by
  obtain ⟨C, W, RS, SD, XS, YS, OR, was, o, shn, T1, P1, Od, T2, P2, rfl, ⟨rx, sr, hshn, hB⟩, hx, ho, hn⟩ := S
  obtain ⟨hw, hpx, hro⟩ := id rx
  obtain ⟨l1, l2, l3, hw0⟩ := id hw
  have bc := rC_bC (by omega) (rX_rC rx)
  have e9 : d 9 = nI nA := bc.wd.2.2.2.1
  have e50 : d 50 = nI nH := bc.wd.2.2.2.2.1
  have rx' : rX (upd (upd C 2 w) 3 t) (upd (upd d 2 w) 3 t) nA nH nO B := rX_pair (rX_pair rx (px_v 2 (by omega)) (okc_v23 (k := 0) l1 l2 l3 (by omega) (iR_rg g1 (by decide) (by decide)))) (px_v 3 (by omega)) (okc_v23 (k := 1) l1 l2 l3 (by omega) (iR_rg g2 (by decide) (by decide)))
  have e7 : sP (sP C 2 w) 3 t = upd (upd C 2 w) 3 t := by rw [show sP C 2 w = upd C 2 w from sP_k (k := 2) (by omega)]; exact sP_k (k := 3) (by omega)
  have bc2 := rC_bC (by omega) (rX_rC rx')
  rw [← e7] at bc2
  obtain ⟨W', o', hk, ho', hn', hx'⟩ := hX_keep hx rx ho hn
  obtain ⟨R1, R2, R3, R4, R5, R6, R7, hz, c1⟩ := C_X7_view (Od := Od) (T1 := T1) (P1 := P1) (T2 := T2) (P2 := P2) (RS := RS) (SD := SD) (XS := XS) (YS := YS) (OR := OR) (shn := shn) (W := W) ho hn g1 g2 bc2
  rw [e7, hk] at c1
  exact ⟨_, ⟨_, W', R1, R2, R3, R4, R5, mR was d n, o', _, R6, R7, Od, T2, P2, rfl, ⟨rx', hz, rfl, by omega⟩, hx', ho', hn'⟩, rfl, ⟨_, rfl⟩, c1⟩
set_option maxHeartbeats 4000000 in
set_option maxRecDepth 100000 in
theorem E_scroll {h : List mC} {d : aF} {nA nH nO B n : Nat} (S : ST h d nA nH nO B n) {x y : Int32} (g1 : q_rg x (-1000) 1000) (g2 : q_rg y (-1000) 1000) (g3 : q_cs d x y) : ∃ h', ST h' (upd (upd d 0 (d 0 + x)) 1 (d 1 + y)) nA nH nO B (mN n) ∧ lCt k_X7_scroll [.int x, .int y] h ((p_all (upd (upd d 0 (d 0 + x)) 1 (d 1 + y)) nA nH nO).2.2) h' := by
  obtain ⟨C, W, RS, SD, XS, YS, OR, was, o, shn, T1, P1, Od, T2, P2, rfl, ⟨rx, sr, hshn, hB⟩, hx, ho, hn⟩ := S
  obtain ⟨hw, hpx, hro⟩ := id rx
  obtain ⟨l1, l2, l3, hw0⟩ := id hw
  have bc := rC_bC (by omega) (rX_rC rx)
  have e9 : d 9 = nI nA := bc.wd.2.2.2.1
  have e50 : d 50 = nI nH := bc.wd.2.2.2.2.1
  have rx' : rX (upd (upd C 0 (d 0 + x)) 1 (d 1 + y)) (upd (upd d 0 (d 0 + x)) 1 (d 1 + y)) nA nH nO B := rX_pair (rX_pair rx (px_v 0 (by omega)) (okc_v01 l1 l2 l3 (by omega) (iR_rg g3.1 (by decide) (by decide)))) (px_v 1 (by omega)) (okc_v01 l1 l2 l3 (by omega) (iR_rg g3.2 (by decide) (by decide)))
  have e7 : sP (sP C 0 (gG C 0 + x)) 1 (gG (sP C 0 (gG C 0 + x)) 1 + y) = upd (upd C 0 (d 0 + x)) 1 (d 1 + y) := by rw [G_0 hpx, sP_0, show gG (upd C 0 (d 0 + x)) 1 = d 1 from (gG_k _ (k := 1) (by omega)).trans ((upd_ne (by omega)).trans (hpx 1 1 (px_v 1 (by omega))))]; exact sP_1
  have bc2 := rC_bC (by omega) (rX_rC rx')
  rw [← e7] at bc2
  obtain ⟨W', o', hk, ho', hn', hx'⟩ := hX_keep hx rx ho hn
  obtain ⟨R1, R2, R3, R4, R5, R6, R7, hz, c1⟩ := C_X7_scroll (Od := Od) (T1 := T1) (P1 := P1) (T2 := T2) (P2 := P2) (RS := RS) (SD := SD) (XS := XS) (YS := YS) (OR := OR) (shn := shn) (W := W) ho hn g1 g2 ((cm_cs hpx).mpr g3) bc2
  rw [e7, hk] at c1
  exact ⟨_, ⟨_, W', R1, R2, R3, R4, R5, mR was d n, o', _, R6, R7, Od, T2, P2, rfl, ⟨rx', hz, rfl, by omega⟩, hx', ho', hn'⟩, rfl, ⟨_, rfl⟩, c1⟩
set_option maxHeartbeats 4000000 in
set_option maxRecDepth 100000 in
theorem E_anchor {h : List mC} {d : aF} {nA nH nO B n : Nat} (S : ST h d nA nH nO B n) {x y w t : Int32} (gA : nA < 10) (g1 : q_rg x (-1000) 1000) (g2 : q_rg y (-1000) 1000) (g3 : q_rg w 1 200) (g4 : q_rg t 1 200) : ∃ h', ST h' (upd (upd (upd (upd (upd d (10 + nA) x) (20 + nA) y) (30 + nA) w) (40 + nA) t) 9 (nI (nA + 1))) (nA + 1) nH nO B (mN n) ∧ lCt k_X7_anchor [.int x, .int y, .int w, .int t] h (nI nA) h' := by
  obtain ⟨C, W, RS, SD, XS, YS, OR, was, o, shn, T1, P1, Od, T2, P2, rfl, ⟨rx, sr, hshn, hB⟩, hx, ho, hn⟩ := S
  obtain ⟨hw, hpx, hro⟩ := id rx
  obtain ⟨l1, l2, l3, hw0⟩ := id hw
  have bc := rC_bC (by omega) (rX_rC rx)
  have e9 : d 9 = nI nA := bc.wd.2.2.2.1
  have e50 : d 50 = nI nH := bc.wd.2.2.2.2.1
  have rx' : rX (upd (upd (upd (upd (upd C 4 (nI (nA + 1))) (12 + 4 * nA + 0) x) (12 + 4 * nA + 1) y) (12 + 4 * nA + 2) w) (12 + 4 * nA + 3) t) (upd (upd (upd (upd (upd d (10 + nA) x) (20 + nA) y) (30 + nA) w) (40 + nA) t) 9 (nI (nA + 1))) (nA + 1) nH nO B := rX_anchor rx gA (iR_rg g1 (by decide) (by decide)) (iR_rg g2 (by decide) (by decide)) (iR_rg g3 (by decide) (by decide)) (iR_rg g4 (by decide) (by decide))
  have e7 : sA (sA (sA (sA (sP C 4 (nI nA + 1)) (nI nA) 0 x) (nI nA) 1 y) (nI nA) 2 w) (nI nA) 3 t = upd (upd (upd (upd (upd C 4 (nI (nA + 1))) (12 + 4 * nA + 0) x) (12 + 4 * nA + 1) y) (12 + 4 * nA + 2) w) (12 + 4 * nA + 3) t := by rw [nI_1, sP_4, sA_0 gA, sA_1 gA, sA_2 gA, sA_3 gA]
  have bc2 := rC_bC (by omega) (rX_rC rx')
  rw [← e7] at bc2
  obtain ⟨W', o', hk, ho', hn', hx'⟩ := hX_keep hx rx ho hn
  obtain ⟨R1, R2, R3, R4, R5, R6, R7, hz, c1⟩ := C_X7_anchor (Od := Od) (T1 := T1) (P1 := P1) (T2 := T2) (P2 := P2) (RS := RS) (SD := SD) (XS := XS) (YS := YS) (OR := OR) (shn := shn) (W := W) ho hn g1 g2 g3 g4 ((G_4 hpx).trans e9) gA bc2
  rw [e7, hk] at c1
  exact ⟨_, ⟨_, W', R1, R2, R3, R4, R5, mR was d n, o', _, R6, R7, Od, T2, P2, rfl, ⟨rx', hz, rfl, by omega⟩, hx', ho', hn'⟩, rfl, ⟨_, rfl⟩, c1⟩
set_option maxHeartbeats 4000000 in
set_option maxRecDepth 100000 in
theorem E_move {h : List mC} {d : aF} {nA nH nO B n : Nat} (S : ST h d nA nH nO B n) {a : Nat} {x y : Int32} (ha : a < nA) (g1 : q_rg x (-1000) 1000) (g2 : q_rg y (-1000) 1000) : ∃ h', ST h' (upd (upd d (10 + a) x) (20 + a) y) nA nH nO B (mN n) ∧ lCt k_X7_moveAnchor [.int (nI a), .int x, .int y] h ((p_all (upd (upd d (10 + a) x) (20 + a) y) nA nH nO).2.2) h' := by
  obtain ⟨C, W, RS, SD, XS, YS, OR, was, o, shn, T1, P1, Od, T2, P2, rfl, ⟨rx, sr, hshn, hB⟩, hx, ho, hn⟩ := S
  obtain ⟨hw, hpx, hro⟩ := id rx
  obtain ⟨l1, l2, l3, hw0⟩ := id hw
  have bc := rC_bC (by omega) (rX_rC rx)
  have e9 : d 9 = nI nA := bc.wd.2.2.2.1
  have e50 : d 50 = nI nH := bc.wd.2.2.2.2.1
  have la : a < 10 := by omega
  have gq : q_anchor C (nI a) := ⟨nI_pos (by omega), by rw [G_4 hpx, e9]; exact nI_ge ha (by omega)⟩
  have rx' : rX (upd (upd C (12 + 4 * a + 0) x) (12 + 4 * a + 1) y) (upd (upd d (10 + a) x) (20 + a) y) nA nH nO B := rX_pair (rX_pair rx (px_A0 la) (okc_A0 l1 l2 l3 la (iR_rg g1 (by decide) (by decide)))) (px_A1 la) (okc_A1 l1 l2 l3 la (iR_rg g2 (by decide) (by decide)))
  have e7 : sA (sA C (nI a) 0 x) (nI a) 1 y = upd (upd C (12 + 4 * a + 0) x) (12 + 4 * a + 1) y := by rw [sA_0 la, sA_1 la]
  have bc2 := rC_bC (by omega) (rX_rC rx')
  rw [← e7] at bc2
  obtain ⟨W', o', hk, ho', hn', hx'⟩ := hX_keep hx rx ho hn
  obtain ⟨R1, R2, R3, R4, R5, R6, R7, hz, c1⟩ := C_X7_moveAnchor (Od := Od) (T1 := T1) (P1 := P1) (T2 := T2) (P2 := P2) (RS := RS) (SD := SD) (XS := XS) (YS := YS) (OR := OR) (shn := shn) (W := W) ho hn gq g1 g2 bc2
  rw [e7, hk] at c1
  exact ⟨_, ⟨_, W', R1, R2, R3, R4, R5, mR was d n, o', _, R6, R7, Od, T2, P2, rfl, ⟨rx', hz, rfl, by omega⟩, hx', ho', hn'⟩, rfl, ⟨_, rfl⟩, c1⟩
set_option maxHeartbeats 4000000 in
set_option maxRecDepth 100000 in
theorem E_hint {h : List mC} {d : aF} {nA nH nO B n : Nat} (S : ST h d nA nH nO B n) {v w t s g : Int32} (gH : nH < 12) (g0 : ∃ a, a < nA ∧ v = nI a) (g1 : q_rg w 1 200) (g2 : q_rg t 1 200) (g3 : q_rg s 0 3) (g4 : q_rg g 0 2) : ∃ h', ST h' (upd (upd (upd (upd (upd (upd (upd (upd (upd (upd d (51 + nH) v) (63 + nH) w) (75 + nH) t) (87 + nH) s) (99 + nH) g) (111 + nH) 0) (123 + nH) 0) (135 + nH) 0) (160 + nH) (-1)) 50 (nI (nH + 1))) nA (nH + 1) nO B (mN n) ∧ lCt k_X7_hint [.int v, .int w, .int t, .int s, .int g] h (nI nH) h' := by
  obtain ⟨C, W, RS, SD, XS, YS, OR, was, o, shn, T1, P1, Od, T2, P2, rfl, ⟨rx, sr, hshn, hB⟩, hx, ho, hn⟩ := S
  obtain ⟨hw, hpx, hro⟩ := id rx
  obtain ⟨l1, l2, l3, hw0⟩ := id hw
  have bc := rC_bC (by omega) (rX_rC rx)
  have e9 : d 9 = nI nA := bc.wd.2.2.2.1
  have e50 : d 50 = nI nH := bc.wd.2.2.2.2.1
  have gq : q_anchor C v := by
    obtain ⟨a, ha, e⟩ := g0
    rw [e]
    exact ⟨nI_pos (by omega), by rw [G_4 hpx, e9]; exact nI_ge ha (by omega)⟩
  have rx' : rX (upd (upd (upd (upd (upd (upd (upd (upd (upd (upd (upd C 5 (nI (nH + 1))) (52 + 10 * nH + 0) v) (52 + 10 * nH + 1) w) (52 + 10 * nH + 2) t) (52 + 10 * nH + 3) s) (52 + 10 * nH + 4) g) (52 + 10 * nH + 5) 0) (52 + 10 * nH + 6) 0) (52 + 10 * nH + 7) 0) (52 + 10 * nH + 8) 0) (52 + 10 * nH + 9) (-1)) (upd (upd (upd (upd (upd (upd (upd (upd (upd (upd d (51 + nH) v) (63 + nH) w) (75 + nH) t) (87 + nH) s) (99 + nH) g) (111 + nH) 0) (123 + nH) 0) (135 + nH) 0) (160 + nH) (-1)) 50 (nI (nH + 1))) nA (nH + 1) nO B := rX_hint rx gH g0 (iR_rg g1 (by decide) (by decide)) (iR_rg g2 (by decide) (by decide)) (side_sd g3) (iR_rg g4 (by decide) (by decide))
  have e7 : sH (sH (sH (sH (sH (sH (sH (sH (sH (sH (sP C 5 (nI nH + 1)) (nI nH) 0 v) (nI nH) 1 w) (nI nH) 2 t) (nI nH) 3 s) (nI nH) 4 g) (nI nH) 5 0) (nI nH) 6 0) (nI nH) 7 0) (nI nH) 8 0) (nI nH) 9 (-1) = upd (upd (upd (upd (upd (upd (upd (upd (upd (upd (upd C 5 (nI (nH + 1))) (52 + 10 * nH + 0) v) (52 + 10 * nH + 1) w) (52 + 10 * nH + 2) t) (52 + 10 * nH + 3) s) (52 + 10 * nH + 4) g) (52 + 10 * nH + 5) 0) (52 + 10 * nH + 6) 0) (52 + 10 * nH + 7) 0) (52 + 10 * nH + 8) 0) (52 + 10 * nH + 9) (-1) := by rw [nI_1, sP_5, sH_0 gH, sH_1 gH, sH_2 gH, sH_3 gH, sH_4 gH, sH_5 gH, sH_6 gH, sH_7 gH, sH_8 gH, sH_9 gH]
  have bc2 := rC_bC (by omega) (rX_rC rx')
  rw [← e7] at bc2
  obtain ⟨W', o', hk, ho', hn', hx'⟩ := hX_keep hx rx ho hn
  obtain ⟨R1, R2, R3, R4, R5, R6, R7, hz, c1⟩ := C_X7_hint (Od := Od) (T1 := T1) (P1 := P1) (T2 := T2) (P2 := P2) (RS := RS) (SD := SD) (XS := XS) (YS := YS) (OR := OR) (shn := shn) (W := W) ho hn gq g1 g2 (side_iff.mp g3) g4.1 (Int32.not_lt.mp g4.2) ((G_5 hpx).trans e50) gH bc2
  rw [e7, hk] at c1
  exact ⟨_, ⟨_, W', R1, R2, R3, R4, R5, mR was d n, o', _, R6, R7, Od, T2, P2, rfl, ⟨rx', hz, rfl, by omega⟩, hx', ho', hn'⟩, rfl, ⟨_, rfl⟩, c1⟩
set_option maxHeartbeats 4000000 in
set_option maxRecDepth 100000 in
theorem E_alter {h : List mC} {d : aF} {nA nH nO B n : Nat} (S : ST h d nA nH nO B n) {j k : Nat} {v : Int32} (hj : j < nH) (hk8 : k < 8) (hk1 : ¬ (k = 0 ∨ k = 3)) (g : q_of d (nI k) v) : ∃ h', ST h' (upd d (51 + 12 * k + j) v) nA nH nO B (mN n) ∧ lCt k_X7_alter [.int (nI j), .int (nI k), .int v] h (dH d j k) h' := by
  obtain ⟨C, W, RS, SD, XS, YS, OR, was, o, shn, T1, P1, Od, T2, P2, rfl, ⟨rx, sr, hshn, hB⟩, hx, ho, hn⟩ := S
  obtain ⟨hw, hpx, hro⟩ := id rx
  obtain ⟨l1, l2, l3, hw0⟩ := id hw
  have bc := rC_bC (by omega) (rX_rC rx)
  have e9 : d 9 = nI nA := bc.wd.2.2.2.1
  have e50 : d 50 = nI nH := bc.wd.2.2.2.2.1
  have lj : j < 12 := by omega
  have q := (of_iff hpx).mp g
  have gs : gH C (nI j) (nI k) = dH d j k := gH_d (pX_rK hpx) lj k hk8
  have key : (nI k = 0 ∨ nI k = 3) ↔ (k = 0 ∨ k = 3) := by rw [show (0 : Int32) = nI 0 from rfl, show (3 : Int32) = nI 3 from rfl, nI_eq (by omega) (by omega), nI_eq (by omega) (by omega)]
  have gq : q_hint C (nI j) := ⟨nI_pos (by omega), by rw [G_5 hpx, e50]; exact nI_ge hj (by omega)⟩
  have rx' : rX (upd C (52 + 10 * j + k) v) (upd d (51 + 12 * k + j) v) nA nH nO B := rX_pair rx (px_H j k lj hk8) (of_ok l1 l2 l3 e9 lj hk8 g)
  have e7 : sH C (nI j) (nI k) v = upd C (52 + 10 * j + k) v := sH_k lj (by omega)
  have bc2 := rC_bC (by omega) (rX_rC rx')
  rw [← e7] at bc2
  obtain ⟨W', o', hk, ho', hn', hx'⟩ := hX_keep hx rx ho hn
  obtain ⟨R1, R2, R3, R4, R5, R6, R7, hz, c1⟩ := C_X7_alter (Od := Od) (T1 := T1) (P1 := P1) (T2 := T2) (P2 := P2) (RS := RS) (SD := SD) (XS := XS) (YS := YS) (OR := OR) (shn := shn) (W := W) ho hn gq q.1 q.2.1 q.2.2.1 q.2.2.2 (fun z => hk1 (key.mp z)) bc2
  rw [e7, hk] at c1
  rw [gs] at c1
  exact ⟨_, ⟨_, W', R1, R2, R3, R4, R5, mR was d n, o', _, R6, R7, Od, T2, P2, rfl, ⟨rx', hz, rfl, by omega⟩, hx', ho', hn'⟩, rfl, ⟨_, rfl⟩, c1⟩
set_option maxHeartbeats 4000000 in
set_option maxRecDepth 100000 in
theorem E_open {h : List mC} {d : aF} {nA nH nO B n : Nat} (S : ST h d nA nH nO B n) {k : Nat} (hk1 : k < nH) (hc : ¬ k ∈ ordL d nO) (hB1 : B + 1 < 2 ^ 28) : ∃ h', ST h' (upd (upd d (148 + nO) (nI k)) 147 (nI (nO + 1))) nA nH (nO + 1) (B + 1) (mN n) ∧ lCt k_X7_open [.int (nI k)] h ((p_all (upd (upd d (148 + nO) (nI k)) 147 (nI (nO + 1))) nA nH (nO + 1)).1 k) h' := by
  obtain ⟨C, W, RS, SD, XS, YS, OR, was, o, shn, T1, P1, Od, T2, P2, rfl, ⟨rx, sr, hshn, hB⟩, hx, ho, hn⟩ := S
  obtain ⟨hw, hpx, hro⟩ := id rx
  obtain ⟨l1, l2, l3, hw0⟩ := id hw
  have bc := rC_bC (by omega) (rX_rC rx)
  have e9 : d 9 = nI nA := bc.wd.2.2.2.1
  have e50 : d 50 = nI nH := bc.wd.2.2.2.2.1
  have lk : k < 12 := by omega
  have gq : q_hint C (nI k) := ⟨nI_pos (by omega), by rw [G_5 hpx, e50]; exact nI_ge hk1 (by omega)⟩
  have g2 : ¬ q_open C (nI k) := fun z => hc ((open_iff bc.wd (by omega) hro hk1).mp z)
  have rx' : rX (upd (upd C 6 (C 6 + 1)) (52 + 10 * k + 8) (C 6 + 1)) (upd (upd d (148 + nO) (nI k)) 147 (nI (nO + 1))) nA nH (nO + 1) (B + 1) := rX_open (by omega) rx hk1 g2
  have e7 : sH (sP C 6 (gG C 6 + 1)) (nI k) 8 (gG C 6 + 1) = upd (upd C 6 (C 6 + 1)) (52 + 10 * k + 8) (C 6 + 1) := by rw [show gG C 6 = C 6 from gG_k C (k := 6) (by omega), sP_6, sH_8 lk]
  have bc2 := rC_bC (by omega) (rX_rC rx')
  rw [← e7] at bc2
  obtain ⟨W', o', hk, ho', hn', hx'⟩ := hX_keep hx rx ho hn
  obtain ⟨R1, R2, R3, R4, R5, R6, R7, hz, c1⟩ := C_X7_open (Od := Od) (T1 := T1) (P1 := P1) (T2 := T2) (P2 := P2) (RS := RS) (SD := SD) (XS := XS) (YS := YS) (OR := OR) (shn := shn) (W := W) ho hn hk1 l2 gq g2 bc2
  rw [e7, hk] at c1
  exact ⟨_, ⟨_, W', R1, R2, R3, R4, R5, mR was d n, o', _, R6, R7, Od, T2, P2, rfl, ⟨rx', hz, rfl, by omega⟩, hX_mono hx' (by omega), ho', hn'⟩, rfl, ⟨_, rfl⟩, c1⟩
set_option maxHeartbeats 4000000 in
set_option maxRecDepth 100000 in
theorem E_open_np {h : List mC} {d : aF} {nA nH nO B n : Nat} (S : ST h d nA nH nO B n) {k : Nat} (hk1 : k < nH) (hc : k ∈ ordL d nO) : lCt k_X7_open [.int (nI k)] h (-10002) h := by
  obtain ⟨C, W, RS, SD, XS, YS, OR, was, o, shn, T1, P1, Od, T2, P2, rfl, ⟨rx, sr, hshn, hB⟩, hx, ho, hn⟩ := S
  obtain ⟨hw, hpx, hro⟩ := id rx
  obtain ⟨l1, l2, l3, hw0⟩ := id hw
  have bc := rC_bC (by omega) (rX_rC rx)
  have e9 : d 9 = nI nA := bc.wd.2.2.2.1
  have e50 : d 50 = nI nH := bc.wd.2.2.2.2.1
  have lk : k < 12 := by omega
  have gq : q_hint C (nI k) := ⟨nI_pos (by omega), by rw [G_5 hpx, e50]; exact nI_ge hk1 (by omega)⟩
  exact ⟨rfl, ⟨_, rfl⟩, C_X7_open_np gq ((open_iff bc.wd (by omega) hro hk1).mpr hc)⟩
set_option maxHeartbeats 4000000 in
set_option maxRecDepth 100000 in
theorem E_close_np {h : List mC} {d : aF} {nA nH nO B n : Nat} (S : ST h d nA nH nO B n) {k : Nat} (hk1 : k < nH) (hc : ¬ k ∈ ordL d nO) : lCt k_X7_close [.int (nI k)] h (-10002) h := by
  obtain ⟨C, W, RS, SD, XS, YS, OR, was, o, shn, T1, P1, Od, T2, P2, rfl, ⟨rx, sr, hshn, hB⟩, hx, ho, hn⟩ := S
  obtain ⟨hw, hpx, hro⟩ := id rx
  obtain ⟨l1, l2, l3, hw0⟩ := id hw
  have bc := rC_bC (by omega) (rX_rC rx)
  have e9 : d 9 = nI nA := bc.wd.2.2.2.1
  have e50 : d 50 = nI nH := bc.wd.2.2.2.2.1
  have lk : k < 12 := by omega
  have gq : q_hint C (nI k) := ⟨nI_pos (by omega), by rw [G_5 hpx, e50]; exact nI_ge hk1 (by omega)⟩
  exact ⟨rfl, ⟨_, rfl⟩, C_X7_close_np gq (fun z => hc ((open_iff bc.wd (by omega) hro hk1).mp z))⟩
set_option maxHeartbeats 4000000 in
set_option maxRecDepth 100000 in
theorem E_close {h : List mC} {d : aF} {nA nH nO B n : Nat} (S : ST h d nA nH nO B n) {k : Nat} (hk1 : k < nH) (hc : k ∈ ordL d nO) : ∃ h' d' n1, nO = n1 + 1 ∧ (∀ c, c < 147 → d' c = d c) ∧ ST h' d' nA nH n1 B (mN n) ∧ lCt k_X7_close [.int (nI k)] h ((p_all d' nA nH n1).2.2) h' := by
  obtain ⟨C, W, RS, SD, XS, YS, OR, was, o, shn, T1, P1, Od, T2, P2, rfl, ⟨rx, sr, hshn, hB⟩, hx, ho, hn⟩ := S
  obtain ⟨hw, hpx, hro⟩ := id rx
  obtain ⟨l1, l2, l3, hw0⟩ := id hw
  have bc := rC_bC (by omega) (rX_rC rx)
  have e9 : d 9 = nI nA := bc.wd.2.2.2.1
  have e50 : d 50 = nI nH := bc.wd.2.2.2.2.1
  have lk : k < 12 := by omega
  have gq : q_hint C (nI k) := ⟨nI_pos (by omega), by rw [G_5 hpx, e50]; exact nI_ge hk1 (by omega)⟩
  have g2 : q_open C (nI k) := (open_iff bc.wd (by omega) hro hk1).mpr hc
  obtain ⟨p, hp, hp2, hp3⟩ := pO_in bc.wd hro hk1 hc
  obtain ⟨n1, rfl⟩ : ∃ n1, nO = n1 + 1 := ⟨nO - 1, by omega⟩
  have rx' : rX (upd (upd C (52 + 10 * k + 8) 0) (52 + 10 * k + 9) (-1)) (upd (shO (upd d 147 (nI n1)) p (n1 - p)) (160 + k) (-1)) nA nH n1 B := rX_close (by omega) rx hk1 (by omega) hp2
  have e7 : sH (sH C (nI k) 8 0) (nI k) 9 (-1) = upd (upd C (52 + 10 * k + 8) 0) (52 + 10 * k + 9) (-1) := by rw [sH_8 lk, sH_9 lk]
  have bc2 := rC_bC (by omega) (rX_rC rx')
  rw [← e7] at bc2
  obtain ⟨W', o', hk, ho', hn', hx'⟩ := hX_keep hx rx ho hn
  obtain ⟨R1, R2, R3, R4, R5, R6, R7, hz, c1⟩ := C_X7_close (Od := Od) (T1 := T1) (P1 := P1) (T2 := T2) (P2 := P2) (RS := RS) (SD := SD) (XS := XS) (YS := YS) (OR := OR) (shn := shn) (W := W) ho hn gq g2 bc2
  rw [e7, hk] at c1
  refine ⟨_, _, n1, rfl, fun c hc => ?_, ⟨_, W', R1, R2, R3, R4, R5, mR was d n, o', _, R6, R7, Od, T2, P2, rfl, ⟨rx', hz, rfl, hB⟩, hx', ho', hn'⟩, rfl, ⟨_, rfl⟩, c1⟩
  have a1 : shO (upd d 147 (nI n1)) p (n1 - p) c = upd d 147 (nI n1) c := if_neg (by omega)
  rw [upd_ne (by omega), a1, upd_ne (by omega)]
set_option maxHeartbeats 4000000 in
set_option maxRecDepth 100000 in
theorem E_settle {h : List mC} {d : aF} {nA nH nO B n : Nat} (S : ST h d nA nH nO B n) : ∃ h', ST h' (rmb d (p_all d nA nH nO).2.1 nH) nA nH nO B (mN n) ∧ lCt k_X7_settle [] h (cP (fun j => ¬ (p_all d nA nH nO).2.1 j = -1 ∧ ¬ d (160 + j) = (p_all d nA nH nO).2.1 j) nH) h' := by
  obtain ⟨C, W, RS, SD, XS, YS, OR, was, o, shn, T1, P1, Od, T2, P2, rfl, ⟨rx, sr, hshn, hB⟩, hx, ho, hn⟩ := S
  obtain ⟨hw, hpx, hro⟩ := id rx
  obtain ⟨l1, l2, l3, hw0⟩ := id hw
  have bc := rC_bC (by omega) (rX_rC rx)
  have e9 : d 9 = nI nA := bc.wd.2.2.2.1
  have e50 : d 50 = nI nH := bc.wd.2.2.2.2.1
  have hsd := p_all_sd bc.wd
  have h5 : ∀ k, k ≤ nH → gG (rmC C RS SD k) 5 = nI nH := fun k hk => (G_5 (rX_rm rx sr hsd k hk).2.1).trans (wX_wD (rX_rm rx sr hsd k hk).1).1.2.2.2.2.1
  have rx' : rX (rmC C RS SD nH) (rmb d (p_all d nA nH nO).2.1 nH) nA nH nO B := rX_rm rx sr hsd nH (Nat.le_refl _)
  have e7 : rmC C RS SD nH = rmC C RS SD nH := rfl
  have bc2 := rC_bC (by omega) (rX_rC rx')
  rw [← e7] at bc2
  obtain ⟨W', o', hk, ho', hn', hx'⟩ := hX_keep hx rx ho hn
  obtain ⟨R1, R2, R3, R4, R5, R6, R7, hz, c1⟩ := C_X7_settle (Od := Od) (T1 := T1) (P1 := P1) (T2 := T2) (P2 := P2) (RS := RS) (SD := SD) (XS := XS) (YS := YS) (OR := OR) (shn := shn) (W := W) ho hn h5 l2 bc2
  rw [e7, hk] at c1
  rw [rm_cnt rx sr hsd] at c1
  exact ⟨_, ⟨_, W', R1, R2, R3, R4, R5, mR was d n, o', _, R6, R7, Od, T2, P2, rfl, ⟨rx', hz, rfl, by omega⟩, hx', ho', hn'⟩, rfl, ⟨_, rfl⟩, c1⟩
set_option maxHeartbeats 4000000 in
set_option maxRecDepth 100000 in
theorem E_undo {h : List mC} {d : aF} {nA nH nO B n : Nat} (S : ST h d nA nH nO B (n + 1)) : ∃ h' d' a1 a2 a3, ST h' d' a1 a2 a3 B n ∧ lCt k_X7_undo [] h (nI n) h' := by
  obtain ⟨C, W, RS, SD, XS, YS, OR, was, o, shn, T1, P1, Od, T2, P2, rfl, ⟨rx, sr, hshn, hB⟩, hx, ho, hn⟩ := S
  obtain ⟨a1, a2, a3, r1⟩ := hx n (by omega)
  have rx' : rX (wC C W ((o + n) % 5 * 172) 172) (wC d was (172 * n) 172) a1 a2 a3 B := rX_congr r1 (fun c hc => if_pos hc) (fun c hc => if_pos hc)
  have bc' := rC_bC (by omega) (rX_rC rx')
  obtain ⟨R1, R2, R3, R4, R5, R6, R7, hz, c1⟩ := C_X7_undo (Od := Od) (T1 := T1) (P1 := P1) (T2 := T2) (P2 := P2) (RS := RS) (SD := SD) (XS := XS) (YS := YS) (OR := OR) (shn := shn) ho (by omega) bc'
  exact ⟨_, _, a1, a2, a3, ⟨_, W, R1, R2, R3, R4, R5, was, o, _, R6, R7, Od, T2, P2, rfl, ⟨rx', hz, rfl, hB⟩, fun i hi => hx i (by omega), ho, by omega⟩, rfl, ⟨_, rfl⟩, c1⟩
theorem cF_ok {P : Nat → Prop} : ∀ {m k : Nat}, cF P m k = -10004 ∨ ∃ j, k ≤ j ∧ j < k + m ∧ cF P m k = nI j
  | 0, k => Or.inl rfl
  | m + 1, k => by
    unfold cF
    by_cases q : P k
    · rw [iif_t q]; exact Or.inr ⟨k, by omega, by omega, rfl⟩
    · rw [iif_f q]
      rcases cF_ok (P := P) (m := m) (k := k + 1) with z | ⟨j, a, b, e⟩
      · exact Or.inl z
      · exact Or.inr ⟨j, by omega, by omega, e⟩
set_option maxHeartbeats 4000000 in
set_option maxRecDepth 100000 in
theorem E_sizeFor_0 {h : List mC} {d : aF} {nA nH nO B n : Nat} (S : ST h d nA nH nO B n) {k : Nat} (hk1 : k < nH) : ∃ h' r, (r = -10004 ∨ ∃ j, 20 ≤ j ∧ j ≤ 400 ∧ r = nI j) ∧ ST h' d nA nH nO B n ∧ lCt k_X7_sizeFor [.int (nI k), .int 0] h r h' := by
  obtain ⟨C, W, RS, SD, XS, YS, OR, was, o, shn, T1, P1, Od, T2, P2, rfl, ⟨rx, sr, hshn, hB⟩, hx, ho, hn⟩ := S
  obtain ⟨hw, hpx, hro⟩ := id rx
  obtain ⟨l1, l2, l3, hw0⟩ := id hw
  have bc := rC_bC (by omega) (rX_rC rx)
  have e9 : d 9 = nI nA := bc.wd.2.2.2.1
  have e50 : d 50 = nI nH := bc.wd.2.2.2.2.1
  have lk : k < 12 := by omega
  have gq : q_hint C (nI k) := ⟨nI_pos (by omega), by rw [G_5 hpx, e50]; exact nI_ge hk1 (by omega)⟩
  obtain ⟨P3, c1⟩ := C_X7_sizeFor_0 (Od := Od) (T1 := T1) (P1 := P1) (T2 := T2) (P2 := P2) (RS := RS) (SD := SD) (XS := XS) (YS := YS) (OR := OR) (shn := shn) (W := W) (o := o) (n := n) (C := C) gq (bc.hL k hk1)
  refine ⟨_, _, ?_, ⟨C, W, RS, SD, XS, YS, OR, was, o, shn, T1, P1, Od, _, P3, rfl, ⟨rx, sr, hshn, hB⟩, hx, ho, hn⟩, rfl, ⟨_, rfl⟩, c1⟩
  rcases cF_ok with z | ⟨j, a, b, e⟩
  · exact Or.inl z
  · exact Or.inr ⟨j, a, by omega, e⟩
set_option maxHeartbeats 4000000 in
set_option maxRecDepth 100000 in
theorem E_sizeFor_1 {h : List mC} {d : aF} {nA nH nO B n : Nat} (S : ST h d nA nH nO B n) {k : Nat} (hk1 : k < nH) : ∃ h' r, (r = -10004 ∨ ∃ j, 20 ≤ j ∧ j ≤ 400 ∧ r = nI j) ∧ ST h' d nA nH nO B n ∧ lCt k_X7_sizeFor [.int (nI k), .int 1] h r h' := by
  obtain ⟨C, W, RS, SD, XS, YS, OR, was, o, shn, T1, P1, Od, T2, P2, rfl, ⟨rx, sr, hshn, hB⟩, hx, ho, hn⟩ := S
  obtain ⟨hw, hpx, hro⟩ := id rx
  obtain ⟨l1, l2, l3, hw0⟩ := id hw
  have bc := rC_bC (by omega) (rX_rC rx)
  have e9 : d 9 = nI nA := bc.wd.2.2.2.1
  have e50 : d 50 = nI nH := bc.wd.2.2.2.2.1
  have lk : k < 12 := by omega
  have gq : q_hint C (nI k) := ⟨nI_pos (by omega), by rw [G_5 hpx, e50]; exact nI_ge hk1 (by omega)⟩
  obtain ⟨P3, c1⟩ := C_X7_sizeFor_1 (Od := Od) (T1 := T1) (P1 := P1) (T2 := T2) (P2 := P2) (RS := RS) (SD := SD) (XS := XS) (YS := YS) (OR := OR) (shn := shn) (W := W) (o := o) (n := n) (C := C) gq (bc.hL k hk1)
  refine ⟨_, _, ?_, ⟨C, W, RS, SD, XS, YS, OR, was, o, shn, T1, P1, Od, _, P3, rfl, ⟨rx, sr, hshn, hB⟩, hx, ho, hn⟩, rfl, ⟨_, rfl⟩, c1⟩
  rcases cF_ok with z | ⟨j, a, b, e⟩
  · exact Or.inl z
  · exact Or.inr ⟨j, a, by omega, e⟩
