/-! THE TWO OBJECTS: they stand for one state -/
/-- the states before: the class's ring, the reference's rows -/
def hX (W was : aF) (o n B : Nat) : Prop := ∀ i, i < n → ∃ nA nH nO, rX (fun c => W ((o + i) % 5 * 172 + c)) (fun c => was (172 * i + c)) nA nH nO B
theorem hX_mono {W was : aF} {o n B B' : Nat} (h : hX W was o n B) (hB : B ≤ B') : hX W was o n B' := fun i hi => by
  obtain ⟨nA, nH, nO, r⟩ := h i hi
  exact ⟨nA, nH, nO, rX_mono r hB⟩
theorem wW_in {W C : aF} {b c : Nat} (hc : c < 172) : wW W C b 172 (b + c) = C c := by
  unfold wW
  rw [if_pos (by omega), show b + c - b = c by omega]
theorem wW_out {W C : aF} {b j : Nat} (hj : j < b ∨ b + 172 ≤ j) : wW W C b 172 j = W j := by
  unfold wW
  rw [if_neg (by omega)]
theorem hX_keep {C d W was : aF} {nA nH nO o n B : Nat} (h : hX W was o n B) (r : rX C d nA nH nO B) (ho : o < 5) (hn : n ≤ 5) : ∃ (W' : aF) (o' : Nat), kH W C o n = (W', nI o', nI (mN n)) ∧ o' < 5 ∧ mN n ≤ 5 ∧ hX W' (mR was d n) o' (mN n) B := by
  unfold kH mR mN
  by_cases e : n = 5
  · subst e
    rw [if_pos rfl, if_pos rfl, if_pos rfl]
    refine ⟨_, _, rfl, Nat.mod_lt _ (by omega), Nat.le_refl _, fun i hi => ?_⟩
    by_cases e4 : i = 4
    · subst e4
      refine ⟨nA, nH, nO, rX_congr r (fun c hc => wW_in hc) (fun c hc => ?_)⟩
      exact wW_in (b := 688) hc
    · obtain ⟨a1, a2, a3, r1⟩ := h (i + 1) (by omega)
      refine ⟨a1, a2, a3, rX_congr r1 (fun c hc => ?_) (fun c hc => ?_)⟩
      · have hne : ((o + 1) % 5 + i) % 5 ≠ ((o + 1) % 5 + 4) % 5 := by omega
        show wW W C (((o + 1) % 5 + 4) % 5 * 172) 172 (((o + 1) % 5 + i) % 5 * 172 + c) = _
        rw [wW_out (by omega), show ((o + 1) % 5 + i) % 5 = (o + (i + 1)) % 5 by omega]
      · show wW (sW was 688) d 688 172 (172 * i + c) = _
        rw [wW_out (by omega)]
        unfold sW
        rw [if_pos (by omega), show 172 * i + c + 172 = 172 * (i + 1) + c by omega]
  · rw [if_neg e, if_neg e, if_neg e]
    refine ⟨_, _, rfl, ho, by omega, fun i hi => ?_⟩
    by_cases e4 : i = n
    · subst e4
      refine ⟨nA, nH, nO, rX_congr r (fun c hc => wW_in hc) (fun c hc => ?_)⟩
      exact wW_in (b := 172 * i) hc
    · obtain ⟨a1, a2, a3, r1⟩ := h i (by omega)
      refine ⟨a1, a2, a3, rX_congr r1 (fun c hc => ?_) (fun c hc => ?_)⟩
      · have hne : (o + i) % 5 ≠ (o + n) % 5 := by omega
        show wW W C ((o + n) % 5 * 172) 172 ((o + i) % 5 * 172 + c) = _
        rw [wW_out (by omega)]
      · show wW was d (172 * n) 172 (172 * i + c) = _
        rw [wW_out (by omega)]
def INV (H1 H2 : List mC) (B : Nat) : Prop := ∃ (C W f d was text RS SD XS YS OR : aF) (o n t nA nH nO : Nat) (shn bg en kd fi se nu : Int32) (T1 : tT) (P1 : tP) (T2 : tT) (P2 : tP) (at_ sig fst snd rea lef top shf arr goo : Int32) (ord why son : aF) (shm : Int32) (tri : aF) (trs : Int32), H1 = cH C (W, nI o, nI n) (RS, SD, XS, YS, OR, shn) T1 P1 (f, nI t, bg, en, kd, fi, se, nu) T2 P2 ∧ H2 = mH d was (nI n) text (nI t) at_ sig fst snd rea lef top shf arr goo ord why son shm tri trs ∧ rX C d nA nH nO B ∧ sR d nH RS SD XS YS (p_all d nA nH nO).1 (p_all d nA nH nO).2.1 ∧ shn = (p_all d nA nH nO).2.2 ∧ hX W was o n B ∧ o < 5 ∧ n ≤ 5 ∧ t ≤ 60 ∧ (∀ i, i < t → f i = text i)
theorem INV_mk {C W f d was text RS SD XS YS OR : aF} {o n t nA nH nO B : Nat} {shn bg en kd fi se nu : Int32} {T1 : tT} {P1 : tP} {T2 : tT} {P2 : tP} {at_ sig fst snd rea lef top shf arr goo : Int32} {ord why son : aF} {shm : Int32} {tri : aF} {trs : Int32} (h1 : rX C d nA nH nO B) (h2 : sR d nH RS SD XS YS (p_all d nA nH nO).1 (p_all d nA nH nO).2.1) (h3 : shn = (p_all d nA nH nO).2.2) (h4 : hX W was o n B) (h5 : o < 5) (h6 : n ≤ 5) (h7 : t ≤ 60) (h8 : ∀ i, i < t → f i = text i) : INV (cH C (W, nI o, nI n) (RS, SD, XS, YS, OR, shn) T1 P1 (f, nI t, bg, en, kd, fi, se, nu) T2 P2) (mH d was (nI n) text (nI t) at_ sig fst snd rea lef top shf arr goo ord why son shm tri trs) (B + 30) :=
  ⟨C, W, f, d, was, text, RS, SD, XS, YS, OR, o, n, t, nA, nH, nO, shn, bg, en, kd, fi, se, nu, T1, P1, T2, P2, at_, sig, fst, snd, rea, lef, top, shf, arr, goo, ord, why, son, shm, tri, trs, rfl, rfl, rX_mono h1 (by omega), h2, h3, hX_mono h4 (by omega), h5, h6, h7, h8⟩
/-- a call on both answers alike, and leaves both in one state -/
def PAIR (K7 K8 : mM) (as : List Value) : Prop := ∀ (H1 H2 : List mC) (B : Nat), B < 2 ^ 28 → INV H1 H2 B → ∃ (r : Int32) (H1' H2' : List mC), INV H1' H2' (B + 30) ∧ mCt K7 (.ref 0 :: as) H1 (some (.int r)) H1' ∧ mCt K8 (.ref 0 :: as) H2 (some (.int r)) H2'
theorem sP_k {C : aF} {k : Nat} {v : Int32} (hk : k < 172) : sP C (nI k) v = upd C k v := rp_in C v hk (by omega)
theorem sA_k {C : aF} {a k : Nat} {v : Int32} (ha : a < 10) (hk : k < 4) : sA C (nI a) (nI k) v = upd C (12 + 4 * a + k) v := by
  show rp 172 C (nI 12 + nI a * nI 4 + nI k) v = _
  rw [pk_mul, nI_add, nI_add, rp_in C v (by omega) (by omega), show 12 + a * 4 + k = 12 + 4 * a + k by omega]
theorem sH_k {C : aF} {h k : Nat} {v : Int32} (hh : h < 12) (hk : k < 10) : sH C (nI h) (nI k) v = upd C (52 + 10 * h + k) v := by
  show rp 172 C (nI 52 + nI h * nI 10 + nI k) v = _
  rw [pk_mul, nI_add, nI_add, rp_in C v (by omega) (by omega), show 52 + h * 10 + k = 52 + 10 * h + k by omega]
theorem iR_rg {v lo hi : Int32} {a b : Int} (h : q_rg v lo hi) (ha : lo.toInt = a) (hb : hi.toInt = b) : iR v a b := by
  obtain ⟨h1, h2⟩ := h
  rw [Int32.lt_iff_toInt_lt] at h1 h2
  exact ⟨by omega, by omega⟩
theorem rg_nI {v : Int32} {k : Nat} (hk : k < 2 ^ 31) (h : ¬ v < 0 ∧ ¬ nI k ≤ v) : ∃ j, j < k ∧ v = nI j := by
  obtain ⟨j, hj, rfl⟩ := nI_of h.1
  refine ⟨j, ?_, rfl⟩
  have := h.2
  rw [nI_leI hk hj] at this
  omega
theorem iR_add {x y : Int32} {lo hi : Int} {lo' hi' : Int32} (h : q_rg (x + y) lo' hi') (ha : lo'.toInt = lo) (hb : hi'.toInt = hi) : iR (x + y) lo hi := iR_rg h ha hb
theorem P_view {w h : Int32} : PAIR k_X7_view k_X8_view [.int w, .int h] := by
  intro H1 H2 B hB hI
  obtain ⟨C, W, f, d, was, text, RS, SD, XS, YS, OR, o, n, t, nA, nH, nO, shn, bg, en, kd, fi, se, nu, T1, P1, T2, P2, at_, sig, fst, snd, rea, lef, top, shf, arr, goo, ord, why, son, shm, tri, trs, rfl, rfl, rx, sr, hshn, hx, ho, hn, ht, hf⟩ := hI
  obtain ⟨hw, hpx, hro⟩ := id rx
  obtain ⟨l1, l2, l3, hw0⟩ := id hw
  have bc := rC_bC (by omega) (rX_rC rx)
  have e9 : d 9 = nI nA := bc.wd.2.2.2.1
  have e50 : d 50 = nI nH := bc.wd.2.2.2.2.1
  by_cases g : q_rg w 20 400 ∧ q_rg h 20 400
  · have rx' : rX (upd (upd C 2 w) 3 h) (upd (upd d 2 w) 3 h) nA nH nO B := rX_pair (rX_pair rx (px_v 2 (by omega)) (okc_v23 (k := 0) l1 l2 l3 (by omega) (iR_rg g.1 (by decide) (by decide)))) (px_v 3 (by omega)) (okc_v23 (k := 1) l1 l2 l3 (by omega) (iR_rg g.2 (by decide) (by decide)))
    have e7 : sP (sP C 2 w) 3 h = upd (upd C 2 w) 3 h := by rw [show sP C 2 w = upd C 2 w from sP_k (k := 2) (by omega)]; exact sP_k (k := 3) (by omega)
    have bc' := rC_bC (by omega) (rX_rC rx')
    have bc2 := bc'
    rw [← e7] at bc2
    obtain ⟨W', o', hk, ho', hn', hx'⟩ := hX_keep hx rx ho hn
    obtain ⟨R1, R2, R3, R4, R5, R6, R7, hz, c1⟩ := C_X7_view (Od := (f, nI t, bg, en, kd, fi, se, nu)) (T1 := T1) (P1 := P1) (T2 := T2) (P2 := P2) (RS := RS) (SD := SD) (XS := XS) (YS := YS) (OR := OR) (shn := shn) (W := W) ho hn g.1 g.2 bc2
    rw [e7, hk] at c1
    obtain ⟨j1, j2, j3, j4, j5, j6, j7, j8, j9, j10, c2⟩ := C_X8_view (was := was) (text := text) (typ := nI t) (at_ := at_) (sig := sig) (fst := fst) (snd := snd) (rea := rea) (lef := lef) (top := top) (shf := shf) (arr := arr) (goo := goo) (ord := ord) (why := why) (son := son) (shn := shm) (tri := tri) (trs := trs) hn g.1 g.2 bc'.wd bc'.hwi
    exact ⟨_, _, _, INV_mk rx' hz rfl hx' ho' hn' ht hf, c1, c2⟩
  · exact ⟨_, _, _, INV_mk rx sr hshn hx ho hn ht hf, C_X7_view_bad g, C_X8_view_bad g⟩
