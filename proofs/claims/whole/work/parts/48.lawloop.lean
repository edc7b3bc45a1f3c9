/-! THE LAW: its loop -/
theorem INV_mono {H1 H2 : List mC} {B : Nat} (h : INV H1 H2 B) : INV H1 H2 (B + 30) := by
  obtain ⟨C, W, f, d, was, text, RS, SD, XS, YS, OR, o, n, t, nA, nH, nO, shn, bg, en, kd, fi, se, nu, T1, P1, T2, P2, at_, sig, fst, snd, rea, lef, top, shf, arr, goo, ord, why, son, shm, tri, trs, e1, e2, rx, sr, hs, hx, hr⟩ := h
  exact ⟨C, W, f, d, was, text, RS, SD, XS, YS, OR, o, n, t, nA, nH, nO, shn, bg, en, kd, fi, se, nu, T1, P1, T2, P2, at_, sig, fst, snd, rea, lef, top, shf, arr, goo, ord, why, son, shm, tri, trs, e1, e2, rX_mono rx (by omega), sr, hs, hX_mono hx (by omega), hr⟩
theorem iZ_nI {n : Nat} (h : n < 2 ^ 31) : nI n = iZ (n : Int) := Int32.toInt_inj.mp (by rw [nI_toInt h, iZ_toInt (by omega) (by omega)])
theorem l_gt {i L : Nat} (hi : i ≤ L) (hL : L ≤ 3072) : (nI L - 6 < nI i) ↔ (L : Int) - 6 < (i : Int) := by
  rw [iZ_nI (n := L) (by omega), iZ_nI (n := i) (by omega), show (6 : Int32) = iZ 6 from rfl, iZ_sub, iZ_ltI (by omega) (by omega) (by omega) (by omega)]
theorem l_sw {x : Int32} (h1 : ¬ x.toInt < 0) (h2 : ¬ 21 < x.toInt) : ∃ k : Nat, k < 22 ∧ x = nI k := by
  refine ⟨x.toInt.toNat, by omega, Int32.toInt_inj.mp ?_⟩
  rw [nI_toInt (by omega)]
  omega
theorem l_cases {k : Nat} (h : k < 22) : k = 0 ∨ k = 1 ∨ k = 2 ∨ k = 3 ∨ k = 4 ∨ k = 5 ∨ k = 6 ∨ k = 7 ∨ k = 8 ∨ k = 9 ∨ k = 10 ∨ k = 11 ∨ k = 12 ∨ k = 13 ∨ k = 14 ∨ k = 15 ∨ k = 16 ∨ k = 17 ∨ k = 18 ∨ k = 19 ∨ k = 20 ∨ k = 21 := by omega
section LAWL
variable {p : Program} {l : Launch} {e : Env} {s : State} {m : MethodId} {below : List Frame} {meth : Method} {c : Code} {b L : Nat} {xs : Nat → Int32} {D : va_G} {g : Nat → ClassId} {ad1 ad2 : Nat → Nat}  {h1 h2 : List mC}
theorem l_812 (X : lX p s m meth c b L xs D g ad1 ad2) {i : Nat} (kk : lJ p l e s m below meth c b D g ad1 ad2 18 (i + 6) [] h1 h2) : lJ p l e s m below meth c b D g ad1 ad2 812 i [] h1 h2 := by
  intro H locs la hl hP1 hP2 hS
  refine lv_iinc (v := nI (i + 6)) (lv' := [(3, .int (nI (i + 6))), (0, .ref b), (1, .ref (ad1 0)), (2, .ref (ad2 0))]) X.1.1 X.1.2.1 dL_law_812 hl (k := 3) rfl (by rw [← nI_add]; rfl) (by decide) rfl (fun la hl => ?_)
  refine lv_goto (tgt := 18) X.1.1 X.1.2.1 dL_law_815 (by decide) ?_
  exact kk H locs la (lv_sub hl [1, 2, 3, 0] rfl) hP1 hP2 hS
theorem l_818 (X : lX p s m meth c b L xs D g ad1 ad2) {i : Nat} : lJ p l e s m below meth c b D g ad1 ad2 818 i [] h1 h2 := by
  obtain ⟨⟨hx, hb, hr, hml, hown, hts, hX, hbl, hlocks, hgv⟩, -⟩ := X
  intro H locs la hl hP1 hP2 hS
  refine lv_iconst (v := 1) hx hb dL_law_818 (by decide) ?_
  refine va_forget (fun q hq => hS.2.2 q hq) ?_
  refine W.widen (k := 600000) (n := 7302250) (Nat.le_of_ble_eq_true rfl) (Nat.le_of_ble_eq_true rfl) ?_
  exact lw_ret hx hb hr hlocks dL_law_819
/-- the loop: the two objects stand for one state at its head -/
theorem l_loop (X : lX p s m meth c b L xs D g ad1 ad2) : ∀ (n i : Nat) (h1 h2 : List mC), i ≤ L → L + 1 ≤ i + n → INV h1 h2 (5 * i) → lJ p l e s m below meth c b D g ad1 ad2 18 i [] h1 h2 := by
  intro n
  induction n with
  | zero =>
    intro i h1 h2 g1 g2
    exact absurd g2 (by omega)
  | succ n ih =>
    intro i h1 h2 g1 g2 hI H locs la hl hP1 hP2 hS
    obtain ⟨hx, hb, hr, hml, hown, hts, hX, hbl, hlocks, hgv⟩ := X.1
    have hbA : ¬ (fun q : Nat => s.heap.size ≤ q) b := Nat.not_le.mpr hbl
    have hL := X.2.1
    refine lv_iload_n hx hb dL_law_18 rfl (lv_at hl 3 rfl) ?_
    refine lv_aload_n hx hb dL_law_19 rfl (lv_at hl 0 rfl) ?_
    refine va_slen hx hb hX hbl hbA hS dL_law_20 ?_
    refine lv_bipush (v := 6) hx hb dL_law_21 (by decide) ?_
    refine lv_isub hx hb dL_law_23 ?_
    refine lv_icmp_gt (tgt := 818) hx hb dL_law_24 (by decide) (fun _ => l_818 X H locs la hl hP1 hP2 hS) (fun q => ?_)
    have hi : i + 5 < L := by
      have q1 : ¬ (L : Int) - 6 < (i : Int) := fun z => q ((l_gt g1 hL).mpr z)
      omega
    refine lv_aload_n hx hb dL_law_27 rfl (lv_at hl 0 rfl) ?_
    refine lv_iload_n hx hb dL_law_28 rfl (lv_at hl 3 rfl) ?_
    refine va_sld hx hb hX hbl hbA hS (vp_in_nI (n := i) (by omega) (by omega)) dL_law_29 ?_
    refine lv_bipush (v := 31) hx hb dL_law_30 (by decide) ?_
    refine lv_iand hx hb dL_law_32 ?_
    generalize (xs (nI i).toNatClampNeg &&& 31) = w
    have next : ∀ k1 k2 : List mC, INV k1 k2 (5 * i + 30) → lJ p l e s m below meth c b D g ad1 ad2 812 i [] k1 k2 := fun k1 k2 hJ => l_812 X (ih (i + 6) k1 k2 (by omega) (by omega) (by rw [show 5 * (i + 6) = 5 * i + 30 by omega]; exact hJ))
    by_cases q1 : w.toInt < 0 ∨ 21 < w.toInt
    · exact lv_tableOut (tgt := 812) hx hb dL_law_33 q1 (by decide) (next h1 h2 (INV_mono hI) H locs la hl hP1 hP2 hS)
    · obtain ⟨k, hk, rfl⟩ := l_sw (fun z => q1 (Or.inl z)) (fun z => q1 (Or.inr z))
      rcases l_cases hk with rfl | rfl | rfl | rfl | rfl | rfl | rfl | rfl | rfl | rfl | rfl | rfl | rfl | rfl | rfl | rfl | rfl | rfl | rfl | rfl | rfl | rfl
      · exact lv_tableIn (tgt := 136) (off := 103) hx hb dL_law_33 (by decide) (by decide) (by decide +kernel) (by decide) (l_k_view X hI (by omega) hi next H locs la hl hP1 hP2 hS)
      · exact lv_tableIn (tgt := 169) (off := 136) hx hb dL_law_33 (by decide) (by decide) (by decide +kernel) (by decide) (l_k_scroll X hI (by omega) hi next H locs la hl hP1 hP2 hS)
      · exact lv_tableIn (tgt := 202) (off := 169) hx hb dL_law_33 (by decide) (by decide) (by decide +kernel) (by decide) (l_k_anchor X hI (by omega) hi next H locs la hl hP1 hP2 hS)
      · exact lv_tableIn (tgt := 255) (off := 222) hx hb dL_law_33 (by decide) (by decide) (by decide +kernel) (by decide) (l_k_moveAnchor X hI (by omega) hi next H locs la hl hP1 hP2 hS)
      · exact lv_tableIn (tgt := 298) (off := 265) hx hb dL_law_33 (by decide) (by decide) (by decide +kernel) (by decide) (l_k_anchorOf X hI (by omega) hi next H locs la hl hP1 hP2 hS)
      · exact lv_tableIn (tgt := 331) (off := 298) hx hb dL_law_33 (by decide) (by decide) (by decide +kernel) (by decide) (l_k_set X hI (by omega) hi next H locs la hl hP1 hP2 hS)
      · exact lv_tableIn (tgt := 364) (off := 331) hx hb dL_law_33 (by decide) (by decide) (by decide +kernel) (by decide) (l_k_count X hI (by omega) hi next H locs la hl hP1 hP2 hS)
      · exact lv_tableIn (tgt := 387) (off := 354) hx hb dL_law_33 (by decide) (by decide) (by decide +kernel) (by decide) (l_k_hint X hI (by omega) hi next H locs la hl hP1 hP2 hS)
      · exact lv_tableIn (tgt := 450) (off := 417) hx hb dL_law_33 (by decide) (by decide) (by decide +kernel) (by decide) (l_k_alter X hI (by omega) hi next H locs la hl hP1 hP2 hS)
      · exact lv_tableIn (tgt := 493) (off := 460) hx hb dL_law_33 (by decide) (by decide) (by decide +kernel) (by decide) (l_k_open X hI (by omega) hi next H locs la hl hP1 hP2 hS)
      · exact lv_tableIn (tgt := 516) (off := 483) hx hb dL_law_33 (by decide) (by decide) (by decide +kernel) (by decide) (l_k_close X hI (by omega) hi next H locs la hl hP1 hP2 hS)
      · exact lv_tableIn (tgt := 539) (off := 506) hx hb dL_law_33 (by decide) (by decide) (by decide +kernel) (by decide) (l_k_settle X hI (by omega) hi next H locs la hl hP1 hP2 hS)
      · exact lv_tableIn (tgt := 552) (off := 519) hx hb dL_law_33 (by decide) (by decide) (by decide +kernel) (by decide) (l_k_hintOf X hI (by omega) hi next H locs la hl hP1 hP2 hS)
      · exact lv_tableIn (tgt := 585) (off := 552) hx hb dL_law_33 (by decide) (by decide) (by decide +kernel) (by decide) (l_k_room X hI (by omega) hi next H locs la hl hP1 hP2 hS)
      · exact lv_tableIn (tgt := 618) (off := 585) hx hb dL_law_33 (by decide) (by decide) (by decide +kernel) (by decide) (l_k_ifOn X hI (by omega) hi next H locs la hl hP1 hP2 hS)
      · exact lv_tableIn (tgt := 661) (off := 628) hx hb dL_law_33 (by decide) (by decide) (by decide +kernel) (by decide) (l_k_at X hI (by omega) hi next H locs la hl hP1 hP2 hS)
      · exact lv_tableIn (tgt := 694) (off := 661) hx hb dL_law_33 (by decide) (by decide) (by decide +kernel) (by decide) (l_k_sizeFor X hI (by omega) hi next H locs la hl hP1 hP2 hS)
      · exact lv_tableIn (tgt := 727) (off := 694) hx hb dL_law_33 (by decide) (by decide) (by decide +kernel) (by decide) (l_k_undo X hI (by omega) hi next H locs la hl hP1 hP2 hS)
      · exact lv_tableIn (tgt := 740) (off := 707) hx hb dL_law_33 (by decide) (by decide) (by decide +kernel) (by decide) (l_k_type X hI (by omega) hi next H locs la hl hP1 hP2 hS)
      · exact lv_tableIn (tgt := 763) (off := 730) hx hb dL_law_33 (by decide) (by decide) (by decide +kernel) (by decide) (l_k_clearText X hI (by omega) hi next H locs la hl hP1 hP2 hS)
      · exact lv_tableIn (tgt := 776) (off := 743) hx hb dL_law_33 (by decide) (by decide) (by decide +kernel) (by decide) (l_k_fault X hI (by omega) hi next H locs la hl hP1 hP2 hS)
      · exact lv_tableIn (tgt := 799) (off := 766) hx hb dL_law_33 (by decide) (by decide) (by decide +kernel) (by decide) (l_k_carry X hI (by omega) hi next H locs la hl hP1 hP2 hS)
end LAWL
