/-! SETTLED: the same is shown -/
theorem addL_hd {L : List Int32} {s t : Int32} (h : ∃ R, L = s :: R) : ∃ R, addL L t = s :: R := by
  obtain ⟨R, rfl⟩ := h
  unfold addL
  split
  · exact ⟨R, rfl⟩
  · exact ⟨R ++ [t], rfl⟩
theorem tryL_hd {d : aF} {h : Nat} {s : Int32} (h7 : d 7 = 1) (hr : d (160 + h) = s) (hs : ¬ s = -1) : ∃ R, tryL d h = s :: R := by
  unfold tryL
  rw [trU_l, hr, h7]
  unfold lu4 lu3 lq1
  rw [if_pos rfl, if_neg hs]
  have h0 : ∃ R, addL [] s = s :: R := ⟨[], rfl⟩
  split <;> split <;> first | exact addL_hd (addL_hd (addL_hd (addL_hd h0))) | exact addL_hd (addL_hd (addL_hd h0)) | exact addL_hd (addL_hd h0) | exact addL_hd h0
theorem p_run_out {d : aF} {nA nH : Nat} {x : Nat} : ∀ (L : List Nat) (W on : aF) (shn : Int32), ¬ x ∈ L → L.Nodup → (∀ y ∈ L, on y = -1) → (p_run d nA nH (W, on, shn) L).2.1 x = on x
  | [], _, _, _, _, _, _ => rfl
  | y :: L, W, on, shn, hx, hn, hL => by
    obtain ⟨n1, n2⟩ := List.nodup_cons.mp hn
    have hxy : x ≠ y := fun z => hx (by rw [z]; exact List.mem_cons_self)
    rw [p_run_cons, p_step_tR (hL y List.mem_cons_self), p_run_out L _ _ _ (fun z => hx (List.mem_cons_of_mem _ z)) n2 (fun z hz => ?_), upd_ne hxy]
    have hne : z ≠ y := fun q => by rw [q] at hz; exact n1 hz
    rw [upd_ne hne]
    exact hL z (List.mem_cons_of_mem _ hz)
/-- settled, the same is shown -/
theorem settle_all {d d' : aF} {nA nH nO : Nat} (hw : wD d nA nH nO) (hi : wI d nO) (hR : wR d nA nH) (h7 : d 7 = 1) (T : tr d d' nA 0 0) (hr : ∀ h, h < nH → d' (160 + h) = iif ((p_all d nA nH nO).2.1 h = -1) (d (160 + h)) ((p_all d nA nH nO).2.1 h)) : p_all d' nA nH nO = p_all d nA nH nO := by
  have z0 : iR (0 : Int32) (-2000) 2000 := ⟨by decide, by decide⟩
  have key : ∀ (L : List Nat) (W on : aF) (shn : Int32), L.Nodup → (∀ x ∈ L, x < nH ∧ on x = -1) → (∀ x ∈ L, d' (160 + x) = iif ((p_run d nA nH (W, on, shn) L).2.1 x = -1) (d (160 + x)) ((p_run d nA nH (W, on, shn) L).2.1 x)) → p_run d' nA nH (W, on, shn) L = p_run d nA nH (W, on, shn) L := by
    intro L
    induction L with
    | nil => intro W on shn _ _ _; rw [p_run_nil, p_run_nil]
    | cons x L ih =>
      intro W on shn hn hL hF
      obtain ⟨n1, n2⟩ := List.nodup_cons.mp hn
      obtain ⟨x1, x2⟩ := hL x List.mem_cons_self
      have e0 := p_run_cons d nA nH (W, on, shn) x L
      have eS := p_step_tR (d := d) (nA := nA) (nH := nH) (W := W) (shn := shn) x2
      have hL2 : ∀ y ∈ L, y < nH ∧ upd on x (tR d on nA nH shn x).2 y = -1 := fun y hy => by
        have hne : y ≠ x := fun z => by rw [z] at hy; exact n1 hy
        rw [upd_ne hne]
        exact hL y (List.mem_cons_of_mem _ hy)
      have ex : (p_run d nA nH (W, on, shn) (x :: L)).2.1 x = (tR d on nA nH shn x).2 := by
        rw [e0, eS, p_run_out L _ _ _ n1 n2 (fun y hy => (hL2 y hy).2), upd_at]
      have et : tR d' on nA nH shn x = tR d on nA nH shn x := by
        have hx := hF x List.mem_cons_self
        rw [ex] at hx
        by_cases g : (tR d on nA nH shn x).2 = -1
        · rw [iif_t g] at hx
          exact tr_tR hw hR T z0 z0 x1 hx shn
        · rw [iif_f g] at hx
          obtain ⟨t1, t2, t3, t4, t5, t6⟩ := (tR_ok (on := on) hw shn x1).resolve_right (fun z => g z.1)
          have lh : x < 12 := Nat.lt_of_lt_of_le x1 hw.2.1
          obtain ⟨a, ha, e⟩ := hw.2.2.2.2.2.2.1 x x1
          have la : a < 10 := Nat.lt_of_lt_of_le ha hw.1
          have ea := p_an_of e la
          have ea' : p_an d' x = a := p_an_of ((tr_H T lh (by omega)).trans e) la
          have c6 : d' 6 = d 6 := T.2.2.2 6 (by omega)
          have c7 : d' 7 = 1 := (T.2.2.2 7 (by omega)).trans h7
          obtain ⟨R, hR'⟩ := tryL_hd c7 hx g
          obtain ⟨ex', ey', ei'⟩ := tr_p hw hR T z0 z0 x1 (tR d on nA nH shn x).2
          obtain ⟨-, -, -, -, rx, ry⟩ := p_R hw hR x1 (tR d on nA nH shn x).2
          obtain ⟨H1, H2, -⟩ := hR.2.1 x x1
          have hsn : q_sn d' (p_an d' x) := by
            rw [ea', tr_sn hR hw.1 T z0 z0 ha, ← ea]
            exact t5
          have e1 : tR d' on nA nH shn x = (0, (tR d on nA nH shn x).2) := by
            show iif (q_sn d' (p_an d' x)) (if shn < d' 6 then p_try d' on nA nH x (tryL d' x) 3 else (5, -1)) (2, -1) = _
            rw [iif_t hsn, c6, if_pos t6, hR']
            show iif (p_in d' x (tR d on nA nH shn x).2) _ _ = _
            rw [iif_t (ei'.mpr t3), iif_f (fun z => t4 ?_)]
            rw [ex', ey', tr_H T lh (by omega), tr_H T lh (by omega)] at z
            exact (tr_oB hw hR T z0 z0 rx ry H1 H2).mp z
          rw [e1, ← t1]
      rw [p_run_cons, p_run_cons, p_step_tR x2, eS, et]
      refine ih _ _ _ n2 hL2 (fun y hy => ?_)
      rw [← eS, ← e0]
      exact hF y (List.mem_cons_of_mem _ hy)
  unfold p_all
  rw [tr_ordL hw T]
  exact key _ _ _ _ (ordL_nodup hi) (fun x hx => ⟨ordL_mem hw hx, rfl⟩) (fun x hx => hr x (ordL_mem hw hx))
