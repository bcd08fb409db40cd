/-! THE WEEKS' TEXT: a test -/
theorem tw_row_test {I : Nat → Nat → Int32} {N s n c m : Nat} {wc wm : lt_W} (h0 : lt_gi wm 234 (1772 + 6 * N) = nI (1600 + m)) (h4 : lt_gi wm 234 (1772 + 6 * N + 4) = 0) (hq : (c = 19 ∧ m = 20) ∨ (c = 20 ∧ m = 21) ∨ (c = 21 ∧ m = 22) ∨ (c = 7 ∧ m = 7)) (hw : lt_gi wc 41 s = nI 18) (ht : lt_gi wc 42 s = nI c) (hg : m ≠ 22 → ∃ g, g < n ∧ lt_gi wm 234 (1772 + 6 * N + 1) = nI g ∧ lt_gi wc 43 s = nI g) (hc : (m = 22 ∨ m = 7) → lt_gi wc 45 s = lt_gi wm 234 (1772 + 6 * N + 5) ∧ lt_gi wc 46 s = lt_gi wm 234 (1772 + 6 * N + 2)) : tw_row I N s n true wc wm := by
  have hm31 : 1600 + m < 2 ^ 31 := by
    rcases hq with ⟨-, h⟩ | ⟨-, h⟩ | ⟨-, h⟩ | ⟨-, h⟩ <;> rw [h] <;> decide
  have e0 := tw_e0 (I := I) h0 hm31
  have e1 : tw_up I N (tw_R wm (1772 + 6 * N)) N 1 = lt_gi wm 234 (1772 + 6 * N + 1) := tw_up_s
  have e2 : tw_up I N (tw_R wm (1772 + 6 * N)) N 2 = lt_gi wm 234 (1772 + 6 * N + 2) := tw_up_s
  have e5 : tw_up I N (tw_R wm (1772 + 6 * N)) N 5 = lt_gi wm 234 (1772 + 6 * N + 5) := tw_up_s
  have l4 := tw_l0 (I := I) h4
  have ez : tw_up I N (tw_R wm (1772 + 6 * N)) N 0 = nI (1600 + m) := tw_up_s.trans h0
  unfold tw_row lw_ok tw_ci tw_op
  rw [e0, e1, e2, e5]
  rcases hq with ⟨rfl, rfl⟩ | ⟨rfl, rfl⟩ | ⟨rfl, rfl⟩ | ⟨rfl, rfl⟩
  · obtain ⟨g, g1, g2, g3⟩ := hg (by decide)
    exact ⟨⟨ez, Or.inr (Or.inr (Or.inr (Or.inr (Or.inr (Or.inr (Or.inr (Or.inr ⟨Or.inl ⟨Or.inl rfl, g, g1, g2⟩, l4⟩)))))))⟩, ⟨hw, fun z => by omega, fun z => by omega, fun z => by omega, fun _ => ⟨ht, fun _ => g3.trans g2.symm, fun z => by omega⟩⟩, by decide, by decide⟩
  · obtain ⟨g, g1, g2, g3⟩ := hg (by decide)
    exact ⟨⟨ez, Or.inr (Or.inr (Or.inr (Or.inr (Or.inr (Or.inr (Or.inr (Or.inr ⟨Or.inl ⟨Or.inr (Or.inl rfl), g, g1, g2⟩, l4⟩)))))))⟩, ⟨hw, fun z => by omega, fun z => by omega, fun z => by omega, fun _ => ⟨ht, fun _ => g3.trans g2.symm, fun z => by omega⟩⟩, by decide, by decide⟩
  · exact ⟨⟨ez, Or.inr (Or.inr (Or.inr (Or.inr (Or.inr (Or.inr (Or.inr (Or.inr ⟨Or.inr rfl, l4⟩)))))))⟩, ⟨hw, fun z => by omega, fun z => by omega, fun z => by omega, fun _ => ⟨ht, fun z => absurd rfl z, fun _ => hc (Or.inl rfl)⟩⟩, by decide, by decide⟩
  · obtain ⟨g, g1, g2, g3⟩ := hg (by decide)
    exact ⟨⟨ez, Or.inr (Or.inr (Or.inr (Or.inr (Or.inr (Or.inr (Or.inr (Or.inr ⟨Or.inl ⟨Or.inr (Or.inr rfl), g, g1, g2⟩, l4⟩)))))))⟩, ⟨hw, fun z => by omega, fun z => by omega, fun z => by omega, fun _ => ⟨ht, fun _ => g3.trans g2.symm, fun _ => hc (Or.inr rfl)⟩⟩, by decide, by decide⟩
theorem tk_O.bzm {P E : lt_W → lt_W → Prop} {fc fm : Option (Int32 × lt_W)} (h : tk_O P E fc fm) : tk_O P E fc (Option.bind fm (fun q => lt_bz q.1 (some (q.1, q.2)))) := by
  rcases h with ⟨wc, wm, e1, e2, e3⟩ | ⟨wc, wm, e1, e2, e3⟩
  · rw [e2]; exact Or.inl ⟨wc, wm, e1, rfl, e3⟩
  · rw [e2]; exact Or.inr ⟨wc, wm, e1, rfl, e3⟩
section TWT
variable {σ : lt_S} {w w0 wc wm : lt_W} {T : Nat → Nat} {L p n N s : Nat} {I : Nat → Nat → Int32}
/-- compared how, with what -/
theorem tw_cmp (hσ : lr_S σ) (h : tk_S w w0 T L p wc wm) (hs : s < 30) (r m : Nat) (h1 : 1712 ≤ r) (h2 : r + 5 < 2140) (hm : m ≠ 20 ∧ m ≠ 21 ∧ m < 30) : (∃ x y, f_X10_takeCompares σ 39 (nI s) wc = some (0, x) ∧ fb_X12_test_59 σ 233 (nI r) (nI m) wm = some (0, y) ∧ tk_E w w0 x y) ∨ (∃ x y, f_X10_takeCompares σ 39 (nI s) wc = some (1, x) ∧ fb_X12_test_59 σ 233 (nI r) (nI m) wm = (if nI m = 22 then fb_X12_test_140 σ 233 (nI r + 2) 0 60 y else fb_X12_test_140 σ 233 (nI r + 2) 0 20 y) ∧ tk_S w w0 T L (tx_N T L p) x y ∧ ∃ v, tx_Fk (lt_si wc 45 s v) x ∧ tx_Fm (lt_si wm 234 (r + 5) v) y) := by
  obtain ⟨⟨r0, r1, r2, r3⟩, ⟨a2, a3, a4, a5, a6, a7, a8⟩, l1, l2, l3, l4, l5, l6, l7, l8⟩ := lr_39 hσ
  have e59 : fb_X12_test_59 σ 233 (nI r) (nI m) wm = if tx_K T L p = 60 ∨ tx_K T L p = 62 ∨ tx_K T L p = 61 then fb_X12_test_106 σ 233 (nI r) (nI m) wm else Option.bind (f_X12_fails σ 233 2 wm) (fun q4 => lt_bz q4.1 (some (q4.1, q4.2))) := by
    unfold fb_X12_test_59
    rw [if_neg (show ¬ nI m = 20 from fun z => hm.1 ((nI_eq (b := 20) (by omega) (by decide)).mp z)), if_neg (show ¬ nI m = 21 from fun z => hm.2.1 ((nI_eq (b := 21) (by omega) (by decide)).mp z))]
    rw [show f_X12_isSign σ 233 60 wm = _ from tx_isSg h.2.1 (c := 60) (by decide) (by decide), show f_X12_isSign σ 233 62 wm = _ from tx_isSg h.2.1 (c := 62) (by decide) (by decide), show f_X12_isSign σ 233 61 wm = _ from tx_isSg h.2.1 (c := 61) (by decide) (by decide), lu_bind]
    by_cases c1 : tx_K T L p = 60
    · rw [if_pos c1, if_neg lu_10, if_pos (Or.inl c1)]
    · rw [if_neg c1, if_pos rfl, lu_bind]
      by_cases c2 : tx_K T L p = 62
      · rw [if_pos c2, if_neg lu_10, if_pos (Or.inr (Or.inl c2))]
      · rw [if_neg c2, if_pos rfl, lu_bind]
        by_cases c3 : tx_K T L p = 61
        · rw [if_pos c3, if_neg lu_10, if_pos (Or.inr (Or.inr c3))]
        · rw [if_neg c3, if_pos rfl, if_neg (by omega)]
  have eC : f_X10_takeCompares σ 39 (nI s) wc = if tx_K T L p = 60 ∨ tx_K T L p = 62 ∨ tx_K T L p = 61 then fb_X10_takeCompares_45 σ 39 (nI s) wc else Option.bind (f_X7_refuse σ 10 2 wc) (fun q5 => lt_bz q5.1 (some (q5.1, q5.2))) := by
    unfold f_X10_takeCompares fb_X10_takeCompares_0
    rw [r0]
    have k60 := tp_kind h (c := 60) (by decide)
    have k62 := tp_kind h (c := 62) (by decide)
    have k61 := tp_kind h (c := 61) (by decide)
    by_cases c1 : tx_K T L p = 60
    · rw [if_pos (show lt_gi wc 10 5 = 60 from k60.mpr c1), if_pos (Or.inl c1)]
    · rw [if_neg (show ¬ lt_gi wc 10 5 = 60 from fun z => c1 (k60.mp z))]
      by_cases c2 : tx_K T L p = 62
      · rw [if_pos (show lt_gi wc 10 5 = 62 from k62.mpr c2), if_pos (Or.inr (Or.inl c2))]
      · rw [if_neg (show ¬ lt_gi wc 10 5 = 62 from fun z => c2 (k62.mp z))]
        by_cases c3 : tx_K T L p = 61
        · rw [if_pos (show lt_gi wc 10 5 = 61 from k61.mpr c3), if_pos (Or.inr (Or.inr c3))]
        · rw [if_neg (show ¬ lt_gi wc 10 5 = 61 from fun z => c3 (k61.mp z)), if_neg (by omega)]
  rw [e59, eC]
  by_cases k : tx_K T L p = 60 ∨ tx_K T L p = 62 ∨ tx_K T L p = 61
  · rw [if_pos k, if_pos k]
    unfold fb_X10_takeCompares_45 fb_X12_test_106
    have kc : lt_gi wc 10 5 = nI (tx_K T L p) := (tp_kind h (by omega)).mpr rfl
    have km : lt_gi wm 233 15 = nI (tx_K T L p) := h.2.1.2.2.2.2.2.2 (by omega) (by omega)
    obtain ⟨x, y, b1, b2, b3, b4, b5⟩ := tp_adv hσ ((h.ci (b := 45) (k := s) (v := nI (tx_K T L p)) (by omega)).mi (b := 234) (k := r + 5) (v := nI (tx_K T L p)) (by omega)) (by omega)
    rw [r0, r2, a6, l5, lu_ck hs (by decide), lu_let, nI_clamp (by omega), kc, b1, lu_bind, lr_at hσ, lq_l234 hσ, lm_a5, lu_ck (by omega) (by decide), lu_let, nI_clamp (by omega), km, b2, lu_bind]
    exact Or.inr ⟨x, y, rfl, rfl, b3, _, b4, b5⟩
  · rw [if_neg k, if_neg k]
    obtain ⟨x, y, e1, e2, e3⟩ := tp_f (σ := σ) h 2 (by decide) (by decide)
    rw [show f_X7_refuse σ 10 2 wc = _ from e1, show f_X12_fails σ 233 2 wm = _ from e2]
    exact Or.inl ⟨x, y, rfl, rfl, e3⟩
theorem tw_t19 (hσ : lr_S σ) (h : tk_S w w0 T L p wc wm) (hH : tw_H n w w0) (hs : s < 30) (hN : N < 60) (hw : lt_gi wc 41 s = nI 18) (h4 : lt_gi wm 234 (1772 + 6 * N + 4) = 0) (hK : tx_K T L p = 19) : tk_O (tw_O w w0 T L p I N s n true wc wm) (tk_E w w0) (fb_X10_takeTest_41 σ 39 (nI s) (nI 19) wc) (fb_X12_test_25 σ 233 (nI (1772 + 6 * N)) (nI 20) wm) := by
  obtain ⟨⟨r0, r1, r2, r3⟩, ⟨a2, a3, a4, a5, a6, a7, a8⟩, l1, l2, l3, l4, l5, l6, l7, l8⟩ := lr_39 hσ
  obtain ⟨x1, y1, b1, b2, b3, b4, b5⟩ := tp_adv hσ ((h.ci (b := 42) (k := s) (v := nI 19) (by omega)).mi (b := 234) (k := 1772 + 6 * N) (v := nI 1620) (by omega)) (by omega)
  have c1 : tw_fc s wc x1 := ((tw_fc.refl s wc).i (by omega)).trans (tw_fc.F b4)
  have m1 : tw_fm (1772 + 6 * N) wm y1 := ((tw_fm.refl _ wm).i (by omega) (by omega)).trans (tw_fm.F b5)
  have w1 : lt_gi x1 41 s = nI 18 := by rw [b4.1 _ _ (by omega), lu_ne (by omega)]; exact hw
  have t1 : lt_gi x1 42 s = nI 19 := by rw [b4.1 _ _ (by omega), lu_eq]
  have z1 : lt_gi y1 234 (1772 + 6 * N) = nI (1600 + 20) := by rw [b5.1 _ _ (by omega), lu_eq]
  have z4 : lt_gi y1 234 (1772 + 6 * N + 4) = 0 := by rw [b5.1 _ _ (by omega), lu_ne (by omega)]; exact h4
  have q1 := tp_ge h
  unfold fb_X10_takeTest_41 fb_X12_test_25
  rw [r0, r2, a3, a4, l2, lu_ck hs (by decide), lu_let, nI_clamp (by omega), b1, lu_bind, lr_at hσ, lq_l234 hσ, lu_ck (by omega) (by decide), lu_let, nI_clamp (by omega), show (1600 : Int32) + nI 20 = nI 1620 from rfl, b2, lu_bind, if_neg (show ¬ nI 19 = 21 by decide), if_neg (show ¬ nI 20 = 22 by decide), nI_1 (1772 + 6 * N)]
  refine (tw_guest hσ b3 hH 43 s (1772 + 6 * N + 1) (by decide) l3 hs (by omega) (by omega)).bind (fun x2 y2 hP => ?_) (fun _ _ => ⟨if_pos rfl, if_pos rfl⟩)
  obtain ⟨f1, g, f2, f3, f4⟩ := hP
  have q2 := tp_ge b3
  dsimp only
  rw [if_neg lu_10, if_neg lu_10]
  have c2 : tw_fc s wc x2 := (c1.i (by omega)).trans (tw_fc.F f3)
  have m2 : tw_fm (1772 + 6 * N) wm y2 := (m1.i (by omega) (by omega)).trans (tw_fm.F f4)
  have w2 : lt_gi x2 41 s = nI 18 := by rw [f3.1 _ _ (by omega), lu_ne (by omega)]; exact w1
  have t2 : lt_gi x2 42 s = nI 19 := by rw [f3.1 _ _ (by omega), lu_ne (by omega)]; exact t1
  have z2 : lt_gi y2 234 (1772 + 6 * N) = nI (1600 + 20) := by rw [f4.1 _ _ (by omega), lu_ne (by omega)]; exact z1
  have z5 : lt_gi y2 234 (1772 + 6 * N + 4) = 0 := by rw [f4.1 _ _ (by omega), lu_ne (by omega)]; exact z4
  have g1 : lt_gi x2 43 s = nI g := by rw [f3.1 _ _ (by omega), lu_eq]
  have g2 : lt_gi y2 234 (1772 + 6 * N + 1) = nI g := by rw [f4.1 _ _ (by omega), lu_eq]
  unfold fb_X10_takeTest_82 fb_X12_test_59
  rw [if_pos (show nI 19 = 19 from rfl), if_pos (show nI 20 = 20 from rfl)]
  exact Or.inr ⟨x2, y2, rfl, rfl, _, by omega, f1, c2, m2, tw_row_test z2 z5 (by omega) w2 t2 (fun _ => ⟨g, f2, g2, g1⟩) (fun z => by omega)⟩
theorem tw_t20 (hσ : lr_S σ) (h : tk_S w w0 T L p wc wm) (hH : tw_H n w w0) (hs : s < 30) (hN : N < 60) (hw : lt_gi wc 41 s = nI 18) (h4 : lt_gi wm 234 (1772 + 6 * N + 4) = 0) (hK : tx_K T L p = 20) : tk_O (tw_O w w0 T L p I N s n true wc wm) (tk_E w w0) (fb_X10_takeTest_41 σ 39 (nI s) (nI 20) wc) (fb_X12_test_25 σ 233 (nI (1772 + 6 * N)) (nI 21) wm) := by
  obtain ⟨⟨r0, r1, r2, r3⟩, ⟨a2, a3, a4, a5, a6, a7, a8⟩, l1, l2, l3, l4, l5, l6, l7, l8⟩ := lr_39 hσ
  obtain ⟨x1, y1, b1, b2, b3, b4, b5⟩ := tp_adv hσ ((h.ci (b := 42) (k := s) (v := nI 20) (by omega)).mi (b := 234) (k := 1772 + 6 * N) (v := nI 1621) (by omega)) (by omega)
  have c1 : tw_fc s wc x1 := ((tw_fc.refl s wc).i (by omega)).trans (tw_fc.F b4)
  have m1 : tw_fm (1772 + 6 * N) wm y1 := ((tw_fm.refl _ wm).i (by omega) (by omega)).trans (tw_fm.F b5)
  have w1 : lt_gi x1 41 s = nI 18 := by rw [b4.1 _ _ (by omega), lu_ne (by omega)]; exact hw
  have t1 : lt_gi x1 42 s = nI 20 := by rw [b4.1 _ _ (by omega), lu_eq]
  have z1 : lt_gi y1 234 (1772 + 6 * N) = nI (1600 + 21) := by rw [b5.1 _ _ (by omega), lu_eq]
  have z4 : lt_gi y1 234 (1772 + 6 * N + 4) = 0 := by rw [b5.1 _ _ (by omega), lu_ne (by omega)]; exact h4
  have q1 := tp_ge h
  unfold fb_X10_takeTest_41 fb_X12_test_25
  rw [r0, r2, a3, a4, l2, lu_ck hs (by decide), lu_let, nI_clamp (by omega), b1, lu_bind, lr_at hσ, lq_l234 hσ, lu_ck (by omega) (by decide), lu_let, nI_clamp (by omega), show (1600 : Int32) + nI 21 = nI 1621 from rfl, b2, lu_bind, if_neg (show ¬ nI 20 = 21 by decide), if_neg (show ¬ nI 21 = 22 by decide), nI_1 (1772 + 6 * N)]
  refine (tw_guest hσ b3 hH 43 s (1772 + 6 * N + 1) (by decide) l3 hs (by omega) (by omega)).bind (fun x2 y2 hP => ?_) (fun _ _ => ⟨if_pos rfl, if_pos rfl⟩)
  obtain ⟨f1, g, f2, f3, f4⟩ := hP
  have q2 := tp_ge b3
  dsimp only
  rw [if_neg lu_10, if_neg lu_10]
  have c2 : tw_fc s wc x2 := (c1.i (by omega)).trans (tw_fc.F f3)
  have m2 : tw_fm (1772 + 6 * N) wm y2 := (m1.i (by omega) (by omega)).trans (tw_fm.F f4)
  have w2 : lt_gi x2 41 s = nI 18 := by rw [f3.1 _ _ (by omega), lu_ne (by omega)]; exact w1
  have t2 : lt_gi x2 42 s = nI 20 := by rw [f3.1 _ _ (by omega), lu_ne (by omega)]; exact t1
  have z2 : lt_gi y2 234 (1772 + 6 * N) = nI (1600 + 21) := by rw [f4.1 _ _ (by omega), lu_ne (by omega)]; exact z1
  have z5 : lt_gi y2 234 (1772 + 6 * N + 4) = 0 := by rw [f4.1 _ _ (by omega), lu_ne (by omega)]; exact z4
  have g1 : lt_gi x2 43 s = nI g := by rw [f3.1 _ _ (by omega), lu_eq]
  have g2 : lt_gi y2 234 (1772 + 6 * N + 1) = nI g := by rw [f4.1 _ _ (by omega), lu_eq]
  unfold fb_X10_takeTest_82 fb_X12_test_59
  rw [if_neg (show ¬ nI 20 = 19 by decide), if_pos (show nI 20 = 20 from rfl), if_neg (show ¬ nI 21 = 20 by decide), if_pos (show nI 21 = 21 from rfl)]
  exact Or.inr ⟨x2, y2, rfl, rfl, _, by omega, f1, c2, m2, tw_row_test z2 z5 (by omega) w2 t2 (fun _ => ⟨g, f2, g2, g1⟩) (fun z => by omega)⟩
theorem tw_t21 (hσ : lr_S σ) (h : tk_S w w0 T L p wc wm) (hH : tw_H n w w0) (hs : s < 30) (hN : N < 60) (hw : lt_gi wc 41 s = nI 18) (h4 : lt_gi wm 234 (1772 + 6 * N + 4) = 0) (hK : tx_K T L p = 21) : tk_O (tw_O w w0 T L p I N s n true wc wm) (tk_E w w0) (fb_X10_takeTest_41 σ 39 (nI s) (nI 21) wc) (fb_X12_test_25 σ 233 (nI (1772 + 6 * N)) (nI 22) wm) := by
  obtain ⟨⟨r0, r1, r2, r3⟩, ⟨a2, a3, a4, a5, a6, a7, a8⟩, l1, l2, l3, l4, l5, l6, l7, l8⟩ := lr_39 hσ
  obtain ⟨x1, y1, b1, b2, b3, b4, b5⟩ := tp_adv hσ ((h.ci (b := 42) (k := s) (v := nI 21) (by omega)).mi (b := 234) (k := 1772 + 6 * N) (v := nI 1622) (by omega)) (by omega)
  have c1 : tw_fc s wc x1 := ((tw_fc.refl s wc).i (by omega)).trans (tw_fc.F b4)
  have m1 : tw_fm (1772 + 6 * N) wm y1 := ((tw_fm.refl _ wm).i (by omega) (by omega)).trans (tw_fm.F b5)
  have w1 : lt_gi x1 41 s = nI 18 := by rw [b4.1 _ _ (by omega), lu_ne (by omega)]; exact hw
  have t1 : lt_gi x1 42 s = nI 21 := by rw [b4.1 _ _ (by omega), lu_eq]
  have z1 : lt_gi y1 234 (1772 + 6 * N) = nI (1600 + 22) := by rw [b5.1 _ _ (by omega), lu_eq]
  have z4 : lt_gi y1 234 (1772 + 6 * N + 4) = 0 := by rw [b5.1 _ _ (by omega), lu_ne (by omega)]; exact h4
  have q1 := tp_ge h
  unfold fb_X10_takeTest_41 fb_X12_test_25
  rw [r0, r2, a3, a4, l2, lu_ck hs (by decide), lu_let, nI_clamp (by omega), b1, lu_bind, lr_at hσ, lq_l234 hσ, lu_ck (by omega) (by decide), lu_let, nI_clamp (by omega), show (1600 : Int32) + nI 22 = nI 1622 from rfl, b2, lu_bind, if_pos (show nI 21 = 21 from rfl), if_pos (show nI 22 = 22 from rfl)]
  unfold fb_X10_takeTest_82
  rw [if_neg (show ¬ nI 21 = 19 by decide), if_neg (show ¬ nI 21 = 20 by decide)]
  rcases tw_cmp hσ b3 hs (1772 + 6 * N) 22 (by omega) (by omega) (by decide) with ⟨x, y, e1, e2, e3⟩ | ⟨x, y, e1, e2, d1, v, d2, d3⟩
  · rw [e1, e2]; exact Or.inl ⟨x, y, rfl, rfl, e3⟩
  · rw [e1, e2, lu_bind, if_neg lu_10, if_pos (show nI 21 = 21 from rfl), if_pos (show nI 22 = 22 from rfl), lm_a2]
    unfold fb_X10_takeTest_122 fb_X12_test_140
    rw [r0, r2, a7, l6]
    have q3 := tp_ge b3
    refine (tw_much hσ d1 s (1772 + 6 * N + 2) 0 60 hs (by omega) (by omega) (by decide) (by decide)).bzm.mono fun x3 y3 hP => ?_
    obtain ⟨g3, u, z, g4, g5, g6, g7, g8⟩ := hP
    have q4 := tp_ge d1
    subst g7
    refine ⟨_, by omega, g3, (((c1.i (by omega)).trans (tw_fc.F d2)).n8.trans (tw_fc.F g6)).i (by omega), (((m1.i (by omega) (by omega)).trans (tw_fm.F d3)).i (by omega) (by omega)).trans (tw_fm.F g8), ?_⟩
    have hcx : ∀ a, 41 ≤ a → a ≤ 44 → lt_gi (lt_si z 46 s (nI u)) a s = lt_gi x1 a s := fun a k1 k2 => by
      rw [lu_ne (by omega), g6.1 _ _ (by omega), lu_ne (by omega), d2.1 _ _ (by omega), lu_ne (by omega)]
    have hmy : ∀ i, (i < 2 ∨ i = 4) → lt_gi y3 234 (1772 + 6 * N + i) = lt_gi y1 234 (1772 + 6 * N + i) := fun i k1 => by
      rw [g8.1 _ _ (by omega), lu_ne (by omega), d3.1 _ _ (by omega), lu_ne (by omega)]
    refine tw_row_test (c := 21) (m := 22) ((hmy 0 (by omega)).trans z1) ((hmy 4 (by omega)).trans z4) (by omega) ((hcx 41 (by omega) (by omega)).trans w1) ((hcx 42 (by omega) (by omega)).trans t1) (fun z => absurd rfl z) (fun _ => ⟨?_, ?_⟩)
    · rw [lu_ne (by omega), g6.1 _ _ (by omega), lu_ne (by omega), d2.1 _ _ (by omega), lu_eq, g8.1 _ _ (by omega), lu_ne (by omega), d3.1 _ _ (by omega), lu_eq]
    · rw [lu_eq, g8.1 _ _ (by omega), lu_eq]
theorem tw_t7 (hσ : lr_S σ) (h : tk_S w w0 T L p wc wm) (hH : tw_H n w w0) (hs : s < 30) (hN : N < 60) (hw : lt_gi wc 41 s = nI 18) (h4 : lt_gi wm 234 (1772 + 6 * N + 4) = 0) (hK : tx_K T L p = 7) : tk_O (tw_O w w0 T L p I N s n true wc wm) (tk_E w w0) (fb_X10_takeTest_41 σ 39 (nI s) (nI 7) wc) (fb_X12_test_25 σ 233 (nI (1772 + 6 * N)) (nI 7) wm) := by
  obtain ⟨⟨r0, r1, r2, r3⟩, ⟨a2, a3, a4, a5, a6, a7, a8⟩, l1, l2, l3, l4, l5, l6, l7, l8⟩ := lr_39 hσ
  obtain ⟨x1, y1, b1, b2, b3, b4, b5⟩ := tp_adv hσ ((h.ci (b := 42) (k := s) (v := nI 7) (by omega)).mi (b := 234) (k := 1772 + 6 * N) (v := nI 1607) (by omega)) (by omega)
  have c1 : tw_fc s wc x1 := ((tw_fc.refl s wc).i (by omega)).trans (tw_fc.F b4)
  have m1 : tw_fm (1772 + 6 * N) wm y1 := ((tw_fm.refl _ wm).i (by omega) (by omega)).trans (tw_fm.F b5)
  have w1 : lt_gi x1 41 s = nI 18 := by rw [b4.1 _ _ (by omega), lu_ne (by omega)]; exact hw
  have t1 : lt_gi x1 42 s = nI 7 := by rw [b4.1 _ _ (by omega), lu_eq]
  have z1 : lt_gi y1 234 (1772 + 6 * N) = nI (1600 + 7) := by rw [b5.1 _ _ (by omega), lu_eq]
  have z4 : lt_gi y1 234 (1772 + 6 * N + 4) = 0 := by rw [b5.1 _ _ (by omega), lu_ne (by omega)]; exact h4
  have q1 := tp_ge h
  unfold fb_X10_takeTest_41 fb_X12_test_25
  rw [r0, r2, a3, a4, l2, lu_ck hs (by decide), lu_let, nI_clamp (by omega), b1, lu_bind, lr_at hσ, lq_l234 hσ, lu_ck (by omega) (by decide), lu_let, nI_clamp (by omega), show (1600 : Int32) + nI 7 = nI 1607 from rfl, b2, lu_bind, if_neg (show ¬ nI 7 = 21 by decide), if_neg (show ¬ nI 7 = 22 by decide), nI_1 (1772 + 6 * N)]
  refine (tw_guest hσ b3 hH 43 s (1772 + 6 * N + 1) (by decide) l3 hs (by omega) (by omega)).bind (fun x2 y2 hP => ?_) (fun _ _ => ⟨if_pos rfl, if_pos rfl⟩)
  obtain ⟨f1, g, f2, f3, f4⟩ := hP
  have q2 := tp_ge b3
  dsimp only
  rw [if_neg lu_10, if_neg lu_10]
  have c2 : tw_fc s wc x2 := (c1.i (by omega)).trans (tw_fc.F f3)
  have m2 : tw_fm (1772 + 6 * N) wm y2 := (m1.i (by omega) (by omega)).trans (tw_fm.F f4)
  have w2 : lt_gi x2 41 s = nI 18 := by rw [f3.1 _ _ (by omega), lu_ne (by omega)]; exact w1
  have t2 : lt_gi x2 42 s = nI 7 := by rw [f3.1 _ _ (by omega), lu_ne (by omega)]; exact t1
  have z2 : lt_gi y2 234 (1772 + 6 * N) = nI (1600 + 7) := by rw [f4.1 _ _ (by omega), lu_ne (by omega)]; exact z1
  have z5 : lt_gi y2 234 (1772 + 6 * N + 4) = 0 := by rw [f4.1 _ _ (by omega), lu_ne (by omega)]; exact z4
  have g1 : lt_gi x2 43 s = nI g := by rw [f3.1 _ _ (by omega), lu_eq]
  have g2 : lt_gi y2 234 (1772 + 6 * N + 1) = nI g := by rw [f4.1 _ _ (by omega), lu_eq]
  unfold fb_X10_takeTest_82
  rw [if_neg (show ¬ nI 7 = 19 by decide), if_neg (show ¬ nI 7 = 20 by decide)]
  rcases tw_cmp hσ f1 hs (1772 + 6 * N) 7 (by omega) (by omega) (by decide) with ⟨x, y, e1, e2, e3⟩ | ⟨x, y, e1, e2, d1, v, d2, d3⟩
  · rw [e1, e2]; exact Or.inl ⟨x, y, rfl, rfl, e3⟩
  · rw [e1, e2, lu_bind, if_neg lu_10, if_neg (show ¬ nI 7 = 21 by decide), if_neg (show ¬ nI 7 = 22 by decide), lm_a2]
    unfold fb_X10_takeTest_122 fb_X12_test_140
    rw [r0, r2, a7, l6]
    have q3 := tp_ge f1
    refine (tw_much hσ d1 s (1772 + 6 * N + 2) 0 20 hs (by omega) (by omega) (by decide) (by decide)).bzm.mono fun x3 y3 hP => ?_
    obtain ⟨g3, u, z, g4, g5, g6, g7, g8⟩ := hP
    have q4 := tp_ge d1
    subst g7
    refine ⟨_, by omega, g3, (((c2.i (by omega)).trans (tw_fc.F d2)).n8.trans (tw_fc.F g6)).i (by omega), (((m2.i (by omega) (by omega)).trans (tw_fm.F d3)).i (by omega) (by omega)).trans (tw_fm.F g8), ?_⟩
    have hcx : ∀ a, 41 ≤ a → a ≤ 44 → lt_gi (lt_si z 46 s (nI u)) a s = lt_gi x2 a s := fun a k1 k2 => by
      rw [lu_ne (by omega), g6.1 _ _ (by omega), lu_ne (by omega), d2.1 _ _ (by omega), lu_ne (by omega)]
    have hmy : ∀ i, (i < 2 ∨ i = 4) → lt_gi y3 234 (1772 + 6 * N + i) = lt_gi y2 234 (1772 + 6 * N + i) := fun i k1 => by
      rw [g8.1 _ _ (by omega), lu_ne (by omega), d3.1 _ _ (by omega), lu_ne (by omega)]
    refine tw_row_test (c := 7) (m := 7) ((hmy 0 (by omega)).trans z2) ((hmy 4 (by omega)).trans z5) (by omega) ((hcx 41 (by omega) (by omega)).trans w2) ((hcx 42 (by omega) (by omega)).trans t2) (fun _ => ⟨g, f2, (hmy 1 (by omega)).trans g2, (hcx 43 (by omega) (by omega)).trans g1⟩) (fun _ => ⟨?_, ?_⟩)
    · rw [lu_ne (by omega), g6.1 _ _ (by omega), lu_ne (by omega), d2.1 _ _ (by omega), lu_eq, g8.1 _ _ (by omega), lu_ne (by omega), d3.1 _ _ (by omega), lu_eq]
    · rw [lu_eq, g8.1 _ _ (by omega), lu_eq]
theorem tw_ord18 (hσ : lr_S σ) (h : tk_S w w0 T L p wc wm) (hH : tw_H n w w0) (hs : s < 30) (hN : N < 60) (hw : lt_gi wc 41 s = nI 18) (h4 : lt_gi wm 234 (1772 + 6 * N + 4) = 0) : tk_O (tw_O w w0 T L p I N s n true wc wm) (tk_E w w0) (f_X10_takeRest σ 39 (nI s) wc) (f_X12_weekOrder σ 233 (nI 16) (nI (1772 + 6 * N)) wm) := by
  obtain ⟨⟨r0, r1, r2, r3⟩, ⟨a2, a3, a4, a5, a6, a7, a8⟩, l1, l2, l3, l4, l5, l6, l7, l8⟩ := lr_39 hσ
  unfold f_X10_takeRest fb_X10_takeRest_0 f_X12_weekOrder fb_X12_weekOrder_0
  rw [r2, a2, l1, lu_ck hs (by decide), nI_clamp (by omega), hw, if_neg (show ¬ nI 18 = 12 by decide), if_neg (show ¬ nI 18 = 13 by decide), if_neg (show ¬ nI 18 = 14 by decide), if_neg (show ¬ nI 18 = 15 by decide), if_neg (show ¬ nI 18 = 16 by decide), if_pos (show nI 18 = 18 from rfl), if_neg (show ¬ nI 16 = 6 by decide), if_neg (show ¬ nI 16 = 11 by decide), if_neg (show ¬ nI 16 = 12 by decide), if_neg (show ¬ nI 16 = 13 by decide), if_neg (show ¬ nI 16 = 14 by decide), if_pos (show nI 16 = 16 from rfl)]
  refine tk_O.bz ?_
  unfold f_X10_takeTest fb_X10_takeTest_0 f_X12_test fb_X12_test_0
  rw [r0, tx_inM hσ h.2.1, lu_bind]
  have hKr := tx_K_r T h.1.2.1
  by_cases k19 : tx_K T L p = 19
  · have e := (tp_kind h (c := 19) (by decide)).mpr k19
    rw [e, if_pos (show nI 19 = 19 from rfl), if_pos (show 1 ≤ tx_K T L p ∧ tx_K T L p ≤ 23 by omega), k19, show nI (tx_m 19) = nI 20 from rfl, if_neg (show ¬ nI 20 = 7 by decide), if_pos (show (20 : Int32) ≤ nI 20 by decide)]
    exact tw_t19 hσ h hH hs hN hw h4 k19
  have n19 : ¬ lt_gi wc 10 5 = 19 := fun z => k19 ((tp_kind h (c := 19) (by decide)).mp z)
  rw [if_neg n19]
  by_cases k20 : tx_K T L p = 20
  · have e := (tp_kind h (c := 20) (by decide)).mpr k20
    rw [e, if_pos (show nI 20 = 20 from rfl), if_pos (show 1 ≤ tx_K T L p ∧ tx_K T L p ≤ 23 by omega), k20, show nI (tx_m 20) = nI 21 from rfl, if_neg (show ¬ nI 21 = 7 by decide), if_pos (show (20 : Int32) ≤ nI 21 by decide)]
    exact tw_t20 hσ h hH hs hN hw h4 k20
  have n20 : ¬ lt_gi wc 10 5 = 20 := fun z => k20 ((tp_kind h (c := 20) (by decide)).mp z)
  rw [if_neg n20]
  by_cases k21 : tx_K T L p = 21
  · have e := (tp_kind h (c := 21) (by decide)).mpr k21
    rw [e, if_pos (show nI 21 = 21 from rfl), if_pos (show 1 ≤ tx_K T L p ∧ tx_K T L p ≤ 23 by omega), k21, show nI (tx_m 21) = nI 22 from rfl, if_neg (show ¬ nI 22 = 7 by decide), if_pos (show (20 : Int32) ≤ nI 22 by decide)]
    exact tw_t21 hσ h hH hs hN hw h4 k21
  have n21 : ¬ lt_gi wc 10 5 = 21 := fun z => k21 ((tp_kind h (c := 21) (by decide)).mp z)
  rw [if_neg n21]
  by_cases k7 : tx_K T L p = 7
  · have e := (tp_kind h (c := 7) (by decide)).mpr k7
    rw [e, if_pos (show nI 7 = 7 from rfl), if_pos (show 1 ≤ tx_K T L p ∧ tx_K T L p ≤ 23 by omega), k7, show nI (tx_m 7) = nI 7 from rfl, if_pos (show nI 7 = 7 from rfl)]
    exact tw_t7 hσ h hH hs hN hw h4 k7
  have n7 : ¬ lt_gi wc 10 5 = 7 := fun z => k7 ((tp_kind h (c := 7) (by decide)).mp z)
  rw [if_neg n7]
  have hv : ¬ (if 1 ≤ tx_K T L p ∧ tx_K T L p ≤ 23 then nI (tx_m (tx_K T L p)) else -1) = 7 ∧ ¬ (20 : Int32) ≤ (if 1 ≤ tx_K T L p ∧ tx_K T L p ≤ 23 then nI (tx_m (tx_K T L p)) else -1) := by
    by_cases c : 1 ≤ tx_K T L p ∧ tx_K T L p ≤ 23
    · rw [if_pos c]
      have key : ∀ x : Fin 24, 1 ≤ x.1 → x.1 ≠ 19 → x.1 ≠ 20 → x.1 ≠ 21 → x.1 ≠ 7 → ¬ nI (tx_m x.1) = 7 ∧ ¬ (20 : Int32) ≤ nI (tx_m x.1) := by decide +kernel
      exact key ⟨tx_K T L p, by omega⟩ c.1 k19 k20 k21 k7
    · rw [if_neg c]; decide
  rw [if_neg hv.1, if_neg hv.2]
  exact tp_failz h 2 (by decide) (by decide)
end TWT