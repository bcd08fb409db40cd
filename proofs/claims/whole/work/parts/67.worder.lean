/-! THE WEEKS' TEXT: what stands behind a word, both sides -/
theorem tw_e0 {I : Nat → Nat → Int32} {N q : Nat} {wm : lt_W} (h : lt_gi wm 234 (1772 + 6 * N) = nI q) (hq : q < 2 ^ 31) : lw_op (tw_up I N (tw_R wm (1772 + 6 * N))) N = q := by
  unfold lw_op; rw [tw_up_s]; unfold tw_R; rw [Nat.add_zero, h, nI_clamp hq]
theorem tw_l0 {I : Nat → Nat → Int32} {N : Nat} {wm : lt_W} (h : lt_gi wm 234 (1772 + 6 * N + 4) = 0) : tw_up I N (tw_R wm (1772 + 6 * N)) N 4 = nI (lw_lk (tw_up I N (tw_R wm (1772 + 6 * N))) N) := by
  have e : tw_up I N (tw_R wm (1772 + 6 * N)) N 4 = 0 := tw_up_s.trans h
  unfold lw_lk; rw [e]; rfl
theorem tw_row_much {I : Nat → Nat → Int32} {N s n q K a b v : Nat} {wc wm : lt_W} (h0 : lt_gi wm 234 (1772 + 6 * N) = nI q) (h1 : lt_gi wm 234 (1772 + 6 * N + 1) = nI v) (h4 : lt_gi wm 234 (1772 + 6 * N + 4) = 0) (hq : (q = 11 ∧ K = 13 ∧ a = 1 ∧ b = 20) ∨ (q = 14 ∧ K = 16 ∧ a = 1 ∧ b = 60) ∨ (q = 17 ∧ K = 22 ∧ a = 1 ∧ b = 99)) (ha : a ≤ v) (hb : v ≤ b) (hw : lt_gi wc 41 s = nI K) (hm : lt_gi wc 46 s = nI v) : tw_row I N s n (decide (q = 17)) wc wm := by
  have e0 := tw_e0 (I := I) h0 (by omega)
  have e1 : tw_up I N (tw_R wm (1772 + 6 * N)) N 1 = nI v := tw_up_s.trans h1
  have l4 := tw_l0 (I := I) h4
  unfold tw_row lw_ok tw_ci tw_op
  rw [e0, e1]
  have ez : tw_up I N (tw_R wm (1772 + 6 * N)) N 0 = nI q := tw_up_s.trans h0
  rcases hq with ⟨rfl, rfl, rfl, rfl⟩ | ⟨rfl, rfl, rfl, rfl⟩ | ⟨rfl, rfl, rfl, rfl⟩
  · exact ⟨⟨ez, Or.inl ⟨rfl, v, ha, hb, rfl⟩⟩, ⟨hw, fun _ => hm, fun z => by omega, fun z => by omega, fun z => by omega⟩, by decide, by decide⟩
  · exact ⟨⟨ez, Or.inr (Or.inr (Or.inr (Or.inl ⟨rfl, v, ha, hb, rfl⟩)))⟩, ⟨hw, fun _ => hm, fun z => by omega, fun z => by omega, fun z => by omega⟩, by decide, by decide⟩
  · exact ⟨⟨ez, Or.inr (Or.inr (Or.inr (Or.inr (Or.inr (Or.inr (Or.inl ⟨rfl, ⟨v, ha, hb, rfl⟩, l4⟩))))))⟩, ⟨hw, fun _ => hm, fun z => by omega, fun z => by omega, fun z => by omega⟩, by decide, by decide⟩
theorem tw_row_guest {I : Nat → Nat → Int32} {N s n q K g : Nat} {wc wm : lt_W} (h0 : lt_gi wm 234 (1772 + 6 * N) = nI q) (h1 : lt_gi wm 234 (1772 + 6 * N + 1) = nI g) (hq : (q = 12 ∧ K = 14) ∨ (q = 13 ∧ K = 15)) (hg : g < n) (hw : lt_gi wc 41 s = nI K) (hm : lt_gi wc 43 s = nI g) : tw_row I N s n false wc wm := by
  have e0 := tw_e0 (I := I) h0 (by omega)
  have e1 : tw_up I N (tw_R wm (1772 + 6 * N)) N 1 = nI g := tw_up_s.trans h1
  unfold tw_row lw_ok tw_ci tw_op
  rw [e0, e1]
  have ez : tw_up I N (tw_R wm (1772 + 6 * N)) N 0 = nI q := tw_up_s.trans h0
  rcases hq with ⟨rfl, rfl⟩ | ⟨rfl, rfl⟩
  · exact ⟨⟨ez, Or.inr (Or.inl ⟨Or.inl rfl, g, hg, rfl⟩)⟩, ⟨hw, fun z => by omega, fun _ => hm, fun z => by omega, fun z => by omega⟩, by decide, by decide⟩
  · exact ⟨⟨ez, Or.inr (Or.inl ⟨Or.inr rfl, g, hg, rfl⟩)⟩, ⟨hw, fun z => by omega, fun _ => hm, fun z => by omega, fun z => by omega⟩, by decide, by decide⟩
theorem tw_row_butter {I : Nat → Nat → Int32} {N s n g j : Nat} {wc wm : lt_W} (h0 : lt_gi wm 234 (1772 + 6 * N) = nI 6) (h1 : lt_gi wm 234 (1772 + 6 * N + 1) = nI g) (h2 : lt_gi wm 234 (1772 + 6 * N + 2) = nI j) (hg : g < n) (hj : j < n) (hn : n ≤ 7) (hne : j ≠ g) (hw : lt_gi wc 41 s = nI 12) (hm : lt_gi wc 43 s = nI g) (hm2 : lt_gi wc 44 s = nI j) : tw_row I N s n false wc wm := by
  have e0 := tw_e0 (I := I) h0 (by omega)
  have e1 : tw_up I N (tw_R wm (1772 + 6 * N)) N 1 = nI g := tw_up_s.trans h1
  have e2 : tw_up I N (tw_R wm (1772 + 6 * N)) N 2 = nI j := tw_up_s.trans h2
  unfold tw_row lw_ok tw_ci tw_op
  rw [e0, e1, e2]
  have ez : tw_up I N (tw_R wm (1772 + 6 * N)) N 0 = nI 6 := tw_up_s.trans h0
  exact ⟨⟨ez, Or.inr (Or.inr (Or.inl ⟨rfl, ⟨g, hg, rfl⟩, ⟨j, hj, rfl⟩, fun z => hne ((nI_eq (by omega) (by omega)).mp z).symm⟩))⟩, ⟨hw, fun z => by omega, fun _ => hm, fun _ => hm2, fun z => by omega⟩, by decide, by decide⟩
theorem tw_row_plain {I : Nat → Nat → Int32} {N s n q K : Nat} {wc wm : lt_W} (h0 : lt_gi wm 234 (1772 + 6 * N) = nI q) (hq : (q = 15 ∧ K = 17) ∨ (q = 19 ∧ K = 23)) (hw : lt_gi wc 41 s = nI K) : tw_row I N s n false wc wm := by
  have e0 := tw_e0 (I := I) h0 (by omega)
  unfold tw_row lw_ok tw_ci tw_op
  rw [e0]
  have ez : tw_up I N (tw_R wm (1772 + 6 * N)) N 0 = nI q := tw_up_s.trans h0
  rcases hq with ⟨rfl, rfl⟩ | ⟨rfl, rfl⟩
  · exact ⟨⟨ez, Or.inr (Or.inr (Or.inr (Or.inr (Or.inl rfl))))⟩, ⟨hw, fun z => by omega, fun z => by omega, fun z => by omega, fun z => by omega⟩, by decide, by decide⟩
  · exact ⟨⟨ez, Or.inr (Or.inr (Or.inr (Or.inr (Or.inr (Or.inl rfl)))))⟩, ⟨hw, fun z => by omega, fun z => by omega, fun z => by omega, fun z => by omega⟩, by decide, by decide⟩
section TWO
variable {σ : lt_S} {w w0 wc wm : lt_W} {T : Nat → Nat} {L p n N s : Nat} {I : Nat → Nat → Int32}
theorem tw_ord13 (hσ : lr_S σ) (h : tk_S w w0 T L p wc wm) (hs : s < 30) (hN : N < 60) (hw : lt_gi wc 41 s = nI 13) (h0 : lt_gi wm 234 (1772 + 6 * N) = nI 11) (h4 : lt_gi wm 234 (1772 + 6 * N + 4) = 0) : tk_O (tw_O w w0 T L p I N s n false wc wm) (tk_E w w0) (f_X10_takeRest σ 39 (nI s) wc) (f_X12_weekOrder σ 233 (nI 11) (nI (1772 + 6 * N)) wm) := by
  obtain ⟨⟨r0, r1, r2, r3⟩, ⟨a2, a3, a4, a5, a6, a7, a8⟩, l1, l2, l3, l4, l5, l6, l7, l8⟩ := lr_39 hσ
  unfold f_X10_takeRest fb_X10_takeRest_0 f_X12_weekOrder fb_X12_weekOrder_0 f_X10_takeMuch fb_X10_takeMuch_0
  rw [r0, r2, a2, a7, l1, l6, lu_ck hs (by decide), nI_clamp (by omega), hw, if_neg (show ¬ nI 13 = 12 by decide), if_pos (show nI 13 = 13 from rfl), if_neg (show ¬ nI 11 = 6 by decide), if_pos (show nI 11 = 11 from rfl), nI_1 (1772 + 6 * N)]
  refine tk_O.mono (P := tw_P3 w w0 T L p 1 20 s (1772 + 6 * N + 1) wc wm) ?_ fun x y hP => ?_
  · have := (tw_much hσ h s (1772 + 6 * N + 1) 1 20 hs (by omega) (by omega) (by decide) (by decide)).bz
    rw [nI_clamp (by omega)] at this
    exact this
  · obtain ⟨f1, v, z, f2, f3, f4, f5, f6⟩ := hP
    subst f5
    refine ⟨_, tp_ge h, f1, ((tw_fc.refl s wc).n8.trans (tw_fc.F f4)).i (by omega), ((tw_fm.refl _ wm).i (by omega) (by omega)).trans (tw_fm.F f6), ?_⟩
    have := tw_row_much (I := I) (N := N) (s := s) (n := n) (q := 11) (K := 13) (a := 1) (b := 20) (v := v) (wc := lt_si z 46 s (nI v)) (wm := y) (by rw [f6.1 _ _ (by omega), lu_ne (by omega)]; exact h0) (by rw [f6.1 _ _ (by omega), lu_eq]) (by rw [f6.1 _ _ (by omega), lu_ne (by omega)]; exact h4) (by omega) f2 f3 (by rw [lu_ne (by omega), f4.1 _ _ (by omega), lu_ne (by omega)]; exact hw) lu_eq
    exact this
theorem tw_ord16 (hσ : lr_S σ) (h : tk_S w w0 T L p wc wm) (hs : s < 30) (hN : N < 60) (hw : lt_gi wc 41 s = nI 16) (h0 : lt_gi wm 234 (1772 + 6 * N) = nI 14) (h4 : lt_gi wm 234 (1772 + 6 * N + 4) = 0) : tk_O (tw_O w w0 T L p I N s n false wc wm) (tk_E w w0) (f_X10_takeRest σ 39 (nI s) wc) (f_X12_weekOrder σ 233 (nI 14) (nI (1772 + 6 * N)) wm) := by
  obtain ⟨⟨r0, r1, r2, r3⟩, ⟨a2, a3, a4, a5, a6, a7, a8⟩, l1, l2, l3, l4, l5, l6, l7, l8⟩ := lr_39 hσ
  unfold f_X10_takeRest fb_X10_takeRest_0 f_X12_weekOrder fb_X12_weekOrder_0 f_X10_takeMuch fb_X10_takeMuch_0
  rw [r0, r2, a2, a7, l1, l6, lu_ck hs (by decide), nI_clamp (by omega), hw, if_neg (show ¬ nI 16 = 12 by decide), if_neg (show ¬ nI 16 = 13 by decide), if_neg (show ¬ nI 16 = 14 by decide), if_neg (show ¬ nI 16 = 15 by decide), if_pos (show nI 16 = 16 from rfl), if_neg (show ¬ nI 14 = 6 by decide), if_neg (show ¬ nI 14 = 11 by decide), if_neg (show ¬ nI 14 = 12 by decide), if_neg (show ¬ nI 14 = 13 by decide), if_pos (show nI 14 = 14 from rfl), nI_1 (1772 + 6 * N)]
  refine tk_O.mono (P := tw_P3 w w0 T L p 1 60 s (1772 + 6 * N + 1) wc wm) ?_ fun x y hP => ?_
  · have := (tw_much hσ h s (1772 + 6 * N + 1) 1 60 hs (by omega) (by omega) (by decide) (by decide)).bz
    rw [nI_clamp (by omega)] at this
    exact this
  · obtain ⟨f1, v, z, f2, f3, f4, f5, f6⟩ := hP
    subst f5
    refine ⟨_, tp_ge h, f1, ((tw_fc.refl s wc).n8.trans (tw_fc.F f4)).i (by omega), ((tw_fm.refl _ wm).i (by omega) (by omega)).trans (tw_fm.F f6), ?_⟩
    have := tw_row_much (I := I) (N := N) (s := s) (n := n) (q := 14) (K := 16) (a := 1) (b := 60) (v := v) (wc := lt_si z 46 s (nI v)) (wm := y) (by rw [f6.1 _ _ (by omega), lu_ne (by omega)]; exact h0) (by rw [f6.1 _ _ (by omega), lu_eq]) (by rw [f6.1 _ _ (by omega), lu_ne (by omega)]; exact h4) (by omega) f2 f3 (by rw [lu_ne (by omega), f4.1 _ _ (by omega), lu_ne (by omega)]; exact hw) lu_eq
    exact this
theorem tw_ord22 (hσ : lr_S σ) (h : tk_S w w0 T L p wc wm) (hs : s < 30) (hN : N < 60) (hw : lt_gi wc 41 s = nI 22) (h0 : lt_gi wm 234 (1772 + 6 * N) = nI 17) (h4 : lt_gi wm 234 (1772 + 6 * N + 4) = 0) : tk_O (tw_O w w0 T L p I N s n true wc wm) (tk_E w w0) (f_X10_takeRest σ 39 (nI s) wc) (f_X12_weekOrder σ 233 (nI 17) (nI (1772 + 6 * N)) wm) := by
  obtain ⟨⟨r0, r1, r2, r3⟩, ⟨a2, a3, a4, a5, a6, a7, a8⟩, l1, l2, l3, l4, l5, l6, l7, l8⟩ := lr_39 hσ
  unfold f_X10_takeRest fb_X10_takeRest_0 f_X12_weekOrder fb_X12_weekOrder_0 f_X10_takeMuch fb_X10_takeMuch_0
  rw [r0, r2, a2, a7, l1, l6, lu_ck hs (by decide), nI_clamp (by omega), hw, if_neg (show ¬ nI 22 = 12 by decide), if_neg (show ¬ nI 22 = 13 by decide), if_neg (show ¬ nI 22 = 14 by decide), if_neg (show ¬ nI 22 = 15 by decide), if_neg (show ¬ nI 22 = 16 by decide), if_neg (show ¬ nI 22 = 18 by decide), if_pos (show nI 22 = 22 from rfl), if_neg (show ¬ nI 17 = 6 by decide), if_neg (show ¬ nI 17 = 11 by decide), if_neg (show ¬ nI 17 = 12 by decide), if_neg (show ¬ nI 17 = 13 by decide), if_neg (show ¬ nI 17 = 14 by decide), if_neg (show ¬ nI 17 = 16 by decide), if_pos (show nI 17 = 17 from rfl), nI_1 (1772 + 6 * N)]
  refine tk_O.mono (P := tw_P3 w w0 T L p 1 99 s (1772 + 6 * N + 1) wc wm) ?_ fun x y hP => ?_
  · have := (tw_much hσ h s (1772 + 6 * N + 1) 1 99 hs (by omega) (by omega) (by decide) (by decide)).bz
    rw [nI_clamp (by omega)] at this
    exact this
  · obtain ⟨f1, v, z, f2, f3, f4, f5, f6⟩ := hP
    subst f5
    refine ⟨_, tp_ge h, f1, ((tw_fc.refl s wc).n8.trans (tw_fc.F f4)).i (by omega), ((tw_fm.refl _ wm).i (by omega) (by omega)).trans (tw_fm.F f6), ?_⟩
    have := tw_row_much (I := I) (N := N) (s := s) (n := n) (q := 17) (K := 22) (a := 1) (b := 99) (v := v) (wc := lt_si z 46 s (nI v)) (wm := y) (by rw [f6.1 _ _ (by omega), lu_ne (by omega)]; exact h0) (by rw [f6.1 _ _ (by omega), lu_eq]) (by rw [f6.1 _ _ (by omega), lu_ne (by omega)]; exact h4) (by omega) f2 f3 (by rw [lu_ne (by omega), f4.1 _ _ (by omega), lu_ne (by omega)]; exact hw) lu_eq
    exact this
theorem tw_ord14 (hσ : lr_S σ) (h : tk_S w w0 T L p wc wm) (hH : tw_H n w w0) (hs : s < 30) (hN : N < 60) (hw : lt_gi wc 41 s = nI 14) (h0 : lt_gi wm 234 (1772 + 6 * N) = nI 12) : tk_O (tw_O w w0 T L p I N s n false wc wm) (tk_E w w0) (f_X10_takeRest σ 39 (nI s) wc) (f_X12_weekOrder σ 233 (nI 12) (nI (1772 + 6 * N)) wm) := by
  obtain ⟨⟨r0, r1, r2, r3⟩, ⟨a2, a3, a4, a5, a6, a7, a8⟩, l1, l2, l3, l4, l5, l6, l7, l8⟩ := lr_39 hσ
  unfold f_X10_takeRest fb_X10_takeRest_0 f_X12_weekOrder fb_X12_weekOrder_0 fb_X10_takeRest_77 fb_X12_weekOrder_75
  rw [r2, a2, a4, l1, lu_ck hs (by decide), nI_clamp (by omega), hw, if_neg (show ¬ nI 14 = 12 by decide), if_neg (show ¬ nI 14 = 13 by decide), if_pos (show nI 14 = 14 from rfl), if_neg (show ¬ nI 12 = 6 by decide), if_neg (show ¬ nI 12 = 11 by decide), if_pos (show nI 12 = 12 from rfl), nI_1 (1772 + 6 * N)]
  refine (tw_guest hσ h hH 43 s (1772 + 6 * N + 1) (by decide) l3 hs (by omega) (by omega)).bz.mono fun x y hP => ?_
  obtain ⟨f1, g, f2, f3, f4⟩ := hP
  refine ⟨_, tp_ge h, f1, ((tw_fc.refl s wc).i (by omega)).trans (tw_fc.F f3), ((tw_fm.refl _ wm).i (by omega) (by omega)).trans (tw_fm.F f4), ?_⟩
  exact tw_row_guest (q := 12) (K := 14) (by rw [f4.1 _ _ (by omega), lu_ne (by omega)]; exact h0) (by rw [f4.1 _ _ (by omega), lu_eq]) (by omega) f2 (by rw [f3.1 _ _ (by omega), lu_ne (by omega)]; exact hw) (by rw [f3.1 _ _ (by omega), lu_eq])
theorem tw_ord15 (hσ : lr_S σ) (h : tk_S w w0 T L p wc wm) (hH : tw_H n w w0) (hs : s < 30) (hN : N < 60) (hw : lt_gi wc 41 s = nI 15) (h0 : lt_gi wm 234 (1772 + 6 * N) = nI 13) : tk_O (tw_O w w0 T L p I N s n false wc wm) (tk_E w w0) (f_X10_takeRest σ 39 (nI s) wc) (f_X12_weekOrder σ 233 (nI 13) (nI (1772 + 6 * N)) wm) := by
  obtain ⟨⟨r0, r1, r2, r3⟩, ⟨a2, a3, a4, a5, a6, a7, a8⟩, l1, l2, l3, l4, l5, l6, l7, l8⟩ := lr_39 hσ
  unfold f_X10_takeRest fb_X10_takeRest_0 f_X12_weekOrder fb_X12_weekOrder_0 fb_X10_takeRest_77 fb_X12_weekOrder_75
  rw [r2, a2, a4, l1, lu_ck hs (by decide), nI_clamp (by omega), hw, if_neg (show ¬ nI 15 = 12 by decide), if_neg (show ¬ nI 15 = 13 by decide), if_neg (show ¬ nI 15 = 14 by decide), if_pos (show nI 15 = 15 from rfl), if_neg (show ¬ nI 13 = 6 by decide), if_neg (show ¬ nI 13 = 11 by decide), if_neg (show ¬ nI 13 = 12 by decide), if_pos (show nI 13 = 13 from rfl), nI_1 (1772 + 6 * N)]
  refine (tw_guest hσ h hH 43 s (1772 + 6 * N + 1) (by decide) l3 hs (by omega) (by omega)).bz.mono fun x y hP => ?_
  obtain ⟨f1, g, f2, f3, f4⟩ := hP
  refine ⟨_, tp_ge h, f1, ((tw_fc.refl s wc).i (by omega)).trans (tw_fc.F f3), ((tw_fm.refl _ wm).i (by omega) (by omega)).trans (tw_fm.F f4), ?_⟩
  exact tw_row_guest (q := 13) (K := 15) (by rw [f4.1 _ _ (by omega), lu_ne (by omega)]; exact h0) (by rw [f4.1 _ _ (by omega), lu_eq]) (by omega) f2 (by rw [f3.1 _ _ (by omega), lu_ne (by omega)]; exact hw) (by rw [f3.1 _ _ (by omega), lu_eq])
theorem tw_ord17 (hσ : lr_S σ) (h : tk_S w w0 T L p wc wm) (hs : s < 30) (hw : lt_gi wc 41 s = nI 17) (h0 : lt_gi wm 234 (1772 + 6 * N) = nI 15) : tk_O (tw_O w w0 T L p I N s n false wc wm) (tk_E w w0) (f_X10_takeRest σ 39 (nI s) wc) (f_X12_weekOrder σ 233 (nI 15) (nI (1772 + 6 * N)) wm) := by
  obtain ⟨⟨r0, r1, r2, r3⟩, ⟨a2, a3, a4, a5, a6, a7, a8⟩, l1, l2, l3, l4, l5, l6, l7, l8⟩ := lr_39 hσ
  unfold f_X10_takeRest fb_X10_takeRest_0 f_X12_weekOrder fb_X12_weekOrder_0
  rw [r2, a2, l1, lu_ck hs (by decide), nI_clamp (by omega), hw, if_neg (show ¬ nI 17 = 12 by decide), if_neg (show ¬ nI 17 = 13 by decide), if_neg (show ¬ nI 17 = 14 by decide), if_neg (show ¬ nI 17 = 15 by decide), if_neg (show ¬ nI 17 = 16 by decide), if_neg (show ¬ nI 17 = 18 by decide), if_neg (show ¬ nI 17 = 22 by decide), if_neg (show ¬ nI 15 = 6 by decide), if_neg (show ¬ nI 15 = 11 by decide), if_neg (show ¬ nI 15 = 12 by decide), if_neg (show ¬ nI 15 = 13 by decide), if_neg (show ¬ nI 15 = 14 by decide), if_neg (show ¬ nI 15 = 16 by decide), if_neg (show ¬ nI 15 = 17 by decide)]
  exact Or.inr ⟨wc, wm, rfl, rfl, p, Nat.le_refl _, h, tw_fc.refl _ _, tw_fm.refl _ _, tw_row_plain (q := 15) (K := 17) h0 (by omega) hw⟩
theorem tw_ord23 (hσ : lr_S σ) (h : tk_S w w0 T L p wc wm) (hs : s < 30) (hw : lt_gi wc 41 s = nI 23) (h0 : lt_gi wm 234 (1772 + 6 * N) = nI 19) : tk_O (tw_O w w0 T L p I N s n false wc wm) (tk_E w w0) (f_X10_takeRest σ 39 (nI s) wc) (f_X12_weekOrder σ 233 (nI 19) (nI (1772 + 6 * N)) wm) := by
  obtain ⟨⟨r0, r1, r2, r3⟩, ⟨a2, a3, a4, a5, a6, a7, a8⟩, l1, l2, l3, l4, l5, l6, l7, l8⟩ := lr_39 hσ
  unfold f_X10_takeRest fb_X10_takeRest_0 f_X12_weekOrder fb_X12_weekOrder_0
  rw [r2, a2, l1, lu_ck hs (by decide), nI_clamp (by omega), hw, if_neg (show ¬ nI 23 = 12 by decide), if_neg (show ¬ nI 23 = 13 by decide), if_neg (show ¬ nI 23 = 14 by decide), if_neg (show ¬ nI 23 = 15 by decide), if_neg (show ¬ nI 23 = 16 by decide), if_neg (show ¬ nI 23 = 18 by decide), if_neg (show ¬ nI 23 = 22 by decide), if_neg (show ¬ nI 19 = 6 by decide), if_neg (show ¬ nI 19 = 11 by decide), if_neg (show ¬ nI 19 = 12 by decide), if_neg (show ¬ nI 19 = 13 by decide), if_neg (show ¬ nI 19 = 14 by decide), if_neg (show ¬ nI 19 = 16 by decide), if_neg (show ¬ nI 19 = 17 by decide)]
  exact Or.inr ⟨wc, wm, rfl, rfl, p, Nat.le_refl _, h, tw_fc.refl _ _, tw_fm.refl _ _, tw_row_plain (q := 19) (K := 23) h0 (by omega) hw⟩
theorem tw_ord12 (hσ : lr_S σ) (h : tk_S w w0 T L p wc wm) (hH : tw_H n w w0) (hs : s < 30) (hN : N < 60) (hw : lt_gi wc 41 s = nI 12) (h0 : lt_gi wm 234 (1772 + 6 * N) = nI 6) : tk_O (tw_O w w0 T L p I N s n false wc wm) (tk_E w w0) (f_X10_takeRest σ 39 (nI s) wc) (f_X12_weekOrder σ 233 (nI 6) (nI (1772 + 6 * N)) wm) := by
  obtain ⟨⟨r0, r1, r2, r3⟩, ⟨a2, a3, a4, a5, a6, a7, a8⟩, l1, l2, l3, l4, l5, l6, l7, l8⟩ := lr_39 hσ
  have h7 := hH.1
  unfold f_X10_takeRest fb_X10_takeRest_0 f_X12_weekOrder fb_X12_weekOrder_0
  rw [r2, a2, a4, a5, l1, l3, lu_ck hs (by decide), nI_clamp (by omega), hw, if_pos (show nI 12 = 12 from rfl), if_pos (show nI 6 = 6 from rfl), nI_1 (1772 + 6 * N)]
  refine (tw_guest hσ h hH 43 s (1772 + 6 * N + 1) (by decide) l3 hs (by omega) (by omega)).bind (fun x y hP => ?_) (fun _ _ => ⟨if_pos rfl, if_pos rfl⟩)
  obtain ⟨f1, g, f2, f3, f4⟩ := hP
  have g0 : lt_gi x 43 s = nI g := by rw [f3.1 _ _ (by omega), lu_eq]
  dsimp only
  rw [if_neg lu_10, if_neg lu_10, lu_ck hs (by decide), g0]
  refine (tw_other hσ f1 hH 44 s (1772 + 6 * N + 1) g (by decide) l4 hs (by omega) (by omega) f2 (by rw [f4.1 _ _ (by omega), lu_eq])).bind (fun x2 y2 hP => ?_) (fun _ _ => ⟨if_pos rfl, if_pos rfl⟩)
  obtain ⟨d1, j, d2, d3, d4, d5⟩ := hP
  dsimp only
  rw [if_neg lu_10, if_neg lu_10]
  have q1 := tp_ge h
  have q2 := tp_ge f1
  refine Or.inr ⟨x2, y2, rfl, rfl, _, by omega, d1, ((((tw_fc.refl s wc).i (by omega)).trans (tw_fc.F f3)).i (by omega)).trans (tw_fc.F d4), ((((tw_fm.refl _ wm).i (by omega) (by omega)).trans (tw_fm.F f4)).i (by omega) (by omega)).trans (tw_fm.F d5), ?_⟩
  exact tw_row_butter (g := g) (j := j) (by rw [d5.1 _ _ (by omega), lu_ne (by omega), f4.1 _ _ (by omega), lu_ne (by omega)]; exact h0) (by rw [d5.1 _ _ (by omega), lu_ne (by omega), f4.1 _ _ (by omega), lu_eq]) (by rw [d5.1 _ _ (by omega)]; exact lu_eq) f2 d2 h7 d3 (by rw [d4.1 _ _ (by omega), lu_ne (by omega), f3.1 _ _ (by omega), lu_ne (by omega)]; exact hw) (by rw [d4.1 _ _ (by omega), lu_ne (by omega)]; exact g0) (by rw [d4.1 _ _ (by omega), lu_eq])
end TWO