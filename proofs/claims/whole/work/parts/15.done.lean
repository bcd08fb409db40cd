/-! CALLS: what is done to the table -/
section OPS2
variable {σ : lt_S} {w : lt_W} {A : la_A}
theorem op_refuse {fc fm : lt_W → Option (Int32 × lt_W)} (h : lr_0 w A) {r st : Int32} (hc : fc w = some (r, lt_si w 0 0 st)) (hm : ∀ w1, lr_0 w1 A → fm w1 = some (r, lt_si w1 233 2 st)) : lr_ok fc fm w :=
  lr_ok.q h (lr_cq.of0 hc) fun w1 h1 => lr_mq.of0 (hm w1 h1)
theorem lr_mT (hσ : lr_S σ) (h : lm_T w 234 0 A) : lm_T w (lt_r σ 233 0) 0 A := by rw [lr_at hσ]; exact h
theorem lr_mT' (hσ : lr_S σ) (h : lm_T w (lt_r σ 233 0) 0 A) : lm_T w 234 0 A := by rw [lr_at hσ] at h; exact h
theorem lr_mD' (hσ : lr_S σ) {w' : lt_W} (h : lm_D (lt_r σ 233 0) w w') : lm_D 234 w w' := by rw [lr_at hσ] at h; exact h
theorem op_day (hσ : lr_S σ) (h : lr_0 w A) (x : Int32) : lr_ok (f_X11_day σ 0 x) (f_X12_day σ 233 x) w := by
  have hN := lr_now hσ
  have hS := lr_mS hσ
  have hT := lr_nowS hσ
  by_cases c : lq_b x 1 999
  · obtain ⟨d, hd1, hd2, rfl⟩ := c.R (by decide) (by decide)
    by_cases c2 : A.1 6 + nI d ≤ 9999
    · refine lr_ok.t h (la_Ok_days h.O d) (la_n_days d) (r := nI (la_cnt (la_here (la_days A d)) (la_n (la_days A d)))) (st := 0) ?_ (fun w1 h1 => ?_)
      · obtain ⟨w', e1, e2, e3⟩ := lc_passDays hT h.c h.O (d := d) (by omega)
        refine lr_ct.of (w' := w') ?_ e2 e3
        unfold f_X11_day fb_X11_day_0
        rw [lq_within_y (lo := 1) (hi := 999) 1 999 rfl rfl c, lu_bind, if_neg lu_10, hN]
        unfold f_X5_mayPass fb_X5_mayPass_0
        rw [h.c.2.2.1 6 (by decide), if_neg (Int32.not_lt.mpr c2), lu_bind, if_neg lu_10, e1, lu_bind, lc_countThere e2, lu_bind]; rfl
      · have h1' := lr_mT hσ h1
        obtain ⟨w', e1, e2, e3⟩ := lm_daysGo hS h1' h.O (d := d) (by omega)
        refine lr_mt.of (w' := w') ?_ (lr_mT' hσ e2) (lr_mD' hσ e3)
        unfold f_X12_day fb_X12_day_0
        rw [lq_from_y (lo := 1) (hi := 999) 1 999 rfl rfl (by decide) (by decide) c, lu_bind, if_neg lu_10, hS, lm_k6, lm_c6, lm_hd h1' (by decide), if_pos c2, e1, lu_bind, lm_areHere hS e2, lu_bind, (la_count e2.2.1).2, lu_bind]; rfl
    · refine op_refuse h (r := -1) (st := 7) ?_ (fun w1 h1 => ?_)
      · unfold f_X11_day fb_X11_day_0
        rw [lq_within_y (lo := 1) (hi := 999) 1 999 rfl rfl c, lu_bind, if_neg lu_10, hN]
        unfold f_X5_mayPass fb_X5_mayPass_0
        rw [h.c.2.2.1 6 (by decide), if_pos (Int32.not_le.mp c2), lu_bind, if_pos rfl]; rfl
      · unfold f_X12_day fb_X12_day_0
        rw [lq_from_y (lo := 1) (hi := 999) 1 999 rfl rfl (by decide) (by decide) c, lu_bind, if_neg lu_10, hS, lm_k6, lm_c6, lm_hd (h1.m hσ) (by decide), if_neg c2]; rfl
  · refine op_refuse h (r := -1) (st := 1) ?_ (fun w1 h1 => ?_)
    · unfold f_X11_day fb_X11_day_0
      rw [lq_within_n (lo := 1) (hi := 999) 1 999 rfl rfl c, lu_bind, if_pos rfl]; rfl
    · unfold f_X12_day fb_X12_day_0
      rw [lq_from_n (lo := 1) (hi := 999) 1 999 rfl rfl (by decide) (by decide) c, lu_bind, if_pos rfl]; rfl
theorem lm_canCut {o : Nat} (hS : lm_S σ o) (hA : lm_T w (lt_r σ o 0) 0 A) {g : Nat} (hg : g < la_n A) : f_X12_canCut σ o (nI g) w = some (if la_here A g = true ∧ A.1 5 = 0 then 1 else 0) := by
  unfold f_X12_canCut fb_X12_canCut_0
  rw [lm_here hS hA hg, lu_bind, lu_q, hS, lm_k5, lm_c5, lm_hd hA (by decide)]
  by_cases e : la_here A g = true
  · rw [if_pos e]
    by_cases e2 : A.1 5 = 0
    · rw [if_pos e2, if_pos ⟨e, e2⟩]
    · rw [if_neg e2, if_neg (fun z => e2 z.2)]
  · rw [if_neg e, if_neg (fun z => e z.1)]
theorem op_cut (hσ : lr_S σ) (h : lr_0 w A) (x : Int32) : lr_ok (f_X11_cut σ 0 x) (f_X12_cut σ 233 x) w := by
  have hN := lr_now hσ
  have hS := lr_mS hσ
  have hT := lr_nowS hσ
  have h7 := h.n7
  have h5 := h.O.2.2.2.2.2.2.1.le0 (by decide)
  rcases lq_ix x h7 with hx | ⟨g, hg, rfl⟩
  · refine op_refuse h (r := -1) (st := 1) ?_ (fun w1 h1 => ?_)
    · unfold f_X11_cut fb_X11_cut_0
      rw [hN, lq_hg_n h.c hx, lu_bind, if_pos rfl]; rfl
    · unfold f_X12_cut fb_X12_cut_0
      rw [lq_ig_n hS (h1.m hσ) hx, lu_bind, if_pos rfl]; rfl
  · by_cases e : la_here A g = true ∧ A.1 5 = 0
    · refine lr_ok.t h (la_Ok_cut h.O g hg) la_n_cut (r := (la_cut A g).1 5) (st := 0) ?_ (fun w1 h1 => ?_)
      · obtain ⟨w', e1, e2, e3⟩ := lc_cut hT h.c hg e.1 (h5.mpr e.2)
        refine lr_ct.of (w' := w') ?_ e2 e3
        unfold f_X11_cut fb_X11_cut_0
        rw [hN, lq_hg_y h.c hg, lu_bind, if_neg lu_10, e1, lu_bind]
        show (if (1 : Int32) = 0 then _ else _) = _
        rw [if_neg lu_10, e2.2.2.1 5 (by decide)]; rfl
      · have h1' := lr_mT hσ h1
        obtain ⟨w', e1, e2, e3⟩ := lm_cuts hS h1' hg
        refine lr_mt.of (w' := w') ?_ (lr_mT' hσ e2) (lr_mD' hσ e3)
        unfold f_X12_cut fb_X12_cut_0
        rw [lq_ig_y hS h1' hg, lu_bind, if_neg lu_10, lm_canCut hS h1' hg, lu_bind, if_pos e, if_neg lu_10, e1, lu_bind, hS, lm_k5, lm_c5, lm_hd e2 (by decide)]; rfl
    · refine op_refuse h (r := -1) (st := 7) ?_ (fun w1 h1 => ?_)
      · unfold f_X11_cut fb_X11_cut_0
        rw [hN, lq_hg_y h.c hg, lu_bind, if_neg lu_10, lc_cutNo h.c (Or.inr ⟨g, rfl, by omega, ?_⟩), lu_bind]
        · rfl
        · by_cases z : la_here A g = true
          · exact Or.inr (Or.inr fun y => e ⟨z, h5.mp y⟩)
          · exact Or.inr (Or.inl (by simpa using z))
      · unfold f_X12_cut fb_X12_cut_0
        rw [lq_ig_y hS (h1.m hσ) hg, lu_bind, if_neg lu_10, lm_canCut hS (h1.m hσ) hg, lu_bind, if_neg e, if_pos rfl]; rfl
theorem lm_passes {o : Nat} (hS : lm_S σ o) (hA : lm_T w (lt_r σ o 0) 0 A) {g : Nat} (hg : g < la_n A) (v : Int32) : f_X12_passes σ o (nI g) v w = some (if A.2 g 6 = v then 0 else 1, lt_si w (lt_r σ o 0) (10 + 7 * g + 6) v) := by
  have h7 := hA.2.1
  unfold f_X12_passes fb_X12_passes_0 fb_X12_passes_16
  rw [lm_of (x := 6) (f := 6) hS hA hg rfl (by decide), lu_bind, lm_row, lu_bind, lu_bind, hS, lm_a6, lu_ck (by omega) (by decide), lu_ck (by omega) (by decide), nI_clamp (by omega)]
  by_cases e : A.2 g 6 = v
  · rw [if_pos e, if_pos e]; rfl
  · rw [if_neg e, if_neg e]; rfl
theorem op_butter (hσ : lr_S σ) (h : lr_0 w A) (x y : Int32) : lr_ok (f_X11_butter σ 0 x y) (f_X12_butter σ 233 x y) w := by
  have hN := lr_now hσ
  have hS := lr_mS hσ
  have hT := lr_nowS hσ
  have h7 := h.n7
  rcases lq_two hS hN h.c (h.m hσ) x y with ⟨e1, e2⟩ | ⟨i, j, hi, hj, hij, rfl, rfl, e1, -⟩
  · refine op_refuse h (r := -1) (st := 1) ?_ (fun w1 h1 => ?_)
    · unfold f_X11_butter fb_X11_butter_0
      rw [e1, lu_bind, if_pos rfl]; rfl
    · rcases lq_two hS hN h.c (h1.m hσ) x y with ⟨-, e3⟩ | ⟨i, j, hi, hj, hij, rfl, rfl, e3, -⟩
      · unfold f_X12_butter fb_X12_butter_0
        rw [e3, lu_bind, if_pos rfl]; rfl
      · rw [e1] at e3; cases e3
  · obtain ⟨⟨s0, s1, s2, s3, s4, s5, s6, s7, s8⟩, l1, l2, l3, l4, l5, l6, l7, l8⟩ := hT
    obtain ⟨a0, a1, a2, a3, a4, a5⟩ := h.c.2.2.2.2 i hi
    have two : ∀ w1, lm_T w1 234 0 A → f_X12_areTwo σ 233 (nI i) (nI j) w1 = some 1 := fun w1 h1 => by
      rcases lq_two hS hN h.c (lr_mT hσ h1) (nI i) (nI j) with ⟨e3, -⟩ | ⟨_, _, _, _, _, _, _, _, e3⟩
      · rw [e1] at e3; cases e3
      · exact e3
    by_cases e : A.2 i 6 = nI j
    · refine lr_ok.t h h.O rfl (r := -1) (st := 7) ?_ (fun w1 h1 => ?_)
      · refine lr_ct.of (w' := w) ?_ h.c (lu_Fr.refl _ _ _)
        unfold f_X11_butter fb_X11_butter_0
        rw [e1, lu_bind, if_neg lu_10, hN, s7, lu_ck (by omega) (by omega), nI_clamp (by omega), a5, lu_let, if_pos e]; rfl
      · have h1' := lr_mT hσ h1
        have hB : lm_T (lt_si w1 234 (10 + 7 * i + 6) (nI j)) 234 0 A := by
          refine h1.congr fun k _ _ _ => ?_
          rw [lu_gisi]
          by_cases z : 0 + k = 10 + 7 * i + 6
          · rw [if_pos ⟨rfl, z⟩, z, ← e]
            have := lm_at h1' hi (f := 6) (by decide)
            rw [lr_at hσ] at this; exact this.symm
          · rw [if_neg (fun y => z y.2)]
        refine lr_mt.of (w' := lt_si w1 234 (10 + 7 * i + 6) (nI j)) ?_ hB ((lm_D.refl _ _).si (by omega) (by omega) (by omega))
        unfold f_X12_butter fb_X12_butter_0
        rw [two w1 h1, lu_bind, if_neg lu_10, lm_of (x := 6) (f := 6) hS h1' hi rfl (by decide), lu_bind, lm_passes hS h1' hi, lu_bind, if_pos e, lr_at hσ]; rfl
    · refine lr_ok.t h (B := la_c A i 6 (nI j)) (h.O.c (Or.inr (Or.inr (Or.inr (Or.inr (Or.inr (Or.inr ⟨rfl, Or.inr ⟨j, hj, fun z => hij z.symm, rfl⟩⟩))))))) rfl (r := if A.2 i 6 = -1 then nI (la_n A) else A.2 i 6) (st := 0) ?_ (fun w1 h1 => ?_)
      · refine lr_ct.of (w' := lt_si w (12 + 7) i (nI j)) ?_ (h.c.cell (Or.inr ⟨rfl, rfl⟩)) ((lu_Fr.refl _ _ _).si (by decide) (by decide))
        unfold f_X11_butter fb_X11_butter_0 fb_X11_butter_64
        rw [e1, lu_bind, if_neg lu_10, hN, s7, lu_ck (by omega) (by omega), nI_clamp (by omega), a5, lu_let, if_neg e, lu_ck (by omega) (by omega), lu_let, lu_ne (Or.inl (by decide)), lc_n h.c]
        by_cases c : A.2 i 6 = -1
        · rw [if_pos c, if_pos c]; rfl
        · rw [if_neg c, if_neg c]; rfl
      · have h1' := lr_mT hσ h1
        refine lr_mt.of (w' := lt_si w1 234 (10 + 7 * i + 6) (nI j)) ?_ (h1.cell (by omega) (by decide)) ((lm_D.refl _ _).si (by omega) (by omega) (by omega))
        unfold f_X12_butter fb_X12_butter_0 fb_X12_butter_55
        rw [two w1 h1, lu_bind, if_neg lu_10, lm_of (x := 6) (f := 6) hS h1' hi rfl (by decide), lu_bind, lm_passes hS h1' hi, lu_bind, if_neg e, if_neg lu_10, hS, lm_k0, lm_c0, lr_at hσ]
        show (if A.2 i 6 = -1 then Option.bind (f_X12_gives σ 233 (lt_gi (lt_si w1 234 (10 + 7 * i + 6) (nI j)) 234 0) _) _ else _) = _
        rw [lu_ne (Or.inr (by omega))]
        have hn := lm_n h1'
        rw [lr_at hσ] at hn
        rw [hn]
        by_cases c : A.2 i 6 = -1
        · rw [if_pos c, if_pos c]; rfl
        · rw [if_neg c, if_neg c]; rfl
theorem lm_fedBy {o : Nat} (hS : lm_S σ o) (hA : lm_T w (lt_r σ o 0) 0 A) {g : Nat} (hg : g < la_n A) : f_X12_fedBy σ o (nI g) w = some (if la_here A g = true ∧ ¬ A.2 g 4 = 0 then (1, lt_si w (lt_r σ o 0) (10 + 7 * g + 4) 0) else (0, w)) := by
  have h7 := hA.2.1
  unfold f_X12_fedBy fb_X12_fedBy_0
  rw [lm_here hS hA hg, lu_bind, lu_q, lm_of (x := 4) (f := 4) hS hA hg rfl (by decide), lu_bind, lm_row, lu_bind, hS, lm_a4, lu_ck (by omega) (by decide), nI_clamp (by omega), lu_let]
  by_cases e : la_here A g = true
  · rw [if_pos e]
    by_cases e2 : A.2 g 4 = 0
    · rw [if_pos e2, if_neg (fun z => z.2 e2)]
    · rw [if_neg e2, if_pos ⟨e, e2⟩]
  · rw [if_neg e, if_neg (fun z => e z.1)]
theorem la_hung_iff {g : Nat} (hO : la_Ok A) (hg : g < la_n A) : la_hung A g = true ↔ la_here A g = true ∧ ¬ A.2 g 4 = 0 := by
  have := (hO.2.2.2.2.2.2.2 g hg).2.2.2.2.1.le0 (by decide)
  unfold la_hung
  rw [Bool.and_eq_true, decide_eq_true_eq, ← Int32.not_le, this]
theorem op_soup (hσ : lr_S σ) (h : lr_0 w A) (x : Int32) : lr_ok (f_X11_soup σ 0 x) (f_X12_soup σ 233 x) w := by
  have hN := lr_now hσ
  have hS := lr_mS hσ
  have hT := lr_nowS hσ
  have h7 := h.n7
  rcases lq_ix x h7 with hx | ⟨g, hg, rfl⟩
  · refine op_refuse h (r := -1) (st := 1) ?_ (fun w1 h1 => ?_)
    · unfold f_X11_soup fb_X11_soup_0
      rw [hN, lq_hg_n h.c hx, lu_bind, if_pos rfl]; rfl
    · unfold f_X12_soup fb_X12_soup_0
      rw [lq_ig_n hS (h1.m hσ) hx, lu_bind, if_pos rfl]; rfl
  · obtain ⟨⟨s0, s1, s2, s3, s4, s5, s6, s7, s8⟩, l1, l2, l3, l4, l5, l6, l7, l8⟩ := lr_nowS hσ
    obtain ⟨a0, a1, a2, a3, a4, a5⟩ := h.c.2.2.2.2 g hg
    by_cases e : la_hung A g = true
    · refine lr_ok.t h (B := la_c A g 4 0) (h.O.c (Or.inr (Or.inr (Or.inr (Or.inr (Or.inl ⟨rfl, lu_R.of (k := 0) (by decide) (by decide)⟩)))))) rfl (r := A.2 g 4) (st := 0) ?_ (fun w1 h1 => ?_)
      · refine lr_ct.of (w' := lt_si w (12 + 6) g 0) ?_ (h.c.cell (Or.inl ⟨by decide, rfl⟩)) ((lu_Fr.refl _ _ _).si (by decide) (by decide))
        unfold f_X11_soup fb_X11_soup_0
        rw [hN, lq_hg_y h.c hg, lu_bind, if_neg lu_10, lc_hungers hT h.c hg, lu_bind, lu_q, if_pos e, s6, lu_ck (by omega) (by omega), lu_let, lu_ck (by omega) (by omega), lu_let, nI_clamp (by omega), a4]; rfl
      · have h1' := lr_mT hσ h1
        refine lr_mt.of (w' := lt_si w1 234 (10 + 7 * g + 4) 0) ?_ (h1.cell (by omega) (by decide)) ((lm_D.refl _ _).si (by omega) (by omega) (by omega))
        unfold f_X12_soup fb_X12_soup_0
        rw [lq_ig_y hS h1' hg, lu_bind, if_neg lu_10, lm_of (x := 4) (f := 4) hS h1' hg rfl (by decide), lu_bind, lm_fedBy hS h1' hg, lu_bind, if_pos ((la_hung_iff h.O hg).mp e), if_neg lu_10, lr_at hσ]; rfl
    · refine op_refuse h (r := -1) (st := 7) ?_ (fun w1 h1 => ?_)
      · unfold f_X11_soup fb_X11_soup_0
        rw [hN, lq_hg_y h.c hg, lu_bind, if_neg lu_10, lc_hungers hT h.c hg, lu_bind, lu_q, if_neg e]; rfl
      · have h1' := h1.m hσ
        unfold f_X12_soup fb_X12_soup_0
        rw [lq_ig_y hS h1' hg, lu_bind, if_neg lu_10, lm_of (x := 4) (f := 4) hS h1' hg rfl (by decide), lu_bind, lm_fedBy hS h1' hg, lu_bind, if_neg (fun z => e ((la_hung_iff h.O hg).mpr z)), if_pos rfl]; rfl
theorem op_bake (hσ : lr_S σ) (h : lr_0 w A) (x : Int32) : lr_ok (f_X11_bake σ 0 x) (f_X12_bake σ 233 x) w := by
  have hN := lr_now hσ
  have hS := lr_mS hσ
  by_cases c : lq_b x 1 60
  · refine lr_ok.t h (B := la_h A 4 x) (h.O.h (Or.inr (Or.inr (Or.inr (Or.inr (Or.inr ⟨rfl, c.R (by decide) (by decide)⟩)))))) (la_n_h (by decide)) (r := A.1 4) (st := 0) ?_ (fun w1 h1 => ?_)
    · refine lr_ct.of (w' := lt_si w 12 4 x) ?_ (h.c.hd (by decide) (by decide)) ((lu_Fr.refl _ _ _).si (by decide) (by decide))
      unfold f_X11_bake fb_X11_bake_0
      rw [lq_within_y (lo := 1) (hi := 60) 1 60 rfl rfl c, lu_bind, if_neg lu_10, hN, lu_let, h.c.2.2.1 4 (by decide)]; rfl
    · have h1' := lr_mT hσ h1
      refine lr_mt.of (w' := lt_si w1 234 4 x) ?_ (h1.hd rfl (by decide) (by decide)) ((lm_D.refl _ _).si (by decide) (by decide) (by decide))
      unfold f_X12_bake fb_X12_bake_0
      rw [lq_from_y (lo := 1) (hi := 60) 1 60 rfl rfl (by decide) (by decide) c, lu_bind, if_neg lu_10, hS, lm_k4, lu_let, lm_k4, lu_let, lm_c4, lm_hd h1' (by decide), lr_at hσ]; rfl
  · refine op_refuse h (r := -1) (st := 1) ?_ (fun w1 h1 => ?_)
    · unfold f_X11_bake fb_X11_bake_0
      rw [lq_within_n (lo := 1) (hi := 60) 1 60 rfl rfl c, lu_bind, if_pos rfl]; rfl
    · unfold f_X12_bake fb_X12_bake_0
      rw [lq_from_n (lo := 1) (hi := 60) 1 60 rfl rfl (by decide) (by decide) c, lu_bind, if_pos rfl]; rfl
theorem op_sway (hσ : lr_S σ) (h : lr_0 w A) (x y : Int32) : lr_ok (f_X11_sway σ 0 x y) (f_X12_sway σ 233 x y) w := by
  have hN := lr_now hσ
  have hS := lr_mS hσ
  have hT := lr_nowS hσ
  have h7 := h.n7
  rcases lq_ix x h7 with hx | ⟨g, hg, rfl⟩
  · refine op_refuse h (r := -1) (st := 1) ?_ (fun w1 h1 => ?_)
    · unfold f_X11_sway fb_X11_sway_0 fb_X11_sway_21
      rw [hN, lq_hg_n h.c hx, lu_bind, if_pos rfl]; rfl
    · unfold f_X12_sway fb_X12_sway_0 fb_X12_sway_20
      rw [lq_ig_n hS (h1.m hσ) hx, lu_bind, if_pos rfl]; rfl
  · obtain ⟨⟨s0, s1, s2, s3, s4, s5, s6, s7, s8⟩, l1, l2, l3, l4, l5, l6, l7, l8⟩ := lr_nowS hσ
    obtain ⟨a0, a1, a2, a3, a4, a5⟩ := h.c.2.2.2.2 g hg
    by_cases c : lq_b y 0 20
    · by_cases e : la_here A g = true
      · refine lr_ok.t h (B := la_c A g 0 y) (h.O.c (Or.inl ⟨rfl, c.R (by decide) (by decide)⟩)) rfl (r := A.2 g 0) (st := 0) ?_ (fun w1 h1 => ?_)
        · refine lr_ct.of (w' := lt_si w (12 + 2) g y) ?_ (h.c.cell (Or.inl ⟨by decide, rfl⟩)) ((lu_Fr.refl _ _ _).si (by decide) (by decide))
          unfold f_X11_sway fb_X11_sway_0
          rw [hN, lq_hg_y h.c hg, lu_bind, if_neg lu_10, lq_within_y (lo := 0) (hi := 20) 0 20 rfl rfl c, lu_bind, if_neg lu_10, lc_isThere h.c hg, lu_bind, lu_q, if_pos e, s2, lu_ck (by omega) (by omega), lu_let, lu_ck (by omega) (by omega), lu_let, nI_clamp (by omega), a0]; rfl
        · have h1' := lr_mT hσ h1
          refine lr_mt.of (w' := lt_si w1 234 (10 + 7 * g) y) ?_ (h1.cell (by omega) (by decide)) ((lm_D.refl _ _).si (by omega) (by omega) (by omega))
          unfold f_X12_sway fb_X12_sway_0
          rw [lq_ig_y hS h1' hg, lu_bind, if_neg lu_10, lq_from_y (lo := 0) (hi := 20) 0 20 rfl rfl (by decide) (by decide) c, lu_bind, if_neg lu_10, lm_here hS h1' hg, lu_bind, lu_q, if_pos e, lm_of (x := 0) (f := 0) hS h1' hg rfl (by decide), lu_bind, lm_row, lu_bind, hS, lu_ck (by omega) (by decide), nI_clamp (by omega), lu_let, lr_at hσ]; rfl
      · refine op_refuse h (r := -1) (st := 7) ?_ (fun w1 h1 => ?_)
        · unfold f_X11_sway fb_X11_sway_0
          rw [hN, lq_hg_y h.c hg, lu_bind, if_neg lu_10, lq_within_y (lo := 0) (hi := 20) 0 20 rfl rfl c, lu_bind, if_neg lu_10, lc_isThere h.c hg, lu_bind, lu_q, if_neg e]; rfl
        · have h1' := h1.m hσ
          unfold f_X12_sway fb_X12_sway_0
          rw [lq_ig_y hS h1' hg, lu_bind, if_neg lu_10, lq_from_y (lo := 0) (hi := 20) 0 20 rfl rfl (by decide) (by decide) c, lu_bind, if_neg lu_10, lm_here hS h1' hg, lu_bind, lu_q, if_neg e]; rfl
    · refine op_refuse h (r := -1) (st := 1) ?_ (fun w1 h1 => ?_)
      · unfold f_X11_sway fb_X11_sway_0 fb_X11_sway_21
        rw [hN, lq_hg_y h.c hg, lu_bind, if_neg lu_10, lq_within_n (lo := 0) (hi := 20) 0 20 rfl rfl c, lu_bind, if_pos rfl]; rfl
      · unfold f_X12_sway fb_X12_sway_0 fb_X12_sway_20
        rw [lq_ig_y hS (h1.m hσ) hg, lu_bind, if_neg lu_10, lq_from_n (lo := 0) (hi := 20) 0 20 rfl rfl (by decide) (by decide) c, lu_bind, if_pos rfl]; rfl
theorem op_come (hσ : lr_S σ) (h : lr_0 w A) (x : Int32) : lr_ok (f_X11_come σ 0 x) (f_X12_come σ 233 x) w := by
  have hN := lr_now hσ
  have hS := lr_mS hσ
  have hT := lr_nowS hσ
  have h7 := h.n7
  rcases lq_ix x h7 with hx | ⟨g, hg, rfl⟩
  · refine op_refuse h (r := -1) (st := 1) ?_ (fun w1 h1 => ?_)
    · unfold f_X11_come fb_X11_come_0
      rw [hN, lq_hg_n h.c hx, lu_bind, if_pos rfl]; rfl
    · unfold f_X12_come fb_X12_come_0
      rw [lq_ig_n hS (h1.m hσ) hx, lu_bind, if_pos rfl]; rfl
  · obtain ⟨⟨s0, s1, s2, s3, s4, s5, s6, s7, s8⟩, l1, l2, l3, l4, l5, l6, l7, l8⟩ := lr_nowS hσ
    by_cases e : la_here A g = true
    · refine op_refuse h (r := -1) (st := 7) ?_ (fun w1 h1 => ?_)
      · unfold f_X11_come fb_X11_come_0
        rw [hN, lq_hg_y h.c hg, lu_bind, if_neg lu_10, lc_isThere h.c hg, lu_bind, lu_q, if_pos e]; rfl
      · have h1' := h1.m hσ
        unfold f_X12_come fb_X12_come_0
        rw [lq_ig_y hS h1' hg, lu_bind, if_neg lu_10, lm_here hS h1' hg, lu_bind, lu_q, if_pos e]; rfl
    · have hOB : la_Ok (la_c (la_c (la_c A g 5 1) g 0 0) g 4 0) := ((h.O.c (Or.inr (Or.inr (Or.inr (Or.inr (Or.inr (Or.inl ⟨rfl, Or.inr rfl⟩))))))).c (Or.inl ⟨rfl, lu_R.of (k := 0) (by decide) (by decide)⟩)).c (Or.inr (Or.inr (Or.inr (Or.inr (Or.inl ⟨rfl, lu_R.of (k := 0) (by decide) (by decide)⟩)))))
      refine lr_ok.t h hOB rfl (r := nI (la_cnt (la_here (la_c (la_c (la_c A g 5 1) g 0 0) g 4 0)) (la_n A))) (st := 0) ?_ (fun w1 h1 => ?_)
      · have hB : lc_T (lt_si (lt_si (lt_si w 12 8 (lt_gi w 12 8 ||| (1 <<< (nI g &&& 31)))) (12 + 2) g 0) (12 + 6) g 0) 12 (la_c (la_c (la_c A g 5 1) g 0 0) g 4 0) := by
          refine ((h.c.there ?_).cell (Or.inl ⟨by decide, rfl⟩)).cell (Or.inl ⟨by decide, rfl⟩)
          rw [h.c.2.2.2.1, la_set h7 hg]
          refine la_sb_congr fun i _ => ?_
          unfold la_here la_c
          by_cases ei : i = g
          · simp [ei]
          · simp [ei]
        refine lr_ct.of (w' := lt_si (lt_si (lt_si w 12 8 (lt_gi w 12 8 ||| (1 <<< (nI g &&& 31)))) (12 + 2) g 0) (12 + 6) g 0) ?_ hB ((((lu_Fr.refl _ _ _).si (by decide) (by decide)).si (by decide) (by decide)).si (by decide) (by decide))
        unfold f_X11_come fb_X11_come_0
        rw [hN, lq_hg_y h.c hg, lu_bind, if_neg lu_10, lc_isThere h.c hg, lu_bind, lu_q, if_neg e, lu_let, s2, lu_ck (by omega) (by omega), lu_let, s6, lu_ck (by omega) (by omega), lu_let, nI_clamp (by omega), lc_countThere hB, lu_bind]; rfl
      · have h1' := lr_mT hσ h1
        have hB : lm_T (lt_si (lt_si (lt_si w1 (lt_r σ 233 0) (10 + 7 * g) 0) (lt_r σ 233 0) (10 + 7 * g + 4) 0) (lt_r σ 233 0) (10 + 7 * g + 5) 1) (lt_r σ 233 0) 0 (la_c (la_c (la_c A g 0 0) g 4 0) g 5 1) :=
          ((h1'.cell (f := 0) (by omega) (by decide)).cell (f := 4) (by omega) (by decide)).cell (f := 5) (by omega) (by decide)
        have hE : la_c (la_c (la_c A g 0 0) g 4 0) g 5 1 = la_c (la_c (la_c A g 5 1) g 0 0) g 4 0 := by
          unfold la_c
          refine Prod.ext rfl (funext fun a => funext fun b => ?_)
          simp only []
          by_cases ea : a = g
          · by_cases e5 : b = 5
            · simp [ea, e5]
            · simp [ea, e5]
          · simp [ea]
        rw [hE] at hB
        refine lr_mt.of (w' := lt_si (lt_si (lt_si w1 (lt_r σ 233 0) (10 + 7 * g) 0) (lt_r σ 233 0) (10 + 7 * g + 4) 0) (lt_r σ 233 0) (10 + 7 * g + 5) 1) ?_ (lr_mT' hσ hB) (lr_mD' hσ ((((lm_D.refl _ _).si (by omega) (by omega) (by omega)).si (by omega) (by omega) (by omega)).si (by omega) (by omega) (by omega)))
        unfold f_X12_come fb_X12_come_0
        rw [lq_ig_y hS h1' hg, lu_bind, if_neg lu_10, lm_here hS h1' hg, lu_bind, lu_q, if_neg e, lm_row, lu_bind, hS, lu_ck (by omega) (by decide), lu_let, lm_a4, lu_ck (by omega) (by decide), lu_let, lm_a5, lu_ck (by omega) (by decide), lu_let, nI_clamp (by omega), nI_clamp (by omega), nI_clamp (by omega), lm_areHere hS hB, lu_bind, (la_count hB.2.1).2, lu_bind]; rfl

theorem op_rule1 (hσ : lr_S σ) (h : lr_0 w A) (y : Int32) : lr_ok (f_X11_rule σ 0 1 y) (f_X12_rule σ 233 1 y) w := by
  have hN := lr_now hσ
  have hS := lr_mS hσ
  have hl : f_X12_leastOf 1 = some 0 := rfl
  have hm : f_X12_mostOf 1 = some 16 := rfl
  by_cases c : lq_b y 0 16
  · refine lr_ok.t h (B := la_h A 1 y) (h.O.h (Or.inr (Or.inr (Or.inl ⟨rfl, c.R (by decide) (by decide)⟩)))) (la_n_h (by decide)) (r := 1) (st := 0) ?_ (fun w1 h1 => ?_)
    · refine lr_ct.of (w' := lt_si w 12 1 y) ?_ (h.c.hd (by decide) (by decide)) ((lu_Fr.refl _ _ _).si (by decide) (by decide))
      unfold f_X11_rule fb_X11_rule_0 fb_X11_rule_84
      rw [if_pos rfl, lq_within_y (lo := 0) (hi := 16) 0 16 rfl rfl c, lu_bind, if_neg lu_10, hN]; rfl
    · have h1' := lr_mT hσ h1
      refine lr_mt.of (w' := lt_si w1 234 1 y) ?_ (h1.hd rfl (by decide) (by decide)) ((lm_D.refl _ _).si (by decide) (by decide) (by decide))
      unfold f_X12_rule fb_X12_rule_0
      rw [if_neg (show ¬ (1 : Int32) < 1 by decide), if_neg (show ¬ (3 : Int32) < 1 by decide), hl, lu_bind, hm, lu_bind, lq_from_y (lo := (0 : Int32).toInt64) (hi := (16 : Int32).toInt64) 0 16 rfl rfl (by decide) (by decide) c, lu_bind, if_neg lu_10, hS, lm_k1, lu_let, lm_c1, lr_at hσ]; rfl
  · refine op_refuse h (r := 0) (st := 1) ?_ (fun w1 h1 => ?_)
    · unfold f_X11_rule fb_X11_rule_0 fb_X11_rule_26 fb_X11_rule_52
      rw [if_pos rfl, lq_within_n (lo := 0) (hi := 16) 0 16 rfl rfl c, lu_bind, if_pos rfl, if_neg (show ¬ (1 : Int32) = 2 by decide), if_neg (show ¬ (1 : Int32) = 3 by decide)]; rfl
    · unfold f_X12_rule fb_X12_rule_0
      rw [if_neg (show ¬ (1 : Int32) < 1 by decide), if_neg (show ¬ (3 : Int32) < 1 by decide), hl, lu_bind, hm, lu_bind, lq_from_n (lo := (0 : Int32).toInt64) (hi := (16 : Int32).toInt64) 0 16 rfl rfl (by decide) (by decide) c, lu_bind, if_pos rfl]; rfl
theorem op_rule2 (hσ : lr_S σ) (h : lr_0 w A) (y : Int32) : lr_ok (f_X11_rule σ 0 2 y) (f_X12_rule σ 233 2 y) w := by
  have hN := lr_now hσ
  have hS := lr_mS hσ
  have hl : f_X12_leastOf 2 = some 1 := rfl
  have hm : f_X12_mostOf 2 = some 20 := rfl
  by_cases c : lq_b y 1 20
  · refine lr_ok.t h (B := la_h A 2 y) (h.O.h (Or.inr (Or.inr (Or.inr (Or.inl ⟨rfl, c.R (by decide) (by decide)⟩))))) (la_n_h (by decide)) (r := 1) (st := 0) ?_ (fun w1 h1 => ?_)
    · refine lr_ct.of (w' := lt_si w 12 2 y) ?_ (h.c.hd (by decide) (by decide)) ((lu_Fr.refl _ _ _).si (by decide) (by decide))
      unfold f_X11_rule fb_X11_rule_0 fb_X11_rule_26 fb_X11_rule_84
      rw [if_neg (show ¬ (2 : Int32) = 1 by decide), if_pos rfl, lq_within_y (lo := 1) (hi := 20) 1 20 rfl rfl c, lu_bind, if_neg lu_10, hN]; rfl
    · have h1' := lr_mT hσ h1
      refine lr_mt.of (w' := lt_si w1 234 2 y) ?_ (h1.hd rfl (by decide) (by decide)) ((lm_D.refl _ _).si (by decide) (by decide) (by decide))
      unfold f_X12_rule fb_X12_rule_0
      rw [if_neg (show ¬ (2 : Int32) < 1 by decide), if_neg (show ¬ (3 : Int32) < 2 by decide), hl, lu_bind, hm, lu_bind, lq_from_y (lo := (1 : Int32).toInt64) (hi := (20 : Int32).toInt64) 1 20 rfl rfl (by decide) (by decide) c, lu_bind, if_neg lu_10, hS, lm_k2, lu_let, lm_c2, lr_at hσ]; rfl
  · refine op_refuse h (r := 0) (st := 1) ?_ (fun w1 h1 => ?_)
    · unfold f_X11_rule fb_X11_rule_0 fb_X11_rule_26 fb_X11_rule_52
      rw [if_neg (show ¬ (2 : Int32) = 1 by decide), if_pos rfl, lq_within_n (lo := 1) (hi := 20) 1 20 rfl rfl c, lu_bind, if_pos rfl, if_neg (show ¬ (2 : Int32) = 3 by decide)]; rfl
    · unfold f_X12_rule fb_X12_rule_0
      rw [if_neg (show ¬ (2 : Int32) < 1 by decide), if_neg (show ¬ (3 : Int32) < 2 by decide), hl, lu_bind, hm, lu_bind, lq_from_n (lo := (1 : Int32).toInt64) (hi := (20 : Int32).toInt64) 1 20 rfl rfl (by decide) (by decide) c, lu_bind, if_pos rfl]; rfl
theorem op_rule3 (hσ : lr_S σ) (h : lr_0 w A) (y : Int32) : lr_ok (f_X11_rule σ 0 3 y) (f_X12_rule σ 233 3 y) w := by
  have hN := lr_now hσ
  have hS := lr_mS hσ
  have hl : f_X12_leastOf 3 = some 1 := rfl
  have hm : f_X12_mostOf 3 = some 6 := rfl
  by_cases c : lq_b y 1 6
  · refine lr_ok.t h (B := la_h A 3 y) (h.O.h (Or.inr (Or.inr (Or.inr (Or.inr (Or.inl ⟨rfl, c.R (by decide) (by decide)⟩)))))) (la_n_h (by decide)) (r := 1) (st := 0) ?_ (fun w1 h1 => ?_)
    · refine lr_ct.of (w' := lt_si w 12 3 y) ?_ (h.c.hd (by decide) (by decide)) ((lu_Fr.refl _ _ _).si (by decide) (by decide))
      unfold f_X11_rule fb_X11_rule_0 fb_X11_rule_26 fb_X11_rule_52 fb_X11_rule_84
      rw [if_neg (show ¬ (3 : Int32) = 1 by decide), if_neg (show ¬ (3 : Int32) = 2 by decide), if_pos rfl, lq_within_y (lo := 1) (hi := 6) 1 6 rfl rfl c, lu_bind, if_neg lu_10, hN]; rfl
    · have h1' := lr_mT hσ h1
      refine lr_mt.of (w' := lt_si w1 234 3 y) ?_ (h1.hd rfl (by decide) (by decide)) ((lm_D.refl _ _).si (by decide) (by decide) (by decide))
      unfold f_X12_rule fb_X12_rule_0
      rw [if_neg (show ¬ (3 : Int32) < 1 by decide), if_neg (show ¬ (3 : Int32) < 3 by decide), hl, lu_bind, hm, lu_bind, lq_from_y (lo := (1 : Int32).toInt64) (hi := (6 : Int32).toInt64) 1 6 rfl rfl (by decide) (by decide) c, lu_bind, if_neg lu_10, hS, lm_k3, lu_let, lm_c3, lr_at hσ]; rfl
  · refine op_refuse h (r := 0) (st := 1) ?_ (fun w1 h1 => ?_)
    · unfold f_X11_rule fb_X11_rule_0 fb_X11_rule_26 fb_X11_rule_52
      rw [if_neg (show ¬ (3 : Int32) = 1 by decide), if_neg (show ¬ (3 : Int32) = 2 by decide), if_pos rfl, lq_within_n (lo := 1) (hi := 6) 1 6 rfl rfl c, lu_bind, if_pos rfl]; rfl
    · unfold f_X12_rule fb_X12_rule_0
      rw [if_neg (show ¬ (3 : Int32) < 1 by decide), if_neg (show ¬ (3 : Int32) < 3 by decide), hl, lu_bind, hm, lu_bind, lq_from_n (lo := (1 : Int32).toInt64) (hi := (6 : Int32).toInt64) 1 6 rfl rfl (by decide) (by decide) c, lu_bind, if_pos rfl]; rfl
theorem op_rule (hσ : lr_S σ) (h : lr_0 w A) (x y : Int32) : lr_ok (f_X11_rule σ 0 x y) (f_X12_rule σ 233 x y) w := by
  by_cases e1 : x = 1
  · subst e1; exact op_rule1 hσ h y
  by_cases e2 : x = 2
  · subst e2; exact op_rule2 hσ h y
  by_cases e3 : x = 3
  · subst e3; exact op_rule3 hσ h y
  refine op_refuse h (r := 0) (st := 1) ?_ (fun w1 h1 => ?_)
  · unfold f_X11_rule fb_X11_rule_0 fb_X11_rule_26 fb_X11_rule_52
    rw [if_neg e1, if_neg e2, if_neg e3]; rfl
  · unfold f_X12_rule fb_X12_rule_0
    by_cases c : x < 1
    · rw [if_pos c]; rfl
    · rw [if_neg c, if_pos]
      · rfl
      · refine Int32.not_le.mp fun z => ?_
        obtain ⟨j, j1, j3, rfl⟩ := lu_R.in (a := 1) (b := 3) (by decide) (by decide) (Int32.not_lt.mp c) z
        have : j = 1 ∨ j = 2 ∨ j = 3 := by omega
        rcases this with rfl | rfl | rfl
        · exact e1 rfl
        · exact e2 rfl
        · exact e3 rfl
end OPS2