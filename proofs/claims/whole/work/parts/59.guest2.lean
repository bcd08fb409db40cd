/-! THE TABLE'S TEXT: a guest, the whole part -/
section TQ
variable {σ : lt_S} {w w0 wc wm : lt_W} {T : Nat → Nat} {L p : Nat} {A : la_A} {t : Nat → Bool}
theorem tx_Ct.nm {u : lt_W} (h : tx_Ct u T L p) (hK : tx_K T L p = 24) : lt_gl u 10 6 = lN (lr_e5 (tx_w T L p)) := h.2.2.2.2.2.1 (by omega) (by omega)
theorem tt_g2 (hσ : lr_S σ) (h : tk_S w w0 T L p wc wm) (hD : tt_D A t wc wm) (hK : tx_K T L p = 6) : tk_O2 (tt_Q1 w w0 T L p t) (tk_E w w0) (fun u => fb_X6_takeGuest_286 σ 29 u) (f_X6_takeGuest σ 29 wc) (f_X12_aGuest σ 233 wm) := by
  have r29 : lt_r σ 29 0 = 10 := hσ.r 29 0 (by decide) (by decide)
  have r291 : lt_r σ 29 1 = 30 := hσ.r 29 1 (by decide) (by decide)
  obtain ⟨⟨-, s0, s1, s2, s3, s4, s5, s6, s7⟩, l1, l2, l3, l4, l5, l6, l7, l8⟩ := lr_tab hσ (o := 30) (by decide)
  obtain ⟨hO, hc, hm, hN, hB⟩ := hD
  have h7 := hO.2.1
  have n1 : lt_gi wc 30 0 = nI (la_n A) := lc_n hc
  have n2 : lt_gi wm 234 1712 = nI (la_n A) := (hm.2.2.1 0 (by decide)).trans hm.1
  have e12 : ∀ {α : Type} (y : Option α), lt_ck 1712 2560 y = y := fun y => lu_ck (i := 1712) (by decide) (by decide)
  unfold f_X6_takeGuest fb_X6_takeGuest_0 f_X12_aGuest fb_X12_aGuest_0
  rw [r29, r291, s1, s2, s3, l2, l3, l4, n1, lr_at hσ, lq_l234 hσ, lq_r233_1 hσ, lq_l235 hσ, e12, show (1712 : Int32).toNatClampNeg = 1712 from rfl, n2, lu_let, lm_row, lu_bind]
  by_cases hn : la_n A < 7
  · rw [if_pos (show nI (la_n A) < 7 from nI_lt (b := 7) hn (by decide)), if_neg (show ¬ nI (la_n A) = 7 from fun z => by have := (nI_eq (b := 7) (by omega) (by decide)).mp z; omega)]
    obtain ⟨wc1, wm1, a1, b1, hS1, hF1, hF2⟩ := tp_adv hσ h (by omega)
    rw [a1, lu_bind, b1, lu_bind, tx_isNm hσ hS1.2.1, lu_bind]
    have k24 := tp_kind hS1 (c := 24) (by decide)
    by_cases hK1 : tx_K T L (tx_N T L p) = 24
    · rw [if_pos (show lt_gi wc1 10 5 = 24 from k24.mpr hK1), if_pos hK1, if_neg lu_10, hS1.1.nm hK1]
      have hc1 := hc.Fk hF1
      have hm1 := hm.Fm hF2
      have hN1 := hN.F hF1 hF2
      have hB1 := hB.F hF1 hF2
      have hw := tx_w_L T hS1.1.2.1
      have hw8 := (tx_w_8 T hS1.1.2.1 (by omega) (by omega)).1
      have hh := tx_nmM hσ hS1.2.1 (by omega) (by omega)
      obtain ⟨v, v1, v2, v3⟩ := tx_find2 hσ (o := 30) (nb := 28) s0 l1 h7 (by decide) (lc_n hc1) hN1 hw hw8 hh
      rw [v1, lu_bind, show f_X12_findHere σ 233 28 (nI (la_n A)) wm1 = some v from v2, lu_bind]
      by_cases hv : v = -1
      · rw [if_pos hv, if_pos hv, hh, lu_bind, show (28 : Int32) + nI (la_n A) = nI (28 + la_n A) from nI_add 28 _, lu_ck (i := 28 + la_n A) (by omega) (by decide), lu_let, nI_clamp (n := 28 + la_n A) (by omega)]
        obtain ⟨wc2, p1, p2, p3, p4⟩ := lc_seat (lr_tab hσ (o := 30) (by decide)) hc1 hn (lN (lr_e5 (tx_w T L (tx_N T L p))))
        rw [p1, lu_bind]
        have p3' : ∀ a k, ¬ (a = 31 ∧ k = la_n A) → lt_gl wc2 a k = lt_gl wc1 a k := fun a k z => by
          rw [p3, lu_glsl, if_neg z]
        have hS2 : tk_S w w0 T L (tx_N T L p) wc2 (lt_sl wm1 235 (28 + la_n A) (lN (lr_e8 (tx_w T L (tx_N T L p))))) :=
          (hS1.cC p4 (fun a k z => p3' a k (by omega))).ml (by omega) (by omega)
        have hM2 : tt_M A (la_sit A) t 0 0 wc2 (lt_sl wm1 235 (28 + la_n A) (lN (lr_e8 (tx_w T L (tx_N T L p))))) := by
          refine ⟨⟨hO, hn⟩, ⟨la_Ok_sit hO hn, la_n_sit h7⟩, ⟨fun _ => rfl, fun g f hg => la_sit_o hg, fun _ _ => rfl, la_sit_g⟩, p2, hm1, fun i hi => absurd hi (Nat.not_lt_zero _), fun g hg => ?_, ?_⟩
          · rw [lu_glsl]
            by_cases e : g = la_n A
            · rw [if_pos ⟨rfl, by omega⟩, e, p3, lu_glsl, if_pos ⟨rfl, rfl⟩]
              exact ⟨_, hw8, hw, rfl, rfl⟩
            · rw [if_neg (fun z => by omega), p3' _ _ (by omega)]
              exact hN1 g (by omega)
          · exact ⟨(p4 _ _ (by omega)).trans hB1.1, hB1.2.1, hB1.2.2⟩
        have R0 : (1712 : Int32) + nI (10 + 7 * la_n A) = nI (1712 + (10 + 7 * la_n A)) := nI_add 1712 _
        rw [R0, nI_1 (1712 + (10 + 7 * la_n A)), lm_a2, lm_a3]
        obtain ⟨wc3, wm3, a3, b3, hS3, hF3, hF4⟩ := tp_adv hσ hS2 (by omega)
        have hM3 := hM2.F hF3 hF4
        rw [a3, lu_bind, b3, lu_bind]
        have q1 := tp_gt h (by omega)
        have q2 := tp_ge hS1
        -- wish
        refine tk_O.bind2 (show tk_O _ _ (f_X7_take σ 10 7 wc3) (f_X12_wantWord σ 233 7 wm3) from tp_word hσ hS3 7 (by decide) (by decide)) (fun x4 y4 hP4 => ?_) (fun _ _ => ⟨if_pos rfl, if_pos rfl⟩)
        have q3 := tp_ge hS3
        have hM4 := hM3.F hP4.2.1 hP4.2.2
        dsimp only
        rw [if_neg lu_10, if_neg lu_10]
        refine tk_O.bind2 (show tk_O _ _ (f_X7_takeNumber σ 10 0 20 x4) (f_X12_number σ 233 (nI (1712 + (10 + 7 * la_n A))) 0 20 y4) from tp_num hσ hP4.1 (1712 + (10 + 7 * la_n A)) 0 20 (by omega) (by omega) (by decide) (by decide)) (fun x5 y5 hP5 => ?_) (fun _ _ => ⟨if_pos rfl, if_pos rfl⟩)
        have q4 := tp_ge hP4.1
        obtain ⟨hS5, f5, g5, v5, r5, r5'⟩ := hP5
        have hM5 := hM4.num (j := 0) (by decide) rfl ⟨_, r5, r5', rfl⟩ f5 g5
        have hS5' := hS5.ci (b := 32) (k := la_n A) (v := nI (tx_V T L (tx_N T L (tx_N T L (tx_N T L p))))) (by omega)
        dsimp only
        rw [if_neg lu_10, if_neg lu_10, lu_ck hn (by decide), nI_clamp (by omega), v5, lu_let]
        -- bears
        refine tk_O.bind2 (show tk_O _ _ (f_X7_take σ 10 8 _) (f_X12_wantWord σ 233 8 y5) from tp_word hσ hS5' 8 (by decide) (by decide)) (fun x6 y6 hP6 => ?_) (fun _ _ => ⟨if_pos rfl, if_pos rfl⟩)
        have q5 := tp_ge hS5
        have hM6 := hM5.F hP6.2.1 hP6.2.2
        dsimp only
        rw [if_neg lu_10, if_neg lu_10]
        refine tk_O.bind2 (show tk_O _ _ (f_X7_takeNumber σ 10 0 20 x6) (f_X12_number σ 233 (nI (1712 + (10 + 7 * la_n A) + 1)) 0 20 y6) from tp_num hσ hP6.1 (1712 + (10 + 7 * la_n A) + 1) 0 20 (by omega) (by omega) (by decide) (by decide)) (fun x7 y7 hP7 => ?_) (fun _ _ => ⟨if_pos rfl, if_pos rfl⟩)
        have q6 := tp_ge hP6.1
        obtain ⟨hS7, f7, g7, v7, r7, r7'⟩ := hP7
        have hM7 := hM6.num (j := 1) (by decide) rfl ⟨_, r7, r7', rfl⟩ f7 g7
        have hS7' := hS7.ci (b := 33) (k := la_n A) (v := nI (tx_V T L (tx_N T L (tx_N T L (tx_N T L (tx_N T L (tx_N T L p))))))) (by omega)
        dsimp only
        rw [if_neg lu_10, if_neg lu_10, lu_ck hn (by decide), v7, lu_let]
        -- dear
        refine tk_O.bind2 (show tk_O _ _ (f_X7_take σ 10 9 _) (f_X12_wantWord σ 233 9 y7) from tp_word hσ hS7' 9 (by decide) (by decide)) (fun x8 y8 hP8 => ?_) (fun _ _ => ⟨if_pos rfl, if_pos rfl⟩)
        have q7 := tp_ge hS7
        have hM8 := hM7.F hP8.2.1 hP8.2.2
        dsimp only
        rw [if_neg lu_10, if_neg lu_10]
        refine tk_O.bind2 (show tk_O _ _ (f_X7_takeNumber σ 10 0 20 x8) (f_X12_number σ 233 (nI (1712 + (10 + 7 * la_n A) + 2)) 0 20 y8) from tp_num hσ hP8.1 (1712 + (10 + 7 * la_n A) + 2) 0 20 (by omega) (by omega) (by decide) (by decide)) (fun x9 y9 hP9 => ?_) (fun _ _ => ⟨if_pos rfl, if_pos rfl⟩)
        have q8 := tp_ge hP8.1
        obtain ⟨hS9, f9, g9, v9, r9, r9'⟩ := hP9
        have hM9 := hM8.num (j := 2) (by decide) rfl ⟨_, r9, r9', rfl⟩ f9 g9
        have hS9' := hS9.ci (b := 34) (k := la_n A) (v := nI (tx_V T L (tx_N T L (tx_N T L (tx_N T L (tx_N T L (tx_N T L (tx_N T L (tx_N T L p))))))))) (by omega)
        dsimp only
        rw [if_neg lu_10, if_neg lu_10, lu_ck hn (by decide), v9, lu_let]
        exact tt_kinds hσ (by omega) hS9' hM9
      · rw [if_neg hv, if_neg hv]
        exact (tp_failz hS1 3 (by decide) (by decide)).fail2
    · rw [if_neg (show ¬ lt_gi wc1 10 5 = 24 from fun z => hK1 (k24.mp z)), if_neg hK1, if_pos rfl]
      exact (tp_failz hS1 2 (by decide) (by decide)).fail2
  · have e7 : la_n A = 7 := by omega
    rw [e7, if_neg (show ¬ nI 7 < 7 by decide), if_pos (show nI 7 = 7 from rfl)]
    exact (tp_failz h 6 (by decide) (by decide)).fail2
theorem tt_guest (hσ : lr_S σ) (h : tk_S w w0 T L p wc wm) (hD : tt_D A t wc wm) (hK : tx_K T L p = 6) : tk_O (tt_Q w w0 T L p) (tk_E w w0) (f_X6_takeGuest σ 29 wc) (f_X12_tablePart σ 233 wm) := by
  have r29 : lt_r σ 29 0 = 10 := hσ.r 29 0 (by decide) (by decide)
  unfold f_X12_tablePart fb_X12_tablePart_0
  rw [tx_inM hσ h.2.1, lu_bind, if_pos (show 1 ≤ tx_K T L p ∧ tx_K T L p ≤ 23 by omega), hK, show nI (tx_m 6) = 5 from rfl, if_neg (by decide), if_pos (by decide), if_pos rfl]
  rcases tt_g2 hσ h hD hK with ⟨x, y, e1, e2, e3⟩ | ⟨x, y, e1, e2, p', B, e3, e4, e5⟩
  · rw [e1, e2, lu_bind]
    exact Or.inl ⟨x, y, rfl, if_pos rfl, e3⟩
  · rw [e1, e2, lu_bind, if_neg lu_10]
    dsimp only
    unfold fb_X6_takeGuest_286
    rw [r29]
    rcases tp_sign hσ e4 59 (by decide) (by decide) with ⟨x2, y2, f1, f2, f3⟩ | ⟨x2, y2, f1, f2, f3⟩
    · rw [show f_X7_take σ 10 59 x = _ from f1, show f_X12_wantSign σ 233 59 y = _ from f2, lu_bind, lu_bind]
      exact Or.inl ⟨x2, y2, rfl, if_pos rfl, f3⟩
    · rw [show f_X7_take σ 10 59 x = _ from f1, show f_X12_wantSign σ 233 59 y = _ from f2, lu_bind, lu_bind]
      have := tp_ge e4
      exact Or.inr ⟨x2, y2, rfl, if_neg lu_10, _, B, t, by omega, f3.1, e5.F f3.2.1 f3.2.2⟩
end TQ