/-! THE TABLE'S TEXT: any part; all parts -/
section TLO
variable {σ : lt_S} {w w0 wc wm : lt_W} {T : Nat → Nat} {L p : Nat} {A : la_A} {t : Nat → Bool}
theorem tt_set1 (hσ : lr_S σ) (h : tk_S w w0 T L p wc wm) (hD : tt_D A t wc wm) (hK : tx_K T L p = 1) : tk_O (tt_Q w w0 T L p) (tk_E w w0) (f_X6_takeSetting σ 29 (nI 1) wc) (f_X12_tablePart σ 233 wm) := by
  have r29 : lt_r σ 29 0 = 10 := hσ.r 29 0 (by decide) (by decide)
  have r291 : lt_r σ 29 1 = 30 := hσ.r 29 1 (by decide) (by decide)
  refine tt_setting hσ h hD 1 0 16 (by decide) (by decide) (by decide) (by decide) hK (fun u => ?_) (by decide +kernel) (by decide +kernel) (fun v hv => hD.1.h (by exact Or.inr (Or.inr (Or.inl ⟨rfl, hv⟩))))
  unfold f_X6_takeSettingsNumber fb_X6_takeSettingsNumber_0
  rw [if_pos (show nI 1 = 1 from rfl), r29, r291]
  rfl
theorem tt_set2 (hσ : lr_S σ) (h : tk_S w w0 T L p wc wm) (hD : tt_D A t wc wm) (hK : tx_K T L p = 2) : tk_O (tt_Q w w0 T L p) (tk_E w w0) (f_X6_takeSetting σ 29 (nI 2) wc) (f_X12_tablePart σ 233 wm) := by
  have r29 : lt_r σ 29 0 = 10 := hσ.r 29 0 (by decide) (by decide)
  have r291 : lt_r σ 29 1 = 30 := hσ.r 29 1 (by decide) (by decide)
  refine tt_setting hσ h hD 2 1 20 (by decide) (by decide) (by decide) (by decide) hK (fun u => ?_) (by decide +kernel) (by decide +kernel) (fun v hv => hD.1.h (by exact Or.inr (Or.inr (Or.inr (Or.inl ⟨rfl, hv⟩)))))
  unfold f_X6_takeSettingsNumber fb_X6_takeSettingsNumber_0
  rw [if_neg (show ¬ nI 2 = 1 by decide), if_pos (show nI 2 = 2 from rfl), r29, r291]
  rfl
theorem tt_set3 (hσ : lr_S σ) (h : tk_S w w0 T L p wc wm) (hD : tt_D A t wc wm) (hK : tx_K T L p = 3) : tk_O (tt_Q w w0 T L p) (tk_E w w0) (f_X6_takeSetting σ 29 (nI 3) wc) (f_X12_tablePart σ 233 wm) := by
  have r29 : lt_r σ 29 0 = 10 := hσ.r 29 0 (by decide) (by decide)
  have r291 : lt_r σ 29 1 = 30 := hσ.r 29 1 (by decide) (by decide)
  refine tt_setting hσ h hD 3 1 6 (by decide) (by decide) (by decide) (by decide) hK (fun u => ?_) (by decide +kernel) (by decide +kernel) (fun v hv => hD.1.h (by exact Or.inr (Or.inr (Or.inr (Or.inr (Or.inl ⟨rfl, hv⟩))))))
  unfold f_X6_takeSettingsNumber fb_X6_takeSettingsNumber_0
  rw [if_neg (show ¬ nI 3 = 1 by decide), if_neg (show ¬ nI 3 = 2 by decide), if_pos (show nI 3 = 3 from rfl), r29, r291]
  rfl
theorem tt_set4 (hσ : lr_S σ) (h : tk_S w w0 T L p wc wm) (hD : tt_D A t wc wm) (hK : tx_K T L p = 4) : tk_O (tt_Q w w0 T L p) (tk_E w w0) (f_X6_takeSetting σ 29 (nI 4) wc) (f_X12_tablePart σ 233 wm) := by
  have r29 : lt_r σ 29 0 = 10 := hσ.r 29 0 (by decide) (by decide)
  have r291 : lt_r σ 29 1 = 30 := hσ.r 29 1 (by decide) (by decide)
  refine tt_setting hσ h hD 4 1 60 (by decide) (by decide) (by decide) (by decide) hK (fun u => ?_) (by decide +kernel) (by decide +kernel) (fun v hv => hD.1.h (by exact Or.inr (Or.inr (Or.inr (Or.inr (Or.inr ⟨rfl, hv⟩))))))
  unfold f_X6_takeSettingsNumber fb_X6_takeSettingsNumber_0
  rw [if_neg (show ¬ nI 4 = 1 by decide), if_neg (show ¬ nI 4 = 2 by decide), if_neg (show ¬ nI 4 = 3 by decide), if_pos (show nI 4 = 4 from rfl), r29, r291]
  rfl
theorem tt_set5 (hσ : lr_S σ) (h : tk_S w w0 T L p wc wm) (hD : tt_D A t wc wm) (hK : tx_K T L p = 5) : tk_O (tt_Q w w0 T L p) (tk_E w w0) (f_X6_takeSetting σ 29 (nI 5) wc) (f_X12_tablePart σ 233 wm) := by
  have r29 : lt_r σ 29 0 = 10 := hσ.r 29 0 (by decide) (by decide)
  have r291 : lt_r σ 29 1 = 30 := hσ.r 29 1 (by decide) (by decide)
  refine tt_setting hσ h hD 5 0 60 (by decide) (by decide) (by decide) (by decide) hK (fun u => ?_) (by decide +kernel) (by decide +kernel) (fun v hv => hD.1.h (by exact Or.inl ⟨rfl, hv⟩))
  unfold f_X6_takeSettingsNumber fb_X6_takeSettingsNumber_0
  rw [if_neg (show ¬ nI 5 = 1 by decide), if_neg (show ¬ nI 5 = 2 by decide), if_neg (show ¬ nI 5 = 3 by decide), if_neg (show ¬ nI 5 = 4 by decide), r29, r291]
  rfl
/-- what the class does with a part -/
def tt_c1 (σ : lt_S) (wc : lt_W) : Option (Int32 × lt_W) := if lt_gi wc 10 5 = 6 then f_X6_takeGuest σ 29 wc else if lt_gi wc 10 5 = 12 then f_X6_takeButter σ 29 wc else f_X6_takeSetting σ 29 (lt_gi wc 10 5) wc
theorem tt_step (hσ : lr_S σ) (h : tk_S w w0 T L p wc wm) (hD : tt_D A t wc wm) : tk_O (tt_Q w w0 T L p) (tk_E w w0) (tt_c1 σ wc) (f_X12_tablePart σ 233 wm) := by
  have hKr := tx_K_r T h.1.2.1
  unfold tt_c1
  by_cases k6 : tx_K T L p = 6
  · rw [if_pos (show lt_gi wc 10 5 = 6 from (tp_kind h (by decide)).mpr k6)]
    exact tt_guest hσ h hD k6
  rw [if_neg (show ¬ lt_gi wc 10 5 = 6 from fun z => k6 ((tp_kind h (c := 6) (by decide)).mp z))]
  by_cases k12 : tx_K T L p = 12
  · rw [if_pos (show lt_gi wc 10 5 = 12 from (tp_kind h (by decide)).mpr k12)]
    exact tt_butter hσ h hD k12
  rw [if_neg (show ¬ lt_gi wc 10 5 = 12 from fun z => k12 ((tp_kind h (c := 12) (by decide)).mp z))]
  by_cases k1 : tx_K T L p = 1
  · rw [(tp_kind h (c := 1) (by decide)).mpr k1]
    exact tt_set1 hσ h hD k1
  by_cases k2 : tx_K T L p = 2
  · rw [(tp_kind h (c := 2) (by decide)).mpr k2]
    exact tt_set2 hσ h hD k2
  by_cases k3 : tx_K T L p = 3
  · rw [(tp_kind h (c := 3) (by decide)).mpr k3]
    exact tt_set3 hσ h hD k3
  by_cases k4 : tx_K T L p = 4
  · rw [(tp_kind h (c := 4) (by decide)).mpr k4]
    exact tt_set4 hσ h hD k4
  by_cases k5 : tx_K T L p = 5
  · rw [(tp_kind h (c := 5) (by decide)).mpr k5]
    exact tt_set5 hσ h hD k5
  have r29 : lt_r σ 29 0 = 10 := hσ.r 29 0 (by decide) (by decide)
  have hno : ¬ lq_b (lt_gi wc 10 5) 1 5 := by
    rw [h.1.2.2.2.1]
    unfold tx_ck lq_b
    by_cases z : tx_K T L p = 99
    · rw [if_pos z]; decide
    · rw [if_neg z]
      rintro ⟨z1, z2⟩
      have := (nI_leI (by omega) (by omega)).mp z1
      have := (nI_leI (by omega) (by omega)).mp z2
      omega
  unfold f_X6_takeSetting fb_X6_takeSetting_0
  rw [lq_within_n (lo := 1) (hi := 5) 1 5 rfl rfl hno, lu_bind, if_pos rfl, r29]
  have e17 : f_X12_tablePart σ 233 wm = fb_X12_tablePart_17 σ 233 wm := by
    obtain ⟨v, v1, v2, v3⟩ := tp_words hσ h
    unfold f_X12_tablePart fb_X12_tablePart_0
    rw [v1, lu_bind]
    rcases v3 with v3 | ⟨v3, v4, v5⟩
    · rw [v3, if_pos (by decide)]
    · have hm : 6 < tx_m (tx_K T L p) ∧ tx_m (tx_K T L p) < 23 := by
        have key : ∀ x : Fin 24, 7 ≤ x.1 → x.1 ≠ 12 → 6 < tx_m x.1 ∧ tx_m x.1 < 23 := by decide +kernel
        exact key ⟨tx_K T L p, by omega⟩ (show 7 ≤ tx_K T L p by omega) k12
      rw [v3, if_neg (nI_pos (by omega)), if_neg (show ¬ nI (tx_m (tx_K T L p)) ≤ 6 from nI_ge (a := 6) hm.1 (by omega))]
  rw [e17]
  exact tp_failz h 2 (by decide) (by decide)
theorem tt_k0 (h : tk_S w w0 T L p wc wm) : lt_gi wm 233 12 = 0 ↔ tx_K T L p = 0 := by
  rw [h.2.1.2.2.2.1]; unfold tx_mk
  by_cases z0 : tx_K T L p = 0
  · rw [if_pos z0]; exact ⟨fun _ => z0, fun _ => rfl⟩
  · rw [if_neg z0]
    refine ⟨fun e => absurd e ?_, fun e => absurd e z0⟩
    by_cases z9 : tx_K T L p = 99
    · rw [if_pos z9]; decide
    · rw [if_neg z9]
      by_cases z5 : tx_K T L p ≤ 25
      · rw [if_pos z5]; decide
      · rw [if_neg z5]
        by_cases z6 : tx_K T L p = 26
        · rw [if_pos z6]; decide
        · rw [if_neg z6]; decide
theorem tt_loop (hσ : lr_S σ) : ∀ (r c p : Nat) (A : la_A) (t : Nat → Bool) (wc wm : lt_W) (f f' : Nat), L - p ≤ r → c ≤ p → tk_S w w0 T L p wc wm → tt_D A t wc wm → r + 2 ≤ f → r + 2 ≤ f' → (∃ wc' wm', fb_X6_isTable_16 σ 29 f 1 (nI c) wc = some (0, wc') ∧ fb_X12_table_31 σ 233 f' 1 wm = fb_X12_table_50 σ 233 wm' ∧ tk_E w w0 wc' wm') ∨ (∃ wc' wm' A' t' p', fb_X6_isTable_16 σ 29 f 1 (nI c) wc = some (1, wc') ∧ fb_X12_table_31 σ 233 f' 1 wm = fb_X12_table_50 σ 233 wm' ∧ tk_S w w0 T L p' wc' wm' ∧ tt_D A' t' wc' wm') := by
  have r29 : lt_r σ 29 0 = 10 := hσ.r 29 0 (by decide) (by decide)
  intro r
  induction r with
  | zero =>
    intro c p A t wc wm f f' hr hc h hD hf hf'
    obtain ⟨f, rfl⟩ : ∃ g, f = g + 1 := ⟨f - 1, by omega⟩
    obtain ⟨f', rfl⟩ : ∃ g, f' = g + 1 := ⟨f' - 1, by omega⟩
    have hp := h.1.2.1
    have hL := h.1.1.1
    have hK : tx_K T L p = 0 := by
      have hN := tx_N_gt T hp
      by_cases z : tx_K T L p = 0
      · exact z
      · have := hN.2.2.2 z; omega
    refine Or.inr ⟨wc, wm, A, t, p, ?_, ?_, h, hD⟩
    · rw [fb_X6_isTable_16, if_neg (show ¬ (900 : Int32) < nI c from nI_nlt (a := 900) (by omega) (by decide)), if_neg lu_10, r29, if_pos (show lt_gi wc 10 5 = 0 from (tp_kind h (by decide)).mpr hK)]; rfl
    · rw [fb_X12_table_31, if_neg lu_10, if_pos ((tt_k0 h).mpr hK)]
  | succ r ih =>
    intro c p A t wc wm f f' hr hc h hD hf hf'
    obtain ⟨f, rfl⟩ : ∃ g, f = g + 1 := ⟨f - 1, by omega⟩
    obtain ⟨f', rfl⟩ : ∃ g, f' = g + 1 := ⟨f' - 1, by omega⟩
    have hp := h.1.2.1
    have hL := h.1.1.1
    by_cases hK : tx_K T L p = 0
    · refine Or.inr ⟨wc, wm, A, t, p, ?_, ?_, h, hD⟩
      · rw [fb_X6_isTable_16, if_neg (show ¬ (900 : Int32) < nI c from nI_nlt (a := 900) (by omega) (by decide)), if_neg lu_10, r29, if_pos (show lt_gi wc 10 5 = 0 from (tp_kind h (by decide)).mpr hK)]; rfl
      · rw [fb_X12_table_31, if_neg lu_10, if_pos ((tt_k0 h).mpr hK)]
    · have e1 : fb_X6_isTable_16 σ 29 (f + 1) 1 (nI c) wc = Option.bind (tt_c1 σ wc) (fun q => fb_X6_isTable_16 σ 29 f q.1 (nI (c + 1)) q.2) := by
        rw [fb_X6_isTable_16, if_neg (show ¬ (900 : Int32) < nI c from nI_nlt (a := 900) (by omega) (by decide)), if_neg lu_10, r29, if_neg (show ¬ lt_gi wc 10 5 = 0 from fun z => hK ((tp_kind h (c := 0) (by decide)).mp z)), nI_1]
        unfold tt_c1
        by_cases c6 : lt_gi wc 10 5 = 6
        · rw [if_pos c6, if_pos c6]
        · rw [if_neg c6, if_neg c6]
          by_cases c12 : lt_gi wc 10 5 = 12
          · rw [if_pos c12, if_pos c12]
          · rw [if_neg c12, if_neg c12]
      have e2 : fb_X12_table_31 σ 233 (f' + 1) 1 wm = Option.bind (f_X12_tablePart σ 233 wm) (fun q => fb_X12_table_31 σ 233 f' q.1 q.2) := by
        rw [fb_X12_table_31, if_neg lu_10, if_neg (fun z => hK ((tt_k0 h).mp z))]
      rw [e1, e2]
      rcases tt_step hσ h hD with ⟨x, y, a1, a2, a3⟩ | ⟨x, y, a1, a2, p', A', t', a3, a4, a5⟩
      · rw [a1, a2, lu_bind, lu_bind]
        refine Or.inl ⟨x, y, ?_, ?_, a3⟩
        · obtain ⟨g, rfl⟩ : ∃ g, f = g + 1 := ⟨f - 1, by omega⟩
          show fb_X6_isTable_16 σ 29 (g + 1) 0 _ x = _
          rw [fb_X6_isTable_16]
          split
          · rfl
          · rw [if_pos rfl]; rfl
        · obtain ⟨g, rfl⟩ : ∃ g, f' = g + 1 := ⟨f' - 1, by omega⟩
          show fb_X12_table_31 σ 233 (g + 1) 0 y = _
          rw [fb_X12_table_31, if_pos rfl]
      · rw [a1, a2, lu_bind, lu_bind]
        exact ih (c + 1) p' A' t' x y f f' (by omega) (by omega) a4 a5 (by omega) (by omega)
end TLO