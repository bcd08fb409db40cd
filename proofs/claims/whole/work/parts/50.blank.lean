/-! THE TEXTS: blanks, both sides -/
section TS
variable {σ : lt_S}
theorem tx_skipC (hσ : lr_S σ) {T : Nat → Nat} {L p : Nat} (hp : p ≤ L) : ∀ r e (w : lt_W), tx_C w T L → p ≤ e → e + r = tx_end (tx_isB T) L p → lt_gi w 10 3 = nI e → ∃ w', (∀ f, fb_X7_advance_0 σ 10 (f + r) w = fb_X7_advance_0 σ 10 f w') ∧ lt_gi w' 10 3 = nI (tx_end (tx_isB T) L p) ∧ (∀ a k, ¬ (a = 10 ∧ k = 3) → lt_gi w' a k = lt_gi w a k) ∧ ∀ a k, lt_gl w' a k = lt_gl w a k := by
  obtain ⟨s1, s2, s3, s4⟩ := tx_end_spec (tx_isB T) hp
  intro r
  induction r with
  | zero =>
    intro e w hC pe er h3
    obtain rfl : e = tx_end (tx_isB T) L p := by omega
    exact ⟨w, fun _ => rfl, h3, fun _ _ _ => rfl, fun _ _ => rfl⟩
  | succ r ih =>
    intro e w hC pe er h3
    have heL : e < L := by omega
    have hs := s3 e pe (by omega)
    obtain ⟨c1, c2, c3⟩ := hC
    have hse : T e = 32 ∨ T e = 10 := by
      unfold tx_isB at hs
      exact of_decide_eq_true hs
    obtain ⟨w', y1, y2, y3, y4⟩ := ih (e + 1) (lt_si w 10 3 (nI (e + 1))) ⟨c1, (lu_ne (by omega)).trans c2, fun k hk => ⟨(c3 k hk).1, (lu_ne (by omega)).trans (c3 k hk).2⟩⟩ (by omega) (by omega) lu_eq
    refine ⟨w', fun f => ?_, y2, fun a k z => by rw [y3 a k z, lu_ne (by omega)], fun a k => y4 a k⟩
    rw [show f + (r + 1) = f + r + 1 from rfl, fb_X7_advance_0, c2, h3, if_neg (nI_ge heL (by omega)), lq_r10_0 hσ, lq_l11 hσ, lu_ck (by omega) (by decide), nI_clamp (by omega), (c3 e heL).2, lu_ck (by omega) (by decide)]
    have e39 : fb_X7_advance_39 σ 10 (fun w => fb_X7_advance_0 σ 10 (f + r) w) w = fb_X7_advance_0 σ 10 f w' := by
      unfold fb_X7_advance_39
      rw [lu_let, h3, nI_1]; exact y1 f
    rcases hse with z | z
    · rw [z, if_neg (show ¬ tx_s 32 = 10 by decide), if_pos (show tx_s 32 = 32 by decide)]; exact e39
    · rw [z, if_pos (show tx_s 10 = 10 by decide)]; exact e39
theorem tx_skipM (hσ : lr_S σ) {T : Nat → Nat} {L p : Nat} (hp : p ≤ L) : ∀ r e (w : lt_W), tx_M w T L → p ≤ e → e + r = tx_end (tx_isB T) L p → lt_gi w 233 14 = nI e → ∃ w', (∀ f, fb_X12_ahead_0 σ 233 (f + r) w = fb_X12_ahead_0 σ 233 f w') ∧ lt_gi w' 233 14 = nI (tx_end (tx_isB T) L p) ∧ (∀ a k, ¬ (a = 233 ∧ k = 14) → lt_gi w' a k = lt_gi w a k) ∧ ∀ a k, lt_gl w' a k = lt_gl w a k := by
  obtain ⟨s1, s2, s3, s4⟩ := tx_end_spec (tx_isB T) hp
  intro r
  induction r with
  | zero =>
    intro e w hC pe er h3
    obtain rfl : e = tx_end (tx_isB T) L p := by omega
    exact ⟨w, fun _ => rfl, h3, fun _ _ _ => rfl, fun _ _ => rfl⟩
  | succ r ih =>
    intro e w hC pe er h3
    have heL : e < L := by omega
    have hs := s3 e pe (by omega)
    have hse : T e = 32 ∨ T e = 10 := by
      unfold tx_isB at hs
      exact of_decide_eq_true hs
    obtain ⟨w', y1, y2, y3, y4⟩ := ih (e + 1) (lt_si w 233 14 (nI (e + 1))) ⟨hC.1, (lu_ne (by omega)).trans hC.2.1, fun k hk => ⟨(hC.2.2 k hk).1, by rw [lu_ne (by omega)]; exact (hC.2.2 k hk).2⟩⟩ (by omega) (by omega) lu_eq
    refine ⟨w', fun f => ?_, y2, fun a k z => by rw [y3 a k z, lu_ne (by omega)], fun a k => y4 a k⟩
    have e26 : fb_X12_ahead_26 σ 233 (fun w => fb_X12_ahead_0 σ 233 (f + r) w) w = fb_X12_ahead_0 σ 233 f w' := by
      unfold fb_X12_ahead_26
      rw [lu_let, h3, nI_1]; exact y1 f
    rw [show f + (r + 1) = f + r + 1 from rfl, fb_X12_ahead_0, h3, tx_byte hσ hC (by omega), lu_bind, if_pos heL]
    rcases hse with z | z
    · rw [z, if_pos (show nI 32 = 32 from rfl)]; exact e26
    · rw [z, if_neg (show ¬ nI 10 = 32 by decide), lu_bind, if_pos (show nI 10 = 10 from rfl)]; exact e26
end TS