/-! THE CALL weeks -/
section OW
variable {σ : lt_S}
theorem tm_131 (u : lt_W) : fb_X12_weeks_131 σ 233 u = if lt_gi u 233 18 ≤ 0 then some (lt_gi u 233 23, lt_si (lt_si u 233 16 (lt_gi u 233 18)) 233 2 0) else some (-1, lt_si (lt_si u 233 16 (lt_gi u 233 18)) 233 2 9) := by
  unfold fb_X12_weeks_131 f_X12_taken fb_X12_taken_0
  rw [lu_let, lu_ne (by omega)]
  by_cases c : lt_gi u 233 18 ≤ 0
  · rw [if_pos c, if_pos c]; rfl
  · rw [if_neg c, if_neg c]; rfl
theorem tm_102 (hσ : lr_S σ) (w : lt_W) : ∃ w', fb_X12_weeks_102 σ 233 lt_fu 60 w = fb_X12_weeks_131 σ 233 w' ∧ (∀ k, 60 ≤ k → k < 420 → lt_gi w' 234 k = lt_gi w 234 (1712 + k)) ∧ (∀ a k, (a ≠ 234 ∨ k < 60 ∨ 420 ≤ k) → lt_gi w' a k = lt_gi w a k) ∧ ∀ a k, lt_gl w' a k = lt_gl w a k := by
  have key1 : ∀ r k f (u : lt_W), k + r = 420 → 60 ≤ k → r < f → (∀ j, 60 ≤ j → j < k → lt_gi u 234 j = lt_gi w 234 (1712 + j)) → (∀ a j, (a ≠ 234 ∨ j < 60 ∨ 420 ≤ j) → lt_gi u a j = lt_gi w a j) → (∀ a j, lt_gl u a j = lt_gl w a j) → ∃ w', fb_X12_weeks_102 σ 233 f (nI k) u = fb_X12_weeks_131 σ 233 w' ∧ (∀ j, 60 ≤ j → j < 420 → lt_gi w' 234 j = lt_gi w 234 (1712 + j)) ∧ (∀ a j, (a ≠ 234 ∨ j < 60 ∨ 420 ≤ j) → lt_gi w' a j = lt_gi w a j) ∧ (∀ a j, lt_gl w' a j = lt_gl w a j) := by
    intro r
    induction r with
    | zero =>
      intro k f u hk hk6 hf x1 x2 x3
      obtain ⟨f, rfl⟩ : ∃ g, f = g + 1 := ⟨f - 1, by omega⟩
      obtain rfl : k = 420 := by omega
      refine ⟨u, ?_, x1, x2, x3⟩
      rw [fb_X12_weeks_102, if_pos (show (420 : Int32) ≤ nI 420 from nI_le (a := 420) (by decide) (by decide))]
    | succ r ih =>
      intro k f u hk hk6 hf x1 x2 x3
      obtain ⟨f, rfl⟩ : ∃ g, f = g + 1 := ⟨f - 1, by omega⟩
      rw [fb_X12_weeks_102, if_neg (show ¬ (420 : Int32) ≤ nI k from nI_ge (b := 420) (by omega) (by decide)), lr_at hσ, lq_l234 hσ, show (1712 : Int32) + nI k = nI (1712 + k) from nI_add 1712 k, lu_ck (by omega) (by decide), lu_ck (by omega) (by decide), lu_let, nI_clamp (by omega), nI_clamp (by omega), nI_1]
      refine ih (k + 1) f _ (by omega) (by omega) (by omega) (fun j hj6 hj => ?_) (fun a j z => (lu_ne (by omega)).trans (x2 a j z)) x3
      by_cases e : j = k
      · rw [e, lu_eq]; exact x2 _ _ (by omega)
      · rw [lu_ne (by omega)]; exact x1 j hj6 (by omega)
  exact key1 360 60 lt_fu w (by omega) (by omega) (by unfold lt_fu; omega) (fun j _ hj => by omega) (fun _ _ _ => rfl) (fun _ _ => rfl)
theorem lr_now8 (hσ : lr_S σ) : lt_r σ 0 8 = 39 ∧ lt_r σ 0 4 = 10 ∧ lt_r σ 0 6 = 21 := ⟨hσ.r 0 8 (by decide) (by decide), hσ.r 0 4 (by decide) (by decide), hσ.r 0 6 (by decide) (by decide)⟩
/-- both readers run on a text -/
theorem tw_run (hσ : lr_S σ) {w w0 : lt_W} {n q : Nat} (hH : tw_H q w w0) {m : Nat} (hm : m ≤ 900) (hn : n ≤ m) (hn3 : n ≤ 300) (h1 : lt_gi w 10 1 = nI m) (hT : ∀ k, k < m → lt_gi w 11 k = lt_gi w 239 k ∧ lr_by (lt_gi w 11 k)) (g1 : lt_gi w0 233 10 = nI m) (g2 : ∀ k, lt_gi w0 239 k = lt_gi w 239 k) : ∃ wb wc' r, f_X7_begin σ 10 (nI n) w = some wb ∧ f_X10_isWeeks σ 39 wb = some (r, wc') ∧ (∀ a k, ¬ (a = 10 ∧ 1 ≤ k ∧ k ≤ 10) → ¬ (29 ≤ a ∧ a ≤ 48) → lt_gi wc' a k = lt_gi w a k) ∧ (∀ a k, ¬ (a = 10 ∧ k = 6) → ¬ (29 ≤ a ∧ a ≤ 48) → lt_gl wc' a k = lt_gl w a k) ∧ lt_gi wc' 10 1 = 0 ∧ ∃ wm', f_X12_weeks σ 233 (nI n) w0 = fb_X12_weeks_77 σ 233 wm' ∧ (∀ a k, ¬ tx_gm a k → ¬ (a = 233 ∧ (k = 10 ∨ k = 11 ∨ k = 19)) → a ≠ 240 → lt_gi wm' a k = lt_gi w0 a k) ∧ (∀ a k, ¬ (a = 235 ∧ 28 ≤ k ∧ k < 35) → lt_gl wm' a k = lt_gl w0 a k) ∧ lt_gi wm' 233 10 = 0 ∧ lt_gi wc' 10 10 = lt_gi wm' 233 17 ∧ ((r = 0 ∧ ∃ f, 1 ≤ f ∧ f ≤ 7 ∧ lt_gi wc' 10 9 = nI f ∧ lt_gi wm' 233 18 = nI f) ∨ (r = 1 ∧ lt_gi wc' 10 9 = 0 ∧ lt_gi wm' 233 18 = 0 ∧ lt_gi wc' 40 0 = 1 ∧ ∃ I N st, tw_I I N 0 st q wc' wm')) := by
  obtain ⟨⟨r0, r1, r2, r3⟩, -, -⟩ := lr_39 hσ
  have e12 : ∀ {α : Type} (y : Option α), lt_ck 1720 2560 y = y := fun y => lu_ck (i := 1720) (by decide) (by decide)
  obtain ⟨wb, a1, a2, a3, a4, a5, a6, a7⟩ := tc_begin hσ hn hm h1 (fun k hk => (hT k hk).2)
  obtain ⟨wbm, b1, b2, b3, b4, b5, b6, b7⟩ := tm_begins hσ (T := tx_T w) (m := m) (n := n) (q := 300) hn hm hn3 (by decide) g1 (fun k hk => by
    rw [g2, ← (hT k (by omega)).1]
    have := tx_T_by (hT k (by omega)).2
    exact ⟨(hT k (by omega)).2, this.1, this.2.2⟩)
  let uc := lt_si (lt_si (lt_si wb 40 0 0) 40 1 0) 39 4 0
  let um := lt_si (lt_si (lt_si wbm 234 1720 0) 233 22 0) 233 23 0
  have oc : ∀ a k, ¬ (a = 39 ∨ a = 40) → lt_gi uc a k = lt_gi wb a k := fun a k z => by
    show lt_gi (lt_si (lt_si (lt_si wb 40 0 0) 40 1 0) 39 4 0) a k = _
    rw [lu_ne (by omega), lu_ne (by omega), lu_ne (by omega)]
  have om : ∀ a k, ¬ (a = 233 ∧ (k = 22 ∨ k = 23)) → ¬ (a = 234 ∧ k = 1720) → lt_gi um a k = lt_gi wbm a k := fun a k z y => by
    show lt_gi (lt_si (lt_si (lt_si wbm 234 1720 0) 233 22 0) 233 23 0) a k = _
    rw [lu_ne (by omega), lu_ne (by omega), lu_ne (by omega)]
  have hS : tk_S uc um (tx_T w) n 0 uc um := by
    refine ⟨a2.congr (fun k _ _ => oc _ _ (by omega)) (fun k => oc _ _ (by omega)) rfl, b2.congr (fun k _ _ => om _ _ (by omega) (by omega)) (fun k => om _ _ (by omega) (by omega)), ⟨?_, ?_⟩, ⟨?_, ?_⟩, tx_Gc.refl _, tx_Gm.refl _⟩
    · rw [oc _ _ (by omega)]; exact a4
    · rw [oc _ _ (by omega)]; exact a5
    · rw [om _ _ (by omega) (by omega)]; exact b4
    · rw [om _ _ (by omega) (by omega)]; exact b5
  have hH' : tw_H q uc um := by
    obtain ⟨x1, x2, x3, x4⟩ := hH
    refine ⟨x1, ?_, ?_, fun g hg => ?_⟩
    · rw [oc _ _ (by omega), a6 _ _ (by omega)]; exact x2
    · rw [om _ _ (by omega) (by omega), b6 _ _ (by omega) (by omega)]; exact x3
    · show lr_nm1 (lt_gl wb 13 g) (lt_gl wbm 235 (0 + g))
      rw [a7 _ _ (by omega), b7]; exact x4 g hg
  have hI : tw_I (fun _ _ => 0) 0 0 (fun _ => 0) q uc um := by
    refine ⟨⟨⟨Nat.le_refl _, by decide, by decide⟩, fun k hk => absurd hk (Nat.not_lt_zero _), fun i hi => absurd hi (Nat.not_lt_zero _), fun i hi => ?_, fun k hk => absurd hk (Nat.not_lt_zero _), fun k hk => absurd hk (Nat.not_lt_zero _)⟩, ⟨?_, lu_eq⟩, ?_, ?_, lu_eq⟩
    · obtain rfl : i = 0 := by omega
      exact lw_bal.nil
    · show lt_gi (lt_si (lt_si (lt_si wb 40 0 0) 40 1 0) 39 4 0) 40 1 = _
      rw [lu_ne (by omega), lu_eq]; rfl
    · show lt_gi (lt_si (lt_si (lt_si wbm 234 1720 0) 233 22 0) 233 23 0) 234 1720 = _
      rw [lu_ne (by omega), lu_ne (by omega), lu_eq]; rfl
    · show lt_gi (lt_si (lt_si (lt_si wbm 234 1720 0) 233 22 0) 233 23 0) 233 22 = _
      rw [lu_ne (by omega), lu_eq]; rfl
  have e1 : f_X10_isWeeks σ 39 wb = fb_X10_isWeeks_16 σ 39 lt_fu 1 (nI 0) uc := by
    unfold f_X10_isWeeks fb_X10_isWeeks_0 f_X9_forget fb_X9_forget_0
    rw [r2, lu_let, lu_let, lu_bind, lu_let, nI_0]
  have e2 : f_X12_weeks σ 233 (nI n) w0 = fb_X12_weeks_38 σ 233 lt_fu 1 um := by
    unfold f_X12_weeks fb_X12_weeks_0
    rw [show f_X12_begins σ 233 (nI n) 300 w0 = _ from b1, lu_bind, if_neg lu_10, lr_at hσ, lq_l234 hσ, e12, lu_let, lu_let, lu_let]
    rfl
  have fc : ∀ u, tx_Gc uc u → (∀ a k, ¬ (a = 10 ∧ 1 ≤ k ∧ k ≤ 10) → ¬ (29 ≤ a ∧ a ≤ 48) → lt_gi u a k = lt_gi w a k) ∧ (∀ a k, ¬ (a = 10 ∧ k = 6) → ¬ (29 ≤ a ∧ a ≤ 48) → lt_gl u a k = lt_gl w a k) ∧ lt_gi u 10 1 = 0 := fun u hu =>
    ⟨fun a k z y => by rw [hu.1 a k (by omega) y, oc _ _ (by omega), a6 _ _ z], fun a k z y => by
      rw [hu.2 a k z y]; exact a7 a k z, by rw [hu.1 _ _ (by omega) (by omega), oc _ _ (by omega)]; exact a3⟩
  have fm : ∀ u, tx_Gm um u → (∀ a k, ¬ tx_gm a k → ¬ (a = 233 ∧ (k = 10 ∨ k = 11 ∨ k = 19)) → a ≠ 240 → lt_gi u a k = lt_gi w0 a k) ∧ (∀ a k, ¬ (a = 235 ∧ 28 ≤ k ∧ k < 35) → lt_gl u a k = lt_gl w0 a k) ∧ lt_gi u 233 10 = 0 := fun u hu =>
    ⟨fun a k z y x => by
      have z' := z
      unfold tx_gm at z'
      rw [hu.1 a k z, om _ _ (by omega) (by omega), b6 _ _ (by omega) x], fun a k z => by
      rw [hu.2 a k z]; exact b7 a k, by rw [hu.1 _ _ (by unfold tx_gm; omega), om _ _ (by omega) (by omega)]; exact b3⟩
  have e111 : ∀ u, fb_X10_isWeeks_131 σ 39 0 u = some (0, lt_si u 40 0 0) := fun u => by
    unfold fb_X10_isWeeks_131; rw [r2]; rfl
  rcases tw_loop hσ hH' hn3 n 0 0 _ 0 0 _ _ _ lt_fu lt_fu (by omega) (Nat.le_refl _) hS hI (by unfold lt_fu; omega) (by unfold lt_fu; omega) with ⟨x, y, p1, p2, ⟨f, q1, q2, q3, q4⟩, q5, q6, q7⟩ | ⟨x, y, I, N, d, st, p', p1, p2, p3, p4⟩
  · obtain ⟨x1, x2, x3⟩ := fc _ (q6.i (b := 40) (k := 0) (v := 0) (Or.inr (by omega)))
    obtain ⟨y1, y2, y3⟩ := fm y q7
    have e57 : fb_X12_weeks_57 σ 233 y = fb_X12_weeks_77 σ 233 y := by
      unfold fb_X12_weeks_57
      rw [if_neg (show ¬ lt_gi y 233 18 = 0 by rw [q4]; exact nI_ne0 (by omega) (by omega))]
    have e0 : fb_X10_isWeeks_111 σ 39 0 x = some (0, lt_si x 40 0 0) := by
      unfold fb_X10_isWeeks_111; rw [if_pos rfl]; exact e111 x
    exact ⟨wb, _, 0, a1, (e1.trans p1).trans e0, x1, x2, x3, y, (e2.trans p2).trans e57, y1, y2, y3, (lu_ne (by omega)).trans q5, Or.inl ⟨rfl, f, q1, q2, (lu_ne (by omega)).trans q3, q4⟩⟩
  · cases d with
    | zero =>
      obtain ⟨x1, x2, x3⟩ := fc _ (p3.2.2.2.2.1.i (b := 40) (k := 0) (v := 1) (Or.inr (by omega)))
      obtain ⟨y1, y2, y3⟩ := fm y p3.2.2.2.2.2
      have e57 : fb_X12_weeks_57 σ 233 y = fb_X12_weeks_77 σ 233 y := by
        unfold fb_X12_weeks_57
        rw [if_pos p3.2.2.2.1.1, p4.2.2.2.1, if_pos (show nI 0 ≤ 0 by decide)]
      have e0 : fb_X10_isWeeks_111 σ 39 1 x = some (1, lt_si x 40 0 1) := by
        unfold fb_X10_isWeeks_111
        rw [if_neg lu_10, p4.2.1.2, if_pos (show nI 0 ≤ 0 by decide)]
        unfold fb_X10_isWeeks_131; rw [r2]; rfl
      refine ⟨wb, _, 1, a1, (e1.trans p1).trans e0, x1, x2, x3, y, (e2.trans p2).trans e57, y1, y2, y3, ?_, Or.inr ⟨rfl, (lu_ne (by omega)).trans p3.2.2.1.1, p3.2.2.2.1.1, lu_eq, I, N, st, ?_, ⟨?_, ?_⟩, p4.2.2⟩⟩
      · rw [lu_ne (by omega), p3.2.2.1.2, p3.2.2.2.1.2]
      · exact p4.1.c (fun a s k1 k2 k3 => lu_ne (by omega)) (fun i hi => lu_ne (by omega)) (fun _ _ => rfl) (fun _ _ => rfl)
      · exact (lu_ne (by omega)).trans p4.2.1.1
      · exact (lu_ne (by omega)).trans p4.2.1.2
    | succ e =>
      have hd := p4.1.1.2.2
      obtain ⟨x', y', u1, u2, ⟨f, q1, q2, q3, q4⟩, q5, q6, q7⟩ := tp_f (σ := σ) p3 2 (by decide) (by decide)
      obtain ⟨x1, x2, x3⟩ := fc _ (q6.i (b := 40) (k := 0) (v := 0) (Or.inr (by omega)))
      obtain ⟨y1, y2, y3⟩ := fm y' q7
      have e57 : fb_X12_weeks_57 σ 233 y = fb_X12_weeks_77 σ 233 y' := by
        unfold fb_X12_weeks_57
        rw [if_pos p3.2.2.2.1.1, p4.2.2.2.1, if_neg (nI_nle (by omega) (by omega)), show f_X12_fails σ 233 2 y = _ from u2, lu_bind]
      have e0 : fb_X10_isWeeks_111 σ 39 1 x = some (0, lt_si x' 40 0 0) := by
        unfold fb_X10_isWeeks_111
        rw [if_neg lu_10, p4.2.1.2, if_neg (nI_nle (by omega) (by omega)), r0, show f_X7_refuse σ 10 2 x = _ from u1, lu_bind]
        exact e111 x'
      exact ⟨wb, _, 0, a1, (e1.trans p1).trans e0, x1, x2, x3, y', (e2.trans p2).trans e57, y1, y2, y3, (lu_ne (by omega)).trans q5, Or.inl ⟨rfl, f, q1, q2, (lu_ne (by omega)).trans q3, q4⟩⟩
end OW