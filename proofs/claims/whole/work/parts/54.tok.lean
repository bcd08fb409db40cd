/-! THE TEXTS: one token, told once for both sides -/
def tx_F (T : Nat → Nat) (L p : Nat) : Nat := tx_end (tx_isB T) L p
def tx_e (T : Nat → Nat) (L p : Nat) : Nat := tx_end (tx_isS T) L (tx_F T L p)
def tx_d (T : Nat → Nat) (L p : Nat) : Nat := tx_end (tx_isD T) L (tx_F T L p)
def tx_w (T : Nat → Nat) (L p : Nat) : List Nat := tx_ls T (tx_F T L p) (tx_e T L p)
def tx_V (T : Nat → Nat) (L p : Nat) : Nat := tx_nu T (tx_F T L p) (tx_d T L p - tx_F T L p)
/-- its kind: 0 the end, 1 to 23 a word, 24 a name, 25 a long word, 26 a number, a sign its byte, 99 none -/
def tx_K (T : Nat → Nat) (L p : Nat) : Nat := if tx_F T L p < L then (if tx_isS T (tx_F T L p) = true then (if tx_e T L p - tx_F T L p ≤ 8 then tx_find tx_kw 1 (tx_w T L p) else 25) else if tx_isD T (tx_F T L p) = true then (if tx_d T L p - tx_F T L p ≤ 4 then 26 else 99) else if T (tx_F T L p) = 59 ∨ T (tx_F T L p) = 60 ∨ T (tx_F T L p) = 62 ∨ T (tx_F T L p) = 61 then T (tx_F T L p) else 99) else 0
def tx_N (T : Nat → Nat) (L p : Nat) : Nat := if tx_F T L p < L then (if tx_isS T (tx_F T L p) = true then tx_e T L p else if tx_isD T (tx_F T L p) = true then tx_d T L p else tx_F T L p + 1) else L
theorem tx_cases (T : Nat → Nat) {L p : Nat} (hp : p ≤ L) : (tx_F T L p = L ∧ tx_K T L p = 0 ∧ tx_N T L p = L) ∨ (tx_F T L p < L ∧ tx_isS T (tx_F T L p) = true ∧ tx_K T L p = (if tx_e T L p - tx_F T L p ≤ 8 then tx_find tx_kw 1 (tx_w T L p) else 25) ∧ tx_N T L p = tx_e T L p) ∨ (tx_F T L p < L ∧ tx_isS T (tx_F T L p) = false ∧ tx_isD T (tx_F T L p) = true ∧ tx_K T L p = (if tx_d T L p - tx_F T L p ≤ 4 then 26 else 99) ∧ tx_N T L p = tx_d T L p) ∨ (tx_F T L p < L ∧ tx_isS T (tx_F T L p) = false ∧ tx_isD T (tx_F T L p) = false ∧ tx_sg (T (tx_F T L p)) ∧ tx_K T L p = T (tx_F T L p) ∧ tx_N T L p = tx_F T L p + 1) ∨ (tx_F T L p < L ∧ tx_isS T (tx_F T L p) = false ∧ tx_isD T (tx_F T L p) = false ∧ ¬ tx_sg (T (tx_F T L p)) ∧ tx_K T L p = 99 ∧ tx_N T L p = tx_F T L p + 1) := by
  have h2 := (tx_end_spec (tx_isB T) hp).2.1
  unfold tx_K tx_N
  by_cases c : tx_F T L p < L
  · rw [if_pos c, if_pos c]
    by_cases s : tx_isS T (tx_F T L p) = true
    · rw [if_pos s, if_pos s]; exact Or.inr (Or.inl ⟨c, s, rfl, rfl⟩)
    · have s' : tx_isS T (tx_F T L p) = false := by simpa using s
      rw [if_neg s, if_neg s]
      by_cases d : tx_isD T (tx_F T L p) = true
      · rw [if_pos d, if_pos d]; exact Or.inr (Or.inr (Or.inl ⟨c, s', d, rfl, rfl⟩))
      · have d' : tx_isD T (tx_F T L p) = false := by simpa using d
        rw [if_neg d, if_neg d]
        by_cases g : tx_sg (T (tx_F T L p))
        · rw [if_pos (show T (tx_F T L p) = 59 ∨ T (tx_F T L p) = 60 ∨ T (tx_F T L p) = 62 ∨ T (tx_F T L p) = 61 from g)]
          exact Or.inr (Or.inr (Or.inr (Or.inl ⟨c, s', d', g, rfl, rfl⟩)))
        · rw [if_neg (show ¬ (T (tx_F T L p) = 59 ∨ T (tx_F T L p) = 60 ∨ T (tx_F T L p) = 62 ∨ T (tx_F T L p) = 61) from g)]
          exact Or.inr (Or.inr (Or.inr (Or.inr ⟨c, s', d', g, rfl, rfl⟩)))
  · rw [if_neg c, if_neg c]
    exact Or.inl ⟨by unfold tx_F at c ⊢; omega, rfl, rfl⟩
theorem tx_find_24 (l : List Nat) : 1 ≤ tx_find tx_kw 1 l ∧ tx_find tx_kw 1 l ≤ 24 := by
  rcases tx_pair l with ⟨h, -⟩ | ⟨h1, h2, -⟩ <;> omega
/-- where it ends -/
theorem tx_N_gt (T : Nat → Nat) {L p : Nat} (hp : p ≤ L) : p ≤ tx_F T L p ∧ tx_F T L p ≤ L ∧ tx_N T L p ≤ L ∧ (tx_K T L p ≠ 0 → tx_F T L p < tx_N T L p) := by
  obtain ⟨s1, s2, s3, s4⟩ := tx_end_spec (tx_isB T) hp
  refine ⟨s1, s2, ?_⟩
  rcases tx_cases T hp with ⟨a, b, c⟩ | ⟨a, b, c, d⟩ | ⟨a, b, b2, c, d⟩ | ⟨a, b, b2, b3, c, d⟩ | ⟨a, b, b2, b3, c, d⟩
  · rw [c]; exact ⟨Nat.le_refl _, fun z => absurd b z⟩
  · obtain ⟨e1, e2, e3, e4⟩ := tx_end_spec (tx_isS T) (Nat.le_of_lt a)
    rw [d]
    refine ⟨e2, fun _ => Nat.lt_of_le_of_ne e1 fun z => ?_⟩
    have z' : tx_end (tx_isS T) L (tx_F T L p) = tx_F T L p := z.symm
    rw [z'] at e4
    rw [e4 a] at b; cases b
  · obtain ⟨e1, e2, e3, e4⟩ := tx_end_spec (tx_isD T) (Nat.le_of_lt a)
    rw [d]
    refine ⟨e2, fun _ => Nat.lt_of_le_of_ne e1 fun z => ?_⟩
    have z' : tx_end (tx_isD T) L (tx_F T L p) = tx_F T L p := z.symm
    rw [z'] at e4
    rw [e4 a] at b2; cases b2
  · rw [d]; exact ⟨a, fun _ => Nat.lt_succ_self _⟩
  · rw [d]; exact ⟨a, fun _ => Nat.lt_succ_self _⟩
theorem tx_K_r (T : Nat → Nat) {L p : Nat} (hp : p ≤ L) : tx_K T L p ≤ 26 ∨ (59 ≤ tx_K T L p ∧ tx_K T L p ≤ 62) ∨ tx_K T L p = 99 := by
  rcases tx_cases T hp with ⟨a, b, c⟩ | ⟨a, b, c, d⟩ | ⟨a, b, b2, c, d⟩ | ⟨a, b, b2, b3, c, d⟩ | ⟨a, b, b2, b3, c, d⟩
  · omega
  · have := tx_find_24 (tx_w T L p)
    rw [c]; split <;> omega
  · rw [c]; split <;> omega
  · rw [c]; unfold tx_sg at b3; omega
  · omega
/-- the letters of a word -/
theorem tx_w_L (T : Nat → Nat) {L p : Nat} (hp : p ≤ L) : tx_L (tx_w T L p) := by
  refine tx_ls_L fun k k1 k2 => ?_
  have := (tx_end_spec (tx_isS T) (tx_end_spec (tx_isB T) hp).2.1).2.2.1 k k1 k2
  unfold tx_isS at this
  exact of_decide_eq_true this
theorem tx_w_8 (T : Nat → Nat) {L p : Nat} (hp : p ≤ L) (h1 : 1 ≤ tx_K T L p) (h2 : tx_K T L p ≤ 24) : (tx_w T L p).length ≤ 8 ∧ 0 < (tx_w T L p).length := by
  have hl : (tx_w T L p).length = tx_e T L p - tx_F T L p := tx_ls_len
  have hN := (tx_N_gt T hp).2.2.2 (by omega)
  rcases tx_cases T hp with ⟨a, b, c⟩ | ⟨a, b, c, d⟩ | ⟨a, b, b2, c, d⟩ | ⟨a, b, b2, b3, c, d⟩ | ⟨a, b, b2, b3, c, d⟩
  · omega
  · rw [d] at hN
    rw [c] at h2
    by_cases z : tx_e T L p - tx_F T L p ≤ 8
    · omega
    · rw [if_neg z] at h2; omega
  · rw [c] at h2; split at h2 <;> omega
  · rw [c] at h2; unfold tx_sg at b3; omega
  · omega
/-! the token ahead, in both worlds -/
def tx_ck (K : Nat) : Int32 := if K = 99 then -1 else nI K
def tx_mk (K : Nat) : Int32 := if K = 0 then 0 else if K = 99 then 1 else if K ≤ 25 then 2 else if K = 26 then 3 else 4
def tx_Ct (w : lt_W) (T : Nat → Nat) (L p : Nat) : Prop := tx_C w T L ∧ p ≤ L ∧ lt_gi w 10 4 = nI (tx_F T L p) ∧ lt_gi w 10 5 = tx_ck (tx_K T L p) ∧ (tx_K T L p ≠ 99 → lt_gi w 10 3 = nI (tx_N T L p)) ∧ (1 ≤ tx_K T L p → tx_K T L p ≤ 25 → lt_gl w 10 6 = lN (lr_e5 (tx_w T L p))) ∧ (tx_K T L p = 26 → lt_gi w 10 7 = nI (tx_V T L p))
def tx_Mt (w : lt_W) (T : Nat → Nat) (L p : Nat) : Prop := tx_M w T L ∧ p ≤ L ∧ lt_gi w 233 13 = nI (tx_F T L p) ∧ lt_gi w 233 12 = tx_mk (tx_K T L p) ∧ (tx_K T L p ≠ 99 → lt_gi w 233 14 = nI (tx_N T L p)) ∧ (tx_K T L p = 26 → lt_gi w 233 15 = nI (tx_V T L p)) ∧ (59 ≤ tx_K T L p → tx_K T L p ≤ 62 → lt_gi w 233 15 = nI (tx_K T L p))
section TT
variable {σ : lt_S}
theorem tx_advC (hσ : lr_S σ) {T : Nat → Nat} {L p : Nat} {w : lt_W} (hC : tx_C w T L) (hp : p ≤ L) (h3 : lt_gi w 10 3 = nI p) : ∃ w', f_X7_advance σ 10 w = some w' ∧ tx_Ct w' T L p ∧ tx_Fk w w' := by
  obtain ⟨s1, s2, s3, s4⟩ := tx_end_spec (tx_isB T) hp
  have hL := hC.1
  obtain ⟨w1, y1, y2, y3, y4⟩ := tx_skipC hσ hp (tx_F T L p - p) p w hC (Nat.le_refl _) (by unfold tx_F; omega) h3
  have hF1 : tx_Fk w w1 := ⟨fun a k z => y3 a k (by omega), fun a k _ => y4 a k⟩
  have hC1 := hC.k hF1
  have y2 : lt_gi w1 10 3 = nI (tx_F T L p) := y2
  have e0 : f_X7_advance σ 10 w = fb_X7_advance_52 σ 10 w1 := by
    have s2' : tx_F T L p ≤ L := s2
    obtain ⟨f, hf⟩ : ∃ f, lt_fu = f + 1 + (tx_F T L p - p) := ⟨lt_fu - 1 - (tx_F T L p - p), by unfold lt_fu; omega⟩
    unfold f_X7_advance
    rw [hf, y1, fb_X7_advance_0, hC1.2.1, y2]
    by_cases c : tx_F T L p < L
    · have hb := s4 c
      have hb : ¬ (T (tx_F T L p) = 32 ∨ T (tx_F T L p) = 10) := by
        unfold tx_isB at hb; exact of_decide_eq_false hb
      have h8 := (hC1.2.2 _ c).1
      rw [if_neg (nI_ge c (by omega)), lq_r10_0 hσ, lq_l11 hσ, lu_ck (by omega) (by decide), nI_clamp (by omega), (hC1.2.2 _ c).2, if_neg (show ¬ tx_s (T (tx_F T L p)) = 10 from fun z => hb (Or.inr ((tx_sEq h8 (c := 10) (by decide)).1.mp z))), lu_ck (by omega) (by decide), if_neg (show ¬ tx_s (T (tx_F T L p)) = 32 from fun z => hb (Or.inl ((tx_sEq h8 (c := 32) (by decide)).1.mp z)))]
    · rw [if_pos (nI_le (by omega) (by omega))]
  rw [e0]
  rcases tx_cases T hp with ⟨a, b, c⟩ | ⟨a, b, c, d⟩ | ⟨a, b, b2, c, d⟩ | ⟨a, b, b2, b3, c, d⟩ | ⟨a, b, b2, b3, c, d⟩
  · rw [a] at y2
    obtain ⟨w', z1, z2, z3, z4, z5⟩ := tx_52e (σ := σ) hC1 y2
    refine ⟨w', z1, ⟨hC1.k z5, hp, by rw [a]; exact z3, by rw [b]; exact z4, fun _ => by rw [c]; exact z2, fun h => by omega, fun h => by omega⟩, hF1.trans z5⟩
  · obtain ⟨w', z1, z2, z3, z4, z5, z6⟩ := tx_52w hσ hC1 a y2 b
    have hf := tx_find_24 (tx_w T L p)
    refine ⟨w', z1, ⟨hC1.k z6, hp, z3, ?_, fun _ => by rw [d]; exact z2, fun _ _ => z4, fun h => ?_⟩, hF1.trans z6⟩
    · rw [c]
      unfold tx_ck
      by_cases z : tx_e T L p - tx_F T L p ≤ 8
      · rw [if_pos z, if_neg (by omega)]
        exact z5.trans (if_pos z)
      · rw [if_neg z, if_neg (by decide)]
        exact z5.trans (if_neg z)
    · rw [c] at h; split at h <;> omega
  · obtain ⟨w', z1, z2, z3, z4, z5, z6⟩ := tx_52n hσ hC1 a y2 b2
    refine ⟨w', z1, ⟨hC1.k z6, hp, z3, ?_, fun _ => by rw [d]; exact z2, fun h1 h2 => ?_, fun h => z4⟩, hF1.trans z6⟩
    · rw [c]
      by_cases z : tx_d T L p - tx_F T L p ≤ 4
      · rw [if_pos z]; exact z5.trans (if_pos z)
      · rw [if_neg z]; exact z5.trans (if_neg z)
    · rw [c] at h2; split at h2 <;> omega
  · obtain ⟨w', z1, z2, z3, z4, z5⟩ := tx_52s hσ hC1 a y2 b b2
    obtain ⟨z3, z6⟩ := z3 b3
    refine ⟨w', z1, ⟨hC1.k z5, hp, z2, ?_, fun _ => by rw [d]; exact z6, fun h1 h2 => ?_, fun h => ?_⟩, hF1.trans z5⟩
    · rw [c]; unfold tx_ck; rw [if_neg (by unfold tx_sg at b3; omega)]; exact z3
    · unfold tx_sg at b3; omega
    · unfold tx_sg at b3; omega
  · obtain ⟨w', z1, z2, z3, z4, z5⟩ := tx_52s hσ hC1 a y2 b b2
    have z4 := z4 b3
    refine ⟨w', z1, ⟨hC1.k z5, hp, z2, ?_, fun h => absurd c h, fun h1 h2 => by omega, fun h => by omega⟩, hF1.trans z5⟩
    rw [c]; exact z4
theorem tx_advM (hσ : lr_S σ) {T : Nat → Nat} {L p : Nat} {w : lt_W} (hM : tx_M w T L) (hp : p ≤ L) (h3 : lt_gi w 233 14 = nI p) : ∃ w', f_X12_ahead σ 233 w = some w' ∧ tx_Mt w' T L p ∧ tx_Fm w w' := by
  obtain ⟨s1, s2, s3, s4⟩ := tx_end_spec (tx_isB T) hp
  have hL := hM.1
  obtain ⟨w1, y1, y2, y3, y4⟩ := tx_skipM hσ hp (tx_F T L p - p) p w hM (Nat.le_refl _) (by unfold tx_F; omega) h3
  have hF1 : tx_Fm w w1 := ⟨fun a k z => y3 a k (by omega), fun a k => y4 a k⟩
  have hM1 := hM.k hF1
  have y2 : lt_gi w1 233 14 = nI (tx_F T L p) := y2
  obtain ⟨f, e0⟩ : ∃ f, f_X12_ahead σ 233 w = fb_X12_ahead_0 σ 233 (f + 1) w1 := by
    have s2' : tx_F T L p ≤ L := s2
    obtain ⟨f, hf⟩ : ∃ f, lt_fu = f + 1 + (tx_F T L p - p) := ⟨lt_fu - 1 - (tx_F T L p - p), by unfold lt_fu; omega⟩
    refine ⟨f, ?_⟩
    unfold f_X12_ahead
    rw [hf, y1]
  rw [e0]
  rcases tx_cases T hp with ⟨a, b, c⟩ | ⟨a, b, c, d⟩ | ⟨a, b, b2, c, d⟩ | ⟨a, b, b2, b3, c, d⟩ | ⟨a, b, b2, b3, c, d⟩
  · rw [a] at y2
    obtain ⟨w', z1, z2, z3, z4, z5⟩ := tx_m_e hσ hM1 y2 f
    refine ⟨w', z1, ⟨hM1.k z5, hp, by rw [a]; exact z2, by rw [b]; exact z4, fun _ => by rw [c]; exact z3, fun h => by omega, fun h => by omega⟩, hF1.trans z5⟩
  · obtain ⟨w', z1, z2, z3, z4, z5⟩ := tx_m_w hσ hM1 a y2 b f
    have hf := tx_find_24 (tx_w T L p)
    have hK : 1 ≤ tx_K T L p ∧ tx_K T L p ≤ 25 := by
      rw [c]; split <;> omega
    refine ⟨w', z1, ⟨hM1.k z5, hp, z2, ?_, fun _ => by rw [d]; exact z3, fun h => by omega, fun h => by omega⟩, hF1.trans z5⟩
    unfold tx_mk
    rw [if_neg (by omega), if_neg (by omega), if_pos hK.2]; exact z4
  · obtain ⟨w', z1, z2, z3, z4, z5, z6⟩ := tx_m_n hσ hM1 a y2 b2 f
    refine ⟨w', z1, ⟨hM1.k z6, hp, z2, ?_, fun _ => by rw [d]; exact z3, fun h => ?_, fun h1 h2 => ?_⟩, hF1.trans z6⟩
    · rw [c]
      by_cases z : tx_d T L p - tx_F T L p ≤ 4
      · rw [if_pos z]; exact z4.trans (if_pos z)
      · rw [if_neg z]; exact z4.trans (if_neg z)
    · rw [c] at h
      by_cases z : tx_d T L p - tx_F T L p ≤ 4
      · exact z5 z
      · rw [if_neg z] at h; omega
    · by_cases z : tx_d T L p - tx_F T L p ≤ 4
      · rw [c, if_pos z] at h1; omega
      · rw [c, if_neg z] at h2; omega
  · have hb : tx_isB T (tx_F T L p) = false := s4 a
    obtain ⟨w', z1, z2, z3, z4, z5, z6, z7⟩ := tx_m_s hσ hM1 a y2 hb b b2 f
    have z4 := z4 b3
    refine ⟨w', z1, ⟨hM1.k z7, hp, z2, ?_, fun _ => by rw [d]; exact z3, fun h => ?_, fun _ _ => by rw [c]; exact z6⟩, hF1.trans z7⟩
    · rw [c]; unfold tx_mk tx_sg at *
      rw [if_neg (by omega), if_neg (by omega), if_neg (by omega), if_neg (by omega)]; exact z4
    · unfold tx_sg at b3; omega
  · have hb : tx_isB T (tx_F T L p) = false := s4 a
    obtain ⟨w', z1, z2, z3, z4, z5, z6, z7⟩ := tx_m_s hσ hM1 a y2 hb b b2 f
    have z5 := z5 b3
    refine ⟨w', z1, ⟨hM1.k z7, hp, z2, ?_, fun h => absurd c h, fun h => by omega, fun h1 h2 => by omega⟩, hF1.trans z7⟩
    rw [c]; exact z5
end TT