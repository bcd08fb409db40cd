/-! THE TEXTS: the other tokens, the class -/
section TV
variable {σ : lt_S}
theorem tx_52e {T : Nat → Nat} {L : Nat} {w : lt_W} (hC : tx_C w T L) (h3 : lt_gi w 10 3 = nI L) : ∃ w', fb_X7_advance_52 σ 10 w = some w' ∧ lt_gi w' 10 3 = nI L ∧ lt_gi w' 10 4 = nI L ∧ lt_gi w' 10 5 = 0 ∧ tx_Fk w w' := by
  let w3 := lt_si (lt_sl (lt_si w 10 4 (nI L)) 10 6 0) 10 7 0
  have hF3 : tx_Fk w w3 := (((tx_Fk.refl w).i (by decide) (by decide)).l).i (by decide) (by decide)
  have g3 : lt_gi w3 10 3 = nI L := by
    show lt_gi (lt_si (lt_sl (lt_si w 10 4 (nI L)) 10 6 0) 10 7 0) 10 3 = _
    rw [lu_ne (by omega), lu_gisl, lu_ne (by omega)]; exact h3
  have g4 : lt_gi w3 10 4 = nI L := by
    show lt_gi (lt_si (lt_sl (lt_si w 10 4 (nI L)) 10 6 0) 10 7 0) 10 4 = _
    rw [lu_ne (by omega), lu_gisl, lu_eq]
  refine ⟨lt_si w3 10 5 0, ?_, (lu_ne (by omega)).trans g3, (lu_ne (by omega)).trans g4, lu_eq, hF3.i (by decide) (by decide)⟩
  have hL := hC.1
  unfold fb_X7_advance_52
  rw [h3, lu_let, lu_let, lu_let]
  show (if lt_gi w3 10 3 < lt_gi w3 10 2 then _ else _) = _
  rw [g3, (hC.k hF3).2.1, if_neg (nI_nlt (Nat.le_refl _) (by omega))]
  rfl
theorem tx_52n (hσ : lr_S σ) {T : Nat → Nat} {L F : Nat} {w : lt_W} (hC : tx_C w T L) (hF : F < L) (h3 : lt_gi w 10 3 = nI F) (hS : tx_isD T F = true) : ∃ w', fb_X7_advance_52 σ 10 w = some w' ∧ lt_gi w' 10 3 = nI (tx_end (tx_isD T) L F) ∧ lt_gi w' 10 4 = nI F ∧ lt_gi w' 10 7 = nI (tx_nu T F (tx_end (tx_isD T) L F - F)) ∧ lt_gi w' 10 5 = (if tx_end (tx_isD T) L F - F ≤ 4 then 26 else -1) ∧ tx_Fk w w' := by
  obtain ⟨s1, s2, s3, s4⟩ := tx_end_spec (tx_isD T) (Nat.le_of_lt hF)
  let w3 := lt_si (lt_sl (lt_si w 10 4 (nI F)) 10 6 0) 10 7 0
  have hF3 : tx_Fk w w3 := (((tx_Fk.refl w).i (by decide) (by decide)).l).i (by decide) (by decide)
  have g3 : lt_gi w3 10 3 = nI F := by
    show lt_gi (lt_si (lt_sl (lt_si w 10 4 (nI F)) 10 6 0) 10 7 0) 10 3 = _
    rw [lu_ne (by omega), lu_gisl, lu_ne (by omega)]; exact h3
  have hC3 := hC.k hF3
  have l7 : lt_gi w3 10 7 = nI (tx_nu T F (F - F)) := by
    rw [Nat.sub_self]; exact lu_eq
  obtain ⟨q, y1, y2, y3, y4, y5⟩ := tx_digits hσ (Nat.le_of_lt hF) (tx_end (tx_isD T) L F - F) F lt_fu w3 hC3 (Nat.le_refl _) (by omega) (by have := hC.1; unfold lt_fu; omega) g3 l7
  have g4 : lt_gi q 10 4 = nI F := by
    rw [y4 _ _ (by omega)]
    show lt_gi (lt_si (lt_sl (lt_si w 10 4 (nI F)) 10 6 0) 10 7 0) 10 4 = _
    rw [lu_ne (by omega), lu_gisl, lu_eq]
  have hFq : tx_Fk w q := ⟨fun a k z => by rw [y4 a k (by omega)]; exact hF3.1 a k z, fun a k z => by rw [y5 a k]; exact hF3.2 a k z⟩
  have hL := hC.1
  have hdec : 48 ≤ T F ∧ T F ≤ 57 := by unfold tx_isD at hS; exact of_decide_eq_true hS
  have esub : nI (tx_end (tx_isD T) L F) - nI F = nI (tx_end (tx_isD T) L F - F) := pk_sub s1
  refine ⟨lt_si q 10 5 (if tx_end (tx_isD T) L F - F ≤ 4 then 26 else -1), ?_, (lu_ne (by omega)).trans y2, (lu_ne (by omega)).trans g4, (lu_ne (by omega)).trans y3, lu_eq, hFq.i (by decide) (by decide)⟩
  unfold fb_X7_advance_52
  rw [h3, lu_let, lu_let, lu_let]
  show (if lt_gi w3 10 3 < lt_gi w3 10 2 then _ else _) = _
  rw [g3, hC3.2.1, if_pos (nI_lt hF (by omega)), lq_r10_0 hσ, lq_l11 hσ, lu_ck (by omega) (by decide), nI_clamp (by omega)]
  show lt_let (lt_gi w3 11 F) _ = _
  rw [(hC3.2.2 F hF).2, lu_let]
  have e146 : fb_X7_advance_146 σ 10 (tx_s (T F)) w3 = some (lt_si q 10 5 (if tx_end (tx_isD T) L F - F ≤ 4 then 26 else -1)) := by
    rcases tx_digit (hC3.2.2 F hF).1 with ⟨-, -, z3, z4, -⟩ | ⟨z, -⟩
    · unfold fb_X7_advance_146
      rw [if_neg z3, if_neg z4]
      show Option.bind (fb_X7_readDigits_0 σ 10 lt_fu w3) _ = _
      rw [y1, lu_bind, y2, g4, esub]
      by_cases c : tx_end (tx_isD T) L F - F ≤ 4
      · rw [if_pos (show nI (tx_end (tx_isD T) L F - F) ≤ 4 from nI_le (b := 4) c (by decide)), if_pos c]; rfl
      · rw [if_neg (show ¬ nI (tx_end (tx_isD T) L F - F) ≤ 4 from nI_ge (a := 4) (by omega) (by omega)), if_neg c]; rfl
    · exact absurd hdec z
  rcases tx_small (hC3.2.2 F hF).1 with ⟨z1, z2, -⟩ | ⟨-, z | ⟨z1, z2⟩, -⟩
  · omega
  · rw [if_pos z]; exact e146
  · rw [if_neg z1, if_pos z2]; exact e146
def tx_sg (b : Nat) : Prop := b = 59 ∨ b = 60 ∨ b = 62 ∨ b = 61
theorem tx_52s (hσ : lr_S σ) {T : Nat → Nat} {L F : Nat} {w : lt_W} (hC : tx_C w T L) (hF : F < L) (h3 : lt_gi w 10 3 = nI F) (hS : tx_isS T F = false) (hD : tx_isD T F = false) : ∃ w', fb_X7_advance_52 σ 10 w = some w' ∧ lt_gi w' 10 4 = nI F ∧ (tx_sg (T F) → lt_gi w' 10 5 = nI (T F) ∧ lt_gi w' 10 3 = nI (F + 1)) ∧ (¬ tx_sg (T F) → lt_gi w' 10 5 = -1) ∧ tx_Fk w w' := by
  let w3 := lt_si (lt_sl (lt_si w 10 4 (nI F)) 10 6 0) 10 7 0
  have hF3 : tx_Fk w w3 := (((tx_Fk.refl w).i (by decide) (by decide)).l).i (by decide) (by decide)
  have g3 : lt_gi w3 10 3 = nI F := by
    show lt_gi (lt_si (lt_sl (lt_si w 10 4 (nI F)) 10 6 0) 10 7 0) 10 3 = _
    rw [lu_ne (by omega), lu_gisl, lu_ne (by omega)]; exact h3
  have g4 : lt_gi w3 10 4 = nI F := by
    show lt_gi (lt_si (lt_sl (lt_si w 10 4 (nI F)) 10 6 0) 10 7 0) 10 4 = _
    rw [lu_ne (by omega), lu_gisl, lu_eq]
  have hC3 := hC.k hF3
  have hL := hC.1
  have hb := (hC3.2.2 F hF).1
  have e188 : ∀ r, fb_X7_advance_188 σ 10 (tx_s (T F)) w3 = some r → fb_X7_advance_52 σ 10 w = some r := fun r hr => by
    have e146 : fb_X7_advance_146 σ 10 (tx_s (T F)) w3 = some r := by
      unfold fb_X7_advance_146
      rcases tx_digit hb with ⟨z1, z2, -⟩ | ⟨-, z | ⟨z1, z2⟩, -⟩
      · unfold tx_isD at hD
        exact absurd ⟨z1, z2⟩ (of_decide_eq_false hD)
      · rw [if_pos z]; exact hr
      · rw [if_neg z1, if_pos z2]; exact hr
    unfold fb_X7_advance_52
    rw [h3, lu_let, lu_let, lu_let]
    show (if lt_gi w3 10 3 < lt_gi w3 10 2 then _ else _) = _
    rw [g3, hC3.2.1, if_pos (nI_lt hF (by omega)), lq_r10_0 hσ, lq_l11 hσ, lu_ck (by omega) (by decide), nI_clamp (by omega)]
    show lt_let (lt_gi w3 11 F) _ = _
    rw [(hC3.2.2 F hF).2, lu_let]
    rcases tx_small hb with ⟨z1, z2, -⟩ | ⟨-, z | ⟨z1, z2⟩, -⟩
    · unfold tx_isS at hS
      exact absurd ⟨z1, z2⟩ (of_decide_eq_false hS)
    · rw [if_pos z]; exact e146
    · rw [if_neg z1, if_pos z2]; exact e146
  by_cases c : tx_sg (T F)
  · have es : tx_s (T F) = nI (T F) := by rcases c with z | z | z | z <;> rw [z] <;> decide
    refine ⟨lt_si (lt_si w3 10 5 (nI (T F))) 10 3 (nI (F + 1)), e188 _ ?_, (lu_ne (by omega)).trans ((lu_ne (by omega)).trans g4), fun _ => ⟨(lu_ne (by omega)).trans lu_eq, lu_eq⟩, fun z => absurd c z, (hF3.i (by decide) (by decide)).i (by decide) (by decide)⟩
    have e212 : fb_X7_advance_212 σ 10 (nI (T F)) w3 = some (lt_si (lt_si w3 10 5 (nI (T F))) 10 3 (nI (F + 1))) := by
      unfold fb_X7_advance_212
      rw [lu_let, lu_let, lu_ne (by omega), g3, nI_1]
    unfold fb_X7_advance_188
    rw [es]
    rcases c with z | z | z | z
    · rw [if_pos (show nI (T F) = 59 by rw [z]; rfl)]; exact e212
    · rw [if_neg (show ¬ nI (T F) = 59 by rw [z]; decide), if_pos (show nI (T F) = 60 by rw [z]; rfl)]; exact e212
    · rw [if_neg (show ¬ nI (T F) = 59 by rw [z]; decide), if_neg (show ¬ nI (T F) = 60 by rw [z]; decide), if_pos (show nI (T F) = 62 by rw [z]; rfl)]; exact e212
    · rw [if_neg (show ¬ nI (T F) = 59 by rw [z]; decide), if_neg (show ¬ nI (T F) = 60 by rw [z]; decide), if_neg (show ¬ nI (T F) = 62 by rw [z]; decide), if_pos (show nI (T F) = 61 by rw [z]; rfl)]; exact e212
  · refine ⟨lt_si w3 10 5 (-1), e188 _ ?_, (lu_ne (by omega)).trans g4, fun z => absurd z c, fun _ => lu_eq, hF3.i (by decide) (by decide)⟩
    have n : ∀ x, x < 128 → T F ≠ x → ¬ tx_s (T F) = nI x := fun x hx h z => h ((tx_sEq hb hx).1.mp z)
    unfold tx_sg at c
    unfold fb_X7_advance_188
    rw [if_neg (show ¬ tx_s (T F) = 59 from n 59 (by decide) (by omega)), if_neg (show ¬ tx_s (T F) = 60 from n 60 (by decide) (by omega)), if_neg (show ¬ tx_s (T F) = 62 from n 62 (by decide) (by omega)), if_neg (show ¬ tx_s (T F) = 61 from n 61 (by decide) (by omega))]
    rfl
end TV