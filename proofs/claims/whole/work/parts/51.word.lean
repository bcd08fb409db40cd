/-! THE TEXTS: a word ahead, the class -/
theorem tx_ls_L {T : Nat → Nat} {p e : Nat} (h : ∀ k, p ≤ k → k < e → 97 ≤ T k ∧ T k ≤ 122) : tx_L (tx_ls T p e) := by
  intro c hc
  unfold tx_ls at hc
  obtain ⟨j, hj, rfl⟩ := List.mem_map.mp hc
  have := List.mem_range.mp hj
  have := h (p + j) (by omega) (by omega)
  omega
theorem tx_ls_len {T : Nat → Nat} {p e : Nat} : (tx_ls T p e).length = e - p := by
  unfold tx_ls; simp
theorem tx_ls_0 {T : Nat → Nat} {p : Nat} : tx_ls T p p = [] := by
  unfold tx_ls; rw [Nat.sub_self]; rfl
section TW
variable {σ : lt_S}
theorem tx_52w (hσ : lr_S σ) {T : Nat → Nat} {L F : Nat} {w : lt_W} (hC : tx_C w T L) (hF : F < L) (h3 : lt_gi w 10 3 = nI F) (hS : tx_isS T F = true) : ∃ w', fb_X7_advance_52 σ 10 w = some w' ∧ lt_gi w' 10 3 = nI (tx_end (tx_isS T) L F) ∧ lt_gi w' 10 4 = nI F ∧ lt_gl w' 10 6 = lN (lr_e5 (tx_ls T F (tx_end (tx_isS T) L F))) ∧ lt_gi w' 10 5 = (if tx_end (tx_isS T) L F - F ≤ 8 then nI (tx_find tx_kw 1 (tx_ls T F (tx_end (tx_isS T) L F))) else 25) ∧ tx_Fk w w' := by
  obtain ⟨s1, s2, s3, s4⟩ := tx_end_spec (tx_isS T) (Nat.le_of_lt hF)
  let w3 := lt_si (lt_sl (lt_si w 10 4 (nI F)) 10 6 0) 10 7 0
  have hF3 : tx_Fk w w3 := (((tx_Fk.refl w).i (by decide) (by decide)).l).i (by decide) (by decide)
  have g3 : lt_gi w3 10 3 = nI F := by
    show lt_gi (lt_si (lt_sl (lt_si w 10 4 (nI F)) 10 6 0) 10 7 0) 10 3 = _
    rw [lu_ne (by omega), lu_gisl, lu_ne (by omega)]; exact h3
  have hC3 := hC.k hF3
  have l6 : lt_gl w3 10 6 = lN (lr_e5 (tx_ls T F F)) := by
    rw [tx_ls_0]
    show lt_gl (lt_si (lt_sl (lt_si w 10 4 (nI F)) 10 6 0) 10 7 0) 10 6 = _
    rw [lu_glsi, lu_glsl, if_pos ⟨rfl, rfl⟩]; rfl
  obtain ⟨q, y1, y2, y3, y4, y5⟩ := tx_letters hσ (Nat.le_of_lt hF) (tx_end (tx_isS T) L F - F) F lt_fu w3 hC3 (Nat.le_refl _) (by omega) (by have := hC.1; unfold lt_fu; omega) g3 l6
  have g4 : lt_gi q 10 4 = nI F := by
    rw [y4 _ _ (by omega)]
    show lt_gi (lt_si (lt_sl (lt_si w 10 4 (nI F)) 10 6 0) 10 7 0) 10 4 = _
    rw [lu_ne (by omega), lu_gisl, lu_eq]
  have hFq : tx_Fk w q := ⟨fun a k z => by rw [y4 a k (by omega)]; exact hF3.1 a k z, fun a k z => by rw [y5 a k z]; exact hF3.2 a k z⟩
  have hL := hC.1
  have hdec : 97 ≤ T F ∧ T F ≤ 122 := by unfold tx_isS at hS; exact of_decide_eq_true hS
  have hls : tx_L (tx_ls T F (tx_end (tx_isS T) L F)) := tx_ls_L fun k k1 k2 => by
    have := s3 k k1 k2
    unfold tx_isS at this; exact of_decide_eq_true this
  have esub : nI (tx_end (tx_isS T) L F) - nI F = nI (tx_end (tx_isS T) L F - F) := pk_sub s1
  refine ⟨lt_si q 10 5 (if tx_end (tx_isS T) L F - F ≤ 8 then nI (tx_find tx_kw 1 (tx_ls T F (tx_end (tx_isS T) L F))) else 25), ?_, (lu_ne (by omega)).trans y2, (lu_ne (by omega)).trans g4, y3, lu_eq, hFq.i (by decide) (by decide)⟩
  unfold fb_X7_advance_52
  rw [h3, lu_let, lu_let, lu_let]
  show (if lt_gi w3 10 3 < lt_gi w3 10 2 then _ else _) = _
  rw [g3, hC3.2.1, if_pos (nI_lt hF (by omega)), lq_r10_0 hσ, lq_l11 hσ, lu_ck (by omega) (by decide), nI_clamp (by omega)]
  show lt_let (lt_gi w3 11 F) _ = _
  rw [(hC3.2.2 F hF).2, lu_let]
  rcases tx_small (hC3.2.2 F hF).1 with ⟨-, -, z3, z4, -⟩ | ⟨z, -⟩
  · rw [if_neg z3, if_neg z4]
    show Option.bind (fb_X7_readLetters_0 σ 10 lt_fu w3) _ = _
    rw [y1, lu_bind, y2, g4, esub]
    by_cases c : tx_end (tx_isS T) L F - F ≤ 8
    · rw [if_pos (show nI (tx_end (tx_isS T) L F - F) ≤ 8 from nI_le (b := 8) c (by decide)), if_pos c, y3, tx_kind _ hls (by rw [tx_ls_len]; exact c), lu_bind]; rfl
    · rw [if_neg (show ¬ nI (tx_end (tx_isS T) L F - F) ≤ 8 from nI_ge (a := 8) (by omega) (by omega)), if_neg c]; rfl
  · exact absurd hdec z
end TW