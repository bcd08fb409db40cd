/-! THE TEXTS: tokens, the reference -/
section TM
variable {σ : lt_S}
/-- what a token's reading changes in the reference -/
def tx_Fm (w w' : lt_W) : Prop := (∀ a k, ¬ (a = 233 ∧ (12 ≤ k ∧ k ≤ 15)) → lt_gi w' a k = lt_gi w a k) ∧ ∀ a k, lt_gl w' a k = lt_gl w a k
theorem tx_Fm.refl (w : lt_W) : tx_Fm w w := ⟨fun _ _ _ => rfl, fun _ _ => rfl⟩
theorem tx_Fm.trans {w w' w'' : lt_W} (h : tx_Fm w w') (h' : tx_Fm w' w'') : tx_Fm w w'' := ⟨fun a k z => (h'.1 a k z).trans (h.1 a k z), fun a k => (h'.2 a k).trans (h.2 a k)⟩
theorem tx_Fm.i {w w' : lt_W} {k : Nat} {v : Int32} (h : tx_Fm w w') (h3 : 12 ≤ k) (h8 : k ≤ 15) : tx_Fm w (lt_si w' 233 k v) := ⟨fun a j z => by rw [lu_ne (by omega)]; exact h.1 a j z, h.2⟩
theorem tx_M.k {w w' : lt_W} {T : Nat → Nat} {L : Nat} (h : tx_M w T L) (hF : tx_Fm w w') : tx_M w' T L := ⟨h.1, (hF.1 233 11 (by omega)).trans h.2.1, fun k hk => ⟨(h.2.2 k hk).1, by rw [hF.1 240 k (by omega)]; exact (h.2.2 k hk).2⟩⟩
def tx_tl (σ : lt_S) (w5 : lt_W) (q4 : Int32) : Option lt_W := if q4 = (-1) then lt_let (lt_si w5 233 12 0) (fun w10 => some w10) else Option.bind (f_X12_isSmall q4) (fun q6 => if q6 = 0 then Option.bind (f_X12_isDigit q4) (fun q7 => if q7 = 0 then lt_let (lt_si w5 233 14 ((lt_gi w5 233 14) + 1)) (fun w8 => if q4 = 59 then fb_X12_ahead_248 σ 233 4 w8 else if q4 = 60 then fb_X12_ahead_248 σ 233 4 w8 else if q4 = 62 then fb_X12_ahead_248 σ 233 4 w8 else if q4 = 61 then fb_X12_ahead_248 σ 233 4 w8 else fb_X12_ahead_248 σ 233 1 w8) else lt_let (lt_si w5 233 15 0) (fun w9 => fb_X12_ahead_128 σ 233 lt_fu w9)) else fb_X12_ahead_81 σ 233 lt_fu w5)
def tx_q (T : Nat → Nat) (L F : Nat) : Int32 := if F < L then nI (T F) else -1
def tx_h (w : lt_W) (T : Nat → Nat) (L F : Nat) : lt_W := lt_si (lt_si w 233 13 (nI F)) 233 15 (tx_q T L F)
theorem tx_h_F {w : lt_W} {T : Nat → Nat} {L F : Nat} : tx_Fm w (tx_h w T L F) := ((tx_Fm.refl w).i (by decide) (by decide)).i (by decide) (by decide)
theorem tx_hd (hσ : lr_S σ) {T : Nat → Nat} {L F : Nat} {w : lt_W} (hM : tx_M w T L) (hF : F ≤ L) (h14 : lt_gi w 233 14 = nI F) (hB : F < L → tx_isB T F = false) (n : Nat) : fb_X12_ahead_0 σ 233 (n + 1) w = tx_tl σ (tx_h w T L F) (tx_q T L F) := by
  have hb : f_X12_byteAt σ 233 (nI F) w = some (tx_q T L F) := tx_byte hσ hM hF
  have hM3 : tx_M (lt_si w 233 13 (nI F)) T L := hM.k ((tx_Fm.refl w).i (by decide) (by decide))
  have hb3 : f_X12_byteAt σ 233 (nI F) (lt_si w 233 13 (nI F)) = some (tx_q T L F) := tx_byte hσ hM3 hF
  have n32 : ∀ c, (c = 32 ∨ c = 10) → ¬ tx_q T L F = nI c := fun c hc z => by
    unfold tx_q at z
    by_cases e : F < L
    · rw [if_pos e] at z
      have h1 := (hM.2.2 F e).1
      have h2 := (nI_eq (by omega) (by omega)).mp z
      have h3 := hB e
      unfold tx_isB at h3
      exact (of_decide_eq_false h3) (by omega)
    · rw [if_neg e] at z
      exact lu_m1ne (i := c) (by omega) z
  rw [fb_X12_ahead_0, h14, hb, lu_bind, if_neg (show ¬ tx_q T L F = 32 from n32 32 (Or.inl rfl)), lu_bind, if_neg (show ¬ tx_q T L F = 10 from n32 10 (Or.inr rfl)), lu_let, lu_ne (show (233 : Nat) ≠ 233 ∨ 14 ≠ 13 by omega), h14, hb3, lu_bind, lu_let]
  rfl
theorem tx_m_e (hσ : lr_S σ) {T : Nat → Nat} {L : Nat} {w : lt_W} (hM : tx_M w T L) (h14 : lt_gi w 233 14 = nI L) (n : Nat) : ∃ w', fb_X12_ahead_0 σ 233 (n + 1) w = some w' ∧ lt_gi w' 233 13 = nI L ∧ lt_gi w' 233 14 = nI L ∧ lt_gi w' 233 12 = 0 ∧ tx_Fm w w' := by
  refine ⟨lt_si (tx_h w T L L) 233 12 0, ?_, ?_, ?_, lu_eq, tx_h_F.i (by decide) (by decide)⟩
  · rw [tx_hd hσ hM (Nat.le_refl _) h14 (fun z => absurd z (Nat.lt_irrefl _)) n]
    unfold tx_tl
    rw [if_pos (show tx_q T L L = -1 from if_neg (Nat.lt_irrefl _))]; rfl
  · rw [lu_ne (by omega)]; unfold tx_h; rw [lu_ne (by omega), lu_eq]
  · rw [lu_ne (by omega)]; unfold tx_h; rw [lu_ne (by omega), lu_ne (by omega)]; exact h14
theorem tx_tl_b {T : Nat → Nat} {L F : Nat} {w : lt_W} (hF : F < L) (hT : T F < 256) : ¬ tx_q T L F = -1 := by
  unfold tx_q; rw [if_pos hF]; exact lu_ne1 (by omega)
theorem tx_m_w (hσ : lr_S σ) {T : Nat → Nat} {L F : Nat} {w : lt_W} (hM : tx_M w T L) (hF : F < L) (h14 : lt_gi w 233 14 = nI F) (hS : tx_isS T F = true) (n : Nat) : ∃ w', fb_X12_ahead_0 σ 233 (n + 1) w = some w' ∧ lt_gi w' 233 13 = nI F ∧ lt_gi w' 233 14 = nI (tx_end (tx_isS T) L F) ∧ lt_gi w' 233 12 = 2 ∧ tx_Fm w w' := by
  have hb := (hM.2.2 F hF).1
  have hdec : 97 ≤ T F ∧ T F ≤ 122 := by unfold tx_isS at hS; exact of_decide_eq_true hS
  have hB : tx_isB T F = false := by unfold tx_isB; exact decide_eq_false (by omega)
  have h5 : lt_gi (tx_h w T L F) 233 14 = nI F := by unfold tx_h; rw [lu_ne (by omega), lu_ne (by omega)]; exact h14
  obtain ⟨s1, s2, s3, s4⟩ := tx_end_spec (tx_isS T) (Nat.le_of_lt hF)
  have hL := hM.1
  obtain ⟨w', y1, y2, y3, y4, y5⟩ := tx_small81 hσ (Nat.le_of_lt hF) (tx_end (tx_isS T) L F - F) F lt_fu (tx_h w T L F) (hM.k tx_h_F) (Nat.le_refl _) (by omega) (by unfold lt_fu; omega) h5
  refine ⟨w', ?_, ?_, y2, y3, tx_h_F.trans ⟨fun a k z => y4 a k (by omega), y5⟩⟩
  · rw [tx_hd hσ hM (Nat.le_of_lt hF) h14 (fun _ => hB) n]
    unfold tx_tl
    rw [if_neg (tx_tl_b (w := w) hF hb), show tx_q T L F = nI (T F) from if_pos hF]
    rcases tx_small hb with ⟨-, -, -, -, z, -⟩ | ⟨z, -⟩
    · rw [z, lu_bind, if_neg lu_10]; exact y1
    · exact absurd hdec z
  · rw [y4 _ _ (by omega)]; unfold tx_h; rw [lu_ne (by omega), lu_eq]
theorem tx_m_n (hσ : lr_S σ) {T : Nat → Nat} {L F : Nat} {w : lt_W} (hM : tx_M w T L) (hF : F < L) (h14 : lt_gi w 233 14 = nI F) (hD : tx_isD T F = true) (n : Nat) : ∃ w', fb_X12_ahead_0 σ 233 (n + 1) w = some w' ∧ lt_gi w' 233 13 = nI F ∧ lt_gi w' 233 14 = nI (tx_end (tx_isD T) L F) ∧ lt_gi w' 233 12 = (if tx_end (tx_isD T) L F - F ≤ 4 then 3 else 1) ∧ (tx_end (tx_isD T) L F - F ≤ 4 → lt_gi w' 233 15 = nI (tx_nu T F (tx_end (tx_isD T) L F - F))) ∧ tx_Fm w w' := by
  have hb := (hM.2.2 F hF).1
  have hdec : 48 ≤ T F ∧ T F ≤ 57 := by unfold tx_isD at hD; exact of_decide_eq_true hD
  have hB : tx_isB T F = false := by unfold tx_isB; exact decide_eq_false (by omega)
  have h5 : lt_gi (tx_h w T L F) 233 14 = nI F := by unfold tx_h; rw [lu_ne (by omega), lu_ne (by omega)]; exact h14
  have h6 : lt_gi (tx_h w T L F) 233 13 = nI F := by unfold tx_h; rw [lu_ne (by omega), lu_eq]
  obtain ⟨s1, s2, s3, s4⟩ := tx_end_spec (tx_isD T) (Nat.le_of_lt hF)
  have hL := hM.1
  have hF9 : tx_Fm w (lt_si (tx_h w T L F) 233 15 0) := tx_h_F.i (by decide) (by decide)
  obtain ⟨w', y1, y2, y3, y4, y5, y6⟩ := tx_digit128 hσ (Nat.le_of_lt hF) (tx_end (tx_isD T) L F - F) F lt_fu (lt_si (tx_h w T L F) 233 15 0) (hM.k hF9) (Nat.le_refl _) (by omega) (by unfold lt_fu; omega) ((lu_ne (by omega)).trans h6) ((lu_ne (by omega)).trans h5) (by rw [Nat.sub_self]; exact lu_eq)
  refine ⟨w', ?_, ?_, y2, y3, fun h4 => ?_, hF9.trans ⟨fun a k z => y5 a k (by omega), y6⟩⟩
  · rw [tx_hd hσ hM (Nat.le_of_lt hF) h14 (fun _ => hB) n]
    unfold tx_tl
    rw [if_neg (tx_tl_b (w := w) hF hb), show tx_q T L F = nI (T F) from if_pos hF]
    rcases tx_small hb with ⟨z1, z2, -⟩ | ⟨-, -, z⟩
    · omega
    · rw [z, lu_bind, if_pos rfl]
      rcases tx_digit hb with ⟨-, -, -, -, z, -⟩ | ⟨z, -⟩
      · rw [z, lu_bind, if_neg lu_10, lu_let]; exact y1
      · exact absurd hdec z
  · rw [y5 _ _ (by omega), lu_ne (by omega)]; exact h6
  · rw [y4, tx_nm_nu _ h4 (fun k k1 k2 => by
      have := s3 k k1 (by omega)
      unfold tx_isD at this
      exact (of_decide_eq_true this).2)]
theorem tx_m_s (hσ : lr_S σ) {T : Nat → Nat} {L F : Nat} {w : lt_W} (hM : tx_M w T L) (hF : F < L) (h14 : lt_gi w 233 14 = nI F) (hB : tx_isB T F = false) (hS : tx_isS T F = false) (hD : tx_isD T F = false) (n : Nat) : ∃ w', fb_X12_ahead_0 σ 233 (n + 1) w = some w' ∧ lt_gi w' 233 13 = nI F ∧ lt_gi w' 233 14 = nI (F + 1) ∧ (tx_sg (T F) → lt_gi w' 233 12 = 4) ∧ (¬ tx_sg (T F) → lt_gi w' 233 12 = 1) ∧ lt_gi w' 233 15 = nI (T F) ∧ tx_Fm w w' := by
  have hb := (hM.2.2 F hF).1
  have h5 : lt_gi (tx_h w T L F) 233 14 = nI F := by unfold tx_h; rw [lu_ne (by omega), lu_ne (by omega)]; exact h14
  have h6 : lt_gi (tx_h w T L F) 233 13 = nI F := by unfold tx_h; rw [lu_ne (by omega), lu_eq]
  have h7 : lt_gi (tx_h w T L F) 233 15 = nI (T F) := by unfold tx_h; rw [lu_eq]; exact if_pos hF
  have hF8 : tx_Fm w (lt_si (tx_h w T L F) 233 14 (nI (F + 1))) := tx_h_F.i (by decide) (by decide)
  have key : ∀ v : Int32, tx_tl σ (tx_h w T L F) (tx_q T L F) = some (lt_si (lt_si (tx_h w T L F) 233 14 (nI (F + 1))) 233 12 v) → ∃ w', fb_X12_ahead_0 σ 233 (n + 1) w = some w' ∧ lt_gi w' 233 13 = nI F ∧ lt_gi w' 233 14 = nI (F + 1) ∧ lt_gi w' 233 12 = v ∧ lt_gi w' 233 15 = nI (T F) ∧ tx_Fm w w' := fun v hv =>
    ⟨_, (tx_hd hσ hM (Nat.le_of_lt hF) h14 (fun _ => hB) n).trans hv, by rw [lu_ne (by omega), lu_ne (by omega)]; exact h6, by rw [lu_ne (by omega), lu_eq], lu_eq, by rw [lu_ne (by omega), lu_ne (by omega)]; exact h7, hF8.i (by decide) (by decide)⟩
  have hd : tx_tl σ (tx_h w T L F) (tx_q T L F) = (if nI (T F) = 59 then fb_X12_ahead_248 σ 233 4 (lt_si (tx_h w T L F) 233 14 (nI (F + 1))) else if nI (T F) = 60 then fb_X12_ahead_248 σ 233 4 (lt_si (tx_h w T L F) 233 14 (nI (F + 1))) else if nI (T F) = 62 then fb_X12_ahead_248 σ 233 4 (lt_si (tx_h w T L F) 233 14 (nI (F + 1))) else if nI (T F) = 61 then fb_X12_ahead_248 σ 233 4 (lt_si (tx_h w T L F) 233 14 (nI (F + 1))) else fb_X12_ahead_248 σ 233 1 (lt_si (tx_h w T L F) 233 14 (nI (F + 1)))) := by
    unfold tx_tl
    rw [if_neg (tx_tl_b (w := w) hF hb), show tx_q T L F = nI (T F) from if_pos hF]
    rcases tx_small hb with ⟨z1, z2, -⟩ | ⟨-, -, z⟩
    · unfold tx_isS at hS
      exact absurd ⟨z1, z2⟩ (of_decide_eq_false hS)
    · rw [z, lu_bind, if_pos rfl]
      rcases tx_digit hb with ⟨z1, z2, -⟩ | ⟨-, -, z⟩
      · unfold tx_isD at hD
        exact absurd ⟨z1, z2⟩ (of_decide_eq_false hD)
      · rw [z, lu_bind, if_pos rfl, lu_let, h5, nI_1]
  by_cases c : tx_sg (T F)
  · obtain ⟨w', a1, a2, a3, a4, a5, a6⟩ := key 4 (by
      rw [hd]
      rcases c with z | z | z | z
      · rw [z, if_pos (show nI 59 = 59 from rfl)]; rfl
      · rw [z, if_neg (by decide), if_pos (show nI 60 = 60 from rfl)]; rfl
      · rw [z, if_neg (by decide), if_neg (by decide), if_pos (show nI 62 = 62 from rfl)]; rfl
      · rw [z, if_neg (by decide), if_neg (by decide), if_neg (by decide), if_pos (show nI 61 = 61 from rfl)]; rfl)
    exact ⟨w', a1, a2, a3, fun _ => a4, fun z => absurd c z, a5, a6⟩
  · obtain ⟨w', a1, a2, a3, a4, a5, a6⟩ := key 1 (by
      rw [hd]
      have n : ∀ x, x < 128 → T F ≠ x → ¬ nI (T F) = nI x := fun x hx h z => h ((tx_sEq hb hx).2.mp z)
      unfold tx_sg at c
      rw [if_neg (show ¬ nI (T F) = 59 from n 59 (by decide) (by omega)), if_neg (show ¬ nI (T F) = 60 from n 60 (by decide) (by omega)), if_neg (show ¬ nI (T F) = 62 from n 62 (by decide) (by omega)), if_neg (show ¬ nI (T F) = 61 from n 61 (by decide) (by omega))]
      rfl)
    exact ⟨w', a1, a2, a3, fun z => absurd z c, fun _ => a4, a5, a6⟩
end TM