/-! THE TEXTS: the starts -/
/-- a table of nobody -/
def la_0 : la_A := (fun j => if j = 1 then 4 else if j = 2 then 5 else if j = 3 then 2 else if j = 4 then 8 else 0, fun _ _ => 0)
theorem la_n_0 : la_n la_0 = 0 := rfl
theorem la_Ok_0 : la_Ok la_0 := ⟨rfl, by decide, ⟨4, by decide, by decide, rfl⟩, ⟨5, by decide, by decide, rfl⟩, ⟨2, by decide, by decide, rfl⟩, ⟨8, by decide, by decide, rfl⟩, ⟨0, by decide, by decide, rfl⟩, fun g hg => absurd hg (Nat.not_lt_zero _)⟩
section TST
variable {σ : lt_S}
theorem lc_clear {o : Nat} (w : lt_W) : ∃ w', f_X5_clear σ o w = some w' ∧ lc_T w' o la_0 ∧ (∀ a k, a ≠ o → lt_gi w' a k = lt_gi w a k) ∧ ∀ a k, lt_gl w' a k = lt_gl w a k := by
  refine ⟨_, rfl, ⟨rfl, by decide, fun k hk => ?_, ?_, fun g hg => absurd hg (Nat.not_lt_zero _)⟩, fun a k z => ?_, fun _ _ => rfl⟩
  · have h8 : k = 0 ∨ k = 1 ∨ k = 2 ∨ k = 3 ∨ k = 4 ∨ k = 5 ∨ k = 6 ∨ k = 7 := by omega
    rcases h8 with e | e | e | e | e | e | e | e <;> subst e <;> simp (disch := omega) only [lu_ne, lu_eq] <;> rfl
  · exact lu_eq
  · simp (disch := omega) only [lu_ne]
def tm_pv (k : Nat) : Int32 := if k = 8 then -1 else if k = 4 then 8 else if k = 3 then 2 else if k = 2 then 5 else if k = 1 then 4 else 0
theorem tm_plain (hσ : lr_S σ) {b : Nat} (hb : b + 428 ≤ 2560) (w : lt_W) : ∃ w', f_X12_plain σ 233 (nI b) w = some w' ∧ (∀ k, k < 428 → lt_gi w' 234 (b + k) = tm_pv k) ∧ lm_F 234 b (b + 428) w w' := by
  unfold f_X12_plain fb_X12_plain_0
  refine lu_upR (fun f k u => fb_X12_plain_2 σ 233 f (nI b) (nI k) u) 428 (fun k u => (∀ j, j < k → lt_gi u 234 (b + j) = 0) ∧ lm_F 234 b (b + 428) w u) _ (fun f k u hk hI => ?_) (fun f u hI => ?_) lt_fu 0 w (by omega) (by unfold lt_fu; omega) ⟨fun j hj => by omega, lm_F.refl _ _ _ _⟩
  · obtain ⟨x1, x2⟩ := hI
    show ∃ b', fb_X12_plain_2 σ 233 (f + 1) _ (nI k) u = fb_X12_plain_2 σ 233 f _ (nI (k + 1)) b' ∧ _
    rw [fb_X12_plain_2, if_neg (show ¬ (428 : Int32) ≤ nI k from nI_ge (b := 428) hk (by decide)), lr_at hσ, lq_l234 hσ, nI_add, lu_ck (by omega) (by decide), lu_let, nI_clamp (by omega), nI_1]
    refine ⟨_, rfl, fun j hj => ?_, x2.si (by omega) (by omega)⟩
    by_cases e : j = k
    · rw [e, lu_eq]
    · rw [lu_ne (by omega)]; exact x1 j (by omega)
  · obtain ⟨x1, x2⟩ := hI
    show ∃ r, fb_X12_plain_2 σ 233 (f + 1) _ _ _ = _ ∧ _
    rw [fb_X12_plain_2, if_pos (show (428 : Int32) ≤ nI 428 from nI_le (a := 428) (by decide) (by decide)), lr_at hσ, lq_l234 hσ, lm_a1, lm_a2, lm_a3, lm_a4, lm_a8]
    rw [lu_ck (by omega) (by decide), lu_let, lu_ck (by omega) (by decide), lu_let, lu_ck (by omega) (by decide), lu_let, lu_ck (by omega) (by decide), lu_let, lu_ck (by omega) (by decide), lu_let]
    rw [nI_clamp (by omega), nI_clamp (by omega), nI_clamp (by omega), nI_clamp (by omega), nI_clamp (by omega)]
    refine ⟨_, rfl, fun k hk => ?_, ((((x2.si (by omega) (by omega)).si (by omega) (by omega)).si (by omega) (by omega)).si (by omega) (by omega)).si (by omega) (by omega)⟩
    unfold tm_pv
    by_cases e8 : k = 8
    · rw [if_pos e8, e8, lu_eq]
    rw [if_neg e8, lu_ne (by omega)]
    by_cases e4 : k = 4
    · rw [if_pos e4, e4, lu_eq]
    rw [if_neg e4, lu_ne (by omega)]
    by_cases e3 : k = 3
    · rw [if_pos e3, e3, lu_eq]
    rw [if_neg e3, lu_ne (by omega)]
    by_cases e2 : k = 2
    · rw [if_pos e2, e2, lu_eq]
    rw [if_neg e2, lu_ne (by omega)]
    by_cases e1 : k = 1
    · rw [if_pos e1, e1, lu_eq]
    rw [if_neg e1, lu_ne (by omega)]
    exact x1 k hk
theorem tm_plainT {w : lt_W} {b : Nat} (h : ∀ k, k < 428 → lt_gi w 234 (b + k) = tm_pv k) : lm_T w 234 b la_0 := by
  refine ⟨rfl, by decide, fun k hk => ?_, fun g hg => absurd hg (Nat.not_lt_zero _)⟩
  rw [h k (by omega)]
  have h8 : k = 0 ∨ k = 1 ∨ k = 2 ∨ k = 3 ∨ k = 4 ∨ k = 5 ∨ k = 6 ∨ k = 7 := by omega
  rcases h8 with e | e | e | e | e | e | e | e <;> subst e <;> rfl
/-- the text's bytes, out of the tape -/
def tx_T (w : lt_W) (k : Nat) : Nat := (lt_gi w 11 k &&& 255).toNatClampNeg
theorem tx_T_by {w : lt_W} {k : Nat} (h : lr_by (lt_gi w 11 k)) : tx_T w k < 256 ∧ lt_gi w 11 k = tx_s (tx_T w k) ∧ lt_gi w 11 k &&& 255 = nI (tx_T w k) := by
  obtain ⟨b, h1, h2, h3⟩ := tx_by h
  have e : tx_T w k = b := by unfold tx_T; rw [h3]; exact nI_clamp (by omega)
  rw [e]; exact ⟨h1, h2, h3⟩
theorem tc_begin (hσ : lr_S σ) {w : lt_W} {m n : Nat} (hn : n ≤ m) (hm : m ≤ 900) (h1 : lt_gi w 10 1 = nI m) (hT : ∀ k, k < m → lr_by (lt_gi w 11 k)) : ∃ w', f_X7_begin σ 10 (nI n) w = some w' ∧ tx_Ct w' (tx_T w) n 0 ∧ lt_gi w' 10 1 = 0 ∧ lt_gi w' 10 9 = 0 ∧ lt_gi w' 10 10 = -1 ∧ (∀ a k, ¬ (a = 10 ∧ 1 ≤ k ∧ k ≤ 10) → lt_gi w' a k = lt_gi w a k) ∧ ∀ a k, ¬ (a = 10 ∧ k = 6) → lt_gl w' a k = lt_gl w a k := by
  let w5 := lt_si (lt_si (lt_si (lt_si (lt_si w 10 2 (nI n)) 10 1 0) 10 3 0) 10 9 0) 10 10 (-1)
  have o5 : ∀ a k, ¬ (a = 10 ∧ (k = 1 ∨ k = 2 ∨ k = 3 ∨ k = 9 ∨ k = 10)) → lt_gi w5 a k = lt_gi w a k := fun a k z => by
    show lt_gi (lt_si (lt_si (lt_si (lt_si (lt_si w 10 2 (nI n)) 10 1 0) 10 3 0) 10 9 0) 10 10 (-1)) a k = _
    rw [lu_ne (by omega), lu_ne (by omega), lu_ne (by omega), lu_ne (by omega), lu_ne (by omega)]
  have hC : tx_C w5 (tx_T w) n := by
    refine ⟨by omega, ?_, fun k hk => ?_⟩
    · show lt_gi (lt_si (lt_si (lt_si (lt_si (lt_si w 10 2 (nI n)) 10 1 0) 10 3 0) 10 9 0) 10 10 (-1)) 10 2 = _
      rw [lu_ne (by omega), lu_ne (by omega), lu_ne (by omega), lu_ne (by omega), lu_eq]
    · have := tx_T_by (hT k (by omega))
      exact ⟨this.1, (o5 11 k (by omega)).trans this.2.1⟩
  have h3 : lt_gi w5 10 3 = nI 0 := by
    show lt_gi (lt_si (lt_si (lt_si (lt_si (lt_si w 10 2 (nI n)) 10 1 0) 10 3 0) 10 9 0) 10 10 (-1)) 10 3 = _
    rw [lu_ne (by omega), lu_ne (by omega), lu_eq]; rfl
  obtain ⟨w', a1, a2, a3⟩ := tx_advC hσ hC (Nat.zero_le _) h3
  refine ⟨w', ?_, a2, ?_, ?_, ?_, fun a k z => (a3.1 a k (by omega)).trans (o5 a k (by omega)), fun a k z => a3.2 a k z⟩
  · unfold f_X7_begin fb_X7_begin_0
    rw [h1, lu_min (by omega) (by omega), Nat.min_eq_left hn]
    show Option.bind (f_X7_advance σ 10 w5) _ = _
    rw [a1]; rfl
  · rw [a3.1 _ _ (by omega)]
    show lt_gi (lt_si (lt_si (lt_si (lt_si (lt_si w 10 2 (nI n)) 10 1 0) 10 3 0) 10 9 0) 10 10 (-1)) 10 1 = _
    rw [lu_ne (by omega), lu_ne (by omega), lu_ne (by omega), lu_eq]
  · rw [a3.1 _ _ (by omega)]
    show lt_gi (lt_si (lt_si (lt_si (lt_si (lt_si w 10 2 (nI n)) 10 1 0) 10 3 0) 10 9 0) 10 10 (-1)) 10 9 = _
    rw [lu_ne (by omega), lu_eq]
  · rw [a3.1 _ _ (by omega)]; exact lu_eq
theorem tm_begins (hσ : lr_S σ) {w : lt_W} {T : Nat → Nat} {m n q : Nat} (hn : n ≤ m) (hm : m ≤ 900) (hq : n ≤ q) (hq2 : q < 2 ^ 31) (h1 : lt_gi w 233 10 = nI m) (hT : ∀ k, k < n → lr_by (lt_gi w 239 k) ∧ T k < 256 ∧ lt_gi w 239 k &&& 255 = nI (T k)) : ∃ w', f_X12_begins σ 233 (nI n) (nI q) w = some (1, w') ∧ tx_Mt w' T n 0 ∧ lt_gi w' 233 10 = 0 ∧ lt_gi w' 233 18 = 0 ∧ lt_gi w' 233 17 = -1 ∧ (∀ a k, ¬ (a = 233 ∧ (10 ≤ k ∧ k ≤ 19 ∧ k ≠ 16)) → a ≠ 240 → lt_gi w' a k = lt_gi w a k) ∧ ∀ a k, lt_gl w' a k = lt_gl w a k := by
  unfold f_X12_begins fb_X12_begins_0
  rw [if_neg (nI_pos (by omega)), h1, if_neg (nI_nlt hn (by omega)), if_pos (nI_le hq hq2), lu_let]
  have key : ∃ r, fb_X12_begins_26 σ 233 lt_fu (nI n) (nI 0) (lt_si w 233 11 (nI n)) = some r ∧ ∃ w', r = (1, w') ∧ tx_Mt w' T n 0 ∧ lt_gi w' 233 10 = 0 ∧ lt_gi w' 233 18 = 0 ∧ lt_gi w' 233 17 = -1 ∧ (∀ a k, ¬ (a = 233 ∧ (10 ≤ k ∧ k ≤ 19 ∧ k ≠ 16)) → a ≠ 240 → lt_gi w' a k = lt_gi w a k) ∧ ∀ a k, lt_gl w' a k = lt_gl w a k := by
    refine lu_upR (fun f k u => fb_X12_begins_26 σ 233 f (nI n) (nI k) u) n (fun k u => (∀ j, j < k → lt_gi u 240 j = lt_gi w 239 j) ∧ lt_gi u 233 11 = nI n ∧ (∀ a j, ¬ (a = 233 ∧ j = 11) → a ≠ 240 → lt_gi u a j = lt_gi w a j) ∧ ∀ a j, lt_gl u a j = lt_gl w a j) (fun r : Int32 × lt_W => ∃ w', r = (1, w') ∧ tx_Mt w' T n 0 ∧ lt_gi w' 233 10 = 0 ∧ lt_gi w' 233 18 = 0 ∧ lt_gi w' 233 17 = -1 ∧ (∀ a k, ¬ (a = 233 ∧ (10 ≤ k ∧ k ≤ 19 ∧ k ≠ 16)) → a ≠ 240 → lt_gi w' a k = lt_gi w a k) ∧ ∀ a k, lt_gl w' a k = lt_gl w a k) (fun f k u hk hI => ?_) (fun f u hI => ?_) lt_fu 0 _ (by omega) (by unfold lt_fu; omega) ⟨fun j hj => by omega, lu_eq, fun a j z y => lu_ne (by omega), fun _ _ => rfl⟩
    · obtain ⟨x1, x2, x3, x4⟩ := hI
      show ∃ b', fb_X12_begins_26 σ 233 (f + 1) _ (nI k) u = fb_X12_begins_26 σ 233 f _ (nI (k + 1)) b' ∧ _
      rw [fb_X12_begins_26, if_neg (nI_ge hk (by omega)), lq_r233_8 hσ, lq_l239 hσ, lq_r233_9 hσ, lq_l240 hσ, lu_ck (by omega) (by decide), lu_ck (by omega) (by decide), lu_let, nI_clamp (by omega), nI_1]
      refine ⟨_, rfl, fun j hj => ?_, (lu_ne (by omega)).trans x2, fun a j z y => (lu_ne (by omega)).trans (x3 a j z y), x4⟩
      by_cases e : j = k
      · have hb : (lt_gi w 239 k).toInt8.toInt32 = lt_gi w 239 k := (hT k hk).1
        rw [e, lu_eq, x3 _ _ (by omega) (by omega), ← hb, pk_vb]
      · rw [lu_ne (by omega)]; exact x1 j (by omega)
    · obtain ⟨x1, x2, x3, x4⟩ := hI
      show ∃ r, fb_X12_begins_26 σ 233 (f + 1) _ _ _ = _ ∧ _
      rw [fb_X12_begins_26, if_pos (nI_le (Nat.le_refl _) (by omega)), lu_let, lu_let, lu_let, lu_let, lu_let]
      let w5 := lt_si (lt_si (lt_si (lt_si (lt_si u 233 10 0) 233 18 0) 233 17 (-1)) 233 14 0) 233 19 0
      have o5 : ∀ a k, ¬ (a = 233 ∧ (k = 10 ∨ k = 18 ∨ k = 17 ∨ k = 14 ∨ k = 19)) → lt_gi w5 a k = lt_gi u a k := fun a k z => by
        show lt_gi (lt_si (lt_si (lt_si (lt_si (lt_si u 233 10 0) 233 18 0) 233 17 (-1)) 233 14 0) 233 19 0) a k = _
        rw [lu_ne (by omega), lu_ne (by omega), lu_ne (by omega), lu_ne (by omega), lu_ne (by omega)]
      have hM : tx_M w5 T n := ⟨by omega, (o5 _ _ (by omega)).trans x2, fun k hk => ⟨(hT k hk).2.1, by rw [o5 _ _ (by omega), x1 k hk]; exact (hT k hk).2.2⟩⟩
      have h14 : lt_gi w5 233 14 = nI 0 := by
        show lt_gi (lt_si (lt_si (lt_si (lt_si (lt_si u 233 10 0) 233 18 0) 233 17 (-1)) 233 14 0) 233 19 0) 233 14 = _
        rw [lu_ne (by omega), lu_eq]; rfl
      obtain ⟨w', a1, a2, a3⟩ := tx_advM hσ hM (Nat.zero_le _) h14
      refine ⟨(1, w'), ?_, w', rfl, a2, ?_, ?_, ?_, fun a k z y => (a3.1 a k (by omega)).trans ((o5 a k (by omega)).trans (x3 a k (by omega) y)), fun a k => (a3.2 a k).trans (x4 a k)⟩
      · show Option.bind (f_X12_ahead σ 233 w5) _ = _
        rw [a1]; rfl
      · rw [a3.1 _ _ (by omega)]
        show lt_gi (lt_si (lt_si (lt_si (lt_si (lt_si u 233 10 0) 233 18 0) 233 17 (-1)) 233 14 0) 233 19 0) 233 10 = _
        rw [lu_ne (by omega), lu_ne (by omega), lu_ne (by omega), lu_ne (by omega), lu_eq]
      · rw [a3.1 _ _ (by omega)]
        show lt_gi (lt_si (lt_si (lt_si (lt_si (lt_si u 233 10 0) 233 18 0) 233 17 (-1)) 233 14 0) 233 19 0) 233 18 = _
        rw [lu_ne (by omega), lu_ne (by omega), lu_ne (by omega), lu_eq]
      · rw [a3.1 _ _ (by omega)]
        show lt_gi (lt_si (lt_si (lt_si (lt_si (lt_si u 233 10 0) 233 18 0) 233 17 (-1)) 233 14 0) 233 19 0) 233 17 = _
        rw [lu_ne (by omega), lu_ne (by omega), lu_eq]
  obtain ⟨r, e, w', rfl, hr⟩ := key
  exact ⟨w', e, hr⟩
end TST