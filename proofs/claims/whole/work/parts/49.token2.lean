/-! THE TEXTS: digits, the class -/
/-- the number the digits from p to e say -/
def tx_nu (T : Nat → Nat) (p : Nat) : Nat → Nat
  | 0 => 0
  | n + 1 => 10 * tx_nu T p n + (T (p + n) - 48)
theorem tx_nu_lt {T : Nat → Nat} {p : Nat} : ∀ n, (∀ k, p ≤ k → k < p + n → T k ≤ 57) → tx_nu T p n < 10 ^ n := by
  intro n
  induction n with
  | zero => intro _; show 0 < 1; decide
  | succ n ih =>
    intro h
    have := ih (fun k h1 h2 => h k h1 (by omega))
    have h9 := h (p + n) (by omega) (by omega)
    rw [tx_nu, Nat.pow_succ]; omega
section TD
variable {σ : lt_S}
theorem tx_digits (hσ : lr_S σ) {T : Nat → Nat} {L p : Nat} (hp : p ≤ L) : ∀ r e f (w : lt_W), tx_C w T L → p ≤ e → e + r = tx_end (tx_isD T) L p → r < f → lt_gi w 10 3 = nI e → lt_gi w 10 7 = nI (tx_nu T p (e - p)) → ∃ w', fb_X7_readDigits_0 σ 10 f w = some w' ∧ lt_gi w' 10 3 = nI (tx_end (tx_isD T) L p) ∧ lt_gi w' 10 7 = nI (tx_nu T p (tx_end (tx_isD T) L p - p)) ∧ (∀ a k, ¬ (a = 10 ∧ (k = 3 ∨ k = 7)) → lt_gi w' a k = lt_gi w a k) ∧ ∀ a k, lt_gl w' a k = lt_gl w a k := by
  obtain ⟨s1, s2, s3, s4⟩ := tx_end_spec (tx_isD T) hp
  intro r
  induction r with
  | zero =>
    intro e f w hC pe er hf h3 h6
    obtain ⟨f, rfl⟩ : ∃ g, f = g + 1 := ⟨f - 1, by omega⟩
    obtain rfl : e = tx_end (tx_isD T) L p := by omega
    refine ⟨w, ?_, h3, h6, fun _ _ _ => rfl, fun _ _ => rfl⟩
    obtain ⟨c1, c2, c3⟩ := hC
    rw [fb_X7_readDigits_0, c2, h3]
    by_cases c : L ≤ tx_end (tx_isD T) L p
    · rw [if_pos (nI_le c (by omega))]
    · have hc : tx_end (tx_isD T) L p < L := by omega
      have := s4 hc
      rw [if_neg (nI_ge hc (by omega)), lq_r10_0 hσ, lq_l11 hσ, lu_ck (by omega) (by decide), nI_clamp (by omega), (c3 _ hc).2, lu_ck (by omega) (by decide)]
      rcases tx_digit (c3 _ hc).1 with ⟨z1, z2, -⟩ | ⟨-, z | ⟨z1, z2⟩, -⟩
      · unfold tx_isD at this
        rw [decide_eq_false_iff_not] at this
        exact absurd ⟨z1, z2⟩ this
      · rw [if_pos z]
      · rw [if_neg z1, if_pos z2]
  | succ r ih =>
    intro e f w hC pe er hf h3 h6
    obtain ⟨f, rfl⟩ : ∃ g, f = g + 1 := ⟨f - 1, by omega⟩
    have heL : e < L := by omega
    have hs := s3 e pe (by omega)
    obtain ⟨c1, c2, c3⟩ := hC
    have hse : 48 ≤ T e ∧ T e ≤ 57 := by
      unfold tx_isD at hs
      exact of_decide_eq_true hs
    rcases tx_digit (c3 e heL).1 with ⟨z1, z2, z3, z4, z5, z6⟩ | ⟨z, -⟩
    · have hpk : nI (tx_nu T p (e - p)) * 10 + (nI (T e) - 48) = nI (tx_nu T p (e + 1 - p)) := by
        rw [show (48 : Int32) = nI 48 from rfl, pk_sub z1, show (10 : Int32) = nI 10 from rfl, pk_mul, nI_add, show e + 1 - p = e - p + 1 by omega, tx_nu, show p + (e - p) = e by omega, Nat.mul_comm]
      obtain ⟨w', y1, y2, y3, y4, y5⟩ := ih (e + 1) f (lt_si (lt_si w 10 7 (nI (tx_nu T p (e + 1 - p)))) 10 3 (nI (e + 1))) ⟨c1, (lu_ne (by omega)).trans ((lu_ne (by omega)).trans c2), fun k hk => ⟨(c3 k hk).1, (lu_ne (by omega)).trans ((lu_ne (by omega)).trans (c3 k hk).2)⟩⟩ (by omega) (by omega) (by omega) lu_eq ((lu_ne (by omega)).trans lu_eq)
      refine ⟨w', ?_, y2, y3, fun a k z => by rw [y4 a k z, lu_ne (by omega), lu_ne (by omega)], fun a k => y5 a k⟩
      rw [fb_X7_readDigits_0, c2, h3, if_neg (nI_ge heL (by omega)), lq_r10_0 hσ, lq_l11 hσ, lu_ck (by omega) (by decide), nI_clamp (by omega), (c3 e heL).2, if_neg z3, lu_ck (by omega) (by decide), if_neg z4, lu_ck (by omega) (by decide), z6, h6, hpk, lu_let, lu_let, lu_ne (by omega), h3, nI_1]
      exact y1
    · exact absurd hse z
/-- the reference, the letters of a word -/
theorem tx_small81 (hσ : lr_S σ) {T : Nat → Nat} {L p : Nat} (hp : p ≤ L) : ∀ r e f (w : lt_W), tx_M w T L → p ≤ e → e + r = tx_end (tx_isS T) L p → r < f → lt_gi w 233 14 = nI e → ∃ w', fb_X12_ahead_81 σ 233 f w = some w' ∧ lt_gi w' 233 14 = nI (tx_end (tx_isS T) L p) ∧ lt_gi w' 233 12 = 2 ∧ (∀ a k, ¬ (a = 233 ∧ (k = 14 ∨ k = 12)) → lt_gi w' a k = lt_gi w a k) ∧ ∀ a k, lt_gl w' a k = lt_gl w a k := by
  obtain ⟨s1, s2, s3, s4⟩ := tx_end_spec (tx_isS T) hp
  intro r
  induction r with
  | zero =>
    intro e f w hC pe er hf h3
    obtain ⟨f, rfl⟩ : ∃ g, f = g + 1 := ⟨f - 1, by omega⟩
    obtain rfl : e = tx_end (tx_isS T) L p := by omega
    refine ⟨lt_si w 233 12 2, ?_, (lu_ne (by omega)).trans h3, lu_eq, fun a k z => lu_ne (by omega), fun _ _ => rfl⟩
    rw [fb_X12_ahead_81, h3, tx_byte hσ hC s2, lu_bind]
    by_cases c : tx_end (tx_isS T) L p < L
    · rw [if_pos c]
      have := s4 c
      rcases tx_small (hC.2.2 _ c).1 with ⟨z1, z2, -⟩ | ⟨-, -, z⟩
      · unfold tx_isS at this
        rw [decide_eq_false_iff_not] at this
        exact absurd ⟨z1, z2⟩ this
      · rw [z, lu_bind, if_pos rfl]; rfl
    · rw [if_neg c, show f_X12_isSmall (-1) = some 0 from rfl, lu_bind, if_pos rfl]; rfl
  | succ r ih =>
    intro e f w hC pe er hf h3
    obtain ⟨f, rfl⟩ : ∃ g, f = g + 1 := ⟨f - 1, by omega⟩
    have heL : e < L := by omega
    have hs := s3 e pe (by omega)
    have hse : 97 ≤ T e ∧ T e ≤ 122 := by
      unfold tx_isS at hs
      exact of_decide_eq_true hs
    obtain ⟨w', y1, y2, y3, y4, y5⟩ := ih (e + 1) f (lt_si w 233 14 (nI (e + 1))) ⟨hC.1, (lu_ne (by omega)).trans hC.2.1, fun k hk => ⟨(hC.2.2 k hk).1, by rw [lu_ne (by omega)]; exact (hC.2.2 k hk).2⟩⟩ (by omega) (by omega) (by omega) lu_eq
    refine ⟨w', ?_, y2, y3, fun a k z => by rw [y4 a k z, lu_ne (by omega)], fun a k => y5 a k⟩
    rcases tx_small (hC.2.2 e heL).1 with ⟨-, -, -, -, z, -⟩ | ⟨z, -⟩
    · rw [fb_X12_ahead_81, h3, tx_byte hσ hC (by omega), lu_bind, if_pos heL, z, lu_bind, if_neg lu_10, lu_let, nI_1]
      exact y1
    · exact absurd hse z
/-- the number as the reference has it -/
def tx_nm (T : Nat → Nat) (p : Nat) : Nat → Nat
  | 0 => 0
  | n + 1 => min 100000 (10 * tx_nm T p n + (T (p + n) - 48))
theorem tx_nm_le {T : Nat → Nat} {p : Nat} : ∀ n, tx_nm T p n ≤ 100000 := by
  intro n
  cases n with
  | zero => show 0 ≤ 100000; decide
  | succ n => rw [tx_nm]; omega
theorem tx_nm_nu {T : Nat → Nat} {p : Nat} : ∀ n, n ≤ 4 → (∀ k, p ≤ k → k < p + n → T k ≤ 57) → tx_nm T p n = tx_nu T p n := by
  intro n
  induction n with
  | zero => intro _ _; rfl
  | succ n ih =>
    intro h4 h
    have hl := tx_nu_lt (T := T) (p := p) (n + 1) h
    have hp : (10 : Nat) ^ (n + 1) ≤ 10 ^ 4 := Nat.pow_le_pow_right (by decide) h4
    have p4 : (10 : Nat) ^ 4 = 10000 := by decide
    rw [tx_nm, ih (by omega) (fun k h1 h2 => h k h1 (by omega))]
    rw [tx_nu] at hl ⊢
    omega
theorem tx_digit128 (hσ : lr_S σ) {T : Nat → Nat} {L p : Nat} (hp : p ≤ L) : ∀ r e f (w : lt_W), tx_M w T L → p ≤ e → e + r = tx_end (tx_isD T) L p → r < f → lt_gi w 233 13 = nI p → lt_gi w 233 14 = nI e → lt_gi w 233 15 = nI (tx_nm T p (e - p)) → ∃ w', fb_X12_ahead_128 σ 233 f w = some w' ∧ lt_gi w' 233 14 = nI (tx_end (tx_isD T) L p) ∧ lt_gi w' 233 12 = (if tx_end (tx_isD T) L p - p ≤ 4 then 3 else 1) ∧ lt_gi w' 233 15 = nI (tx_nm T p (tx_end (tx_isD T) L p - p)) ∧ (∀ a k, ¬ (a = 233 ∧ (k = 14 ∨ k = 12 ∨ k = 15)) → lt_gi w' a k = lt_gi w a k) ∧ ∀ a k, lt_gl w' a k = lt_gl w a k := by
  obtain ⟨s1, s2, s3, s4⟩ := tx_end_spec (tx_isD T) hp
  intro r
  induction r with
  | zero =>
    intro e f w hC pe er hf h13 h3 h15
    have hL := hC.1
    obtain ⟨f, rfl⟩ : ∃ g, f = g + 1 := ⟨f - 1, by omega⟩
    obtain rfl : e = tx_end (tx_isD T) L p := by omega
    have e4 : nI (tx_end (tx_isD T) L p) - nI p = nI (tx_end (tx_isD T) L p - p) := pk_sub s1
    have no : ∀ y, (f_X12_isDigit y = some 0) → Option.bind (f_X12_isDigit y) (fun q2 => if q2 = 0 then if ((lt_gi w 233 14) - (lt_gi w 233 13)) ≤ 4 then fb_X12_ahead_202 σ 233 3 w else fb_X12_ahead_202 σ 233 1 w else Option.bind (f_X12_byteAt σ 233 (lt_gi w 233 14) w) (fun q3 => lt_let (lt_si w 233 15 (lt_min 100000 (((10 * (lt_gi w 233 15)) + q3) - 48))) (fun w4 => lt_let (lt_si w4 233 14 ((lt_gi w4 233 14) + 1)) (fun w5 => fb_X12_ahead_128 σ 233 f w5)))) = some (lt_si w 233 12 (if tx_end (tx_isD T) L p - p ≤ 4 then 3 else 1)) := fun y hy => by
      rw [hy, lu_bind, if_pos rfl, h3, h13, e4]
      by_cases c : tx_end (tx_isD T) L p - p ≤ 4
      · rw [if_pos (show nI (tx_end (tx_isD T) L p - p) ≤ 4 from nI_le (b := 4) c (by decide)), if_pos c]; rfl
      · rw [if_neg (show ¬ nI (tx_end (tx_isD T) L p - p) ≤ 4 from nI_ge (a := 4) (by omega) (by omega)), if_neg c]; rfl
    refine ⟨lt_si w 233 12 (if tx_end (tx_isD T) L p - p ≤ 4 then 3 else 1), ?_, (lu_ne (by omega)).trans h3, lu_eq, (lu_ne (by omega)).trans h15, fun a k z => lu_ne (by omega), fun _ _ => rfl⟩
    rw [fb_X12_ahead_128]
    have hb := tx_byte hσ hC s2
    by_cases c : tx_end (tx_isD T) L p < L
    · rw [if_pos c] at hb
      have := s4 c
      rcases tx_digit (hC.2.2 _ c).1 with ⟨z1, z2, -⟩ | ⟨-, -, z⟩
      · unfold tx_isD at this
        rw [decide_eq_false_iff_not] at this
        exact absurd ⟨z1, z2⟩ this
      · have := no _ z
        have hb' : f_X12_byteAt σ 233 (lt_gi w 233 14) w = some (nI (T (tx_end (tx_isD T) L p))) := by rw [h3]; exact hb
        rw [hb'] at this ⊢
        exact this
    · rw [if_neg c] at hb
      have := no (-1) rfl
      rw [h3, hb, lu_bind, ← h3]; exact this
  | succ r ih =>
    intro e f w hC pe er hf h13 h3 h15
    obtain ⟨f, rfl⟩ : ∃ g, f = g + 1 := ⟨f - 1, by omega⟩
    have heL : e < L := by omega
    have hs := s3 e pe (by omega)
    have hse : 48 ≤ T e ∧ T e ≤ 57 := by
      unfold tx_isD at hs
      exact of_decide_eq_true hs
    have hle := tx_nm_le (T := T) (p := p) (e - p)
    have hv : lt_min 100000 (((10 * nI (tx_nm T p (e - p))) + nI (T e)) - 48) = nI (tx_nm T p (e + 1 - p)) := by
      rw [show (10 : Int32) = nI 10 from rfl, pk_mul, nI_add, show (48 : Int32) = nI 48 from rfl, pk_sub (by omega), show (100000 : Int32) = nI 100000 from rfl, lu_min (by decide) (by omega), show e + 1 - p = e - p + 1 by omega, tx_nm, show p + (e - p) = e by omega]
      congr 2; omega
    obtain ⟨w', y1, y2, y3, y4, y5, y6⟩ := ih (e + 1) f (lt_si (lt_si w 233 15 (nI (tx_nm T p (e + 1 - p)))) 233 14 (nI (e + 1))) ⟨hC.1, (lu_ne (by omega)).trans ((lu_ne (by omega)).trans hC.2.1), fun k hk => ⟨(hC.2.2 k hk).1, by rw [lu_ne (by omega), lu_ne (by omega)]; exact (hC.2.2 k hk).2⟩⟩ (by omega) (by omega) (by omega) ((lu_ne (by omega)).trans ((lu_ne (by omega)).trans h13)) lu_eq ((lu_ne (by omega)).trans lu_eq)
    refine ⟨w', ?_, y2, y3, y4, fun a k z => by rw [y5 a k z, lu_ne (by omega), lu_ne (by omega)], fun a k => y6 a k⟩
    rcases tx_digit (hC.2.2 e heL).1 with ⟨-, -, -, -, z, -⟩ | ⟨z, -⟩
    · rw [fb_X12_ahead_128, h3, tx_byte hσ hC (by omega), lu_bind, if_pos heL, z, lu_bind, if_neg lu_10, lu_bind, h15, hv, lu_let, lu_let, lu_ne (by omega), h3, nI_1]
      exact y1
    · exact absurd hse z
end TD