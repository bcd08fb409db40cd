/-! THE TEXTS: runs of bytes; the class's letters and digits -/
def tx_run (P : Nat → Bool) : Nat → Nat → Nat
  | 0, p => p
  | n + 1, p => if P p = true then tx_run P n (p + 1) else p
def tx_end (P : Nat → Bool) (L p : Nat) : Nat := tx_run P (L - p) p
theorem tx_run_spec (P : Nat → Bool) : ∀ n p, p ≤ tx_run P n p ∧ tx_run P n p ≤ p + n ∧ (∀ k, p ≤ k → k < tx_run P n p → P k = true) ∧ (tx_run P n p < p + n → P (tx_run P n p) = false) := by
  intro n
  induction n with
  | zero => intro p; exact ⟨Nat.le_refl _, Nat.le_refl _, fun k h1 h2 => by unfold tx_run at h2; omega, fun h => by unfold tx_run at h; omega⟩
  | succ n ih =>
    intro p
    unfold tx_run
    by_cases c : P p = true
    · rw [if_pos c]
      obtain ⟨h1, h2, h3, h4⟩ := ih (p + 1)
      refine ⟨by omega, by omega, fun k k1 k2 => ?_, fun h => h4 (by omega)⟩
      by_cases e : k = p
      · rw [e]; exact c
      · exact h3 k (by omega) k2
    · rw [if_neg c]
      exact ⟨Nat.le_refl _, by omega, fun k h1 h2 => by omega, fun _ => by simpa using c⟩
theorem tx_end_spec (P : Nat → Bool) {L p : Nat} (h : p ≤ L) : p ≤ tx_end P L p ∧ tx_end P L p ≤ L ∧ (∀ k, p ≤ k → k < tx_end P L p → P k = true) ∧ (tx_end P L p < L → P (tx_end P L p) = false) := by
  obtain ⟨h1, h2, h3, h4⟩ := tx_run_spec P (L - p) p
  unfold tx_end
  exact ⟨h1, by omega, h3, fun z => h4 (by omega)⟩
def tx_isS (T : Nat → Nat) (k : Nat) : Bool := decide (97 ≤ T k ∧ T k ≤ 122)
def tx_isD (T : Nat → Nat) (k : Nat) : Bool := decide (48 ≤ T k ∧ T k ≤ 57)
def tx_isB (T : Nat → Nat) (k : Nat) : Bool := decide (T k = 32 ∨ T k = 10)
/-- the letters from p to e -/
def tx_ls (T : Nat → Nat) (p e : Nat) : List Nat := (List.range (e - p)).map (fun j => T (p + j) - 96)
theorem tx_ls_s {T : Nat → Nat} {p e : Nat} (h : p ≤ e) : tx_ls T p (e + 1) = tx_ls T p e ++ [T e - 96] := by
  unfold tx_ls
  rw [show e + 1 - p = e - p + 1 by omega, List.range_succ, List.map_append]
  simp only [List.map_cons, List.map_nil]
  rw [show p + (e - p) = e by omega]
section TK
variable {σ : lt_S}
/-- what a token's reading changes in the class -/
def tx_Fk (w w' : lt_W) : Prop := (∀ a k, ¬ (a = 10 ∧ (3 ≤ k ∧ k ≤ 7)) → lt_gi w' a k = lt_gi w a k) ∧ ∀ a k, ¬ (a = 10 ∧ k = 6) → lt_gl w' a k = lt_gl w a k
theorem tx_Fk.refl (w : lt_W) : tx_Fk w w := ⟨fun _ _ _ => rfl, fun _ _ _ => rfl⟩
theorem tx_Fk.trans {w w' w'' : lt_W} (h : tx_Fk w w') (h' : tx_Fk w' w'') : tx_Fk w w'' := ⟨fun a k z => (h'.1 a k z).trans (h.1 a k z), fun a k z => (h'.2 a k z).trans (h.2 a k z)⟩
theorem tx_Fk.i {w w' : lt_W} {k : Nat} {v : Int32} (h : tx_Fk w w') (h3 : 3 ≤ k) (h8 : k ≤ 7) : tx_Fk w (lt_si w' 10 k v) := ⟨fun a j z => by rw [lu_ne (by omega)]; exact h.1 a j z, h.2⟩
theorem tx_Fk.l {w w' : lt_W} {v : Int64} (h : tx_Fk w w') : tx_Fk w (lt_sl w' 10 6 v) := ⟨h.1, fun a j z => by rw [lu_glsl, if_neg (by omega)]; exact h.2 a j z⟩
theorem tx_C.k {w w' : lt_W} {T : Nat → Nat} {L : Nat} (h : tx_C w T L) (hF : tx_Fk w w') : tx_C w' T L := ⟨h.1, (hF.1 10 2 (by omega)).trans h.2.1, fun k hk => ⟨(h.2.2 k hk).1, (hF.1 11 k (by omega)).trans (h.2.2 k hk).2⟩⟩
theorem tx_letters (hσ : lr_S σ) {T : Nat → Nat} {L p : Nat} (hp : p ≤ L) : ∀ r e f (w : lt_W), tx_C w T L → p ≤ e → e + r = tx_end (tx_isS T) L p → r < f → lt_gi w 10 3 = nI e → lt_gl w 10 6 = lN (lr_e5 (tx_ls T p e)) → ∃ w', fb_X7_readLetters_0 σ 10 f w = some w' ∧ lt_gi w' 10 3 = nI (tx_end (tx_isS T) L p) ∧ lt_gl w' 10 6 = lN (lr_e5 (tx_ls T p (tx_end (tx_isS T) L p))) ∧ (∀ a k, ¬ (a = 10 ∧ k = 3) → lt_gi w' a k = lt_gi w a k) ∧ ∀ a k, ¬ (a = 10 ∧ k = 6) → lt_gl w' a k = lt_gl w a k := by
  obtain ⟨s1, s2, s3, s4⟩ := tx_end_spec (tx_isS T) hp
  intro r
  induction r with
  | zero =>
    intro e f w hC pe er hf h3 h6
    obtain ⟨f, rfl⟩ : ∃ g, f = g + 1 := ⟨f - 1, by omega⟩
    obtain rfl : e = tx_end (tx_isS T) L p := by omega
    refine ⟨w, ?_, h3, h6, fun _ _ _ => rfl, fun _ _ _ => rfl⟩
    obtain ⟨c1, c2, c3⟩ := hC
    rw [fb_X7_readLetters_0, c2, h3]
    by_cases c : L ≤ tx_end (tx_isS T) L p
    · rw [if_pos (nI_le c (by omega))]
    · have hc : tx_end (tx_isS T) L p < L := by omega
      have := s4 hc
      rw [if_neg (nI_ge hc (by omega)), lq_r10_0 hσ, lq_l11 hσ, lu_ck (by omega) (by decide), nI_clamp (by omega), (c3 _ hc).2, lu_ck (by omega) (by decide)]
      rcases tx_small (c3 _ hc).1 with ⟨z1, z2, -⟩ | ⟨-, z | ⟨z1, z2⟩, -⟩
      · unfold tx_isS at this
        rw [decide_eq_false_iff_not] at this
        exact absurd ⟨z1, z2⟩ this
      · rw [if_pos z]
      · rw [if_neg z1, if_pos z2]
  | succ r ih =>
    intro e f w hC pe er hf h3 h6
    obtain ⟨f, rfl⟩ : ∃ g, f = g + 1 := ⟨f - 1, by omega⟩
    have heL : e < L := by omega
    have hs := s3 e pe (by omega)
    have hC' := hC
    obtain ⟨c1, c2, c3⟩ := hC
    have hse : 97 ≤ T e ∧ T e ≤ 122 := by
      unfold tx_isS at hs
      exact of_decide_eq_true hs
    rcases tx_small (c3 e heL).1 with ⟨z1, z2, z3, z4, z5, z6, -⟩ | ⟨z, -⟩
    · have hl := tx_letter (c := T e - 96) (by omega)
      have hpk : lN (lr_e5 (tx_ls T p e)) * 32 + lN (T e - 96) = lN (lr_e5 (tx_ls T p (e + 1))) := by
        rw [show (32 : Int64) = lN 32 from rfl, lN_mul, lN_add, tx_ls_s pe, tx_e5_app, Nat.mul_comm]
      obtain ⟨w', y1, y2, y3, y4, y5⟩ := ih (e + 1) f (lt_si (lt_sl w 10 6 (lN (lr_e5 (tx_ls T p (e + 1))))) 10 3 (nI (e + 1))) ⟨c1, (lu_ne (by omega)).trans c2, fun k hk => ⟨(c3 k hk).1, (lu_ne (by omega)).trans (c3 k hk).2⟩⟩ (by omega) (by omega) (by omega) lu_eq (by rw [lu_glsi, lu_glsl, if_pos ⟨rfl, rfl⟩])
      refine ⟨w', ?_, y2, y3, fun a k z => by rw [y4 a k z, lu_ne (by omega), lu_gisl], fun a k z => by rw [y5 a k z, lu_glsi, lu_glsl, if_neg z]⟩
      rw [fb_X7_readLetters_0, c2, h3, if_neg (nI_ge heL (by omega)), lq_r10_0 hσ, lq_l11 hσ, lu_ck (by omega) (by decide), nI_clamp (by omega), (c3 e heL).2, if_neg z3, lu_ck (by omega) (by decide), if_neg z4, lu_ck (by omega) (by decide), z6, hl.2, h6, hpk, lu_let, lu_let, lu_gisl, h3, nI_1]
      exact y1
    · exact absurd hse z
end TK