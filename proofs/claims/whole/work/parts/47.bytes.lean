/-! THE TEXTS: words of both, bytes -/
theorem tx_find_no : ∀ (ms : List (List Nat)) (k : Nat) (l : List Nat), k + ms.length ≤ 24 → tx_find ms k l = 24 → ∀ m ∈ ms, m ≠ l := by
  intro ms
  induction ms with
  | nil => intro k l _ _ m hm; cases hm
  | cons a ms ih =>
    intro k l hk h m hm
    have hk' : k + (ms.length + 1) ≤ 24 := hk
    unfold tx_find at h
    by_cases c : a = l
    · rw [if_pos c] at h; omega
    · rw [if_neg c] at h
      rcases List.mem_cons.mp hm with z | z
      · rw [z]; exact c
      · exact ih (k + 1) l (by omega) h m z
theorem tx_idx_no : ∀ (ms : List (List Nat)) (k : Nat) (l : List Nat), (∀ m ∈ ms, m ≠ l) → tx_idx ms k l = -1 := by
  intro ms
  induction ms with
  | nil => intro k l _; rfl
  | cons a ms ih =>
    intro k l h
    unfold tx_idx
    rw [if_neg (h a (by simp))]
    exact ih (k + 1) l (fun m hm => h m (by simp [hm]))
theorem tx_pair (l : List Nat) : (tx_find tx_kw 1 l = 24 ∧ tx_idx tx_rw 0 l = -1) ∨ (1 ≤ tx_find tx_kw 1 l ∧ tx_find tx_kw 1 l ≤ 23 ∧ tx_idx tx_rw 0 l = nI (tx_m (tx_find tx_kw 1 l)) ∧ l.length ≤ 8) := by
  rcases tx_find_lt tx_kw 1 l with h | ⟨h1, h2, h3⟩
  · refine Or.inl ⟨h, tx_idx_no _ _ _ fun m hm => ?_⟩
    have hs : ∀ m ∈ tx_rw, m ∈ tx_kw := by decide
    exact tx_find_no tx_kw 1 l (by decide) h m (hs m hm)
  · have hl : tx_kw.length = 23 := by decide
    refine Or.inr ⟨h1, by omega, ?_⟩
    have key : ∀ k : Fin 23, tx_idx tx_rw 0 (tx_kw.getD k.1 []) = nI (tx_m (k.1 + 1)) ∧ (tx_kw.getD k.1 []).length ≤ 8 := by decide +kernel
    obtain ⟨a, b⟩ := key ⟨tx_find tx_kw 1 l - 1, by omega⟩
    simp only [] at a b
    rw [h3] at a b
    rw [show tx_find tx_kw 1 l - 1 + 1 = tx_find tx_kw 1 l by omega] at a
    exact ⟨a, b⟩
/-- a byte, with its sign -/
def tx_s (b : Nat) : Int32 := if b < 128 then nI b else nI b - 256
theorem tx_by {v : Int32} (h : lr_by v) : ∃ b, b < 256 ∧ v = tx_s b ∧ v &&& 255 = nI b := by
  have key : ∀ x : Int8, ∃ b : Fin 256, x.toInt32 = tx_s b.1 ∧ x.toInt32 &&& 255 = nI b.1 := by
    intro x
    have d : ∀ n : Fin 256, (Int8.ofBitVec (BitVec.ofFin n)).toInt32 = tx_s n.1 ∧ (Int8.ofBitVec (BitVec.ofFin n)).toInt32 &&& 255 = nI n.1 := by decide +kernel
    exact ⟨x.toBitVec.toFin, d x.toBitVec.toFin⟩
  obtain ⟨b, h1, h2⟩ := key v.toInt8
  rw [h] at h1 h2
  exact ⟨b.1, b.2, h1, h2⟩
/-- the tests of a byte, both sides alike -/
theorem tx_small {b : Nat} (h : b < 256) : (97 ≤ b ∧ b ≤ 122 ∧ ¬ tx_s b < 97 ∧ ¬ 122 < tx_s b ∧ f_X12_isSmall (nI b) = some 1 ∧ tx_s b = tx_b (b - 96) ∧ nI b = tx_b (b - 96)) ∨ (¬ (97 ≤ b ∧ b ≤ 122) ∧ (tx_s b < 97 ∨ (¬ tx_s b < 97 ∧ 122 < tx_s b)) ∧ f_X12_isSmall (nI b) = some 0) := by
  have key : ∀ b : Fin 256, (97 ≤ b.1 ∧ b.1 ≤ 122 ∧ ¬ tx_s b.1 < 97 ∧ ¬ 122 < tx_s b.1 ∧ f_X12_isSmall (nI b.1) = some 1 ∧ tx_s b.1 = tx_b (b.1 - 96) ∧ nI b.1 = tx_b (b.1 - 96)) ∨ (¬ (97 ≤ b.1 ∧ b.1 ≤ 122) ∧ (tx_s b.1 < 97 ∨ (¬ tx_s b.1 < 97 ∧ 122 < tx_s b.1)) ∧ f_X12_isSmall (nI b.1) = some 0) := by decide +kernel
  exact key ⟨b, h⟩
theorem tx_digit {b : Nat} (h : b < 256) : (48 ≤ b ∧ b ≤ 57 ∧ ¬ tx_s b < 48 ∧ ¬ 57 < tx_s b ∧ f_X12_isDigit (nI b) = some 1 ∧ tx_s b = nI b) ∨ (¬ (48 ≤ b ∧ b ≤ 57) ∧ (tx_s b < 48 ∨ (¬ tx_s b < 48 ∧ 57 < tx_s b)) ∧ f_X12_isDigit (nI b) = some 0) := by
  have key : ∀ b : Fin 256, (48 ≤ b.1 ∧ b.1 ≤ 57 ∧ ¬ tx_s b.1 < 48 ∧ ¬ 57 < tx_s b.1 ∧ f_X12_isDigit (nI b.1) = some 1 ∧ tx_s b.1 = nI b.1) ∨ (¬ (48 ≤ b.1 ∧ b.1 ≤ 57) ∧ (tx_s b.1 < 48 ∨ (¬ tx_s b.1 < 48 ∧ 57 < tx_s b.1)) ∧ f_X12_isDigit (nI b.1) = some 0) := by decide +kernel
  exact key ⟨b, h⟩
theorem tx_sEq {b : Nat} (h : b < 256) {c : Nat} (hc : c < 128) : (tx_s b = nI c ↔ b = c) ∧ (nI b = nI c ↔ b = c) := by
  have key : ∀ b : Fin 256, ∀ c : Fin 128, (tx_s b.1 = nI c.1 ↔ b.1 = c.1) := by decide +kernel
  exact ⟨key ⟨b, h⟩ ⟨c, hc⟩, nI_eq (by omega) (by omega)⟩
/-- the text: its bytes, how many -/
def tx_C (w : lt_W) (T : Nat → Nat) (L : Nat) : Prop := L ≤ 900 ∧ lt_gi w 10 2 = nI L ∧ ∀ k, k < L → T k < 256 ∧ lt_gi w 11 k = tx_s (T k)
def tx_M (w : lt_W) (T : Nat → Nat) (L : Nat) : Prop := L ≤ 900 ∧ lt_gi w 233 11 = nI L ∧ ∀ k, k < L → T k < 256 ∧ lt_gi w 240 k &&& 255 = nI (T k)
section TB
variable {σ : lt_S}
theorem tx_byte (hσ : lr_S σ) {w : lt_W} {T : Nat → Nat} {L p : Nat} (h : tx_M w T L) (hp : p ≤ L) : f_X12_byteAt σ 233 (nI p) w = some (if p < L then nI (T p) else -1) := by
  have r9 : lt_r σ 233 9 = 240 := hσ.r 233 9 (by decide) (by decide)
  have l9 : lt_len σ 240 = 900 := hσ.l 240 (by decide)
  obtain ⟨h1, h2, h3⟩ := h
  unfold f_X12_byteAt fb_X12_byteAt_0
  rw [h2]
  by_cases c : p < L
  · rw [if_neg (nI_ge c (by omega)), r9, l9, lu_ck (show p < 900 by omega) (by decide), nI_clamp (by omega), (h3 p c).2, if_pos c]
  · rw [if_pos (nI_le (by omega) (by omega)), if_neg c]
end TB
