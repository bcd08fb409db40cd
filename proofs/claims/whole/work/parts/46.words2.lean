/-! THE TEXTS: words, the reference -/
theorem tx_char {p i : Nat} {bs : List Int32} (h : (lt_sbyt.getD 1 []).drop p = bs) : lt_sc 1 (p + i) = bs.getD i 0 := by
  unfold lt_sc
  rw [← h]
  simp [List.getD_eq_getElem?_getD]
theorem tx_b_inj {a b : Nat} (ha : a ≤ 26) (hb : b ≤ 26) (h : tx_b a = tx_b b) : a = b := by
  unfold tx_b at h
  have := (nI_eq (by omega) (by omega)).mp h
  omega
section TX
variable {σ : lt_S}
/-- the word ahead: its letters l, from F on -/
def tx_wd (σ : lt_S) (w : lt_W) (F : Nat) (l : List Nat) : Prop := lt_gi w 233 13 = nI F ∧ lt_gi w 233 14 = nI (F + l.length) ∧ F + l.length ≤ 900 ∧ ∀ j, j < l.length → f_X12_byteAt σ 233 (nI (F + j)) w = some (tx_b (l.getD j 0))
theorem tx_at {m : List Nat} {rest : List Int32} {i : Nat} (h : i < m.length) : (m.map tx_b ++ 32 :: rest).getD i 0 = tx_b (m.getD i 0) := by
  rw [List.getD_eq_getElem?_getD, List.getElem?_append_left (by simpa using h), List.getElem?_map, List.getD_eq_getElem?_getD]
  rw [List.getElem?_eq_getElem h]; rfl
theorem tx_at32 {m : List Nat} {rest : List Int32} : (m.map tx_b ++ 32 :: rest).getD m.length 0 = 32 := by
  rw [List.getD_eq_getElem?_getD, List.getElem?_append_right (by simp)]
  simp
theorem tx_getD {m : List Nat} (h : tx_L m) {i : Nat} (hi : i < m.length) : 1 ≤ m.getD i 0 ∧ m.getD i 0 ≤ 26 := by
  rw [List.getD_eq_getElem?_getD, List.getElem?_eq_getElem hi]
  exact h _ (List.getElem_mem hi)
theorem tx_68 {w : lt_W} {F : Nat} {l m : List Nat} {rest : List Int32} {p : Nat} {k14 : Int32 → Int32 → Option Int32} {x2 : Int32} (hw : tx_wd σ w F l) (hl : tx_L l) (hm : tx_L m) (hd : (lt_sbyt.getD 1 []).drop p = m.map tx_b ++ 32 :: rest) (hp : p + m.length < 127) : ∀ r i f (b : Bool), i + r = m.length → r < f → (b = true → m.length = l.length) → fb_X12_inWords_68 σ 233 w k14 f x2 (nI p) (nI (p + m.length)) (if b = true then 1 else 0) (nI (p + i)) = if b = true ∧ m.drop i = l.drop i then some x2 else k14 (x2 + 1) (nI (p + m.length) + 1) := by
  intro r
  induction r with
  | zero =>
    intro i f b hi hf hb
    obtain ⟨f, rfl⟩ : ∃ g, f = g + 1 := ⟨f - 1, by omega⟩
    obtain rfl : i = m.length := by omega
    rw [fb_X12_inWords_68, if_pos (nI_le (Nat.le_refl _) (by omega))]
    unfold fb_X12_inWords_115
    cases b with
    | true =>
      have e := hb rfl
      rw [if_neg (by decide), if_pos ⟨rfl, by rw [List.drop_length, e, List.drop_length]⟩]
    | false => rw [if_pos (by decide), if_neg (fun z => by cases z.1)]
  | succ r ih =>
    intro i f b hi hf hb
    obtain ⟨f, rfl⟩ : ∃ g, f = g + 1 := ⟨f - 1, by omega⟩
    rw [fb_X12_inWords_68, if_neg (nI_ge (by omega) (by omega))]
    cases b with
    | false =>
      unfold fb_X12_inWords_115
      rw [if_pos (by decide), if_pos (by decide), if_neg (fun z => by cases z.1)]
    | true =>
      have e := hb rfl
      obtain ⟨w1, w2, w3, w4⟩ := hw
      have ea : nI F + nI (p + i) - nI p = nI (F + i) := by
        rw [nI_add, pk_sub (by omega)]; congr 1; omega
      rw [if_neg (by decide), show lt_sm 1 = 127 from rfl, lu_ck (show p + i < 127 by omega) (by decide), w1, ea, w4 i (by omega), lu_bind, nI_clamp (by omega), tx_char hd, tx_at (by omega), nI_1]
      have im : i < m.length := by omega
      have il : i < l.length := by omega
      have dm : m.drop i = m.getD i 0 :: m.drop (i + 1) := by
        rw [List.drop_eq_getElem_cons im, List.getD_eq_getElem?_getD, List.getElem?_eq_getElem im]; rfl
      have dl : l.drop i = l.getD i 0 :: l.drop (i + 1) := by
        rw [List.drop_eq_getElem_cons il, List.getD_eq_getElem?_getD, List.getElem?_eq_getElem il]; rfl
      have hbm := tx_getD hm im
      have hbl := tx_getD hl il
      rw [dm, dl]
      by_cases c : m.getD i 0 = l.getD i 0
      · have := ih (i + 1) f true (by omega) (by omega) (fun _ => e)
        rw [if_pos rfl] at this
        rw [if_pos (by rw [c]), show p + i + 1 = p + (i + 1) by omega, this]
        by_cases c2 : m.drop (i + 1) = l.drop (i + 1)
        · rw [if_pos ⟨rfl, c2⟩, if_pos ⟨rfl, by rw [c, c2]⟩]
        · rw [if_neg (fun z => c2 z.2), if_neg (fun z => c2 (List.cons.inj z.2).2)]
      · have := ih (i + 1) f false (by omega) (by omega) (fun z => by cases z)
        rw [if_neg (by decide)] at this
        rw [if_neg (fun z => c (tx_b_inj (by omega) (by omega) z)), show p + i + 1 = p + (i + 1) by omega, this, if_neg (fun z => by cases z.1), if_neg (fun z => c (List.cons.inj z.2).1)]
theorem tx_25 {w : lt_W} {F : Nat} {l m : List Nat} {rest : List Int32} {p : Nat} {k14 : Int32 → Int32 → Option Int32} {x2 : Int32} (hw : tx_wd σ w F l) (hl : tx_L l) (hm : tx_L m) (hd : (lt_sbyt.getD 1 []).drop p = m.map tx_b ++ 32 :: rest) (hp : p + m.length < 127) : ∀ r i f, i + r = m.length → r < f → fb_X12_inWords_25 σ 233 w k14 f x2 (nI p) (nI (p + i)) = if m = l then some x2 else k14 (x2 + 1) (nI (p + m.length) + 1) := by
  intro r
  induction r with
  | zero =>
    intro i f hi hf
    obtain ⟨f, rfl⟩ : ∃ g, f = g + 1 := ⟨f - 1, by omega⟩
    obtain rfl : i = m.length := by omega
    obtain ⟨w1, w2, w3, w4⟩ := hw
    have e1 : nI (p + m.length) - nI p = nI m.length := by rw [pk_sub (by omega)]; congr 1; omega
    have e2 : nI (F + l.length) - nI F = nI l.length := by rw [pk_sub (by omega)]; congr 1; omega
    rw [fb_X12_inWords_25, show lt_sm 1 = 127 from rfl, lu_ck hp (by decide), nI_clamp (by omega), tx_char hd, tx_at32, if_pos rfl, w1, w2, e1, e2]
    by_cases c : m.length = l.length
    · have := tx_68 (k14 := k14) (x2 := x2) ⟨w1, w2, w3, w4⟩ hl hm hd hp m.length 0 lt_fu true (by omega) (by unfold lt_fu; omega) (fun _ => c)
      rw [if_pos rfl, Nat.add_zero] at this
      rw [if_pos (by rw [c]), this]
      by_cases c2 : m = l
      · rw [if_pos c2, if_pos ⟨rfl, by rw [c2]⟩]
      · rw [if_neg c2, if_neg (fun z => c2 z.2)]
    · have := tx_68 (k14 := k14) (x2 := x2) ⟨w1, w2, w3, w4⟩ hl hm hd hp m.length 0 lt_fu false (by omega) (by unfold lt_fu; omega) (fun z => by cases z)
      rw [if_neg (by decide), Nat.add_zero] at this
      rw [if_neg (fun z => c ((nI_eq (by omega) (by omega)).mp z)), this, if_neg (fun z => by cases z.1), if_neg (fun z => c (by rw [z]))]
  | succ r ih =>
    intro i f hi hf
    obtain ⟨f, rfl⟩ : ∃ g, f = g + 1 := ⟨f - 1, by omega⟩
    have hb := tx_letter (tx_getD hm (show i < m.length by omega))
    rw [fb_X12_inWords_25, show lt_sm 1 = 127 from rfl, lu_ck (show p + i < 127 by omega) (by decide), nI_clamp (by omega), tx_char hd, tx_at (by omega), if_neg hb.1, nI_1, show p + i + 1 = p + (i + 1) by omega]
    exact ih (i + 1) f (by omega) (by omega)
def tx_idx : List (List Nat) → Nat → List Nat → Int32
  | [], _, _ => -1
  | m :: ms, k, l => if m = l then nI k else tx_idx ms (k + 1) l
theorem tx_14 {w : lt_W} {F : Nat} {l : List Nat} (hw : tx_wd σ w F l) (hl : tx_L l) : ∀ (ms : List (List Nat)) (k p f : Nat), (∀ m ∈ ms, tx_L m) → (lt_sbyt.getD 1 []).drop p = tx_text ms → p + (tx_text ms).length = 127 → ms.length < f → fb_X12_inWords_14 σ 233 w f (nI k) (nI p) = some (tx_idx ms k l) := by
  intro ms
  induction ms with
  | nil =>
    intro k p f _ _ hp hf
    obtain ⟨f, rfl⟩ : ∃ g, f = g + 1 := ⟨f - 1, by omega⟩
    have hp' : p = 127 := by simpa [tx_text] using hp
    subst hp'
    rw [fb_X12_inWords_14, if_pos (show lt_sn 1 ≤ nI 127 by decide)]; rfl
  | cons m ms ih =>
    intro k p f hms hd hp hf
    obtain ⟨f, rfl⟩ : ∃ g, f = g + 1 := ⟨f - 1, by omega⟩
    have et : tx_text (m :: ms) = m.map tx_b ++ 32 :: tx_text ms := by
      unfold tx_text
      rw [List.flatMap_cons, List.append_assoc]; rfl
    have hlen : p + (m.length + (tx_text ms).length + 1) = 127 := by
      rw [et, List.length_append, List.length_cons, List.length_map] at hp; omega
    have hf' : ms.length + 1 < f + 1 := hf
    rw [et] at hd
    have hd2 : (lt_sbyt.getD 1 []).drop (p + m.length + 1) = tx_text ms := by
      rw [show p + m.length + 1 = p + (m.length + 1) by omega, ← List.drop_drop, hd, ← List.drop_drop, List.drop_left' (by simp)]; rfl
    have h25 := tx_25 (k14 := fun x2 x3 => fb_X12_inWords_14 σ 233 w f x2 x3) (x2 := nI k) hw hl (hms m (by simp)) hd (by omega) m.length 0 lt_fu (by omega) (by unfold lt_fu; omega)
    rw [Nat.add_zero] at h25
    rw [fb_X12_inWords_14, if_neg (show ¬ lt_sn 1 ≤ nI p from nI_ge (b := 127) (by omega) (by decide)), h25, nI_1, nI_1]
    unfold tx_idx
    by_cases c : m = l
    · rw [if_pos c, if_pos c]
    · rw [if_neg c, if_neg c]
      have := ih (k + 1) (p + m.length + 1) f (fun x hx => hms x (by simp [hx])) hd2 (by omega) (by omega)
      exact this
/-- which word it is, the reference -/
theorem tx_in {w : lt_W} {F : Nat} {l : List Nat} (hw : tx_wd σ w F l) (hl : tx_L l) (h12 : lt_gi w 233 12 = 2) : f_X12_inWords σ 233 w = some (tx_idx tx_rw 0 l) := by
  unfold f_X12_inWords fb_X12_inWords_0
  rw [if_pos h12]
  have h1 : (lt_sbyt.getD 1 []).drop 1 = tx_text tx_rw := by rw [tx_rw_text]; rfl
  have h2 : (tx_text tx_rw).length = 126 := by decide +kernel
  exact tx_14 hw hl tx_rw 0 1 lt_fu (by unfold tx_L; decide) h1 (by omega) (by unfold lt_fu; decide)
end TX