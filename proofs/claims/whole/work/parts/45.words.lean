/-! THE TEXTS: words -/
/-- a letter, from 1 -/
def tx_L (l : List Nat) : Prop := ∀ c ∈ l, 1 ≤ c ∧ c ≤ 26
theorem tx_e5_app (l : List Nat) (c : Nat) : lr_e5 (l ++ [c]) = 32 * lr_e5 l + c := by
  unfold lr_e5; rw [List.foldl_append]; rfl
theorem tx_e5_inj : ∀ n (l l' : List Nat), l.length = n → tx_L l → tx_L l' → lr_e5 l = lr_e5 l' → l = l' := by
  intro n
  induction n with
  | zero =>
    intro l l' hn h h' e
    obtain rfl := List.eq_nil_of_length_eq_zero hn
    rcases List.eq_nil_or_concat l' with z | ⟨m, c, z⟩
    · exact z.symm
    · rw [z, List.concat_eq_append] at e h'
      rw [tx_e5_app] at e
      have := h' c (by simp)
      have e0 : lr_e5 [] = 0 := rfl
      omega
  | succ n ih =>
    intro l l' hn h h' e
    rcases List.eq_nil_or_concat l with z | ⟨m, c, z⟩
    · rw [z] at hn; cases hn
    · rw [z, List.concat_eq_append] at hn e h
      rw [tx_e5_app] at e
      have hc := h c (by simp)
      rcases List.eq_nil_or_concat l' with z' | ⟨m', c', z'⟩
      · rw [z'] at e
        have e0 : lr_e5 [] = 0 := rfl
        omega
      · rw [z', List.concat_eq_append] at e h'
        rw [tx_e5_app] at e
        have hc' := h' c' (by simp)
        have em : lr_e5 m = lr_e5 m' := by omega
        have ec : c = c' := by omega
        have hl : m.length = n := by simpa using hn
        have := ih m m' hl (fun x hx => h x (by simp [hx])) (fun x hx => h' x (by simp [hx])) em
        rw [z, z', this, ec]
theorem tx_e5_lt (l : List Nat) (h : tx_L l) : lr_e5 l < 32 ^ l.length := by
  have key : ∀ n (l : List Nat), l.length = n → tx_L l → lr_e5 l < 32 ^ n := by
    intro n
    induction n with
    | zero => intro l hn _; obtain rfl := List.eq_nil_of_length_eq_zero hn; decide
    | succ n ih =>
      intro l hn h
      rcases List.eq_nil_or_concat l with z | ⟨m, c, z⟩
      · rw [z] at hn; cases hn
      · rw [z, List.concat_eq_append] at hn h ⊢
        have hl : m.length = n := by simpa using hn
        have := ih m hl (fun x hx => h x (by simp [hx]))
        have hc := h c (by simp)
        rw [tx_e5_app, Nat.pow_succ]; omega
  exact key _ l rfl h
/-- the class's words, read off their text -/
def tx_scan : List Int32 → Int64 → Int32 → Int64 → Option Int32
  | [], _, _, _ => some 24
  | b :: bs, x, k, v => if b = 32 then (if (lg_cmp v x) = 0 then some k else tx_scan bs x (k + 1) 0) else tx_scan bs x k ((v * 32) + (((b - 97) + 1).toInt64))
theorem tx_scan_f (x : Int64) : ∀ (bs : List Int32) p f k v, (lt_sbyt.getD 0 []).drop p = bs → p + bs.length = 126 → bs.length < f → fb_X7_kindOfWord_7 f x k v (nI p) = tx_scan bs x k v := by
  intro bs
  induction bs with
  | nil =>
    intro p f k v hd hl hf
    obtain ⟨f, rfl⟩ : ∃ g, f = g + 1 := ⟨f - 1, by omega⟩
    have hp : p = 126 := by simpa using hl
    subst hp
    rw [fb_X7_kindOfWord_7, if_pos (show lt_sn 0 ≤ nI 126 by decide)]
    rfl
  | cons b bs ih =>
    intro p f k v hd hl hf
    obtain ⟨f, rfl⟩ : ∃ g, f = g + 1 := ⟨f - 1, by omega⟩
    have hl' : p + (bs.length + 1) = 126 := hl
    have hf' : bs.length + 1 < f + 1 := hf
    have hb : lt_sc 0 p = b := by
      unfold lt_sc
      have : ((lt_sbyt.getD 0 []).drop p).getD 0 0 = b := by rw [hd]; rfl
      rw [← this]
      simp [List.getD_eq_getElem?_getD]
    have hd' : (lt_sbyt.getD 0 []).drop (p + 1) = bs := by
      rw [← List.drop_drop, hd]; rfl
    rw [fb_X7_kindOfWord_7, if_neg (show ¬ lt_sn 0 ≤ nI p from nI_ge (b := 126) (by omega) (by decide)), show lt_sm 0 = 126 from rfl, lu_ck (show p < 126 by omega) (by decide), nI_clamp (by omega), hb, nI_1, lu_let]
    unfold tx_scan
    by_cases c : b = 32
    · rw [if_pos c, if_pos c]
      by_cases c2 : lg_cmp v x = 0
      · rw [if_pos c2, if_pos c2]
      · rw [if_neg c2, if_neg c2]
        exact ih (p + 1) f (k + 1) 0 hd' (by omega) (by omega)
    · rw [if_neg c, if_neg c]
      exact ih (p + 1) f k _ hd' (by omega) (by omega)
theorem tx_cmp {a b : Int64} : lg_cmp a b = 0 ↔ a = b := by
  unfold lg_cmp
  by_cases c : a = b
  · subst c
    rw [if_neg (show ¬ a > a from Int64.lt_irrefl), if_pos rfl]
    exact ⟨fun _ => rfl, fun _ => rfl⟩
  · by_cases d : a > b
    · rw [if_pos d]; exact ⟨fun z => absurd z (by decide), fun z => absurd z c⟩
    · rw [if_neg d, if_neg c]; exact ⟨fun z => absurd z (by decide), fun z => absurd z c⟩
def tx_b (c : Nat) : Int32 := nI (c + 96)
theorem tx_letter {c : Nat} (h : 1 ≤ c ∧ c ≤ 26) : ¬ tx_b c = 32 ∧ ((tx_b c - 97) + 1).toInt64 = lN c := by
  unfold tx_b
  refine ⟨fun z => ?_, ?_⟩
  · have := (nI_eq (b := 32) (by omega) (by decide)).mp z
    omega
  · have e : nI (c + 96) - 97 = nI (c - 1) := by
      have := pk_sub (a := c + 96) (b := 97) (by omega)
      rw [show (97 : Int32) = nI 97 from rfl, this]
      congr 1
    rw [e, nI_1, show c - 1 + 1 = c by omega, nI_l (by omega)]
theorem tx_scan_w (x : Int64) (k : Int32) (bs : List Int32) : ∀ (m l : List Nat), tx_L m → tx_scan (m.map tx_b ++ 32 :: bs) x k (lN (lr_e5 l)) = if lg_cmp (lN (lr_e5 (l ++ m))) x = 0 then some k else tx_scan bs x (k + 1) 0 := by
  intro m
  induction m with
  | nil =>
    intro l _
    rw [List.append_nil]
    show tx_scan (32 :: bs) x k (lN (lr_e5 l)) = _
    rw [tx_scan, if_pos rfl]
  | cons c m ih =>
    intro l h
    have hc := tx_letter (h c (by simp))
    show tx_scan (tx_b c :: (m.map tx_b ++ 32 :: bs)) x k (lN (lr_e5 l)) = _
    rw [tx_scan, if_neg hc.1, hc.2, show lN (lr_e5 l) * 32 + lN c = lN (lr_e5 (l ++ [c])) by
      rw [show (32 : Int64) = lN 32 from rfl, lN_mul, lN_add, tx_e5_app, Nat.mul_comm], ih (l ++ [c]) (fun x hx => h x (by simp [hx])), List.append_assoc]
    rfl
def tx_find : List (List Nat) → Nat → List Nat → Nat
  | [], _, _ => 24
  | m :: ms, k, l => if m = l then k else tx_find ms (k + 1) l
def tx_text (ms : List (List Nat)) : List Int32 := ms.flatMap (fun m => m.map tx_b ++ [32])
theorem tx_scan_ws : ∀ (ms : List (List Nat)) (k : Nat) (l : List Nat), (∀ m ∈ ms, tx_L m ∧ m.length ≤ 8) → tx_L l → l.length ≤ 8 → tx_scan (tx_text ms) (lN (lr_e5 l)) (nI k) 0 = some (nI (tx_find ms k l)) := by
  intro ms
  induction ms with
  | nil => intro k l _ _ _; rfl
  | cons m ms ih =>
    intro k l hm hl h8
    obtain ⟨m1, m2⟩ := hm m (by simp)
    have key := tx_scan_w (lN (lr_e5 l)) (nI k) (tx_text ms) m [] m1
    rw [show lN (lr_e5 []) = 0 from rfl, List.nil_append] at key
    have et : tx_text (m :: ms) = m.map tx_b ++ 32 :: tx_text ms := by
      unfold tx_text
      rw [List.flatMap_cons, List.append_assoc]; rfl
    rw [et, key, nI_1, ih (k + 1) l (fun x hx => hm x (by simp [hx])) hl h8]
    unfold tx_find
    have b1 := tx_e5_lt m m1
    have b2 := tx_e5_lt l hl
    have p1 : 32 ^ m.length ≤ 32 ^ 8 := Nat.pow_le_pow_right (by decide) m2
    have p2 : 32 ^ l.length ≤ 32 ^ 8 := Nat.pow_le_pow_right (by decide) h8
    have p3 : (32 : Nat) ^ 8 = 1099511627776 := by decide
    by_cases c : m = l
    · rw [if_pos c, if_pos (tx_cmp.mpr (by rw [c]))]
    · rw [if_neg c, if_neg (fun z => c (tx_e5_inj m.length m l rfl m1 hl ((pk_lEQ (by omega) (by omega)).mp (tx_cmp.mp z))))]
      cases ms <;> rfl

def tx_kw : List (List Nat) := [[15, 4, 4, 19], [18, 5, 19, 15, 12, 22, 5], [16, 18, 5, 19, 19], [12, 15, 1, 6], [19, 12, 9, 3, 5, 19], [7, 21, 5, 19, 20], [23, 9, 19, 8], [2, 5, 1, 18, 19], [4, 5, 1, 18], [19, 20, 1, 25, 19], [5, 14, 4], [2, 21, 20, 20, 5, 18], [4, 1, 25], [3, 21, 20], [19, 15, 21, 16], [2, 1, 11, 5], [1, 14, 25], [23, 8, 5, 14], [20, 8, 5, 18, 5], [8, 21, 14, 7, 18, 25], [2, 18, 5, 1, 4], [12, 15, 15, 16], [19, 20, 15, 16]]
def tx_rw : List (List Nat) := [[15, 4, 4, 19], [18, 5, 19, 15, 12, 22, 5], [16, 18, 5, 19, 19], [12, 15, 1, 6], [19, 12, 9, 3, 5, 19], [7, 21, 5, 19, 20], [2, 21, 20, 20, 5, 18], [23, 9, 19, 8], [2, 5, 1, 18, 19], [4, 5, 1, 18], [19, 20, 1, 25, 19], [4, 1, 25], [3, 21, 20], [19, 15, 21, 16], [2, 1, 11, 5], [1, 14, 25], [23, 8, 5, 14], [12, 15, 15, 16], [5, 14, 4], [19, 20, 15, 16], [20, 8, 5, 18, 5], [8, 21, 14, 7, 18, 25], [2, 18, 5, 1, 4]]
set_option maxRecDepth 10000 in
theorem tx_kw_text : lt_sbyt.getD 0 [] = tx_text tx_kw := by decide +kernel
set_option maxRecDepth 10000 in
theorem tx_rw_text : lt_sbyt.getD 1 [] = 32 :: tx_text tx_rw := by decide +kernel
theorem tx_kind (l : List Nat) (h : tx_L l) (h8 : l.length ≤ 8) : f_X7_kindOfWord (lN (lr_e5 l)) = some (nI (tx_find tx_kw 1 l)) := by
  have hk : ∀ m ∈ tx_kw, tx_L m ∧ m.length ≤ 8 := by unfold tx_L; decide
  rw [← tx_scan_ws tx_kw 1 l hk h h8, ← tx_kw_text]
  have hl : (lt_sbyt.getD 0 []).length = 126 := by decide +kernel
  exact tx_scan_f _ _ 0 lt_fu 1 0 rfl (by omega) (by unfold lt_fu; omega)
/-- a word's number: the reference's, of the class's -/
def tx_m (k : Nat) : Nat := ([0, 0, 1, 2, 3, 4, 5, 7, 8, 9, 10, 18, 6, 11, 12, 13, 14, 15, 16, 20, 21, 22, 17, 19] : List Nat).getD k 99
theorem tx_find_lt : ∀ (ms : List (List Nat)) (k : Nat) (l : List Nat), tx_find ms k l = 24 ∨ (k ≤ tx_find ms k l ∧ tx_find ms k l < k + ms.length ∧ ms.getD (tx_find ms k l - k) [] = l) := by
  intro ms
  induction ms with
  | nil => intro k l; exact Or.inl rfl
  | cons m ms ih =>
    intro k l
    unfold tx_find
    by_cases c : m = l
    · rw [if_pos c]
      refine Or.inr ⟨Nat.le_refl _, by simp, by rw [Nat.sub_self]; exact c⟩
    · rw [if_neg c]
      rcases ih (k + 1) l with z | ⟨z1, z2, z3⟩
      · exact Or.inl z
      · refine Or.inr ⟨by omega, by simp; omega, ?_⟩
        rw [show tx_find ms (k + 1) l - k = tx_find ms (k + 1) l - (k + 1) + 1 by omega]
        exact z3

