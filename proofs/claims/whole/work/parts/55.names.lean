/-! THE TEXTS: words, names of the reference; a name among guests -/
theorem tx_e8_app (l : List Nat) (c : Nat) : lr_e8 (l ++ [c]) = 256 * lr_e8 l + (c + 96) := by
  unfold lr_e8; rw [List.foldl_append]; rfl
theorem tx_e8_lt : ∀ n (l : List Nat), l.length = n → tx_L l → 2 * lr_e8 l < 256 ^ n := by
  intro n
  induction n with
  | zero => intro l hn _; obtain rfl := List.eq_nil_of_length_eq_zero hn; decide
  | succ n ih =>
    intro l hn h
    rcases List.eq_nil_or_concat l with z | ⟨m, c, z⟩
    · rw [z] at hn; cases hn
    · rw [z, List.concat_eq_append] at hn h ⊢
      have hl : m.length = n := by simpa using hn
      have := ih m hl (fun x hx => h x (by simp [hx]))
      have hc := h c (by simp)
      rw [tx_e8_app, Nat.pow_succ]; omega
theorem tx_e8_inj : ∀ n (l l' : List Nat), l.length = n → tx_L l → tx_L l' → lr_e8 l = lr_e8 l' → l = l' := by
  intro n
  induction n with
  | zero =>
    intro l l' hn h h' e
    obtain rfl := List.eq_nil_of_length_eq_zero hn
    rcases List.eq_nil_or_concat l' with z | ⟨m, c, z⟩
    · exact z.symm
    · rw [z, List.concat_eq_append] at e h'
      rw [tx_e8_app] at e
      have e0 : lr_e8 [] = 0 := rfl
      omega
  | succ n ih =>
    intro l l' hn h h' e
    rcases List.eq_nil_or_concat l with z | ⟨m, c, z⟩
    · rw [z] at hn; cases hn
    · rw [z, List.concat_eq_append] at hn e h
      rw [tx_e8_app] at e
      have hc := h c (by simp)
      rcases List.eq_nil_or_concat l' with z' | ⟨m', c', z'⟩
      · rw [z'] at e
        have e0 : lr_e8 [] = 0 := rfl
        omega
      · rw [z', List.concat_eq_append] at e h'
        rw [tx_e8_app] at e
        have hc' := h' c' (by simp)
        have em : lr_e8 m = lr_e8 m' := by omega
        have ec : c = c' := by omega
        have hl : m.length = n := by simpa using hn
        have := ih m m' hl (fun x hx => h x (by simp [hx])) (fun x hx => h' x (by simp [hx])) em
        rw [z, z', this, ec]
theorem tx_e8_63 {l : List Nat} (h : tx_L l) (h8 : l.length ≤ 8) : lr_e8 l < 2 ^ 63 := by
  have b := tx_e8_lt l.length l rfl h
  have p1 : 256 ^ l.length ≤ 256 ^ 8 := Nat.pow_le_pow_right (by decide) h8
  have p3 : (256 : Nat) ^ 8 = 2 * 2 ^ 63 := by decide
  omega
theorem tx_e5_63 {l : List Nat} (h : tx_L l) (h8 : l.length ≤ 8) : lr_e5 l < 2 ^ 63 := by
  have b := tx_e5_lt l h
  have p1 : 32 ^ l.length ≤ 32 ^ 8 := Nat.pow_le_pow_right (by decide) h8
  have p3 : (32 : Nat) ^ 8 < 2 ^ 63 := by decide
  omega
theorem tx_nm1 {x y : Int64} {l : List Nat} (h : lr_nm1 x y) (hl : tx_L l) (h8 : l.length ≤ 8) : lg_cmp x (lN (lr_e5 l)) = 0 ↔ lg_cmp y (lN (lr_e8 l)) = 0 := by
  obtain ⟨m, m8, mL, rfl, rfl⟩ := h
  have mL : tx_L m := mL
  rw [tx_cmp, tx_cmp, pk_lEQ (tx_e5_63 mL m8) (tx_e5_63 hl h8), pk_lEQ (tx_e8_63 mL m8) (tx_e8_63 hl h8)]
  constructor
  · intro e; rw [tx_e5_inj _ m l rfl mL hl e]
  · intro e; rw [tx_e8_inj _ m l rfl mL hl e]
theorem tx_lbv (n : Nat) : (lN n).toBitVec = BitVec.ofNat 64 n := rfl
theorem tx_shl {a b : Nat} (ha : a < 2 ^ 55) (hb : b < 256) : (lN a <<< (((8 : Int32)).toInt64 &&& 63)) ||| lN b = lN (256 * a + b) := by
  rw [show (((8 : Int32)).toInt64 &&& 63 : Int64) = 8 by decide]
  apply Int64.toBitVec_inj.mp
  rw [Int64.toBitVec_or, Int64.toBitVec_shiftLeft, tx_lbv, tx_lbv, tx_lbv, show ((8 : Int64).toBitVec.smod 64) = 8#64 by decide]
  apply BitVec.eq_of_toNat_eq
  rw [BitVec.toNat_or, BitVec.shiftLeft_eq', BitVec.toNat_shiftLeft, BitVec.toNat_ofNat, BitVec.toNat_ofNat, BitVec.toNat_ofNat, BitVec.toNat_ofNat, show 8 % 2 ^ 64 = 8 by decide]
  rw [Nat.mod_eq_of_lt (show a < 2 ^ 64 by omega), Nat.mod_eq_of_lt (show b < 2 ^ 64 by omega), Nat.mod_eq_of_lt (show 256 * a + b < 2 ^ 64 by omega)]
  have e1 : a <<< 8 = 256 * a := by rw [Nat.shiftLeft_eq]; omega
  rw [Nat.mod_eq_of_lt (show a <<< 8 < 2 ^ 64 by omega), ← Nat.shiftLeft_add_eq_or_of_lt (show b < 2 ^ 8 by omega), e1]
theorem tx_ls_get {T : Nat → Nat} {p e j : Nat} (h : j < e - p) : (tx_ls T p e).getD j 0 = T (p + j) - 96 := by
  unfold tx_ls
  rw [List.getD_eq_getElem?_getD, List.getElem?_map, List.getElem?_range h]; rfl
theorem tx_word (T : Nat → Nat) {L p : Nat} (hp : p ≤ L) (h1 : 1 ≤ tx_K T L p) (h2 : tx_K T L p ≤ 25) : tx_F T L p < L ∧ tx_N T L p = tx_e T L p ∧ tx_F T L p ≤ tx_e T L p ∧ tx_e T L p ≤ L ∧ ((tx_K T L p = tx_find tx_kw 1 (tx_w T L p) ∧ (tx_w T L p).length ≤ 8) ∨ (tx_K T L p = 25 ∧ 8 < (tx_w T L p).length)) := by
  have hl : (tx_w T L p).length = tx_e T L p - tx_F T L p := tx_ls_len
  rcases tx_cases T hp with ⟨a, b, c⟩ | ⟨a, b, c, d⟩ | ⟨a, b, b2, c, d⟩ | ⟨a, b, b2, b3, c, d⟩ | ⟨a, b, b2, b3, c, d⟩
  · omega
  · obtain ⟨e1, e2, e3, e4⟩ := tx_end_spec (tx_isS T) (Nat.le_of_lt a)
    refine ⟨a, d, e1, e2, ?_⟩
    by_cases z : tx_e T L p - tx_F T L p ≤ 8
    · rw [if_pos z] at c; exact Or.inl ⟨c, by omega⟩
    · rw [if_neg z] at c; exact Or.inr ⟨c, by omega⟩
  · rw [c] at h1 h2; split at h2 <;> omega
  · rw [c] at h2; unfold tx_sg at b3; omega
  · omega
section TH
variable {σ : lt_S}
theorem tx_wdM (hσ : lr_S σ) {T : Nat → Nat} {L p : Nat} {w : lt_W} (h : tx_Mt w T L p) (h1 : 1 ≤ tx_K T L p) (h2 : tx_K T L p ≤ 25) : tx_wd σ w (tx_F T L p) (tx_w T L p) := by
  obtain ⟨hM, hp, m13, m12, m14, m26, ms⟩ := h
  obtain ⟨a, b, c, d, -⟩ := tx_word T hp h1 h2
  have hl : (tx_w T L p).length = tx_e T L p - tx_F T L p := tx_ls_len
  have hL := hM.1
  refine ⟨m13, ?_, by omega, fun j hj => ?_⟩
  · rw [m14 (by omega), b]; congr 1; omega
  · have hT := (tx_end_spec (tx_isS T) (Nat.le_of_lt a)).2.2.1 (tx_F T L p + j) (by omega) (by have : tx_e T L p = tx_end (tx_isS T) L (tx_F T L p) := rfl; omega)
    unfold tx_isS at hT
    have hT := of_decide_eq_true hT
    rw [tx_byte hσ hM (by omega), if_pos (by omega)]
    unfold tx_w
    rw [tx_ls_get (by omega)]
    rcases tx_small (hM.2.2 (tx_F T L p + j) (by omega)).1 with ⟨-, -, -, -, -, -, z⟩ | ⟨z, -⟩
    · rw [z]
    · exact absurd hT z
theorem tx_inM (hσ : lr_S σ) {T : Nat → Nat} {L p : Nat} {w : lt_W} (h : tx_Mt w T L p) : f_X12_inWords σ 233 w = some (if 1 ≤ tx_K T L p ∧ tx_K T L p ≤ 23 then nI (tx_m (tx_K T L p)) else -1) := by
  have h' := h
  obtain ⟨hM, hp, m13, m12, m14, m26, ms⟩ := h
  have hKr := tx_K_r T hp
  by_cases c : 1 ≤ tx_K T L p ∧ tx_K T L p ≤ 25
  · have m12' : lt_gi w 233 12 = 2 := by
      rw [m12]; unfold tx_mk; rw [if_neg (by omega), if_neg (by omega), if_pos c.2]
    rw [tx_in (tx_wdM hσ h' c.1 c.2) (tx_w_L T hp) m12']
    obtain ⟨-, -, -, -, z⟩ := tx_word T hp c.1 c.2
    rcases tx_pair (tx_w T L p) with ⟨a, b⟩ | ⟨a1, a2, a3, a4⟩
    · rw [b, if_neg (by omega)]
    · have eK : tx_K T L p = tx_find tx_kw 1 (tx_w T L p) := by
        rcases z with z | z
        · exact z.1
        · omega
      rw [a3, ← eK, if_pos (by omega)]
  · unfold f_X12_inWords fb_X12_inWords_0
    rw [if_neg (show ¬ lt_gi w 233 12 = 2 by
      rw [m12]; unfold tx_mk
      by_cases z0 : tx_K T L p = 0
      · rw [if_pos z0]; decide
      · rw [if_neg z0]
        by_cases z9 : tx_K T L p = 99
        · rw [if_pos z9]; decide
        · rw [if_neg z9, if_neg (by omega)]
          by_cases z6 : tx_K T L p = 26
          · rw [if_pos z6]; decide
          · rw [if_neg z6]; decide), if_neg (by omega)]
theorem tx_isNm (hσ : lr_S σ) {T : Nat → Nat} {L p : Nat} {w : lt_W} (h : tx_Mt w T L p) : f_X12_isName σ 233 w = some (if tx_K T L p = 24 then 1 else 0) := by
  have hin := tx_inM hσ h
  have h' := h
  obtain ⟨hM, hp, m13, m12, m14, m26, ms⟩ := h
  have hL := hM.1
  unfold f_X12_isName fb_X12_isName_0
  by_cases c : 1 ≤ tx_K T L p ∧ tx_K T L p ≤ 25
  · have m12' : lt_gi w 233 12 = 2 := by
      rw [m12]; unfold tx_mk; rw [if_neg (by omega), if_neg (by omega), if_pos c.2]
    obtain ⟨a, b, c1, d, z⟩ := tx_word T hp c.1 c.2
    have hl : (tx_w T L p).length = tx_e T L p - tx_F T L p := tx_ls_len
    have es : nI (tx_e T L p) - nI (tx_F T L p) = nI (tx_e T L p - tx_F T L p) := pk_sub c1
    have h24 := tx_find_24 (tx_w T L p)
    rw [if_pos m12', m14 (by omega), m13, b, es]
    rcases z with ⟨z1, z2⟩ | ⟨z1, z2⟩
    · rw [if_neg (show ¬ (8 : Int32) < nI (tx_e T L p - tx_F T L p) from nI_nlt (a := 8) (by omega) (by decide)), hin, lu_bind]
      by_cases e : tx_K T L p = 24
      · rw [if_neg (show ¬ (1 ≤ tx_K T L p ∧ tx_K T L p ≤ 23) by omega), if_pos rfl, if_pos e]
      · rw [if_pos (show 1 ≤ tx_K T L p ∧ tx_K T L p ≤ 23 by omega), if_neg e]
        have : tx_m (tx_K T L p) < 2 ^ 31 := by
          have key : ∀ k : Fin 24, tx_m k.1 < 2 ^ 31 := by decide
          exact key ⟨tx_K T L p, by omega⟩
        rw [if_neg (lu_ne1 this)]
    · rw [if_pos (show (8 : Int32) < nI (tx_e T L p - tx_F T L p) from nI_lt (a := 8) (by omega) (by omega)), if_neg (by omega)]
  · have hKr := tx_K_r T hp
    rw [if_neg (show ¬ lt_gi w 233 12 = 2 by
      rw [m12]; unfold tx_mk
      by_cases z0 : tx_K T L p = 0
      · rw [if_pos z0]; decide
      · rw [if_neg z0]
        by_cases z9 : tx_K T L p = 99
        · rw [if_pos z9]; decide
        · rw [if_neg z9, if_neg (by omega)]
          by_cases z6 : tx_K T L p = 26
          · rw [if_pos z6]; decide
          · rw [if_neg z6]; decide), if_neg (by omega)]
theorem tx_isSg {T : Nat → Nat} {L p c : Nat} {w : lt_W} (h : tx_Mt w T L p) (h1 : 59 ≤ c) (h2 : c ≤ 62) : f_X12_isSign σ 233 (nI c) w = some (if tx_K T L p = c then 1 else 0) := by
  obtain ⟨hM, hp, m13, m12, m14, m26, ms⟩ := h
  have hKr := tx_K_r T hp
  unfold f_X12_isSign fb_X12_isSign_0
  by_cases k : 59 ≤ tx_K T L p ∧ tx_K T L p ≤ 62
  · rw [if_pos (show lt_gi w 233 12 = 4 by rw [m12]; unfold tx_mk; rw [if_neg (by omega), if_neg (by omega), if_neg (by omega), if_neg (by omega)]), ms k.1 k.2]
    by_cases e : tx_K T L p = c
    · rw [if_pos (by rw [e]), if_pos e]
    · rw [if_neg (fun z => e ((nI_eq (by omega) (by omega)).mp z)), if_neg e]
  · rw [if_neg (show ¬ lt_gi w 233 12 = 4 by
      rw [m12]; unfold tx_mk
      by_cases z0 : tx_K T L p = 0
      · rw [if_pos z0]; decide
      · rw [if_neg z0]
        by_cases z9 : tx_K T L p = 99
        · rw [if_pos z9]; decide
        · rw [if_neg z9]
          by_cases z5 : tx_K T L p ≤ 25
          · rw [if_pos z5]; decide
          · rw [if_neg z5, if_pos (by omega)]; decide), if_neg (by omega)]
theorem tx_nmM (hσ : lr_S σ) {T : Nat → Nat} {L p : Nat} {w : lt_W} (h : tx_Mt w T L p) (h1 : 1 ≤ tx_K T L p) (h2 : tx_K T L p ≤ 24) : f_X12_nameHere σ 233 w = some (lN (lr_e8 (tx_w T L p))) := by
  obtain ⟨w1, w2, w3, w4⟩ := tx_wdM hσ h h1 (by omega)
  have hL := tx_w_L T h.2.1
  have h8 := (tx_w_8 T h.2.1 h1 h2).1
  unfold f_X12_nameHere fb_X12_nameHere_0
  rw [w1]
  have key : ∀ r i f, i + r = (tx_w T L p).length → r < f → fb_X12_nameHere_7 σ 233 w f (lN (lr_e8 ((tx_w T L p).take i))) (nI (tx_F T L p + i)) = some (lN (lr_e8 (tx_w T L p))) := by
    intro r
    induction r with
    | zero =>
      intro i f hi hf
      obtain ⟨f, rfl⟩ : ∃ g, f = g + 1 := ⟨f - 1, by omega⟩
      obtain rfl : i = (tx_w T L p).length := by omega
      rw [fb_X12_nameHere_7, w2, if_pos (nI_le (Nat.le_refl _) (by omega)), List.take_length]
    | succ r ih =>
      intro i f hi hf
      obtain ⟨f, rfl⟩ : ∃ g, f = g + 1 := ⟨f - 1, by omega⟩
      have hi' : i < (tx_w T L p).length := by omega
      have hc := tx_getD hL hi'
      have ht : (tx_w T L p).take (i + 1) = (tx_w T L p).take i ++ [(tx_w T L p).getD i 0] := by
        rw [List.take_succ, List.getD_eq_getElem?_getD, List.getElem?_eq_getElem hi']; rfl
      have hb := tx_e8_lt i ((tx_w T L p).take i) (by rw [List.length_take]; omega) (fun c hc => hL c (List.mem_of_mem_take hc))
      have p1 : 256 ^ i ≤ 256 ^ 7 := Nat.pow_le_pow_right (by decide) (by omega)
      have p3 : (256 : Nat) ^ 7 = 2 * 2 ^ 55 := by decide
      have := ih (i + 1) f (by omega) (by omega)
      rw [ht, tx_e8_app] at this
      rw [fb_X12_nameHere_7, w2, if_neg (nI_ge (by omega) (by omega)), w4 i hi', lu_bind, lu_let, show (tx_b ((tx_w T L p).getD i 0)).toInt64 = lN ((tx_w T L p).getD i 0 + 96) from nI_l (by omega), tx_shl (by omega) (by omega), nI_1]
      exact this
  have := key (tx_w T L p).length 0 lt_fu (by omega) (by unfold lt_fu; omega)
  exact this
/-- among so many guests' names, both sides -/
theorem tx_find2 (hσ : lr_S σ) {wc wm : lt_W} {o nb n : Nat} {l : List Nat} (s9 : lt_r σ o 9 = o + 1) (sl : lt_len σ (o + 1) = 7) (hn : n ≤ 7) (hb : nb + 7 ≤ 42) (h0 : lt_gi wc o 0 = nI n) (hnm : ∀ g, g < n → lr_nm1 (lt_gl wc (o + 1) g) (lt_gl wm 235 (nb + g))) (hl : tx_L l) (h8 : l.length ≤ 8) (hh : f_X12_nameHere σ 233 wm = some (lN (lr_e8 l))) : ∃ v, f_X5_guestNamed σ o (lN (lr_e5 l)) wc = some v ∧ f_X12_findHere σ 233 (nI nb) (nI n) wm = some v ∧ (v = -1 ∨ ∃ g, g < n ∧ v = nI g) := by
  have key : ∀ r k f f', k + r = n → r < f → r < f' → ∃ v, fb_X5_guestNamed_2 σ o wc f (lN (lr_e5 l)) (nI k) = some v ∧ fb_X12_findHere_2 σ 233 wm f' (nI nb) (nI n) (nI k) = some v ∧ (v = -1 ∨ ∃ g, g < n ∧ v = nI g) := by
    intro r
    induction r with
    | zero =>
      intro k f f' hk hf hf'
      obtain ⟨f, rfl⟩ : ∃ g, f = g + 1 := ⟨f - 1, by omega⟩
      obtain ⟨f', rfl⟩ : ∃ g, f' = g + 1 := ⟨f' - 1, by omega⟩
      refine ⟨-1, ?_, ?_, Or.inl rfl⟩
      · rw [fb_X5_guestNamed_2, h0, if_pos (nI_le (by omega) (by omega))]
      · rw [fb_X12_findHere_2, if_pos (nI_le (by omega) (by omega))]
    | succ r ih =>
      intro k f f' hk hf hf'
      obtain ⟨f, rfl⟩ : ∃ g, f = g + 1 := ⟨f - 1, by omega⟩
      obtain ⟨f', rfl⟩ : ∃ g, f' = g + 1 := ⟨f' - 1, by omega⟩
      have hnk := tx_nm1 (hnm k (by omega)) hl h8
      rw [fb_X5_guestNamed_2, fb_X12_findHere_2, h0, if_neg (nI_ge (by omega) (by omega)), if_neg (nI_ge (by omega) (by omega)), s9, sl, lu_ck (by omega) (by decide), lq_r233_1 hσ, lq_l235 hσ, nI_add, lu_ck (by omega) (by decide), hh, lu_bind, nI_clamp (by omega), nI_clamp (by omega)]
      by_cases c : lg_cmp (lt_gl wc (o + 1) k) (lN (lr_e5 l)) = 0
      · rw [if_pos c, if_pos (hnk.mp c)]
        exact ⟨nI k, rfl, rfl, Or.inr ⟨k, by omega, rfl⟩⟩
      · rw [if_neg c, if_neg (fun z => c (hnk.mpr z)), nI_1]
        exact ih (k + 1) f f' (by omega) (by omega) (by omega)
  exact key n 0 lt_fu lt_fu (by omega) (by unfold lt_fu; omega) (by unfold lt_fu; omega)
end TH