/-! WHAT IS SEEN: the looks ahead of it -/
theorem lv_cmp (v : Int64) {a : Nat} (ha : a < 2 ^ 62) : (lg_cmp v (lN a) < 0 ↔ v.toInt < a) ∧ (0 < lg_cmp v (lN a) ↔ a < v.toInt) := by
  unfold lg_cmp
  have e : (lN a).toInt = a := pk_lT (by omega)
  have h1 : v > lN a ↔ (a : Int) < v.toInt := by rw [gt_iff_lt, Int64.lt_iff_toInt_lt, e]
  have h2 : v = lN a ↔ v.toInt = a := by rw [← Int64.toInt_inj, e]
  by_cases c : (a : Int) < v.toInt
  · rw [if_pos (h1.mpr c)]
    exact ⟨⟨fun z => absurd z (by decide), fun z => by omega⟩, ⟨fun _ => c, fun _ => by decide⟩⟩
  · rw [if_neg (fun z => c (h1.mp z))]
    by_cases c2 : v.toInt = a
    · rw [if_pos (h2.mpr c2)]
      exact ⟨⟨fun z => absurd z (by decide), fun z => by omega⟩, ⟨fun z => absurd z (by decide), fun z => absurd z c⟩⟩
    · rw [if_neg (fun z => c2 (h2.mp z))]
      exact ⟨⟨fun _ => by omega, fun _ => by decide⟩, ⟨fun z => absurd z (by decide), fun z => absurd z c⟩⟩
theorem lv_eq {x y : Int64} : lg_cmp x y = 0 ↔ x = y := by
  unfold lg_cmp
  by_cases c : x > y
  · rw [if_pos c]
    refine ⟨fun z => absurd z (by decide), fun z => ?_⟩
    subst z; rw [gt_iff_lt, Int64.lt_iff_toInt_lt] at c; omega
  · rw [if_neg c]
    by_cases c2 : x = y
    · rw [if_pos c2]; exact ⟨fun _ => c2, fun _ => rfl⟩
    · rw [if_neg c2]; exact ⟨fun z => absurd z (by decide), fun z => absurd z c2⟩
/-- a long within 0 .. b -/
def lv_ok (b : Nat) (v : Int64) : Bool := decide (0 ≤ v.toInt ∧ v.toInt ≤ b)
theorem lv_of {b : Nat} {v : Int64} (h : lv_ok b v = true) (hb : b < 2 ^ 62) : ∃ j, j ≤ b ∧ v = lN j := by
  unfold lv_ok at h
  simp only [decide_eq_true_eq] at h
  refine ⟨v.toInt.toNat, by omega, Int64.toInt_inj.mp ?_⟩
  rw [pk_lT (by omega)]; omega
theorem lv_from {b : Nat} {v : Int64} (hb : b < 2 ^ 62) : f_X12_isFrom v 0 (lN b) = some (if lv_ok b v = true then 1 else 0) := by
  unfold f_X12_isFrom fb_X12_isFrom_0
  have h0 := (lv_cmp v (a := 0) (by decide)).1
  have h1 := (lv_cmp v hb).2
  rw [show (0 : Int64) = lN 0 from rfl]
  by_cases c : v.toInt < 0
  · rw [if_pos (h0.mpr (by omega)), if_neg (by unfold lv_ok; simp only [decide_eq_true_eq]; omega)]
  · rw [if_neg (fun z => c (by have := h0.mp z; omega))]
    by_cases c2 : (b : Int) < v.toInt
    · rw [if_pos (h1.mpr c2), if_neg (by unfold lv_ok; simp only [decide_eq_true_eq]; omega)]
    · rw [if_neg (fun z => c2 (h1.mp z)), if_pos (by unfold lv_ok; simp only [decide_eq_true_eq]; omega)]
/-- all twos are sound -/
def ls_v (vals : Nat → Int64) : Nat → Nat → Bool
  | 0, _ => true
  | m + 1, k => lv_ok 20 (vals (2 * k)) && lv_ok 7 (vals (2 * k + 1)) && ls_v vals m (k + 1)
theorem ls_v_of {vals : Nat → Int64} : ∀ m k, ls_v vals m k = true → ∀ j, k ≤ j → j < k + m → lv_ok 20 (vals (2 * j)) = true ∧ lv_ok 7 (vals (2 * j + 1)) = true := by
  intro m
  induction m with
  | zero => intro k _ j h1 h2; omega
  | succ m ih =>
    intro k h j h1 h2
    rw [ls_v, Bool.and_eq_true, Bool.and_eq_true] at h
    by_cases e : j = k
    · subst e; exact h.1
    · exact ih (k + 1) h.2 j (by omega) (by omega)
theorem lu_bs {α : Type} (v : Option α) : Option.bind v (fun q => some q) = v := by cases v <;> rfl
section SE
variable {σ : lt_S}
theorem ls_c56 (hσ : lr_S σ) {i : Nat} (hi : i < 4) {w : lt_W} {n : Nat} (hn : n ≤ 20) : ∀ m k f, k + m = n → m < f → fb_X11_seenFails_56 σ 0 w f (nI n) (3 + 2 * i) (nI (2 * k)) = some (if ls_v (lt_gl w (3 + 2 * i)) m k = true then 0 else 5) := by
  obtain ⟨r1, r2, r3⟩ := lt_trR hσ hi
  intro m
  induction m with
  | zero =>
    intro k f hk hf
    obtain ⟨f, rfl⟩ : ∃ g, f = g + 1 := ⟨f - 1, by omega⟩
    rw [fb_X11_seenFails_56, show (2 : Int32) = nI 2 from rfl, pk_mul, if_pos (nI_le (by omega) (by omega)), ls_v, if_pos rfl]
  | succ m ih =>
    intro k f hk hf
    obtain ⟨f, rfl⟩ : ∃ g, f = g + 1 := ⟨f - 1, by omega⟩
    have e20 : (20 : Int64) = lN 20 := rfl
    have e7 : (7 : Int64) = lN 7 := rfl
    have e0 : (0 : Int64) = lN 0 := rfl
    rw [fb_X11_seenFails_56, show (2 : Int32) = nI 2 from rfl, pk_mul, if_neg (nI_ge (by omega) (by omega)), r3, lu_ck (by omega) (by decide), lu_ck (by omega) (by decide), nI_1, lu_ck (by omega) (by decide), lu_ck (by omega) (by decide), nI_clamp (by omega), nI_clamp (by omega), nI_add, ls_v, e20, e7, e0]
    have p0 := (lv_cmp (lt_gl w (3 + 2 * i) (2 * k)) (a := 0) (by decide)).1
    have p1 := (lv_cmp (lt_gl w (3 + 2 * i) (2 * k)) (a := 20) (by decide)).2
    have q0 := (lv_cmp (lt_gl w (3 + 2 * i) (2 * k + 1)) (a := 0) (by decide)).1
    have q1 := (lv_cmp (lt_gl w (3 + 2 * i) (2 * k + 1)) (a := 7) (by decide)).2
    have d1 : lv_ok 20 (lt_gl w (3 + 2 * i) (2 * k)) = true ↔ 0 ≤ (lt_gl w (3 + 2 * i) (2 * k)).toInt ∧ (lt_gl w (3 + 2 * i) (2 * k)).toInt ≤ 20 := by unfold lv_ok; simp
    have d2 : lv_ok 7 (lt_gl w (3 + 2 * i) (2 * k + 1)) = true ↔ 0 ≤ (lt_gl w (3 + 2 * i) (2 * k + 1)).toInt ∧ (lt_gl w (3 + 2 * i) (2 * k + 1)).toInt ≤ 7 := by unfold lv_ok; simp
    by_cases c1 : (lt_gl w (3 + 2 * i) (2 * k)).toInt < 0
    · rw [if_pos (p0.mpr (by omega)), if_neg (by rw [Bool.and_eq_true, Bool.and_eq_true, d1]; omega)]
    · rw [if_neg (fun z => c1 (by have := p0.mp z; omega))]
      by_cases c2 : 20 < (lt_gl w (3 + 2 * i) (2 * k)).toInt
      · rw [if_pos (p1.mpr (by omega)), if_neg (by rw [Bool.and_eq_true, Bool.and_eq_true, d1]; omega)]
      · rw [if_neg (fun z => c2 (by have := p1.mp z; omega))]
        by_cases c3 : (lt_gl w (3 + 2 * i) (2 * k + 1)).toInt < 0
        · rw [if_pos (q0.mpr (by omega)), if_neg (by rw [Bool.and_eq_true, Bool.and_eq_true, d2]; omega)]
        · rw [if_neg (fun z => c3 (by have := q0.mp z; omega))]
          by_cases c4 : 7 < (lt_gl w (3 + 2 * i) (2 * k + 1)).toInt
          · rw [if_neg (fun z => Int32.not_lt.mpr z (q1.mpr (by omega))), if_neg (by rw [Bool.and_eq_true, Bool.and_eq_true, d2]; omega)]
          · rw [if_pos (Int32.not_lt.mp fun z => c4 (by have := q1.mp z; omega)), show 2 * k + 2 = 2 * (k + 1) from by omega, ih (k + 1) f (by omega) (by omega), d1.mpr (by omega), d2.mpr (by omega), Bool.true_and, Bool.true_and]
theorem ls_m28 (hσ : lr_S σ) {i : Nat} (hi : i < 4) {w : lt_W} {vals : Nat → Int64} {n : Nat} (hn : n ≤ 20) (hv : ∀ k, k < 2 * n → lt_gl w 238 (60 * i + k) = vals k) : ∀ m k f, k + m = n → m < f → fb_X12_wrongSeen_28 σ 233 w f (nI i) (nI n) (nI k) = some (if ls_v vals m k = true then 0 else 5) := by
  intro m
  induction m with
  | zero =>
    intro k f hk hf
    obtain ⟨f, rfl⟩ : ∃ g, f = g + 1 := ⟨f - 1, by omega⟩
    rw [fb_X12_wrongSeen_28, if_pos (nI_le (by omega) (by omega)), ls_v, if_pos rfl]
  | succ m ih =>
    intro k f hk hf
    obtain ⟨f, rfl⟩ : ∃ g, f = g + 1 := ⟨f - 1, by omega⟩
    rw [fb_X12_wrongSeen_28, if_neg (nI_ge (by omega) (by omega)), lq_r233_7 hσ, lq_l238 hσ, show (60 : Int32) = nI 60 from rfl, show (2 : Int32) = nI 2 from rfl, pk_mul, pk_mul, nI_add, lu_ck (by omega) (by decide), nI_1, lu_ck (by omega) (by decide), nI_clamp (by omega), nI_clamp (by omega), hv _ (by omega), show 60 * i + 2 * k + 1 = 60 * i + (2 * k + 1) from by omega, hv _ (by omega), show (20 : Int64) = lN 20 from rfl, lv_from (by decide), lu_bind, lu_q, show (7 : Int64) = lN 7 from rfl, lv_from (by decide), lu_bind, lu_q, nI_1, ih (k + 1) f (by omega) (by omega), ls_v]
    by_cases c1 : lv_ok 20 (vals (2 * k)) = true
    · rw [if_pos c1, c1, Bool.true_and]
      by_cases c2 : lv_ok 7 (vals (2 * k + 1)) = true
      · rw [if_pos c2, c2, Bool.true_and]
      · rw [if_neg c2, if_neg (by rw [Bool.and_eq_true]; exact fun z => c2 z.1)]
    · rw [if_neg c1, if_neg (by rw [Bool.and_eq_true, Bool.and_eq_true]; exact fun z => c1 z.1.1)]
/-- both refuse alike, or the twos are sound -/
theorem ls_codes (hσ : lr_S σ) {w : lt_W} {A : la_A} (h : lr_0 w A) (x y z : Int32) : (∃ c : Int32, (c = 1 ∨ c = 2 ∨ c = 3 ∨ c = 5) ∧ f_X11_seenFails σ 0 x y z w = some c ∧ ∀ w1, lr_0 w1 A → lr_Q w w1 → f_X12_wrongCall σ 233 x y z w1 = some c) ∨ (∃ g i n m s, g < la_n A ∧ i < 4 ∧ n ≤ 20 ∧ 2 * n ≤ m ∧ x = nI g ∧ y = nI i ∧ z = nI n ∧ lt_laid w i m s ∧ ls_v (lt_gl w (3 + 2 * i)) n 0 = true ∧ f_X11_seenFails σ 0 x y z w = some 0 ∧ ∀ w1, lr_0 w1 A → lr_Q w w1 → f_X12_wrongCall σ 233 x y z w1 = some 0) := by
  have hN := lr_now hσ
  have hS := lr_mS hσ
  have h7 := h.n7
  rcases lq_ix x h7 with hx | ⟨g, hg, rfl⟩
  · refine Or.inl ⟨1, Or.inl rfl, ?_, fun w1 h1 hQ => ?_⟩
    · unfold f_X11_seenFails fb_X11_seenFails_0
      rw [hN, lq_hg_n h.c hx, lu_bind, if_pos rfl]
    · unfold f_X12_wrongCall fb_X12_wrongCall_0
      rw [lq_ig_n hS (h1.m hσ) hx, lu_bind, if_pos rfl]
  rcases lt_ix4 (x := y) with hy | ⟨i, hi, rfl⟩
  · refine Or.inl ⟨1, Or.inl rfl, ?_, fun w1 h1 hQ => ?_⟩
    · unfold f_X11_seenFails fb_X11_seenFails_0
      rw [hN, lq_hg_y h.c hg, lu_bind, if_neg lu_10, lt_tfN hy]
      by_cases c : lq_b z 0 20
      · rw [lq_within_y (lo := 0) (hi := 20) 0 20 rfl rfl c, lu_bind, if_neg lu_10, lu_bind, if_neg lu_10]
      · rw [lq_within_n (lo := 0) (hi := 20) 0 20 rfl rfl c, lu_bind, if_pos rfl]
    · unfold f_X12_wrongCall fb_X12_wrongCall_0
      rw [lq_ig_y hS (h1.m hσ) hg, lu_bind, if_neg lu_10, (lt_isT_n hy).2, lu_bind, if_pos rfl]
  by_cases c : lq_b z 0 20
  · obtain ⟨n, -, hn, rfl⟩ := c.R (by decide) (by decide)
    have toC : f_X11_seenFails σ 0 (nI g) (nI i) (nI n) w = Option.bind (f_X11_trayFails σ 0 (nI i) 0 (nI (2 * n)) w) (fun q4 => if q4 = 0 then fb_X11_seenFails_56 σ 0 w lt_fu (nI n) (3 + 2 * i) 0 else some q4) := by
      obtain ⟨r1, r2, r3⟩ := lt_trR hσ hi
      unfold f_X11_seenFails fb_X11_seenFails_0
      rw [hN, lq_hg_y h.c hg, lu_bind, if_neg lu_10, lq_within_y (lo := 0) (hi := 20) 0 20 rfl rfl c, lu_bind, if_neg lu_10, show (2 : Int32) = nI 2 from rfl, pk_mul, lq_r0_3 hσ, lq_l1 hσ, lu_ck hi (by decide), nI_clamp (by omega), r1, r2]
    have toM : ∀ w1, lr_0 w1 A → f_X12_wrongCall σ 233 (nI g) (nI i) (nI n) w1 = if lt_gi w1 237 i = -1 then some 2 else if nI (2 * n) ≤ lt_gi w1 237 i then fb_X12_wrongSeen_28 σ 233 w1 lt_fu (nI i) (nI n) 0 else some 3 := by
      intro w1 h1
      unfold f_X12_wrongCall fb_X12_wrongCall_0 f_X12_wrongSeen fb_X12_wrongSeen_0
      rw [lq_ig_y hS (h1.m hσ) hg, lu_bind, if_neg lu_10, (lt_isT_y hi).2, lu_bind, if_neg lu_10, lq_from_y (lo := 0) (hi := 20) 0 20 rfl rfl (by decide) (by decide) c, lu_bind, if_neg lu_10, lq_r233_6 hσ, lq_l237 hσ, lu_ck hi (by decide), lu_ck hi (by decide), nI_clamp (by omega), show (2 : Int32) = nI 2 from rfl, pk_mul]
      exact lu_bs _
    rcases lt_laid_or h hi with ⟨q1, q2⟩ | ⟨m, s, hL⟩
    · refine Or.inl ⟨2, Or.inr (Or.inl rfl), ?_, fun w1 h1 hQ => ?_⟩
      · rw [toC, lt_tf hσ hi, if_pos q1]; rfl
      · rw [toM w1 h1, hQ.1.1 237 i (by unfold lr_px; omega), if_pos q2]
    · have hL' := hL
      obtain ⟨m60, s3, l0, l2, r2, l1, r1, ln⟩ := hL
      have n0 : ¬ lt_gi w (2 + 2 * i) 0 = 0 := by rw [l0]; decide
      have n1 : ¬ lt_gi w 237 i = -1 := by rw [r2]; exact lu_ne1 (by omega)
      have ec : f_X11_trayFails σ 0 (nI i) 0 (nI (2 * n)) w = some (if 2 * n ≤ m then 0 else 3) := by
        rw [lt_tf hσ hi, if_neg n0, show (0 : Int32) = nI 0 from rfl, lt_has m60 l2 (by decide) (by omega), lu_bind, Nat.zero_add]
        by_cases c : 2 * n ≤ m
        · rw [if_pos c, if_pos c]; rfl
        · rw [if_neg c, if_neg c]; rfl
      by_cases cm : 2 * n ≤ m
      · have eC : f_X11_seenFails σ 0 (nI g) (nI i) (nI n) w = some (if ls_v (lt_gl w (3 + 2 * i)) n 0 = true then 0 else 5) := by
          rw [toC, ec, lu_bind, if_pos cm, if_pos rfl]
          exact ls_c56 hσ hi hn n 0 lt_fu (by omega) (by unfold lt_fu; omega)
        have eM : ∀ w1, lr_0 w1 A → lr_Q w w1 → f_X12_wrongCall σ 233 (nI g) (nI i) (nI n) w1 = some (if ls_v (lt_gl w (3 + 2 * i)) n 0 = true then 0 else 5) := by
          intro w1 h1 hQ
          rw [toM w1 h1, hQ.1.1 237 i (by unfold lr_px; omega), if_neg n1, r2, if_pos (nI_le cm (by omega))]
          exact ls_m28 hσ hi hn (fun k hk => by rw [hQ.1.2 238 _ (by unfold lr_q lr_q0; omega)]; exact (ln k (by omega)).symm) n 0 lt_fu (by omega) (by unfold lt_fu; omega)
        by_cases cv : ls_v (lt_gl w (3 + 2 * i)) n 0 = true
        · rw [if_pos cv] at eC eM
          exact Or.inr ⟨g, i, n, m, s, hg, hi, hn, cm, rfl, rfl, rfl, hL', cv, eC, eM⟩
        · rw [if_neg cv] at eC eM
          exact Or.inl ⟨5, Or.inr (Or.inr (Or.inr rfl)), eC, eM⟩
      · refine Or.inl ⟨3, Or.inr (Or.inr (Or.inl rfl)), ?_, fun w1 h1 hQ => ?_⟩
        · rw [toC, ec, lu_bind, if_neg cm, if_neg (by decide)]
        · rw [toM w1 h1, hQ.1.1 237 i (by unfold lr_px; omega), if_neg n1, r2, if_neg (nI_ge (by omega) (by omega))]
  · refine Or.inl ⟨1, Or.inl rfl, ?_, fun w1 h1 hQ => ?_⟩
    · unfold f_X11_seenFails fb_X11_seenFails_0
      rw [hN, lq_hg_y h.c hg, lu_bind, if_neg lu_10, lq_within_n (lo := 0) (hi := 20) 0 20 rfl rfl c, lu_bind, if_pos rfl]
    · unfold f_X12_wrongCall fb_X12_wrongCall_0
      rw [lq_ig_y hS (h1.m hσ) hg, lu_bind, if_neg lu_10, (lt_isT_y hi).2, lu_bind, if_neg lu_10, lq_from_n (lo := 0) (hi := 20) 0 20 rfl rfl (by decide) (by decide) c, lu_bind, if_pos rfl]
end SE