/-! WHAT IS SEEN: the reference's looks -/
theorem lu_max {a b : Nat} (ha : a < 2 ^ 31) (hb : b < 2 ^ 31) : lt_max (nI a) (nI b) = nI (max a b) := by
  unfold lt_max
  by_cases c : a < b
  · rw [if_pos (nI_lt c hb), Nat.max_eq_right (by omega)]
  · rw [if_neg (nI_nlt (by omega) ha), Nat.max_eq_left (by omega)]
def ls_mx (sz : Nat → Nat) : Nat → Nat | 0 => 0 | c + 1 => max (ls_mx sz c) (sz c)
def ls_most (fit : Nat → Bool) (cn : Nat → Nat → Nat) (t : Nat) : Nat := ls_mx (fun c => ls_sz fit cn t c 90) 8
def ls_bst (most : Nat → Nat) : Nat → Nat | 0 => 0 | t + 1 => if most (t + 1) < most (ls_bst most t) then t + 1 else ls_bst most t
theorem ls_sz90 {fit : Nat → Bool} {cn : Nat → Nat → Nat} {t c j : Nat} : ls_sz fit cn t c j ≤ j := la_cnt_le _ _
theorem ls_mx90 {sz : Nat → Nat} (h : ∀ c, sz c ≤ 90) : ∀ c, ls_mx sz c ≤ 90 := by
  intro c
  induction c with
  | zero => exact Nat.zero_le _
  | succ c ih => rw [ls_mx]; have := h c; omega
theorem ls_most90 {fit : Nat → Bool} {cn : Nat → Nat → Nat} (t : Nat) : ls_most fit cn t ≤ 90 := ls_mx90 (fun _ => ls_sz90) 8
theorem ls_bst_le {most : Nat → Nat} : ∀ t, ls_bst most t ≤ t := by
  intro t
  induction t with
  | zero => exact Nat.le_refl _
  | succ t ih => rw [ls_bst]; split <;> omega
theorem ls_f_mono {fit : Nat → Bool} {f : Nat} : ∀ d j, ls_f fit j = some f → ls_f fit (j + d) = some f := by
  intro d
  induction d with
  | zero => intro j h; exact h
  | succ d ih => intro j h; rw [← Nat.add_assoc, ls_f, ih j h]
/-- what the looks leave: all but some rows and at[2140 .. 2200) -/
def ls_F (w w' : lt_W) : Prop := (∀ a k, lt_gl w' a k = lt_gl w a k) ∧ ∀ a k, a ≠ 245 → a ≠ 246 → a ≠ 247 → a ≠ 248 → (a ≠ 234 ∨ k < 2140 ∨ 2200 ≤ k) → lt_gi w' a k = lt_gi w a k
theorem ls_F.refl (w : lt_W) : ls_F w w := ⟨fun _ _ => rfl, fun _ _ _ _ _ _ _ => rfl⟩
theorem ls_F.trans {w w' w'' : lt_W} (h : ls_F w w') (h' : ls_F w' w'') : ls_F w w'' := ⟨fun a k => (h'.1 a k).trans (h.1 a k), fun a k z1 z2 z3 z4 z5 => (h'.2 a k z1 z2 z3 z4 z5).trans (h.2 a k z1 z2 z3 z4 z5)⟩
theorem ls_F.si {w w' : lt_W} {a k : Nat} {v : Int32} (h : ls_F w w') (ha : a = 245 ∨ a = 246 ∨ a = 247 ∨ a = 248) : ls_F w (lt_si w' a k v) := ⟨fun b j => h.1 b j, fun b j z1 z2 z3 z4 z5 => by rw [lu_ne (Or.inl (by omega))]; exact h.2 b j z1 z2 z3 z4 z5⟩
theorem ls_F.Q {w w' : lt_W} (h : ls_F w w') : lr_Q w w' :=
  ⟨⟨fun a k z => h.2 a k (by unfold lr_px at z; omega) (by unfold lr_px at z; omega) (by unfold lr_px at z; omega) (by unfold lr_px at z; omega) (by unfold lr_px at z; omega), fun a k _ => h.1 a k⟩, fun a k z => h.2 a k (by unfold lr_pt at z; omega) (by unfold lr_pt at z; omega) (by unfold lr_pt at z; omega) (by unfold lr_pt at z; omega) (by unfold lr_pt at z; omega)⟩
section SM
variable {σ : lt_S}
theorem m_day (hσ : lr_S σ) {w : lt_W} {A : la_A} (hA : lm_T w 234 0 A) (hO : la_Ok A) : ∃ w', f_X12_dayGoes σ 233 w = some (la_e (la_first A), w') ∧ lm_T w' 234 0 (la_day A) ∧ lm_D 234 w w' := by
  have := lm_dayGoes (lr_mS hσ) (lr_mT hσ hA) hO
  rw [lr_at hσ] at this; exact this
theorem m_keeps (hσ : lr_S σ) {b : Nat} (hb : 60 ≤ b) (hb2 : b + 60 ≤ 2560) (w : lt_W) : ∃ w', f_X12_keeps σ 233 (nI b) w = some w' ∧ (∀ k, k < 60 → lt_gi w' 234 (b + k) = lt_gi w 234 k) ∧ lm_F 234 b (b + 60) w w' := by
  have := lm_keeps (w := w) (lr_mS hσ) hb hb2
  rw [lr_at hσ] at this; exact this
theorem m_brings (hσ : lr_S σ) {b : Nat} (hb : 60 ≤ b) (hb2 : b + 60 ≤ 2560) (w : lt_W) : ∃ w', f_X12_brings σ 233 (nI b) w = some w' ∧ (∀ k, k < 60 → lt_gi w' 234 k = lt_gi w 234 (b + k)) ∧ lm_F 234 0 60 w w' := by
  have := lm_brings (w := w) (lr_mS hσ) hb hb2
  rw [lr_at hσ] at this; exact this
theorem lm_lh (hσ : lr_S σ) {w : lt_W} {A : la_A} (hA : lm_T w 234 0 A) (hO : la_Ok A) {g q : Nat} (hg : g < la_n A) (h1 : 10 ≤ q) (h2 : q < 100) : ∃ w', f_X12_laysHere σ 233 (nI g) (nI q) w = some w' ∧ (∀ t, t < 21 → lt_gi w' 245 t = nI (ls_cn A g q t)) ∧ (∀ a k, a = 247 ∨ a = 248 → lt_gi w' a k = lt_gi w a k) ∧ ls_F w w' := by
  have h7 := hA.2.1
  have hOB := ls_AO hO (g := g) h1 h2
  obtain ⟨w1, e1, e2, e3⟩ := m_keeps hσ (b := 2140) (by decide) (by decide) w
  have e1' : f_X12_keeps σ 233 2140 w = some w1 := e1
  have hB : lm_T (lt_si (lt_si w1 234 2 (nI (q / 10))) 234 (10 + 7 * g) (nI (q % 10))) 234 0 (ls_A A g q) := ((hA.F e3 (by omega)).hd rfl (by decide) (by decide)).cell (by omega) (by decide)
  have ed : nI q / 10 = nI (q / 10) := pk_div (d := 10) (by omega) (by decide) (by decide)
  have er : nI q - nI (q / 10) * 10 = nI (q % 10) := by
    have := pk_rem (a := q) (d := 10) (by omega) (by decide) (by decide)
    rw [show (10 : Int32) = nI 10 from rfl, ← this, show nI q / nI 10 = nI (q / 10) from ed]
  unfold f_X12_laysHere fb_X12_laysHere_0
  rw [e1', lu_bind, lr_mS hσ, lm_k2, lu_let, lm_c2, lm_row, lu_bind, lu_ck (by omega) (by decide), lu_let, nI_clamp (by omega), ed, er, lr_at hσ]
  refine lu_upR (fun f k u => fb_X12_laysHere_32 σ 233 f (nI k) u) 21 (fun k u => lm_T u 234 0 (la_days (ls_A A g q) k) ∧ (∀ t, t < k → lt_gi u 245 t = nI (ls_cn A g q t)) ∧ (∀ a j, lt_gl u a j = lt_gl w1 a j) ∧ (∀ a j, a ≠ 234 → a ≠ 245 → lt_gi u a j = lt_gi w1 a j) ∧ ∀ j, (60 ≤ j ∨ j = 8 ∨ j = 9) → lt_gi u 234 j = lt_gi w1 234 j) _ (fun f k u hk hI => ?_) (fun f u hI => ?_) lt_fu 0 _ (by omega) (by unfold lt_fu; omega) ⟨hB, fun t ht => by omega, fun _ _ => rfl, fun a j z1 z2 => by rw [lu_ne (Or.inl z1), lu_ne (Or.inl z1)], fun j z => by rw [lu_ne (by omega), lu_ne (by omega)]⟩
  · obtain ⟨x1, x2, x3, x4, x5⟩ := hI
    have x1' : lm_T (lt_si u 245 k (nI (ls_cn A g q k))) 234 0 (la_days (ls_A A g q) k) := x1.outA (by decide)
    obtain ⟨u1, d1, d2, d3⟩ := m_day hσ x1' (la_Ok_days hOB k)
    have ec := lm_areHere (lr_mS hσ) (lr_mT hσ x1)
    have eb := (la_count (p := la_here (la_days (ls_A A g q) k)) (n := la_n (la_days (ls_A A g q) k)) x1.2.1).2
    rw [la_n_days, ls_An] at ec eb
    show ∃ b', fb_X12_laysHere_32 σ 233 (f + 1) (nI k) u = fb_X12_laysHere_32 σ 233 f (nI (k + 1)) b' ∧ _
    have d1' : f_X12_dayGoes σ 233 (lt_si u 245 k (nI (la_cnt (la_here (la_days (ls_A A g q) k)) (la_n A)))) = some (la_e (la_first (la_days (ls_A A g q) k)), u1) := d1
    rw [fb_X12_laysHere_32, if_neg (show ¬ (20 : Int32) < nI k from nI_nlt (a := 20) (by omega) (by decide)), ec, lu_bind, eb, lu_bind, lq_r233_27 hσ, lq_l245 hσ, lu_ck hk (by decide), lu_let, nI_clamp (by omega), nI_1, d1', lu_bind]
    refine ⟨u1, rfl, d2, fun t ht => ?_, fun a j => (d3.1 a j).trans (x3 a j), fun a j z1 z2 => ?_, fun j z => ?_⟩
    · rw [d3.2 _ _ (by omega), lu_gisi]
      by_cases e : t = k
      · rw [if_pos ⟨rfl, e⟩, e]
      · rw [if_neg (fun z => e z.2)]; exact x2 t (by omega)
    · rw [d3.2 _ _ (by omega), lu_ne (Or.inl z2)]; exact x4 a j z1 z2
    · rw [d3.2 _ _ (by omega), lu_ne (Or.inl (by decide))]; exact x5 j z
  · obtain ⟨x1, x2, x3, x4, x5⟩ := hI
    obtain ⟨u1, b1, b2, b3⟩ := m_brings hσ (b := 2140) (by decide) (by decide) u
    have b1' : f_X12_brings σ 233 2140 u = some u1 := b1
    show ∃ r, fb_X12_laysHere_32 σ 233 (f + 1) _ u = _ ∧ _
    rw [fb_X12_laysHere_32, if_pos (show (20 : Int32) < nI 21 from nI_lt (a := 20) (by decide) (by decide)), b1', lu_bind]
    refine ⟨u1, rfl, fun t ht => ?_, fun a k z => ?_, fun a k => ?_, fun a k z1 z2 z3 z4 z5 => ?_⟩
    · rw [b3.2 _ _ (by omega)]; exact x2 t ht
    · rw [b3.2 _ _ (by omega), x4 a k (by omega) (by omega), e3.2 _ _ (by omega)]
    · rw [b3.1, x3, e3.1]
    · by_cases c : a = 234 ∧ k < 60
      · rw [c.1, b2 k c.2, x5 _ (by omega), e2 k c.2]
      · rw [b3.2 a k (by omega)]
        by_cases ca : a = 234
        · subst ca; rw [x5 _ (by omega), e3.2 _ _ (by omega)]
        · rw [x4 a k ca z1, e3.2 _ _ (by omega)]
theorem lm_27 (hσ : lr_S σ) (K : Int32 → Int32 → Int32 → Int32 → Int32 → lt_W → Option (Int32 × lt_W)) {u : lt_W} {i n : Nat} {vals : Nat → Int64} {cn : Nat → Nat} (hi : i < 4) (hn : n ≤ 20) (hv : ∀ k, k < 2 * n → lt_gl u 238 (60 * i + k) = vals k) (hc : ∀ t, t < 21 → lt_gi u 245 t = nI (cn t)) (h7 : ∀ t, cn t ≤ 7) (ok : ls_v vals n 0 = true) (x1 x4 x5 : Int32) : ∀ r k f (b : Bool), k + r = n → r < f → fb_X12_laysSeen_27 σ 233 K f x1 (nI i) (nI n) x4 x5 (if b = true then 1 else 0) (nI k) u = fb_X12_laysSeen_92 σ 233 K lt_fu x1 (nI i) (nI n) x4 x5 (if (b && ls_ft cn vals r k) = true then 1 else 0) 0 u := by
  intro r
  induction r with
  | zero =>
    intro k f b hk hf
    obtain ⟨f, rfl⟩ : ∃ g, f = g + 1 := ⟨f - 1, by omega⟩
    rw [fb_X12_laysSeen_27, if_pos (nI_le (by omega) (by omega)), ls_ft, Bool.and_true]
  | succ r ih =>
    intro k f b hk hf
    obtain ⟨f, rfl⟩ : ∃ g, f = g + 1 := ⟨f - 1, by omega⟩
    obtain ⟨v1, v2⟩ := ls_v_of n 0 ok k (by omega) (by omega)
    obtain ⟨d, hd, ed⟩ := lv_of v1 (by decide)
    rw [fb_X12_laysSeen_27, if_neg (nI_ge (by omega) (by omega)), lu_q, lq_r233_7 hσ, lq_l238 hσ, show (60 : Int32) = nI 60 from rfl, show (2 : Int32) = nI 2 from rfl, pk_mul, pk_mul, nI_add, lu_ck (by omega) (by decide), nI_1, lu_ck (by omega) (by decide), nI_clamp (by omega), nI_clamp (by omega), hv _ (by omega), show 60 * i + 2 * k + 1 = 60 * i + (2 * k + 1) from by omega, hv _ (by omega), ed, lN_i, lq_r233_27 hσ, lq_l245 hσ, lu_ck (by omega) (by decide), nI_clamp (by omega), hc d (by omega), nI_l (by have := h7 d; omega), nI_1, ls_ft, ed, lN_i, nI_clamp (by omega)]
    cases b with
    | false =>
      have := ih (k + 1) f false (by omega) (by omega)
      simp only [Bool.false_and] at this ⊢
      exact this
    | true =>
      rw [if_pos rfl]
      by_cases c : lN (cn d) = vals (2 * k + 1)
      · have := ih (k + 1) f true (by omega) (by omega)
        rw [if_pos (lv_eq.mpr c), decide_eq_true c, Bool.true_and, Bool.true_and]
        rw [Bool.true_and] at this
        exact this
      · have := ih (k + 1) f false (by omega) (by omega)
        rw [if_neg (fun z => c (lv_eq.mp z)), decide_eq_false c, Bool.false_and, Bool.and_false]
        rw [Bool.false_and] at this
        exact this
theorem lm_92 (hσ : lr_S σ) (K : Int32 → Int32 → Int32 → Int32 → Int32 → lt_W → Option (Int32 × lt_W)) {q : Nat} (h2 : q < 100) (x1 x2 x3 : Int32) (x4 : Nat) (b : Bool) (u : lt_W) : ∃ u', fb_X12_laysSeen_92 σ 233 K lt_fu x1 x2 x3 (nI x4) (nI q) (if b = true then 1 else 0) 0 u = K x1 x2 x3 (nI (if b = true then x4 + 1 else x4)) (nI (q + 1)) u' ∧ (∀ t, t < 21 → lt_gi u' 248 (21 * q + t) = lt_gi u 245 t) ∧ (∀ k, (k < 21 * q ∨ 21 * q + 21 ≤ k) → lt_gi u' 248 k = lt_gi u 248 k) ∧ lt_gi u' 247 q = (if b = true then 1 else 0) ∧ (∀ k, k ≠ q → lt_gi u' 247 k = lt_gi u 247 k) ∧ ls_F u u' := by
  have key : ∀ d t f v, t + d = 21 → d < f → ((∀ t', t' < t → lt_gi v 248 (21 * q + t') = lt_gi u 245 t') ∧ (∀ k, (k < 21 * q ∨ 21 * q + 21 ≤ k) → lt_gi v 248 k = lt_gi u 248 k) ∧ (∀ k, lt_gi v 247 k = lt_gi u 247 k) ∧ (∀ k, lt_gi v 245 k = lt_gi u 245 k) ∧ ls_F u v) → ∃ u', fb_X12_laysSeen_92 σ 233 K f x1 x2 x3 (nI x4) (nI q) (if b = true then 1 else 0) (nI t) v = K x1 x2 x3 (nI (if b = true then x4 + 1 else x4)) (nI (q + 1)) u' ∧ (∀ t, t < 21 → lt_gi u' 248 (21 * q + t) = lt_gi u 245 t) ∧ (∀ k, (k < 21 * q ∨ 21 * q + 21 ≤ k) → lt_gi u' 248 k = lt_gi u 248 k) ∧ lt_gi u' 247 q = (if b = true then 1 else 0) ∧ (∀ k, k ≠ q → lt_gi u' 247 k = lt_gi u 247 k) ∧ ls_F u u' := by
    intro d
    induction d with
    | zero =>
      intro t f v ht hf hI
      obtain ⟨f, rfl⟩ : ∃ g, f = g + 1 := ⟨f - 1, by omega⟩
      obtain ⟨y1, y2, y3, y4, y5⟩ := hI
      rw [fb_X12_laysSeen_92, if_pos (show (20 : Int32) < nI t from nI_lt (a := 20) (by omega) (by omega)), lq_r233_29 hσ, lq_l247 hσ, lu_ck h2 (by decide), lu_let, nI_clamp (by omega), lu_q, nI_1]
      refine ⟨lt_si v 247 q (if b = true then 1 else 0), ?_, fun t' ht' => ?_, fun k hk => ?_, lu_eq, fun k hk => ?_, y5.si (by omega)⟩
      · cases b with
        | false => rw [if_neg (by decide), if_neg (by decide), Int32.add_zero, nI_1]; rfl
        | true => rw [if_pos rfl, if_pos rfl, nI_1]; rfl
      · rw [lu_ne (Or.inl (by decide))]; exact y1 t' (by omega)
      · rw [lu_ne (Or.inl (by decide))]; exact y2 k hk
      · rw [lu_ne (Or.inr hk)]; exact y3 k
    | succ d ih =>
      intro t f v ht hf hI
      obtain ⟨f, rfl⟩ : ∃ g, f = g + 1 := ⟨f - 1, by omega⟩
      obtain ⟨y1, y2, y3, y4, y5⟩ := hI
      rw [fb_X12_laysSeen_92, if_neg (show ¬ (20 : Int32) < nI t from nI_nlt (a := 20) (by omega) (by decide)), lq_r233_27 hσ, lq_l245 hσ, lu_ck (by omega) (by decide), lq_r233_30 hσ, lq_l248 hσ, show (21 : Int32) = nI 21 from rfl, pk_mul, nI_add, lu_ck (by omega) (by decide), lu_let, nI_clamp (by omega), nI_clamp (by omega), nI_1]
      refine ih (t + 1) f _ (by omega) (by omega) ⟨fun t' ht' => ?_, fun k hk => ?_, fun k => ?_, fun k => ?_, y5.si (by omega)⟩
      · rw [lu_gisi]
        by_cases e : t' = t
        · rw [if_pos ⟨rfl, by omega⟩, e]; exact y4 t
        · rw [if_neg (by omega)]; exact y1 t' (by omega)
      · rw [lu_ne (by omega)]; exact y2 k hk
      · rw [lu_ne (by omega)]; exact y3 k
      · rw [lu_ne (by omega)]; exact y4 k
  exact key 21 0 lt_fu u (by omega) (by unfold lt_fu; omega) ⟨fun t' ht' => by omega, fun _ _ => rfl, fun _ => rfl, fun _ => rfl, ls_F.refl u⟩
def ls_Pm (fit : Nat → Bool) (cn : Nat → Nat → Nat) (w0 : lt_W) (j : Nat) (u : lt_W) : Prop := (∀ q, 10 ≤ q → q < 10 + j → lt_gi u 247 q = (if fit q = true then 1 else 0) ∧ ∀ t, t < 21 → lt_gi u 248 (21 * q + t) = nI (cn q t)) ∧ ls_F w0 u
theorem lm_lays (hσ : lr_S σ) {w0 : lt_W} {A : la_A} (hA : lm_T w0 234 0 A) (hO : la_Ok A) {g i n : Nat} {vals : Nat → Int64} (hg : g < la_n A) (hi : i < 4) (hn : n ≤ 20) (hv : ∀ k, k < 2 * n → lt_gl w0 238 (60 * i + k) = vals k) (ok : ls_v vals n 0 = true) : ∃ w', f_X12_laysSeen σ 233 (nI g) (nI i) (nI n) w0 = some (nI (ls_c (ls_fit A g vals n) 90), w') ∧ ls_Pm (ls_fit A g vals n) (ls_cn A g) w0 90 w' := by
  unfold f_X12_laysSeen fb_X12_laysSeen_0
  have key : ∀ d j f u, j + d = 90 → d < f → ls_Pm (ls_fit A g vals n) (ls_cn A g) w0 j u → ∃ w', fb_X12_laysSeen_7 σ 233 f (nI g) (nI i) (nI n) (nI (ls_c (ls_fit A g vals n) j)) (nI (10 + j)) u = some (nI (ls_c (ls_fit A g vals n) 90), w') ∧ ls_Pm (ls_fit A g vals n) (ls_cn A g) w0 90 w' := by
    intro d
    induction d with
    | zero =>
      intro j f u hj hf hP
      obtain ⟨f, rfl⟩ : ∃ g, f = g + 1 := ⟨f - 1, by omega⟩
      obtain rfl : j = 90 := by omega
      rw [fb_X12_laysSeen_7, if_pos (show (100 : Int32) ≤ nI (10 + 90) from nI_le (a := 100) (by decide) (by decide))]
      exact ⟨u, rfl, hP⟩
    | succ d ih =>
      intro j f u hj hf hP
      obtain ⟨f, rfl⟩ : ∃ g, f = g + 1 := ⟨f - 1, by omega⟩
      obtain ⟨p1, p2⟩ := hP
      have hB : lm_T u 234 0 A := hA.congr fun k hk _ _ => p2.2 _ _ (by omega) (by omega) (by omega) (by omega) (by omega)
      obtain ⟨u1, a1, a2, a3, a4⟩ := lm_lh hσ hB hO hg (q := 10 + j) (by omega) (by omega)
      have F1 := p2.trans a4
      have s1 := lm_27 hσ (fun x1 x2 x3 x4 x5 w => fb_X12_laysSeen_7 σ 233 f x1 x2 x3 x4 x5 w) (u := u1) (vals := vals) (cn := ls_cn A g (10 + j)) hi hn (fun k hk => (F1.1 _ _).trans (hv k hk)) a2 (fun t => ls_cn7 hA.2.1 _ _ _) ok (nI g) (nI (ls_c (ls_fit A g vals n) j)) (nI (10 + j)) n 0 lt_fu true (by omega) (by unfold lt_fu; omega)
      rw [Bool.true_and] at s1
      obtain ⟨u2, b1, b2, b3, b4, b5, b6⟩ := lm_92 hσ (fun x1 x2 x3 x4 x5 w => fb_X12_laysSeen_7 σ 233 f x1 x2 x3 x4 x5 w) (q := 10 + j) (by omega) (nI g) (nI i) (nI n) (ls_c (ls_fit A g vals n) j) (ls_fit A g vals n (10 + j)) u1
      have s1' : fb_X12_laysSeen_27 σ 233 (fun x1 x2 x3 x4 x5 w => fb_X12_laysSeen_7 σ 233 f x1 x2 x3 x4 x5 w) lt_fu (nI g) (nI i) (nI n) (nI (ls_c (ls_fit A g vals n) j)) (nI (10 + j)) 1 0 u1 = fb_X12_laysSeen_92 σ 233 (fun x1 x2 x3 x4 x5 w => fb_X12_laysSeen_7 σ 233 f x1 x2 x3 x4 x5 w) lt_fu (nI g) (nI i) (nI n) (nI (ls_c (ls_fit A g vals n) j)) (nI (10 + j)) (if ls_fit A g vals n (10 + j) = true then 1 else 0) 0 u1 := s1
      rw [fb_X12_laysSeen_7, if_neg (show ¬ (100 : Int32) ≤ nI (10 + j) from nI_ge (b := 100) (by omega) (by decide)), a1, lu_bind, s1', b1]
      have ec : (if ls_fit A g vals n (10 + j) = true then ls_c (ls_fit A g vals n) j + 1 else ls_c (ls_fit A g vals n) j) = ls_c (ls_fit A g vals n) (j + 1) := by unfold ls_c; rw [la_cnt]
      rw [ec]
      refine ih (j + 1) f u2 (by omega) (by omega) ⟨fun q q1 q2 => ?_, F1.trans b6⟩
      by_cases e : q = 10 + j
      · subst e
        exact ⟨b4, fun t ht => (b2 t ht).trans (a2 t ht)⟩
      · obtain ⟨z1, z2⟩ := p1 q q1 (by omega)
        exact ⟨by rw [b5 q e, a3 _ _ (Or.inl rfl)]; exact z1, fun t ht => by rw [b3 _ (by omega), a3 _ _ (Or.inr rfl)]; exact z2 t ht⟩
  exact key 90 0 lt_fu w0 (by omega) (by unfold lt_fu; omega) ⟨fun q q1 q2 => by omega, ls_F.refl w0⟩
theorem lm_alike (hσ : lr_S σ) {fit : Nat → Bool} {cn : Nat → Nat → Nat} {w0 u : lt_W} (h : ls_Pm fit cn w0 90 u) (h7 : ∀ q t, cn q t ≤ 7) {t : Nat} (ht : t < 21) : ∃ u', f_X12_mostAlike σ 233 (nI t) u = some (nI (ls_most fit cn t), u') ∧ ls_Pm fit cn w0 90 u' := by
  unfold f_X12_mostAlike fb_X12_mostAlike_0
  -- the row of zeros
  have k4 : ∀ d c f v, c + d = 8 → d < f → ((∀ c', c' < c → lt_gi v 246 c' = 0) ∧ (∀ a k, a ≠ 246 → lt_gi v a k = lt_gi u a k) ∧ ∀ a k, lt_gl v a k = lt_gl u a k) → ∃ v', fb_X12_mostAlike_4 σ 233 f (nI t) 0 (nI c) v = fb_X12_mostAlike_26 σ 233 lt_fu (nI t) 0 10 v' ∧ (∀ c', c' < 8 → lt_gi v' 246 c' = 0) ∧ (∀ a k, a ≠ 246 → lt_gi v' a k = lt_gi u a k) ∧ ∀ a k, lt_gl v' a k = lt_gl u a k := by
    intro d
    induction d with
    | zero =>
      intro c f v hc hf hI
      obtain ⟨f, rfl⟩ : ∃ g, f = g + 1 := ⟨f - 1, by omega⟩
      rw [fb_X12_mostAlike_4, if_pos (show (8 : Int32) ≤ nI c from nI_le (a := 8) (by omega) (by omega))]
      exact ⟨v, rfl, fun c' hc' => hI.1 c' (by omega), hI.2⟩
    | succ d ih =>
      intro c f v hc hf hI
      obtain ⟨f, rfl⟩ : ∃ g, f = g + 1 := ⟨f - 1, by omega⟩
      obtain ⟨y1, y2, y3⟩ := hI
      rw [fb_X12_mostAlike_4, if_neg (show ¬ (8 : Int32) ≤ nI c from nI_ge (b := 8) (by omega) (by decide)), lq_r233_28 hσ, lq_l246 hσ, lu_ck (by omega) (by decide), lu_let, nI_clamp (by omega), nI_1]
      refine ih (c + 1) f _ (by omega) (by omega) ⟨fun c' hc' => ?_, fun a k z => by rw [lu_ne (Or.inl z)]; exact y2 a k z, y3⟩
      rw [lu_gisi]
      by_cases e : c' = c
      · rw [if_pos ⟨rfl, e⟩]
      · rw [if_neg (fun z => e z.2)]; exact y1 c' (by omega)
  obtain ⟨v, a1, a2, a3, a4⟩ := k4 8 0 lt_fu u (by omega) (by unfold lt_fu; omega) ⟨fun c' hc' => by omega, fun _ _ _ => rfl, fun _ _ => rfl⟩
  -- the counts
  have k26 : ∀ d j f v, j + d = 90 → d < f → ((∀ c, c < 8 → lt_gi v 246 c = nI (ls_sz fit cn t c j)) ∧ (∀ a k, a ≠ 246 → lt_gi v a k = lt_gi u a k) ∧ ∀ a k, lt_gl v a k = lt_gl u a k) → ∃ v', fb_X12_mostAlike_26 σ 233 f (nI t) 0 (nI (10 + j)) v = fb_X12_mostAlike_69 σ 233 lt_fu 0 0 v' ∧ (∀ c, c < 8 → lt_gi v' 246 c = nI (ls_sz fit cn t c 90)) ∧ (∀ a k, a ≠ 246 → lt_gi v' a k = lt_gi u a k) ∧ ∀ a k, lt_gl v' a k = lt_gl u a k := by
    intro d
    induction d with
    | zero =>
      intro j f v hj hf hI
      obtain ⟨f, rfl⟩ : ∃ g, f = g + 1 := ⟨f - 1, by omega⟩
      obtain rfl : j = 90 := by omega
      rw [fb_X12_mostAlike_26, if_pos (show (100 : Int32) ≤ nI (10 + 90) from nI_le (a := 100) (by decide) (by decide))]
      exact ⟨v, rfl, hI⟩
    | succ d ih =>
      intro j f v hj hf hI
      obtain ⟨f, rfl⟩ : ∃ g, f = g + 1 := ⟨f - 1, by omega⟩
      obtain ⟨y1, y2, y3⟩ := hI
      obtain ⟨z1, z2⟩ := h.1 (10 + j) (by omega) (by omega)
      have b7 := h7 (10 + j) t
      rw [fb_X12_mostAlike_26, if_neg (show ¬ (100 : Int32) ≤ nI (10 + j) from nI_ge (b := 100) (by omega) (by decide)), lq_r233_29 hσ, lq_l247 hσ, lu_ck (by omega) (by decide), nI_clamp (by omega), y2 _ _ (by decide), z1, lu_q, lq_r233_30 hσ, lq_l248 hσ, show (21 : Int32) = nI 21 from rfl, pk_mul, nI_add, lu_ck (by omega) (by decide), nI_clamp (by omega), y2 _ _ (by decide), z2 t ht, lq_r233_28 hσ, lq_l246 hσ, lu_ck (by omega) (by decide), lu_ck (by omega) (by decide), lu_let, nI_clamp (by omega), y1 _ (by omega), nI_1, nI_1]
      by_cases c : fit (10 + j) = true
      · rw [if_pos c]
        refine ih (j + 1) f _ (by omega) (by omega) ⟨fun c' hc' => ?_, fun a k z => by rw [lu_ne (Or.inl z)]; exact y2 a k z, y3⟩
        rw [lu_gisi]
        unfold ls_sz
        rw [la_cnt]
        by_cases e : c' = cn (10 + j) t
        · rw [if_pos ⟨rfl, e⟩, if_pos (by simp [c, e]), e]
        · rw [if_neg (fun z => e z.2), if_neg (by simp [c]; exact fun z => e z.symm)]; exact y1 c' hc'
      · rw [if_neg c]
        refine ih (j + 1) f v (by omega) (by omega) ⟨fun c' hc' => ?_, y2, y3⟩
        rw [y1 c' hc']; unfold ls_sz; rw [la_cnt, if_neg (by simp [c])]
  obtain ⟨v2, b1, b2, b3, b4⟩ := k26 90 0 lt_fu v (by omega) (by unfold lt_fu; omega) ⟨fun c hc => a2 c hc, a3, a4⟩
  -- the most
  have k69 : ∀ d c f, c + d = 8 → d < f → fb_X12_mostAlike_69 σ 233 f (nI (ls_mx (fun c => ls_sz fit cn t c 90) c)) (nI c) v2 = some (nI (ls_most fit cn t), v2) := by
    intro d
    induction d with
    | zero =>
      intro c f hc hf
      obtain ⟨f, rfl⟩ : ∃ g, f = g + 1 := ⟨f - 1, by omega⟩
      obtain rfl : c = 8 := by omega
      rw [fb_X12_mostAlike_69, if_pos (show (8 : Int32) ≤ nI 8 from nI_le (a := 8) (by decide) (by decide))]; rfl
    | succ d ih =>
      intro c f hc hf
      obtain ⟨f, rfl⟩ : ∃ g, f = g + 1 := ⟨f - 1, by omega⟩
      have m1 : ls_mx (fun c => ls_sz fit cn t c 90) c ≤ 90 := ls_mx90 (fun _ => ls_sz90) c
      have m2 : ls_sz fit cn t c 90 ≤ 90 := ls_sz90
      rw [fb_X12_mostAlike_69, if_neg (show ¬ (8 : Int32) ≤ nI c from nI_ge (b := 8) (by omega) (by decide)), lq_r233_28 hσ, lq_l246 hσ, lu_ck (by omega) (by decide), lu_let, nI_clamp (by omega), b2 c (by omega), lu_max (by omega) (by omega), nI_1]
      exact ih (c + 1) f (by omega) (by omega)
  have e1 : fb_X12_mostAlike_4 σ 233 lt_fu (nI t) 0 0 u = _ := a1
  have e2 : fb_X12_mostAlike_26 σ 233 lt_fu (nI t) 0 10 v = _ := b1
  refine ⟨v2, ?_, fun q q1 q2 => ?_, h.2.trans ⟨b4, fun a k _ z2 _ _ _ => b3 a k z2⟩⟩
  · rw [e1, e2]; exact k69 8 0 lt_fu (by omega) (by unfold lt_fu; omega)
  · obtain ⟨z1, z2⟩ := h.1 q q1 q2
    exact ⟨by rw [b3 _ _ (by decide)]; exact z1, fun t' ht' => by rw [b3 _ _ (by decide)]; exact z2 t' ht'⟩
end SM