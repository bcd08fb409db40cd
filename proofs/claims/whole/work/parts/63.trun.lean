/-! THE CALL table -/
section OT
variable {σ : lt_S}
/-- the relation anew, behind a text -/
theorem lr_txt {w w2 : lt_W} {A B : la_A} (h : lr_0 w A) (e1 : ∀ a k, ((2 ≤ a ∧ a < 10) ∨ a = 236 ∨ a = 237 ∨ (a = 0 ∧ (k = 18 ∨ k = 15)) ∨ (a = 233 ∧ (k = 39 ∨ k = 40)) ∨ (182 ≤ a ∧ a < 233) ∨ (a = 234 ∧ 428 ≤ k ∧ k < 1712) ∨ a = 179 ∨ a = 254 ∨ a = 252) → lt_gi w2 a k = lt_gi w a k) (e2 : ∀ a k, ((3 ≤ a ∧ a < 10) ∨ a = 238 ∨ (182 ≤ a ∧ a < 233) ∨ (a = 235 ∧ 7 ≤ k ∧ k < 28) ∨ (a = 0 ∧ (k = 1 ∨ k = 2)) ∨ (a = 233 ∧ (k = 3 ∨ k = 4))) → lt_gl w2 a k = lt_gl w a k) (t1 : lt_gi w2 10 1 = 0) (t2 : lt_gi w2 233 10 = 0) (f1 : lt_gi w2 10 9 = lt_gi w2 233 16) (f2 : lt_gi w2 10 10 = lt_gi w2 233 17) (s : lt_gi w2 0 0 = lt_gi w2 233 2) (hT : lr_tb w2 B) (hN : lr_nm w2 12 0 (la_n B)) (hW : lw_W w2 21 0 (la_n B)) : lr_R w2 := by
  obtain ⟨⟨-, x1, x2, x3, x4, x5, x6, x7, x8⟩, x9⟩ := h
  exact ⟨s, B, ⟨hT, x1.c (fun a k z => e1 a k (by omega)) (fun a k z => e2 a k (by omega)), ⟨0, by decide, t1, t2, fun k hk => absurd hk (Nat.not_lt_zero _)⟩, ⟨f1, f2⟩, hN, hW, x6.c (fun a k z => e1 a k (by omega)) (fun a k z => e2 a k (by omega)), x7.c (fun a k z => e1 a k (by omega)), x8.c (fun k => e1 _ _ (by omega))⟩, x9.c (fun a k z => e2 a k (by omega))⟩
theorem tm_117 (hσ : lr_S σ) (u : lt_W) : fb_X12_table_117 σ 233 u = if lt_gi u 233 18 ≤ 0 then some (lt_gi u 234 0, lt_si (lt_si u 233 16 (lt_gi u 233 18)) 233 2 0) else some (-1, lt_si (lt_si u 233 16 (lt_gi u 233 18)) 233 2 9) := by
  unfold fb_X12_table_117 f_X12_taken fb_X12_taken_0
  rw [lr_at hσ, lq_l234 hσ, lm_k0, lm_c0, lu_let, lu_ne (by omega)]
  by_cases c : lt_gi u 233 18 ≤ 0
  · rw [if_pos c, if_pos c]; rfl
  · rw [if_neg c, if_neg c]; rfl
theorem tm_59 (hσ : lr_S σ) (w : lt_W) : ∃ w', fb_X12_table_59 σ 233 lt_fu 0 w = fb_X12_table_117 σ 233 w' ∧ (∀ k, k < 428 → lt_gi w' 234 k = lt_gi w 234 (1712 + k)) ∧ (∀ k, k < 7 → lt_gl w' 235 k = lt_gl w 235 (28 + k)) ∧ (∀ a k, (a ≠ 234 ∨ 428 ≤ k) → lt_gi w' a k = lt_gi w a k) ∧ ∀ a k, (a ≠ 235 ∨ 7 ≤ k) → lt_gl w' a k = lt_gl w a k := by
  have key1 : ∀ r k f (u : lt_W), k + r = 428 → r < f → (∀ j, j < k → lt_gi u 234 j = lt_gi w 234 (1712 + j)) → (∀ a j, (a ≠ 234 ∨ 428 ≤ j) → lt_gi u a j = lt_gi w a j) → (∀ a j, lt_gl u a j = lt_gl w a j) → ∃ w', fb_X12_table_59 σ 233 f (nI k) u = fb_X12_table_90 σ 233 lt_fu 0 w' ∧ (∀ j, j < 428 → lt_gi w' 234 j = lt_gi w 234 (1712 + j)) ∧ (∀ a j, (a ≠ 234 ∨ 428 ≤ j) → lt_gi w' a j = lt_gi w a j) ∧ (∀ a j, lt_gl w' a j = lt_gl w a j) := by
    intro r
    induction r with
    | zero =>
      intro k f u hk hf x1 x2 x3
      obtain ⟨f, rfl⟩ : ∃ g, f = g + 1 := ⟨f - 1, by omega⟩
      obtain rfl : k = 428 := by omega
      refine ⟨u, ?_, x1, x2, x3⟩
      rw [fb_X12_table_59, if_pos (show (428 : Int32) ≤ nI 428 from nI_le (a := 428) (by decide) (by decide))]
    | succ r ih =>
      intro k f u hk hf x1 x2 x3
      obtain ⟨f, rfl⟩ : ∃ g, f = g + 1 := ⟨f - 1, by omega⟩
      rw [fb_X12_table_59, if_neg (show ¬ (428 : Int32) ≤ nI k from nI_ge (b := 428) (by omega) (by decide)), lr_at hσ, lq_l234 hσ, show (1712 : Int32) + nI k = nI (1712 + k) from nI_add 1712 k, lu_ck (by omega) (by decide), lu_ck (by omega) (by decide), lu_let, nI_clamp (by omega), nI_clamp (by omega), nI_1]
      refine ih (k + 1) f _ (by omega) (by omega) (fun j hj => ?_) (fun a j z => (lu_ne (by omega)).trans (x2 a j z)) x3
      by_cases e : j = k
      · rw [e, lu_eq]; exact x2 _ _ (by omega)
      · rw [lu_ne (by omega)]; exact x1 j (by omega)
  have key2 : ∀ (v : lt_W) r k f (u : lt_W), k + r = 7 → r < f → (∀ j, j < k → lt_gl u 235 j = lt_gl v 235 (28 + j)) → (∀ a j, lt_gi u a j = lt_gi v a j) → (∀ a j, (a ≠ 235 ∨ 7 ≤ j) → lt_gl u a j = lt_gl v a j) → ∃ w', fb_X12_table_90 σ 233 f (nI k) u = fb_X12_table_117 σ 233 w' ∧ (∀ j, j < 7 → lt_gl w' 235 j = lt_gl v 235 (28 + j)) ∧ (∀ a j, lt_gi w' a j = lt_gi v a j) ∧ (∀ a j, (a ≠ 235 ∨ 7 ≤ j) → lt_gl w' a j = lt_gl v a j) := by
    intro v r
    induction r with
    | zero =>
      intro k f u hk hf x1 x2 x3
      obtain ⟨f, rfl⟩ : ∃ g, f = g + 1 := ⟨f - 1, by omega⟩
      obtain rfl : k = 7 := by omega
      refine ⟨u, ?_, x1, x2, x3⟩
      rw [fb_X12_table_90, if_pos (show (7 : Int32) ≤ nI 7 from nI_le (a := 7) (by decide) (by decide))]
    | succ r ih =>
      intro k f u hk hf x1 x2 x3
      obtain ⟨f, rfl⟩ : ∃ g, f = g + 1 := ⟨f - 1, by omega⟩
      rw [fb_X12_table_90, if_neg (show ¬ (7 : Int32) ≤ nI k from nI_ge (b := 7) (by omega) (by decide)), lq_r233_1 hσ, lq_l235 hσ, show (28 : Int32) + nI k = nI (28 + k) from nI_add 28 k, lu_ck (by omega) (by decide), lu_ck (by omega) (by decide), lu_let, nI_clamp (by omega), nI_clamp (by omega), nI_1]
      refine ih (k + 1) f _ (by omega) (by omega) (fun j hj => ?_) x2 (fun a j z => ?_)
      · rw [lu_glsl]
        by_cases e : j = k
        · rw [if_pos ⟨rfl, e⟩, e]; exact x3 _ _ (by omega)
        · rw [if_neg (by omega)]; exact x1 j (by omega)
      · rw [lu_glsl, if_neg (by omega)]; exact x3 a j z
  obtain ⟨w1, a1, a2, a3, a4⟩ := key1 428 0 lt_fu w (by omega) (by unfold lt_fu; omega) (fun j hj => by omega) (fun _ _ _ => rfl) (fun _ _ => rfl)
  obtain ⟨w2, b1, b2, b3, b4⟩ := key2 w1 7 0 lt_fu w1 (by omega) (by unfold lt_fu; omega) (fun j hj => by omega) (fun _ _ => rfl) (fun _ _ _ => rfl)
  refine ⟨w2, ?_, fun k hk => (b3 _ _).trans (a2 k hk), fun k hk => (b2 k hk).trans (a4 _ _), fun a k z => (b3 a k).trans (a3 a k z), fun a k z => (b4 a k z).trans (a4 a k)⟩
  rw [show fb_X12_table_59 σ 233 lt_fu 0 w = _ from a1]; exact b1
theorem lr_now7 (hσ : lr_S σ) : lt_r σ 0 7 = 29 ∧ lt_r σ 0 4 = 10 ∧ lt_r σ 0 6 = 21 ∧ lt_r σ 29 1 = 30 := ⟨hσ.r 0 7 (by decide) (by decide), hσ.r 0 4 (by decide) (by decide), hσ.r 0 6 (by decide) (by decide), hσ.r 29 1 (by decide) (by decide)⟩
/-- both readers run on a text -/
theorem tt_run (hσ : lr_S σ) {w w0 : lt_W} {A : la_A} {n : Nat} (h : lr_0 w A) {m : Nat} (hm : m ≤ 900) (hn : n ≤ m) (h1 : lt_gi w 10 1 = nI m) (h2 : lt_gi w 233 10 = nI m) (hT : ∀ k, k < m → lt_gi w 11 k = lt_gi w 239 k ∧ lr_by (lt_gi w 11 k)) (g1 : lt_gi w0 233 10 = nI m) (g2 : ∀ k, lt_gi w0 239 k = lt_gi w 239 k) : ∃ wb wc' r, f_X7_begin σ 10 (nI n) w = some wb ∧ f_X6_isTable σ 29 wb = some (r, wc') ∧ (∀ a k, ¬ (a = 10 ∧ 1 ≤ k ∧ k ≤ 10) → ¬ (29 ≤ a ∧ a ≤ 48) → lt_gi wc' a k = lt_gi w a k) ∧ (∀ a k, ¬ (a = 10 ∧ k = 6) → ¬ (29 ≤ a ∧ a ≤ 48) → lt_gl wc' a k = lt_gl w a k) ∧ lt_gi wc' 10 1 = 0 ∧ ∃ wm', f_X12_table σ 233 (nI n) w0 = fb_X12_table_50 σ 233 wm' ∧ (∀ a k, ¬ tx_gm a k → ¬ (a = 233 ∧ (k = 10 ∨ k = 11 ∨ k = 19)) → a ≠ 240 → lt_gi wm' a k = lt_gi w0 a k) ∧ (∀ a k, ¬ (a = 235 ∧ 28 ≤ k ∧ k < 35) → lt_gl wm' a k = lt_gl w0 a k) ∧ lt_gi wm' 233 10 = 0 ∧ lt_gi wc' 10 10 = lt_gi wm' 233 17 ∧ ((r = 0 ∧ ∃ f, 1 ≤ f ∧ f ≤ 7 ∧ lt_gi wc' 10 9 = nI f ∧ lt_gi wm' 233 18 = nI f) ∨ (r = 1 ∧ lt_gi wc' 10 9 = 0 ∧ lt_gi wm' 233 18 = 0 ∧ ∃ B t, tt_D B t wc' wm')) := by
  obtain ⟨wb, a1, a2, a3, a4, a5, a6, a7⟩ := tc_begin hσ hn hm h1 (fun k hk => (hT k hk).2)
  obtain ⟨wbm, b1, b2, b3, b4, b5, b6, b7⟩ := tm_begins hσ (T := tx_T w) (m := m) (n := n) (q := 900) hn hm (by omega) (by decide) g1 (fun k hk => by
    rw [g2, ← (hT k (by omega)).1]
    have := tx_T_by (hT k (by omega)).2
    exact ⟨(hT k (by omega)).2, this.1, this.2.2⟩)
  obtain ⟨wp, c1, c2, c3⟩ := tm_plain hσ (b := 1712) (by decide) wbm
  obtain ⟨wl, d1, d2, d3, d4⟩ := lc_clear (σ := σ) (o := 30) wb
  have hS : tk_S (lt_si wl 29 2 0) (lt_si wp 233 20 0) (tx_T w) n 0 (lt_si wl 29 2 0) (lt_si wp 233 20 0) := by
    refine ⟨a2.congr (fun k _ _ => (lu_ne (by omega)).trans (d3 _ _ (by omega))) (fun k => (lu_ne (by omega)).trans (d3 _ _ (by omega))) (d4 _ _), b2.congr (fun k _ _ => (lu_ne (by omega)).trans (c3.2 _ _ (by omega))) (fun k => (lu_ne (by omega)).trans (c3.2 _ _ (by omega))), ⟨?_, ?_⟩, ⟨?_, ?_⟩, tx_Gc.refl _, tx_Gm.refl _⟩
    · rw [lu_ne (by omega), d3 _ _ (by omega)]; exact a4
    · rw [lu_ne (by omega), d3 _ _ (by omega)]; exact a5
    · rw [lu_ne (by omega), c3.2 _ _ (by omega)]; exact b4
    · rw [lu_ne (by omega), c3.2 _ _ (by omega)]; exact b5
  have hD : tt_D la_0 (fun _ => false) (lt_si wl 29 2 0) (lt_si wp 233 20 0) := by
    refine ⟨la_Ok_0, d2.out (by omega), (tm_plainT c2).outA (by omega), fun g hg => absurd hg (Nat.not_lt_zero _), lu_eq, lu_eq, ?_⟩
    rw [lu_ne (by omega)]; exact c2 8 (by decide)
  have e1 : f_X6_isTable σ 29 wb = fb_X6_isTable_16 σ 29 lt_fu 1 (nI 0) (lt_si wl 29 2 0) := by
    unfold f_X6_isTable fb_X6_isTable_0
    rw [(lr_now7 hσ).2.2.2, d1, lu_bind, lu_let, nI_0]
  have e2 : f_X12_table σ 233 (nI n) w0 = fb_X12_table_31 σ 233 lt_fu 1 (lt_si wp 233 20 0) := by
    unfold f_X12_table fb_X12_table_0
    rw [show f_X12_begins σ 233 (nI n) 900 w0 = _ from b1, lu_bind, if_neg lu_10]
    show Option.bind (f_X12_plain σ 233 1712 wbm) _ = _
    rw [show f_X12_plain σ 233 1712 wbm = _ from c1, lu_bind, lu_let]
  have fc : ∀ u, tx_Gc (lt_si wl 29 2 0) u → (∀ a k, ¬ (a = 10 ∧ 1 ≤ k ∧ k ≤ 10) → ¬ (29 ≤ a ∧ a ≤ 48) → lt_gi u a k = lt_gi w a k) ∧ (∀ a k, ¬ (a = 10 ∧ k = 6) → ¬ (29 ≤ a ∧ a ≤ 48) → lt_gl u a k = lt_gl w a k) ∧ lt_gi u 10 1 = 0 := fun u hu =>
    ⟨fun a k z y => by rw [hu.1 a k (by omega) y, lu_ne (by omega), d3 _ _ (by omega), a6 _ _ z], fun a k z y => by
      rw [hu.2 a k z y]; exact (d4 a k).trans (a7 a k z), by rw [hu.1 _ _ (by omega) (by omega), lu_ne (by omega), d3 _ _ (by omega)]; exact a3⟩
  have fm : ∀ u, tx_Gm (lt_si wp 233 20 0) u → (∀ a k, ¬ tx_gm a k → ¬ (a = 233 ∧ (k = 10 ∨ k = 11 ∨ k = 19)) → a ≠ 240 → lt_gi u a k = lt_gi w0 a k) ∧ (∀ a k, ¬ (a = 235 ∧ 28 ≤ k ∧ k < 35) → lt_gl u a k = lt_gl w0 a k) ∧ lt_gi u 233 10 = 0 := fun u hu =>
    ⟨fun a k z y x => by
      have z' := z
      unfold tx_gm at z'
      rw [hu.1 a k z, lu_ne (by omega), c3.2 _ _ (by omega), b6 _ _ (by omega) x], fun a k z => by
      rw [hu.2 a k z]; exact (c3.1 a k).trans (b7 a k), by rw [hu.1 _ _ (by unfold tx_gm; omega), lu_ne (by omega), c3.2 _ _ (by omega)]; exact b3⟩
  rcases tt_loop hσ n 0 0 la_0 (fun _ => false) _ _ lt_fu lt_fu (by omega) (Nat.le_refl _) hS hD (by unfold lt_fu; omega) (by unfold lt_fu; omega) with ⟨x, y, p1, p2, ⟨f, q1, q2, q3, q4⟩, q5, q6, q7⟩ | ⟨x, y, B, t, p', p1, p2, p3, p4⟩
  · obtain ⟨x1, x2, x3⟩ := fc x q6
    obtain ⟨y1, y2, y3⟩ := fm y q7
    exact ⟨wb, x, 0, a1, e1.trans p1, x1, x2, x3, y, e2.trans p2, y1, y2, y3, q5, Or.inl ⟨rfl, f, q1, q2, q3, q4⟩⟩
  · obtain ⟨x1, x2, x3⟩ := fc x p3.2.2.2.2.1
    obtain ⟨y1, y2, y3⟩ := fm y p3.2.2.2.2.2
    exact ⟨wb, x, 1, a1, e1.trans p1, x1, x2, x3, y, e2.trans p2, y1, y2, y3, by rw [p3.2.2.1.2, p3.2.2.2.1.2], Or.inr ⟨rfl, p3.2.2.1.1, p3.2.2.2.1.1, B, t, p4⟩⟩
end OT