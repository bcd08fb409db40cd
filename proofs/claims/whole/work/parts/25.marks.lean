/-! MARKS -/
section MK
variable {σ : lt_S}
def lw_S (σ : lt_S) (o : Nat) : Prop := (lt_c σ o = 9 ∧ lt_r σ o 2 = o + 1 ∧ lt_r σ o 3 = o + 2 ∧ lt_r σ o 4 = o + 3 ∧ lt_r σ o 5 = o + 4 ∧ lt_r σ o 6 = o + 5 ∧ lt_r σ o 7 = o + 6 ∧ lt_r σ o 8 = o + 7) ∧ lt_len σ (o + 1) = 30 ∧ lt_len σ (o + 2) = 30 ∧ lt_len σ (o + 3) = 30 ∧ lt_len σ (o + 4) = 30 ∧ lt_len σ (o + 5) = 30 ∧ lt_len σ (o + 6) = 30 ∧ lt_len σ (o + 7) = 30
theorem lr_wk (h : lr_S σ) {o : Nat} (ho : o ∈ lr_wks) : lw_S σ o := by
  have h1 : ∀ o ∈ lr_wks, o + 7 < 255 ∧ lr_cl.getD o 99 = 9 ∧ (∀ j, j < 7 → (lr_rf.getD o []).getD (2 + j) 0 = o + 1 + j) ∧ ∀ j, j < 7 → lr_ln.getD (o + 1 + j) 0 = 30 := by decide
  obtain ⟨a, b, c, d⟩ := h1 o ho
  have r : ∀ j, j < 7 → lt_r σ o (2 + j) = o + 1 + j := fun j hj => by rw [h.r o (2 + j) (by omega) (by omega)]; exact c j hj
  have l : ∀ j, j < 7 → lt_len σ (o + 1 + j) = 30 := fun j hj => by rw [h.l (o + 1 + j) (by omega)]; exact d j hj
  exact ⟨⟨(h.c o (by omega)).trans b, r 0 (by decide), r 1 (by decide), r 2 (by decide), r 3 (by decide), r 4 (by decide), r 5 (by decide), r 6 (by decide)⟩, l 0 (by decide), l 1 (by decide), l 2 (by decide), l 3 (by decide), l 4 (by decide), l 5 (by decide), l 6 (by decide)⟩
theorem lu_cc30 {α : Type} {x : Option α} : lt_cc 30 30 0 0 30 x = x := rfl
theorem lu_c30 : (30 : Int32).toNatClampNeg = 30 := rfl
theorem lu_bz {α : Type} {y : Int32} {x : Option α} (h : y = 0 ∨ y = 1) : lt_bz y x = x := by unfold lt_bz; rw [if_pos h]
theorem lw_copy {o x : Nat} {w : lt_W} (hS : lw_S σ o) (hX : lw_S σ x) (d : o + 8 ≤ x ∨ x + 8 ≤ o) (hw : lt_gi w x 0 = 0 ∨ lt_gi w x 0 = 1) : ∃ w', f_X9_copyFrom σ o x w = some w' ∧ (∀ k, k < 2 → lt_gi w' o k = lt_gi w x k) ∧ (∀ j g, 0 < j → j < 8 → g < 30 → lt_gi w' (o + j) g = lt_gi w (x + j) g) ∧ lu_Fg o (o + 8) w w' := by
  obtain ⟨⟨s0, s1, s2, s3, s4, s5, s6, s7⟩, l1, l2, l3, l4, l5, l6, l7⟩ := hS
  obtain ⟨⟨t0, t1, t2, t3, t4, t5, t6, t7⟩, m1, m2, m3, m4, m5, m6, m7⟩ := hX
  unfold f_X9_copyFrom fb_X9_copyFrom_0
  simp only [lu_bz hw, lu_let, s1, s2, s3, s4, s5, s6, s7, t1, t2, t3, t4, t5, t6, t7, l1, l2, l3, l4, l5, l6, l7, m1, m2, m3, m4, m5, m6, m7, lu_cc30, lm_c0, lu_c30]
  refine ⟨_, rfl, fun k hk => ?_, fun j g h2 h8 hg => ?_, fun a k z => ⟨?_, ?_⟩⟩
  · have : k = 0 ∨ k = 1 := by omega
    rcases this with rfl | rfl <;> simp (disch := omega) only [lu_eq, lu_ne, lu_ciO]
  · have : j = 1 ∨ j = 2 ∨ j = 3 ∨ j = 4 ∨ j = 5 ∨ j = 6 ∨ j = 7 := by omega
    rcases this with rfl | rfl | rfl | rfl | rfl | rfl | rfl <;> simp (disch := omega) only [lu_ne, lu_ciI, lu_ciO]
  · simp (disch := omega) only [lu_ne, lu_ciO]
  · simp only [lu_glci, lu_glsi]
/-- the reference's copy of a slot -/
theorem lm_copies (hσ : lr_S σ) {f t : Nat} (hf : f ≤ 3) (ht : t ≤ 3) (hft : f ≠ t) (w : lt_W) : ∃ w', f_X12_copies σ 233 (nI f) (nI t) w = some w' ∧ (∀ k, k < 428 → lt_gi w' 234 (428 * t + k) = lt_gi w 234 (428 * f + k)) ∧ (∀ k, k < 7 → lt_gl w' 235 (7 * t + k) = lt_gl w 235 (7 * f + k)) ∧ (∀ a k, (a ≠ 234 ∨ k < 428 * t ∨ 428 * t + 428 ≤ k) → lt_gi w' a k = lt_gi w a k) ∧ ∀ a k, (a ≠ 235 ∨ k < 7 * t ∨ 7 * t + 7 ≤ k) → lt_gl w' a k = lt_gl w a k := by
  unfold f_X12_copies fb_X12_copies_0
  have e428 : (428 : Int32) = nI 428 := rfl
  have e7 : (7 : Int32) = nI 7 := rfl
  refine lu_upR (fun g k u => fb_X12_copies_2 σ 233 g (nI f) (nI t) (nI k) u) 428 (fun k u => (∀ j, j < k → lt_gi u 234 (428 * t + j) = lt_gi w 234 (428 * f + j)) ∧ (∀ a j, (a ≠ 234 ∨ j < 428 * t ∨ 428 * t + 428 ≤ j) → lt_gi u a j = lt_gi w a j) ∧ ∀ a j, lt_gl u a j = lt_gl w a j) _ (fun g k u hk hI => ?_) (fun g u hI => ?_) lt_fu 0 w (by omega) (by unfold lt_fu; omega) ⟨fun j hj => by omega, fun _ _ _ => rfl, fun _ _ => rfl⟩
  · obtain ⟨x1, x2, x3⟩ := hI
    show ∃ b', fb_X12_copies_2 σ 233 (g + 1) _ _ (nI k) u = fb_X12_copies_2 σ 233 g _ _ (nI (k + 1)) b' ∧ _
    rw [fb_X12_copies_2, if_neg (show ¬ (428 : Int32) ≤ nI k from nI_ge (b := 428) hk (by decide)), lr_at hσ, lq_l234 hσ, e428, pk_mul, pk_mul, nI_add, nI_add, lu_ck (by omega) (by decide), lu_ck (by omega) (by decide), lu_let, nI_clamp (by omega), nI_clamp (by omega), nI_1]
    refine ⟨_, rfl, fun j hj => ?_, fun a j z => ?_, x3⟩
    · rw [lu_gisi]
      by_cases e : j = k
      · rw [if_pos ⟨rfl, by omega⟩, e]; exact x2 _ _ (by omega)
      · rw [if_neg (by omega)]; exact x1 j (by omega)
    · rw [lu_ne (by omega)]; exact x2 a j z
  · obtain ⟨x1, x2, x3⟩ := hI
    show ∃ r, fb_X12_copies_2 σ 233 (g + 1) _ _ _ u = _ ∧ _
    rw [fb_X12_copies_2, if_pos (show (428 : Int32) ≤ nI 428 from nI_le (a := 428) (by decide) (by decide))]
    refine lu_upR (fun g k v => fb_X12_copies_41 σ 233 g (nI f) (nI t) (nI k) v) 7 (fun k v => (∀ j, j < k → lt_gl v 235 (7 * t + j) = lt_gl w 235 (7 * f + j)) ∧ (∀ a j, lt_gi v a j = lt_gi u a j) ∧ ∀ a j, (a ≠ 235 ∨ j < 7 * t ∨ 7 * t + 7 ≤ j) → lt_gl v a j = lt_gl w a j) _ (fun g k v hk hJ => ?_) (fun g v hJ => ?_) lt_fu 0 u (by omega) (by unfold lt_fu; omega) ⟨fun j hj => by omega, fun _ _ => rfl, fun a j _ => x3 a j⟩
    · obtain ⟨y1, y2, y3⟩ := hJ
      show ∃ b', fb_X12_copies_41 σ 233 (g + 1) _ _ (nI k) v = fb_X12_copies_41 σ 233 g _ _ (nI (k + 1)) b' ∧ _
      rw [fb_X12_copies_41, if_neg (show ¬ (7 : Int32) ≤ nI k from nI_ge (b := 7) hk (by decide)), lq_r233_1 hσ, lq_l235 hσ, e7, pk_mul, pk_mul, nI_add, nI_add, lu_ck (by omega) (by decide), lu_ck (by omega) (by decide), lu_let, nI_clamp (by omega), nI_clamp (by omega), nI_1]
      refine ⟨_, rfl, fun j hj => ?_, y2, fun a j z => ?_⟩
      · rw [lu_glsl]
        by_cases e : j = k
        · rw [if_pos ⟨rfl, by omega⟩, e]; exact y3 _ _ (by omega)
        · rw [if_neg (by omega)]; exact y1 j (by omega)
      · rw [lu_glsl, if_neg (by omega)]; exact y3 a j z
    · obtain ⟨y1, y2, y3⟩ := hJ
      show ∃ r, fb_X12_copies_41 σ 233 (g + 1) _ _ _ v = _ ∧ _
      rw [fb_X12_copies_41, if_pos (show (7 : Int32) ≤ nI 7 from nI_le (a := 7) (by decide) (by decide))]
      exact ⟨v, rfl, fun k hk => (y2 _ _).trans (x1 k hk), y1, fun a k z => (y2 _ _).trans (x2 a k z), y3⟩
theorem lr_bit {w : lt_W} {p b n : Nat} (h : lw_W w p b n) : lt_gi w p 0 = 0 ∨ lt_gi w p 0 = 1 := by
  rcases h with ⟨a, -⟩ | ⟨a, -⟩
  · exact Or.inl a
  · exact Or.inr a
theorem lr_mkS (hσ : lr_S σ) {c : Nat} (hc : c < 3) : lt_r σ 180 c = 182 + 17 * c ∧ lt_r σ 181 c = 191 + 17 * c ∧ lc_S σ (182 + 17 * c) ∧ lw_S σ (191 + 17 * c) := by
  have : c = 0 ∨ c = 1 ∨ c = 2 := by omega
  rcases this with rfl | rfl | rfl
  · exact ⟨(hσ.r 180 0 (by decide) (by decide)), (hσ.r 181 0 (by decide) (by decide)), lr_tab hσ (by decide), lr_wk hσ (by decide)⟩
  · exact ⟨(hσ.r 180 1 (by decide) (by decide)), (hσ.r 181 1 (by decide) (by decide)), lr_tab hσ (by decide), lr_wk hσ (by decide)⟩
  · exact ⟨(hσ.r 180 2 (by decide) (by decide)), (hσ.r 181 2 (by decide) (by decide)), lr_tab hσ (by decide), lr_wk hσ (by decide)⟩
theorem op_mark (hσ : lr_S σ) {w : lt_W} {A : la_A} (h : lr_0 w A) : lr_ok (f_X11_mark σ 0) (f_X12_mark σ 233) w := by
  obtain ⟨c, c3, e1, e2, e3⟩ := h.1.2.2.2.2.2.2.1
  by_cases hc : c < 3
  · obtain ⟨r1, r2, sT, sW⟩ := lr_mkS hσ hc
    obtain ⟨w1, a1, a2, a3, a4, a5⟩ := lc_copy (w := w) sT (lr_nowS hσ) (by omega)
    have hbit : lt_gi w1 21 0 = 0 ∨ lt_gi w1 21 0 = 1 := by
      rw [(a5 21 0 (by omega)).1]; exact lr_bit h.1.2.2.2.2.2.1
    obtain ⟨w2, b1, b2, b3, b4⟩ := lw_copy (w := w1) sW (lr_wk hσ (o := 21) (by decide)) (by omega) hbit
    have F : lu_Fg 182 233 w w2 := (a5.wide (by omega) (by omega)).trans (b4.wide (by omega) (by omega))
    have e1' : lt_gi w1 0 18 = nI c := by rw [(a5 0 18 (by omega)).1]; exact e1
    have e1'' : lt_gi w2 0 18 = nI c := by rw [(b4 0 18 (by omega)).1]; exact e1'
    let wc := lt_si (lt_si w2 0 18 (nI (c + 1))) 0 0 0
    have m2 : lt_gi wc 233 40 = nI c := by
      show lt_gi (lt_si (lt_si w2 0 18 (nI (c + 1))) 0 0 0) 233 40 = _
      rw [lu_ne (Or.inl (by decide)), lu_ne (Or.inl (by decide)), (F 233 40 (by omega)).1]; exact e2
    obtain ⟨w3, d1, d2, d3, d4, d5⟩ := lm_copies hσ (f := 0) (t := c + 1) (by omega) (by omega) (by omega) (lt_si wc 233 40 (nI (c + 1)))
    have G : ∀ a k, ¬ (a = 0 ∧ (k = 0 ∨ k = 18)) → ¬ (a = 233 ∧ (k = 2 ∨ k = 40)) → (a < 182 + 17 * c ∨ 199 + 17 * c ≤ a) → (a ≠ 234 ∨ k < 428 * (c + 1) ∨ 428 * (c + 1) + 428 ≤ k) → lt_gi (lt_si w3 233 2 0) a k = lt_gi w a k := by
      intro a k z1 z2 z3 z4
      rw [lu_ne (by omega), d4 a k z4, lu_ne (by omega)]
      show lt_gi (lt_si (lt_si w2 0 18 (nI (c + 1))) 0 0 0) a k = _
      rw [lu_ne (by omega), lu_ne (by omega), (b4 a k (by omega)).1, (a5 a k (by omega)).1]
    have GL : ∀ a k, (a < 182 + 17 * c ∨ 199 + 17 * c ≤ a) → (a ≠ 235 ∨ k < 7 * (c + 1) ∨ 7 * (c + 1) + 7 ≤ k) → lt_gl (lt_si w3 233 2 0) a k = lt_gl w a k := by
      intro a k z3 z4
      rw [lu_glsi, d5 a k z4, lu_glsi]
      show lt_gl (lt_si (lt_si w2 0 18 (nI (c + 1))) 0 0 0) a k = _
      rw [lu_glsi, lu_glsi, (b4 a k (by omega)).2, (a5 a k (by omega)).2]
    have inC : ∀ a k, 182 + 17 * c ≤ a → a < 199 + 17 * c → lt_gi (lt_si w3 233 2 0) a k = lt_gi w2 a k ∧ lt_gl (lt_si w3 233 2 0) a k = lt_gl w2 a k := by
      intro a k z1 z2
      rw [lu_ne (by omega), d4 a k (by omega), lu_ne (by omega), lu_glsi, d5 a k (by omega)]
      exact ⟨by show lt_gi (lt_si (lt_si w2 0 18 (nI (c + 1))) 0 0 0) a k = _
                rw [lu_ne (by omega), lu_ne (by omega)], rfl⟩
    refine ⟨nI (c + 1), wc, lt_si w3 233 2 0, ?_, ?_, ?_, A, ⟨h.1.1.c fun a k z => G a k (by omega) (by omega) (by omega) (by omega), h.1.2.1.c (fun a k z => G a k (by omega) (by omega) (by omega) (by omega)) (fun a k z => GL a k (by omega) (by omega)), h.1.2.2.1.c (fun a k z => G a k (by omega) (by omega) (by omega) (by omega)), h.1.2.2.2.1.c (fun a k z => G a k (by omega) (by omega) (by omega) (by omega)), h.1.2.2.2.2.1.c h.n7 (fun a k z => GL a k (by omega) (by omega)), h.1.2.2.2.2.2.1.c (fun a k z => G a k (by omega) (by omega) (by omega) (by omega)), ⟨c + 1, by omega, ?_, ?_, fun j hj => ?_⟩, h.1.2.2.2.2.2.2.2.1.c (fun a k z => G a k (by omega) (by omega) (by omega) (by omega)), h.1.2.2.2.2.2.2.2.2.c (fun k => G _ k (by omega) (by omega) (by omega) (by omega))⟩, h.2.c (fun a k z => GL a k (by omega) (by omega))⟩
    · unfold f_X11_mark fb_X11_mark_0
      rw [e1, if_pos (show nI c < (3 : Int32) from nI_lt (b := 3) hc (by decide)), lq_r0_16 hσ, lq_l180 hσ, lu_ck hc (by decide), nI_clamp (by omega), r1, lq_r0_5 hσ, a1, lu_bind, e1', lq_r0_17 hσ, lq_l181 hσ, lu_ck hc (by decide), nI_clamp (by omega), r2, lq_r0_6 hσ, b1, lu_bind, lu_let, e1'', nI_1, lu_eq]; rfl
    · unfold f_X12_mark fb_X12_mark_0
      rw [m2, if_neg (show ¬ nI c = (3 : Int32) from fun z => by have := (nI_eq (b := 3) (by omega) (by decide)).mp z; omega), lu_let, nI_1, lu_eq]
      have d1' : f_X12_copies σ 233 0 (nI (c + 1)) (lt_si wc 233 40 (nI (c + 1))) = some w3 := d1
      rw [d1', lu_bind, d4 233 40 (by omega), lu_eq]; rfl
    · rw [lu_eq, lu_ne (Or.inl (by decide)), d4 _ _ (by omega), lu_ne (Or.inl (by decide))]; exact lu_eq.symm ▸ rfl
    · rw [lu_ne (Or.inl (by decide)), d4 _ _ (by omega), lu_ne (Or.inl (by decide))]
      show lt_gi (lt_si (lt_si w2 0 18 (nI (c + 1))) 0 0 0) 0 18 = _
      rw [lu_ne (Or.inr (by decide)), lu_eq]
    · rw [lu_ne (Or.inr (by decide)), d4 _ _ (by omega), lu_eq]
    · by_cases ej : j = c
      · subst ej
        have hs : lr_sl w 12 21 0 0 A := ⟨h.1.1.1, h.1.1.2.1, h.1.1.2.2, h.1.2.2.2.2.1, h.1.2.2.2.2.2.1⟩
        refine ⟨A, hs.move (fun k hk => ?_) (fun i g z1 z2 z3 => ?_) (fun k hk => ?_) (fun g hg => ?_) (fun g hg => ?_) (fun k hk => ?_) (fun i k z1 z2 z3 => ?_)⟩
        · rw [(inC _ _ (by omega) (by omega)).1, (b4 _ _ (by omega)).1]; exact a2 k hk
        · rw [(inC _ _ (by omega) (by omega)).1, (b4 _ _ (by omega)).1]; exact a3 i g z1 z2 z3
        · rw [lu_ne (Or.inl (by decide))]
          have := d2 k (by omega)
          rw [show 428 + 428 * j + k = 428 * (j + 1) + k from by omega, this, lu_ne (Or.inl (by decide)), show 428 * 0 + k = 0 + k from by omega]
          show lt_gi (lt_si (lt_si w2 0 18 (nI (j + 1))) 0 0 0) _ _ = _
          rw [lu_ne (Or.inl (by decide)), lu_ne (Or.inl (by decide)), (F _ _ (by omega)).1]
        · rw [(inC _ _ (by omega) (by omega)).2, (b4 _ _ (by omega)).2]; exact a4 g hg
        · have := d3 g hg
          rw [lu_glsi, show 7 + 7 * j + g = 7 * (j + 1) + g from by omega, this, lu_glsi, show 7 * 0 + g = 0 + g from by omega]
          show lt_gl (lt_si (lt_si w2 0 18 (nI (j + 1))) 0 0 0) _ _ = _
          rw [lu_glsi, lu_glsi, (F _ _ (by omega)).2]
        · rw [(inC _ _ (by omega) (by omega)).1, b2 k hk, (a5 _ _ (by omega)).1]
        · rw [(inC _ _ (by omega) (by omega)).1, b3 i k z1 z2 z3, (a5 _ _ (by omega)).1]
      · obtain ⟨B, hB⟩ := e3 j (by omega)
        exact ⟨B, hB.congr (fun k _ => G _ _ (by omega) (by omega) (by omega) (by omega)) (G _ _ (by omega) (by omega) (by omega) (by omega)) (fun i g _ _ _ => G _ _ (by omega) (by omega) (by omega) (by omega)) (fun k _ => G _ _ (by omega) (by omega) (by omega) (by omega)) (fun g _ => GL _ _ (by omega) (by omega)) (fun g _ => GL _ _ (by omega) (by omega)) (fun i k _ => G _ _ (by omega) (by omega) (by omega) (by omega))⟩
  · obtain rfl : c = 3 := by omega
    refine op_refuse2 h (r := -1) (st := 4) ?_ (fun w1 h1 hQ => ?_)
    · unfold f_X11_mark fb_X11_mark_0
      rw [e1, if_neg (show ¬ nI 3 < (3 : Int32) from by decide)]; rfl
    · unfold f_X12_mark fb_X12_mark_0
      rw [hQ.1.1 233 40 (by unfold lr_px; omega), e2, if_pos (show nI 3 = (3 : Int32) from rfl)]; rfl
theorem op_undo (hσ : lr_S σ) {w : lt_W} {A : la_A} (h : lr_0 w A) : lr_ok (f_X11_undo σ 0) (f_X12_undo σ 233) w := by
  obtain ⟨c, c3, e1, e2, e3⟩ := h.1.2.2.2.2.2.2.1
  by_cases hc : 0 < c
  · obtain ⟨c, rfl⟩ : ∃ d, c = d + 1 := ⟨c - 1, by omega⟩
    obtain ⟨r1, r2, sT, sW⟩ := lr_mkS hσ (c := c) (by omega)
    obtain ⟨B, hB⟩ := e3 c (by omega)
    let w0 := lt_si w 0 18 (nI c)
    have z0 : ∀ a k, ¬ (a = 0 ∧ k = 18) → lt_gi w0 a k = lt_gi w a k := fun a k z => lu_ne (by omega)
    obtain ⟨w1, a1, a2, a3, a4, a5⟩ := lc_copy (w := w0) (lr_nowS hσ) sT (by omega)
    have hbit : lt_gi w1 (191 + 17 * c) 0 = 0 ∨ lt_gi w1 (191 + 17 * c) 0 = 1 := by
      rw [(a5 _ 0 (by omega)).1, z0 _ _ (by omega)]; exact lr_bit hB.2.2.2.2
    obtain ⟨w2, b1, b2, b3, b4⟩ := lw_copy (w := w1) (lr_wk hσ (o := 21) (by decide)) sW (by omega) hbit
    have F : lu_Fg 12 29 w0 w2 := (a5.wide (by omega) (by omega)).trans (b4.wide (by omega) (by omega))
    have k0 : lt_gi w0 0 18 = nI c := lu_eq
    have k1 : lt_gi w1 0 18 = nI c := by rw [(a5 0 18 (by omega)).1]; exact k0
    have k2 : lt_gi w2 0 18 = nI c := by rw [(b4 0 18 (by omega)).1]; exact k1
    let wc := lt_si w2 0 0 0
    have cI : ∀ a k, ¬ (a = 0 ∧ (k = 0 ∨ k = 18)) → (a < 12 ∨ 29 ≤ a) → lt_gi wc a k = lt_gi w a k := fun a k z1 z2 => by
      show lt_gi (lt_si w2 0 0 0) a k = _
      rw [lu_ne (by omega), (F a k z2).1, z0 a k (by omega)]
    have cL : ∀ a k, (a < 12 ∨ 29 ≤ a) → lt_gl wc a k = lt_gl w a k := fun a k z2 => by
      show lt_gl (lt_si w2 0 0 0) a k = _
      rw [lu_glsi, (F a k z2).2]; rfl
    have m2 : lt_gi wc 233 40 = nI (c + 1) := by rw [cI _ _ (by omega) (by omega)]; exact e2
    obtain ⟨w3, d1, d2, d3, d4, d5⟩ := lm_copies hσ (f := c + 1) (t := 0) (by omega) (by omega) (by omega) wc
    have m3 : lt_gi w3 233 40 = nI (c + 1) := by rw [d4 _ _ (by omega)]; exact m2
    have G : ∀ a k, ¬ (a = 0 ∧ (k = 0 ∨ k = 18)) → ¬ (a = 233 ∧ (k = 2 ∨ k = 40)) → (a < 12 ∨ 29 ≤ a) → (a ≠ 234 ∨ 428 ≤ k) → lt_gi (lt_si (lt_si w3 233 40 (nI c)) 233 2 0) a k = lt_gi w a k := by
      intro a k z1 z2 z3 z4
      rw [lu_ne (by omega), lu_ne (by omega), d4 a k (by omega), cI a k z1 z3]
    have GL : ∀ a k, (a < 12 ∨ 29 ≤ a) → (a ≠ 235 ∨ 7 ≤ k) → lt_gl (lt_si (lt_si w3 233 40 (nI c)) 233 2 0) a k = lt_gl w a k := by
      intro a k z3 z4
      rw [lu_glsi, lu_glsi, d5 a k (by omega), cL a k z3]
    have inC : ∀ a k, 12 ≤ a → a < 29 → lt_gi (lt_si (lt_si w3 233 40 (nI c)) 233 2 0) a k = lt_gi w2 a k ∧ lt_gl (lt_si (lt_si w3 233 40 (nI c)) 233 2 0) a k = lt_gl w2 a k := by
      intro a k z1 z2
      rw [lu_ne (by omega), lu_ne (by omega), d4 a k (by omega), lu_glsi, lu_glsi, d5 a k (by omega)]
      exact ⟨by show lt_gi (lt_si w2 0 0 0) a k = _
                rw [lu_ne (by omega)], rfl⟩
    have new : lr_sl (lt_si (lt_si w3 233 40 (nI c)) 233 2 0) 12 21 0 0 B := by
      refine hB.move (fun k hk => ?_) (fun i g z1 z2 z3 => ?_) (fun k hk => ?_) (fun g hg => ?_) (fun g hg => ?_) (fun k hk => ?_) (fun i k z1 z2 z3 => ?_)
      · rw [(inC _ _ (by omega) (by omega)).1, (b4 _ _ (by omega)).1, a2 k hk, z0 _ _ (by omega)]
      · rw [(inC _ _ (by omega) (by omega)).1, (b4 _ _ (by omega)).1, a3 i g z1 z2 z3, z0 _ _ (by omega)]
      · rw [lu_ne (Or.inl (by decide)), lu_ne (Or.inl (by decide))]
        have := d2 k (by omega)
        rw [show 0 + k = 428 * 0 + k from by omega, this, cI _ _ (by omega) (by omega)]
        congr 1; omega
      · rw [(inC _ _ (by omega) (by omega)).2, (b4 _ _ (by omega)).2, a4 g hg]; rfl
      · have := d3 g hg
        rw [lu_glsi, lu_glsi, show 0 + g = 7 * 0 + g from by omega, this, cL _ _ (by omega)]
        congr 1; omega
      · rw [(inC _ _ (by omega) (by omega)).1, b2 k hk, (a5 _ _ (by omega)).1, z0 _ _ (by omega)]
      · rw [(inC _ _ (by omega) (by omega)).1, b3 i k z1 z2 z3, (a5 _ _ (by omega)).1, z0 _ _ (by omega)]
    refine ⟨nI c, wc, lt_si (lt_si w3 233 40 (nI c)) 233 2 0, ?_, ?_, ?_, B, ⟨⟨new.1, new.2.1, new.2.2.1⟩, h.1.2.1.c (fun a k z => G a k (by omega) (by omega) (by omega) (by omega)) (fun a k z => GL a k (by omega) (by omega)), h.1.2.2.1.c (fun a k z => G a k (by omega) (by omega) (by omega) (by omega)), h.1.2.2.2.1.c (fun a k z => G a k (by omega) (by omega) (by omega) (by omega)), new.2.2.2.1, new.2.2.2.2, ⟨c, by omega, ?_, ?_, fun j hj => ?_⟩, h.1.2.2.2.2.2.2.2.1.c (fun a k z => G a k (by omega) (by omega) (by omega) (by omega)), h.1.2.2.2.2.2.2.2.2.c (fun k => G _ k (by omega) (by omega) (by omega) (by omega))⟩, h.2.c (fun a k z => GL a k (by omega) (by omega))⟩
    · unfold f_X11_undo fb_X11_undo_0
      rw [e1, if_pos (show (0 : Int32) < nI (c + 1) from nI_lt (a := 0) (by omega) (by omega)), nI_pred, lu_let, lu_eq, lq_r0_16 hσ, lq_l180 hσ, lu_ck (by omega) (by decide), nI_clamp (by omega), r1, lq_r0_5 hσ, a1, lu_bind, k1, lq_r0_17 hσ, lq_l181 hσ, lu_ck (by omega) (by decide), nI_clamp (by omega), r2, lq_r0_6 hσ, b1, lu_bind, k2]; rfl
    · unfold f_X12_undo fb_X12_undo_0
      have d1' : f_X12_copies σ 233 (nI (c + 1)) 0 wc = some w3 := d1
      rw [m2, if_neg (nI_ne0 (by omega) (by omega)), d1', lu_bind, lu_let, m3, nI_pred, lu_eq]; rfl
    · rw [lu_eq, lu_ne (Or.inl (by decide)), lu_ne (Or.inl (by decide)), d4 _ _ (by omega)]; exact lu_eq
    · rw [lu_ne (Or.inl (by decide)), lu_ne (Or.inl (by decide)), d4 _ _ (by omega)]
      show lt_gi (lt_si w2 0 0 0) 0 18 = _
      rw [lu_ne (Or.inr (by decide))]; exact k2
    · rw [lu_ne (Or.inr (by decide)), lu_eq]
    · obtain ⟨C, hC⟩ := e3 j (by omega)
      exact ⟨C, hC.congr (fun k _ => G _ _ (by omega) (by omega) (by omega) (by omega)) (G _ _ (by omega) (by omega) (by omega) (by omega)) (fun i g _ _ _ => G _ _ (by omega) (by omega) (by omega) (by omega)) (fun k _ => G _ _ (by omega) (by omega) (by omega) (by omega)) (fun g _ => GL _ _ (by omega) (by omega)) (fun g _ => GL _ _ (by omega) (by omega)) (fun i k _ => G _ _ (by omega) (by omega) (by omega) (by omega))⟩
  · obtain rfl : c = 0 := by omega
    refine op_refuse2 h (r := -1) (st := 6) ?_ (fun w1 h1 hQ => ?_)
    · unfold f_X11_undo fb_X11_undo_0
      rw [e1, if_neg (show ¬ (0 : Int32) < nI 0 from by decide)]; rfl
    · unfold f_X12_undo fb_X12_undo_0
      rw [hQ.1.1 233 40 (by unfold lr_px; omega), e2, if_pos (show nI 0 = (0 : Int32) from rfl)]; rfl
end MK