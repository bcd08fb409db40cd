/-! THE CALL table, both sides -/
section OU
variable {σ : lt_S}
theorem lq_b0 {x : Int32} {m : Nat} (hm : m < 2 ^ 31) (h : lq_b x 0 m) : ∃ n, n ≤ m ∧ x = nI n := by
  obtain ⟨n, -, h2, h3⟩ := h.R (by decide) hm
  exact ⟨n, h2, h3⟩
theorem tm_begNo {u : lt_W} {x q : Int32} {m : Nat} (h1 : lt_gi u 233 10 = nI m) (hx : ¬ lq_b x 0 m ∨ ¬ x ≤ q) : f_X12_begins σ 233 x q u = some (0, u) := by
  unfold f_X12_begins fb_X12_begins_0
  by_cases c : x < 0
  · rw [if_pos c]
  · rw [if_neg c, h1]
    by_cases c2 : nI m < x
    · rw [if_pos c2]
    · rw [if_neg c2]
      rcases hx with hx | hx
      · exact absurd ⟨Int32.not_lt.mp c, Int32.not_lt.mp c2⟩ hx
      · rw [if_neg hx]
theorem op_table (hσ : lr_S σ) {w : lt_W} {A : la_A} (h : lr_0 w A) (x : Int32) : lr_ok (f_X11_table σ 0 x) (f_X12_table σ 233 x) w := by
  obtain ⟨i7, i4, i6, i1⟩ := lr_now7 hσ
  have i5 := lr_now hσ
  have h' := h
  obtain ⟨⟨hTB, y1, ⟨m, hm, t1, t2, hT⟩, y3, y4, y5, y6, y7, y8⟩, y9⟩ := h
  by_cases c : lq_b x 0 m
  · obtain ⟨n, hn, rfl⟩ := lq_b0 (by omega) c
    obtain ⟨wb, wc, r, a1, a2, a3, a4, a5, -⟩ := tt_run hσ (w0 := w) h' hm hn t1 t2 hT t2 (fun _ => rfl)
    have eC : f_X11_table σ 0 (nI n) w = if r = 0 then some (-1, lt_si wc 0 0 9) else Option.bind (f_X5_copyFrom σ 12 30 wc) (fun q10 => some (lt_gi q10 12 0, lt_si (lt_si (lt_si q10 21 0 0) 21 1 0) 0 0 0)) := by
      unfold f_X11_table fb_X11_table_0
      rw [i4, t1, lq_within_y (lo := 0) (hi := nI m) 0 m rfl rfl c, lu_bind, if_neg lu_10, a1, lu_bind, i7, a2, lu_bind, i5, i6, i1]
      rfl
    have second : ∀ w1 : lt_W, lt_gi w1 233 10 = nI m → (∀ k, lt_gi w1 239 k = lt_gi w 239 k) → ∃ wm, f_X12_table σ 233 (nI n) w1 = fb_X12_table_50 σ 233 wm ∧ (∀ a k, ¬ tx_gm a k → ¬ (a = 233 ∧ (k = 10 ∨ k = 11 ∨ k = 19)) → a ≠ 240 → lt_gi wm a k = lt_gi w1 a k) ∧ (∀ a k, ¬ (a = 235 ∧ 28 ≤ k ∧ k < 35) → lt_gl wm a k = lt_gl w1 a k) ∧ lt_gi wm 233 10 = 0 ∧ lt_gi wc 10 10 = lt_gi wm 233 17 ∧ ((r = 0 ∧ ∃ f, 1 ≤ f ∧ f ≤ 7 ∧ lt_gi wc 10 9 = nI f ∧ lt_gi wm 233 18 = nI f) ∨ (r = 1 ∧ lt_gi wc 10 9 = 0 ∧ lt_gi wm 233 18 = 0 ∧ ∃ B t, tt_D B t wc wm)) := fun w1 g1 g2 => by
      obtain ⟨wb', wc', r', b1, b2, -, -, -, wm, b3⟩ := tt_run hσ (w0 := w1) h' hm hn t1 t2 hT g1 g2
      rw [a1] at b1
      obtain rfl := Option.some.inj b1
      rw [a2] at b2
      have e := Option.some.inj b2
      have e1 : r = r' := congrArg Prod.fst e
      have e2 : wc = wc' := congrArg Prod.snd e
      subst e1 e2
      exact ⟨wm, b3⟩
    by_cases hr : r = 0
    · rw [if_pos hr] at eC
      obtain ⟨wm, b1, b2, b3, b4, b5, b6⟩ := second (lt_si wc 0 0 9) (by rw [lu_ne (by omega), a3 _ _ (by omega) (by omega)]; exact t2) (fun k => by rw [lu_ne (by omega), a3 _ _ (by omega) (by omega)])
      rcases b6 with ⟨-, f, f1, f7, f2, f3⟩ | ⟨b6, -⟩
      · have eM : f_X12_table σ 233 (nI n) (lt_si wc 0 0 9) = some (-1, lt_si (lt_si wm 233 16 (nI f)) 233 2 9) := by
          rw [b1]
          unfold fb_X12_table_50
          have n0 : ¬ nI f = 0 := nI_ne0 (by omega) (by omega)
          rw [f3, if_neg n0, tm_117 hσ, f3, if_neg (show ¬ nI f ≤ 0 from nI_nle (by omega) (by omega))]
        have g1 : ∀ a k, ¬ tx_gm a k → ¬ (a = 233 ∧ (k = 10 ∨ k = 11 ∨ k = 19 ∨ k = 16 ∨ k = 2)) → a ≠ 240 → ¬ (a = 0 ∧ k = 0) → ¬ (a = 10 ∧ 1 ≤ k ∧ k ≤ 10) → ¬ (29 ≤ a ∧ a ≤ 48) → lt_gi (lt_si (lt_si wm 233 16 (nI f)) 233 2 9) a k = lt_gi w a k := fun a k z1 z2 z3 z4 z5 z6 => by
          rw [lu_ne (by omega), lu_ne (by omega), b2 a k z1 (by omega) z3, lu_ne (by omega), a3 a k z5 z6]
        have g2 : ∀ a k, ¬ (a = 235 ∧ 28 ≤ k ∧ k < 35) → ¬ (a = 10 ∧ k = 6) → ¬ (29 ≤ a ∧ a ≤ 48) → lt_gl (lt_si (lt_si wm 233 16 (nI f)) 233 2 9) a k = lt_gl w a k := fun a k z1 z2 z3 => (b3 a k z1).trans (a4 a k z2 z3)
        refine ⟨-1, _, _, eC, eM, lr_txt h' (fun a k z => g1 a k (by unfold tx_gm; omega) (by omega) (by omega) (by omega) (by omega) (by omega)) (fun a k z => g2 a k (by omega) (by omega) (by omega)) ?_ ?_ ?_ ?_ ?_ (hTB.c fun a k z => g1 a k (by unfold tx_gm; omega) (by omega) (by omega) (by omega) (by omega) (by omega)) (y4.c hTB.1.2.1 fun a k z => g2 a k (by omega) (by omega) (by omega)) (y5.c fun a k z => g1 a k (by unfold tx_gm; omega) (by omega) (by omega) (by omega) (by omega) (by omega))⟩
        · rw [lu_ne (by omega), lu_ne (by omega), b2 _ _ (by unfold tx_gm; omega) (by omega) (by omega), lu_ne (by omega)]; exact a5
        · rw [lu_ne (by omega), lu_ne (by omega)]; exact b4
        · rw [lu_ne (by omega), lu_ne (by omega), b2 _ _ (by unfold tx_gm; omega) (by omega) (by omega), lu_ne (by omega), lu_ne (by omega), lu_eq]; exact f2
        · rw [lu_ne (by omega), lu_ne (by omega), b2 _ _ (by unfold tx_gm; omega) (by omega) (by omega), lu_ne (by omega), lu_ne (by omega), lu_ne (by omega)]; exact b5
        · rw [lu_ne (by omega), lu_ne (by omega), b2 _ _ (by unfold tx_gm; omega) (by omega) (by omega), lu_eq, lu_eq]
      · rw [hr] at b6; exact absurd b6 (by decide)
    · rw [if_neg hr] at eC
      obtain ⟨wq, p1, p2, p3, p4, p5⟩ := lc_copy (w := wc) (lr_nowS hσ) (lr_tab hσ (o := 30) (by decide)) (by omega)
      rw [p1, lu_bind] at eC
      have q1 : ∀ a k, ¬ (12 ≤ a ∧ a < 21) → ¬ (a = 21 ∧ k < 2) → ¬ (a = 0 ∧ k = 0) → lt_gi (lt_si (lt_si (lt_si wq 21 0 0) 21 1 0) 0 0 0) a k = lt_gi wc a k := fun a k z1 z2 z3 => by
        rw [lu_ne (by omega), lu_ne (by omega), lu_ne (by omega), (p5 a k (by omega)).1]
      obtain ⟨wm, b1, b2, b3, b4, b5, b6⟩ := second (lt_si (lt_si (lt_si wq 21 0 0) 21 1 0) 0 0 0) (by rw [q1 _ _ (by omega) (by omega) (by omega), a3 _ _ (by omega) (by omega)]; exact t2) (fun k => by rw [q1 _ _ (by omega) (by omega) (by omega), a3 _ _ (by omega) (by omega)])
      rcases b6 with ⟨b6, -⟩ | ⟨-, f2, f3, B, t, hO, hc, hmT, hN, hB⟩
      · exact absurd b6 hr
      · obtain ⟨wz, z1, z2, z3, z4, z5⟩ := tm_59 hσ wm
        have z18 : lt_gi wz 233 18 = 0 := (z4 _ _ (by omega)).trans f3
        have eM : f_X12_table σ 233 (nI n) (lt_si (lt_si (lt_si wq 21 0 0) 21 1 0) 0 0 0) = some (lt_gi wz 234 0, lt_si (lt_si wz 233 16 0) 233 2 0) := by
          rw [b1]
          unfold fb_X12_table_50
          rw [f3, if_pos rfl, z1, tm_117 hσ, z18, if_pos (show (0 : Int32) ≤ 0 by decide)]
        have er : lt_gi wq 12 0 = lt_gi wz 234 0 := by
          rw [p2 0 (by decide), z2 0 (by decide), hc.2.2.1 0 (by decide)]
          exact (hmT.2.2.1 0 (by decide)).symm
        rw [er] at eC
        have g1 : ∀ a k, ¬ tx_gm a k → ¬ (a = 233 ∧ (k = 10 ∨ k = 11 ∨ k = 19 ∨ k = 16 ∨ k = 2)) → a ≠ 240 → ¬ (a = 0 ∧ k = 0) → ¬ (a = 10 ∧ 1 ≤ k ∧ k ≤ 10) → ¬ (29 ≤ a ∧ a ≤ 48) → ¬ (12 ≤ a ∧ a < 21) → ¬ (a = 21 ∧ k < 2) → ¬ (a = 234 ∧ k < 428) → lt_gi (lt_si (lt_si wz 233 16 0) 233 2 0) a k = lt_gi w a k := fun a k y1 y2 y3 y4 y5 y6 y7 y8 y9 => by
          rw [lu_ne (by omega), lu_ne (by omega), z4 a k (by omega), b2 a k y1 (by omega) y3, q1 a k y7 y8 y4, a3 a k y5 y6]
        have g2 : ∀ a k, ¬ (a = 235 ∧ 28 ≤ k ∧ k < 35) → ¬ (a = 10 ∧ k = 6) → ¬ (29 ≤ a ∧ a ≤ 48) → ¬ (12 ≤ a ∧ a < 21) → ¬ (a = 235 ∧ k < 7) → lt_gl (lt_si (lt_si wz 233 16 0) 233 2 0) a k = lt_gl w a k := fun a k y1 y2 y3 y4 y5 => by
          show lt_gl wz a k = _
          rw [z5 a k (by omega), b3 a k y1]
          show lt_gl wq a k = _
          rw [(p5 a k (by omega)).2, a4 a k y2 y3]
        have g3 : ∀ a k, ¬ tx_gm a k → a ≠ 233 → a ≠ 240 → a ≠ 234 → lt_gi (lt_si (lt_si wz 233 16 0) 233 2 0) a k = lt_gi (lt_si (lt_si (lt_si wq 21 0 0) 21 1 0) 0 0 0) a k := fun a k y1 y2 y3 y4 => by
          rw [lu_ne (by omega), lu_ne (by omega), z4 a k (by omega), b2 a k y1 (by omega) y3]
        have hT12 : lc_T (lt_si (lt_si wz 233 16 0) 233 2 0) 12 B := (hc.move p2 p3).congr fun a k k1 k2 => by
          rw [g3 a k (by unfold tx_gm; omega) (by omega) (by omega) (by omega), lu_ne (by omega), lu_ne (by omega), lu_ne (by omega)]
        have hT0 : lm_T (lt_si (lt_si wz 233 16 0) 233 2 0) 234 0 B := hmT.congr fun k k1 k2 k3 => by
          rw [lu_ne (by omega), lu_ne (by omega), Nat.zero_add]; exact z2 k (by omega)
        refine ⟨_, _, _, eC, eM, lr_txt h' (B := B) (fun a k z => g1 a k (by unfold tx_gm; omega) (by omega) (by omega) (by omega) (by omega) (by omega) (by omega) (by omega) (by omega)) (fun a k z => g2 a k (by omega) (by omega) (by omega) (by omega) (by omega)) ?_ ?_ ?_ ?_ ?_ ⟨hO, hT12, hT0⟩ (fun g hg => ?_) (Or.inl ⟨?_, ?_⟩)⟩
        · rw [g3 _ _ (by unfold tx_gm; omega) (by omega) (by omega) (by omega), q1 _ _ (by omega) (by omega) (by omega)]; exact a5
        · rw [lu_ne (by omega), lu_ne (by omega), z4 _ _ (by omega)]; exact b4
        · rw [g3 _ _ (by unfold tx_gm; omega) (by omega) (by omega) (by omega), q1 _ _ (by omega) (by omega) (by omega), lu_ne (by omega), lu_eq]; exact f2
        · rw [g3 _ _ (by unfold tx_gm; omega) (by omega) (by omega) (by omega), q1 _ _ (by omega) (by omega) (by omega), lu_ne (by omega), lu_ne (by omega), z4 _ _ (by omega)]; exact b5
        · rw [g3 _ _ (by unfold tx_gm; omega) (by omega) (by omega) (by omega), lu_eq, lu_eq]
        · have g7 : g < 7 := by have := hO.2.1; omega
          show lr_nm1 (lt_gl wz 13 g) (lt_gl wz 235 (0 + g))
          rw [Nat.zero_add, z3 g g7, z5 13 g (by omega), b3 13 g (by omega)]
          show lr_nm1 (lt_gl wq (12 + 1) g) _
          rw [p4 g g7]
          exact hN g hg
        · rw [g3 _ _ (by unfold tx_gm; omega) (by omega) (by omega) (by omega), lu_ne (by omega), lu_ne (by omega), lu_eq]
        · rw [lu_ne (by omega), lu_ne (by omega), z2 8 (by decide)]; exact hB.2.2
  · have eC : f_X11_table σ 0 x w = some (-1, lt_si w 0 0 1) := by
      unfold f_X11_table fb_X11_table_0
      rw [i4, t1, lq_within_n (lo := 0) (hi := nI m) 0 m rfl rfl c, lu_bind, if_pos rfl]
      rfl
    have eM : f_X12_table σ 233 x (lt_si w 0 0 1) = some (-1, lt_si (lt_si w 0 0 1) 233 2 1) := by
      unfold f_X12_table fb_X12_table_0
      rw [tm_begNo ((lu_ne (by omega)).trans t2) (Or.inl c), lu_bind, if_pos rfl]
      rfl
    exact ⟨-1, _, _, eC, eM, by rw [lu_ne (by omega), lu_eq, lu_eq], A, h'.congr (((lr_Q.refl w).si lr_px00 lr_pt00).si lr_px2 lr_pt2)⟩
end OU