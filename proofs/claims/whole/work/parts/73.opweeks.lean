/-! THE CALL weeks, both sides -/
section OX
variable {σ : lt_S}
set_option maxHeartbeats 1000000 in
theorem op_weeks (hσ : lr_S σ) {w : lt_W} {A : la_A} (h : lr_0 w A) (x : Int32) : lr_ok (f_X11_weeks σ 0 x) (f_X12_weeks σ 233 x) w := by
  obtain ⟨i8, i4, i6⟩ := lr_now8 hσ
  obtain ⟨⟨r0, r1, r2, r3⟩, -, -⟩ := lr_39 hσ
  have e12 : ∀ {α : Type} (y : Option α), lt_ck 1720 2560 y = y := fun y => lu_ck (i := 1720) (by decide) (by decide)
  have h' := h
  obtain ⟨⟨hTB, y1, ⟨m, hm, t1, t2, hT⟩, y3, y4, y5, y6, y7, y8⟩, y9⟩ := h
  have em : lt_min (nI m) 300 = nI (min m 300) := lu_min (b := 300) (by omega) (by decide)
  have hH : ∀ w1 : lt_W, lt_gi w1 234 0 = lt_gi w 234 0 → (∀ g, g < 7 → lt_gl w1 235 g = lt_gl w 235 g) → tw_H (la_n A) w w1 := fun w1 z1 z2 =>
    ⟨hTB.1.2.1, lc_n hTB.2.1, by rw [z1]; exact (hTB.2.2.2.2.1 0 (by decide)).trans hTB.2.2.1, fun g hg => by
      have := hTB.1.2.1
      rw [Nat.zero_add, z2 g (by omega)]
      have := y4 g hg
      rw [Nat.zero_add] at this
      exact this⟩
  by_cases c : lq_b x 0 (min m 300)
  · obtain ⟨n, hn, rfl⟩ := lq_b0 (by omega) c
    have hnm : n ≤ m := by omega
    have hn3 : n ≤ 300 := by omega
    obtain ⟨wb, wc, r, a1, a2, a3, a4, a5, -⟩ := tw_run hσ (w0 := w) (hH w rfl (fun _ _ => rfl)) hm hnm hn3 t1 hT t2 (fun _ => rfl)
    have eC : f_X11_weeks σ 0 (nI n) w = if r = 0 then some (-1, lt_si wc 0 0 9) else Option.bind (f_X9_copyFrom σ 21 40 wc) (fun q10 => some (lt_gi q10 21 1, lt_si q10 0 0 0)) := by
      unfold f_X11_weeks fb_X11_weeks_0
      rw [i4, t1, em, lq_within_y (lo := 0) (hi := nI (min m 300)) 0 (min m 300) rfl rfl c, lu_bind, if_neg lu_10, a1, lu_bind, i8, a2, lu_bind, i6, r2]
      rfl
    have second : ∀ w1 : lt_W, lt_gi w1 233 10 = nI m → (∀ k, lt_gi w1 239 k = lt_gi w 239 k) → lt_gi w1 234 0 = lt_gi w 234 0 → (∀ g, g < 7 → lt_gl w1 235 g = lt_gl w 235 g) → ∃ wm, f_X12_weeks σ 233 (nI n) w1 = fb_X12_weeks_77 σ 233 wm ∧ (∀ a k, ¬ tx_gm a k → ¬ (a = 233 ∧ (k = 10 ∨ k = 11 ∨ k = 19)) → a ≠ 240 → lt_gi wm a k = lt_gi w1 a k) ∧ (∀ a k, ¬ (a = 235 ∧ 28 ≤ k ∧ k < 35) → lt_gl wm a k = lt_gl w1 a k) ∧ lt_gi wm 233 10 = 0 ∧ lt_gi wc 10 10 = lt_gi wm 233 17 ∧ ((r = 0 ∧ ∃ f, 1 ≤ f ∧ f ≤ 7 ∧ lt_gi wc 10 9 = nI f ∧ lt_gi wm 233 18 = nI f) ∨ (r = 1 ∧ lt_gi wc 10 9 = 0 ∧ lt_gi wm 233 18 = 0 ∧ lt_gi wc 40 0 = 1 ∧ ∃ I N st, tw_I I N 0 st (la_n A) wc wm)) := fun w1 g1 g2 g3 g4 => by
      obtain ⟨wb', wc', r', b1, b2, -, -, -, wm, b3⟩ := tw_run hσ (w0 := w1) (hH w1 g3 g4) hm hnm hn3 t1 hT g1 g2
      rw [a1] at b1
      obtain rfl := Option.some.inj b1
      rw [a2] at b2
      have e := Option.some.inj b2
      have e1 : r = r' := congrArg Prod.fst e
      have e2 : wc = wc' := congrArg Prod.snd e
      subst e1 e2
      exact ⟨wm, b3⟩
    by_cases hr : r = 0
    · rw [if_pos hr] at eC
      obtain ⟨wm, b1, b2, b3, b4, b5, b6⟩ := second (lt_si wc 0 0 9) (by rw [lu_ne (by omega), a3 _ _ (by omega) (by omega)]; exact t2) (fun k => by rw [lu_ne (by omega), a3 _ _ (by omega) (by omega)]) (by rw [lu_ne (by omega), a3 _ _ (by omega) (by omega)]) (fun g hg => a4 _ _ (by omega) (by omega))
      rcases b6 with ⟨-, f, f1, f7, f2, f3⟩ | ⟨b6, -⟩
      · have eM : f_X12_weeks σ 233 (nI n) (lt_si wc 0 0 9) = some (-1, lt_si (lt_si wm 233 16 (nI f)) 233 2 9) := by
          rw [b1]
          unfold fb_X12_weeks_77
          have n0 : ¬ nI f = 0 := nI_ne0 (by omega) (by omega)
          rw [f3, if_neg n0, tm_131, f3, if_neg (show ¬ nI f ≤ 0 from nI_nle (by omega) (by omega))]
        have g1 : ∀ a k, ¬ tx_gm a k → ¬ (a = 233 ∧ (k = 10 ∨ k = 11 ∨ k = 19 ∨ k = 16 ∨ k = 2)) → a ≠ 240 → ¬ (a = 0 ∧ k = 0) → ¬ (a = 10 ∧ 1 ≤ k ∧ k ≤ 10) → ¬ (29 ≤ a ∧ a ≤ 48) → lt_gi (lt_si (lt_si wm 233 16 (nI f)) 233 2 9) a k = lt_gi w a k := fun a k z1 z2 z3 z4 z5 z6 => by
          rw [lu_ne (by omega), lu_ne (by omega), b2 a k z1 (by omega) z3, lu_ne (by omega), a3 a k z5 z6]
        have g2 : ∀ a k, ¬ (a = 235 ∧ 28 ≤ k ∧ k < 35) → ¬ (a = 10 ∧ k = 6) → ¬ (29 ≤ a ∧ a ≤ 48) → lt_gl (lt_si (lt_si wm 233 16 (nI f)) 233 2 9) a k = lt_gl w a k := fun a k z1 z2 z3 => (b3 a k z1).trans (a4 a k z2 z3)
        refine ⟨-1, _, _, eC, eM, lr_txt h' (fun a k z => g1 a k (by unfold tx_gm; omega) (by omega) (by omega) (by omega) (by omega) (by omega)) (fun a k z => g2 a k (by omega) (by omega) (by omega)) ?_ ?_ ?_ ?_ ?_ (hTB.c fun a k z => g1 a k (by unfold tx_gm; omega) (by omega) (by omega) (by omega) (by omega) (by omega)) (y4.c hTB.1.2.1 fun a k z => g2 a k (by omega) (by omega) (by omega)) (y5.c fun a k z => g1 a k (by unfold tx_gm; omega) (by omega) (by omega) (by omega) (by omega) (by omega))⟩
        · rw [lu_ne (by omega), lu_ne (by omega), b2 _ _ (by unfold tx_gm; omega) (by omega) (by omega), lu_ne (by omega)]; exact a5
        · rw [lu_ne (by omega), lu_ne (by omega)]; exact b4
        · rw [lu_ne (by omega), lu_ne (by omega), b2 _ _ (by unfold tx_gm; omega) (by omega) (by omega), lu_ne (by omega), lu_ne (by omega), lu_eq]; exact f2
        · rw [lu_ne (by omega), lu_ne (by omega), b2 _ _ (by unfold tx_gm; omega) (by omega) (by omega), lu_ne (by omega), lu_ne (by omega), lu_ne (by omega)]; exact b5
        · rw [lu_ne (by omega), lu_ne (by omega), b2 _ _ (by unfold tx_gm; omega) (by omega) (by omega), lu_eq, lu_eq]
      · rw [hr] at b6; exact absurd b6 (by decide)
    · rw [if_neg hr] at eC
      have h40 : lt_gi wc 40 0 = 0 ∨ lt_gi wc 40 0 = 1 := by
        obtain ⟨wm, b1, b2, b3, b4, b5, b6⟩ := second w t2 (fun _ => rfl) rfl (fun _ _ => rfl)
        rcases b6 with ⟨b6, -⟩ | ⟨-, -, -, b7, -⟩
        · exact absurd b6 hr
        · exact Or.inr b7
      obtain ⟨wq, p1, p2, p3, p5⟩ := lw_copy (w := wc) (lr_wk hσ (o := 21) (by decide)) (lr_wk hσ (o := 40) (by decide)) (by omega) h40
      rw [p1, lu_bind] at eC
      have q1 : ∀ a k, ¬ (21 ≤ a ∧ a < 29) → ¬ (a = 0 ∧ k = 0) → lt_gi (lt_si wq 0 0 0) a k = lt_gi wc a k := fun a k z1 z3 => by
        rw [lu_ne (by omega), (p5 a k (by omega)).1]
      have q2 : ∀ a k, ¬ (21 ≤ a ∧ a < 29) → lt_gl (lt_si wq 0 0 0) a k = lt_gl wc a k := fun a k z1 => (p5 a k (by omega)).2
      obtain ⟨wm, b1, b2, b3, b4, b5, b6⟩ := second (lt_si wq 0 0 0) (by rw [q1 _ _ (by omega) (by omega), a3 _ _ (by omega) (by omega)]; exact t2) (fun k => by rw [q1 _ _ (by omega) (by omega), a3 _ _ (by omega) (by omega)]) (by rw [q1 _ _ (by omega) (by omega), a3 _ _ (by omega) (by omega)]) (fun g hg => by rw [q2 _ _ (by omega), a4 _ _ (by omega) (by omega)])
      rcases b6 with ⟨b6, -⟩ | ⟨-, f2, f3, f4, I, N, st, hB, ⟨k1, k2⟩, k3, k4, k5⟩
      · exact absurd b6 hr
      · obtain ⟨wz, z1, z2, z4, z5⟩ := tm_102 hσ (lt_si wm 234 8 (nI N))
        have z18 : lt_gi wz 233 18 = 0 := (z4 _ _ (by omega)).trans ((lu_ne (by omega)).trans f3)
        have z23 : lt_gi wz 233 23 = nI (lw_phi I N) := (z4 _ _ (by omega)).trans ((lu_ne (by omega)).trans k5)
        have eM : f_X12_weeks σ 233 (nI n) (lt_si wq 0 0 0) = some (nI (lw_phi I N), lt_si (lt_si wz 233 16 0) 233 2 0) := by
          rw [b1]
          unfold fb_X12_weeks_77
          rw [f3, if_pos rfl, lr_at hσ, lq_l234 hσ, e12, show lt_ck (8 : Int32) 2560 _ = _ from lm_k8, lm_c8, show (1720 : Int32).toNatClampNeg = 1720 from rfl, k3, lu_let, z1, tm_131, z18, if_pos (show (0 : Int32) ≤ 0 by decide), z23]
        have er : lt_gi wq 21 1 = nI (lw_phi I N) := (p2 1 (by decide)).trans k1
        rw [er] at eC
        have g1 : ∀ a k, ¬ tx_gm a k → ¬ (a = 233 ∧ (k = 10 ∨ k = 11 ∨ k = 19 ∨ k = 16 ∨ k = 2)) → a ≠ 240 → ¬ (a = 0 ∧ k = 0) → ¬ (a = 10 ∧ 1 ≤ k ∧ k ≤ 10) → ¬ (29 ≤ a ∧ a ≤ 48) → ¬ (21 ≤ a ∧ a < 29) → ¬ (a = 234 ∧ (k = 8 ∨ (60 ≤ k ∧ k < 420))) → lt_gi (lt_si (lt_si wz 233 16 0) 233 2 0) a k = lt_gi w a k := fun a k y1 y2 y3 y4 y5 y6 y7 y9 => by
          rw [lu_ne (by omega), lu_ne (by omega), z4 a k (by omega), lu_ne (by omega), b2 a k y1 (by omega) y3, q1 a k y7 y4, a3 a k y5 y6]
        have g2 : ∀ a k, ¬ (a = 235 ∧ 28 ≤ k ∧ k < 35) → ¬ (a = 10 ∧ k = 6) → ¬ (29 ≤ a ∧ a ≤ 48) → ¬ (21 ≤ a ∧ a < 29) → lt_gl (lt_si (lt_si wz 233 16 0) 233 2 0) a k = lt_gl w a k := fun a k y1 y2 y3 y4 => by
          show lt_gl wz a k = _
          rw [z5 a k]
          show lt_gl wm a k = _
          rw [b3 a k y1, q2 a k y4, a4 a k y2 y3]
        have g3 : ∀ a k, ¬ tx_gm a k → a ≠ 233 → a ≠ 240 → a ≠ 234 → lt_gi (lt_si (lt_si wz 233 16 0) 233 2 0) a k = lt_gi (lt_si wq 0 0 0) a k := fun a k y1 y2 y3 y4 => by
          rw [lu_ne (by omega), lu_ne (by omega), z4 a k (by omega), lu_ne (by omega), b2 a k y1 (by omega) y3]
        obtain ⟨⟨n1, n2, n3⟩, n4, n5, n6, n7, n8⟩ := hB
        have hcell : ∀ j s, 0 < j → j < 8 → s < 30 → lt_gi (lt_si (lt_si wz 233 16 0) 233 2 0) (21 + j) s = lt_gi wc (40 + j) s := fun j s j1 j2 j3 => by
          rw [g3 _ _ (by unfold tx_gm; omega) (by omega) (by omega) (by omega), lu_ne (by omega), p3 j s j1 j2 j3]
        have hP : lw_P (lt_si (lt_si wz 233 16 0) 233 2 0) 21 0 (la_n A) N I := by
          refine ⟨by omega, ?_, ?_, n2, fun k hk i hi => ?_, n7, ?_, fun k hk hq => ?_⟩
          · rw [lu_ne (by omega), lu_ne (by omega), z4 _ _ (by omega), lu_eq]
          · rw [g3 _ _ (by unfold tx_gm; omega) (by omega) (by omega) (by omega), lu_ne (by omega), p2 1 (by decide)]; exact k1
          · rw [lu_ne (by omega), lu_ne (by omega), z2 _ (by omega) (by omega), lu_ne (by omega), show 1712 + (0 + 60 + 6 * k + i) = 1772 + 6 * k + i by omega]
            exact n4 k hk i hi
          · exact n6 0 (Nat.le_refl _)
          · obtain ⟨c1, c2⟩ := n8 k hk hq
            have hs : lw_phi I k < 30 := by have := tw_phlt hk hq; omega
            unfold lw_ci
            rw [hcell 1 _ (by decide) (by decide) hs, hcell 2 _ (by decide) (by decide) hs, hcell 3 _ (by decide) (by decide) hs, hcell 4 _ (by decide) (by decide) hs, hcell 5 _ (by decide) (by decide) hs, hcell 6 _ (by decide) (by decide) hs, hcell 7 _ (by decide) (by decide) hs]
            obtain ⟨d1, d2, d3, d4, d5⟩ := c1
            exact ⟨d1, d2, d3, d4, d5, fun z => (c2 z (fun i hi => absurd hi (Nat.not_lt_zero _))).1⟩
        refine ⟨_, _, _, eC, eM, lr_txt h' (B := A) (fun a k z => g1 a k (by unfold tx_gm; omega) (by omega) (by omega) (by omega) (by omega) (by omega) (by omega) (by omega)) (fun a k z => g2 a k (by omega) (by omega) (by omega) (by omega)) ?_ ?_ ?_ ?_ ?_ (hTB.congr fun a k z => g1 a k (by unfold lr_pt at z; unfold tx_gm; omega) (by unfold lr_pt at z; omega) (by unfold lr_pt at z; omega) (by unfold lr_pt at z; omega) (by unfold lr_pt at z; omega) (by unfold lr_pt at z; omega) (by unfold lr_pt at z; omega) (by unfold lr_pt at z; omega)) (y4.c hTB.1.2.1 fun a k z => g2 a k (by omega) (by omega) (by omega) (by omega)) (Or.inr ⟨?_, N, I, hP⟩)⟩
        · rw [g3 _ _ (by unfold tx_gm; omega) (by omega) (by omega) (by omega), q1 _ _ (by omega) (by omega)]; exact a5
        · rw [lu_ne (by omega), lu_ne (by omega), z4 _ _ (by omega), lu_ne (by omega)]; exact b4
        · rw [g3 _ _ (by unfold tx_gm; omega) (by omega) (by omega) (by omega), q1 _ _ (by omega) (by omega), lu_ne (by omega), lu_eq]; exact f2
        · rw [g3 _ _ (by unfold tx_gm; omega) (by omega) (by omega) (by omega), q1 _ _ (by omega) (by omega), lu_ne (by omega), lu_ne (by omega), z4 _ _ (by omega), lu_ne (by omega)]; exact b5
        · rw [g3 _ _ (by unfold tx_gm; omega) (by omega) (by omega) (by omega), lu_eq, lu_eq]
        · rw [g3 _ _ (by unfold tx_gm; omega) (by omega) (by omega) (by omega), lu_ne (by omega), p2 0 (by decide)]; exact f4
  · have eC : f_X11_weeks σ 0 x w = some (-1, lt_si w 0 0 1) := by
      unfold f_X11_weeks fb_X11_weeks_0
      rw [i4, t1, em, lq_within_n (lo := 0) (hi := nI (min m 300)) 0 (min m 300) rfl rfl c, lu_bind, if_pos rfl]
      rfl
    have hx : ¬ lq_b x 0 m ∨ ¬ x ≤ 300 := by
      by_cases z : lq_b x 0 m
      · obtain ⟨j, j1, rfl⟩ := lq_b0 (by omega) z
        refine Or.inr fun y => c ?_
        have : j ≤ 300 := (nI_leI (b := 300) (by omega) (by decide)).mp y
        exact ⟨nI_le (by omega) (by omega), nI_le (by omega) (by omega)⟩
      · exact Or.inl z
    have eM : f_X12_weeks σ 233 x (lt_si w 0 0 1) = some (-1, lt_si (lt_si w 0 0 1) 233 2 1) := by
      unfold f_X12_weeks fb_X12_weeks_0
      rw [tm_begNo ((lu_ne (by omega)).trans t2) hx, lu_bind, if_pos rfl]
      rfl
    exact ⟨-1, _, _, eC, eM, by rw [lu_ne (by omega), lu_eq, lu_eq], A, h'.congr (((lr_Q.refl w).si lr_px00 lr_pt00).si lr_px2 lr_pt2)⟩
end OX