/-! CALLS: what is told, what is done -/
section OPS
variable {σ : lt_S} {w : lt_W} {A : la_A}
theorem op_told (hσ : lr_S σ) (h : lr_0 w A) (x : Int32) : lr_ok (f_X11_told σ 0 x) (f_X12_told σ 233 x) w := by
  have hN := lr_now hσ
  have hS := lr_mS hσ
  have hT := lr_nowS hσ
  by_cases e0 : x = 0
  · subst e0
    refine lr_ok.q h (r := A.1 0) (st := 0) (lr_cq.of0 ?_) (fun w1 h1 => lr_mq.of0 ?_)
    · unfold f_X11_told fb_X11_told_0
      rw [hN, if_pos rfl, h.c.2.2.1 0 (by decide)]; rfl
    · unfold f_X12_told fb_X12_told_0
      rw [if_neg (show ¬ (0 : Int32) < 0 by decide), if_neg (show ¬ (8 : Int32) ≤ 0 by decide), hS, lm_k0, lm_c0, lm_hd (h1.m hσ) (by decide)]; rfl
  by_cases e1 : x = 1
  · subst e1
    refine lr_ok.q h (r := A.1 1) (st := 0) (lr_cq.of0 ?_) (fun w1 h1 => lr_mq.of0 ?_)
    · unfold f_X11_told fb_X11_told_0
      rw [hN, if_neg (show ¬ (1 : Int32) = 0 by decide), if_pos rfl, h.c.2.2.1 1 (by decide)]; rfl
    · unfold f_X12_told fb_X12_told_0
      rw [if_neg (show ¬ (1 : Int32) < 0 by decide), if_neg (show ¬ (8 : Int32) ≤ 1 by decide), hS, lm_k1, lm_c1, lm_hd (h1.m hσ) (by decide)]; rfl
  by_cases e2 : x = 2
  · subst e2
    refine lr_ok.q h (r := A.1 2) (st := 0) (lr_cq.of0 ?_) (fun w1 h1 => lr_mq.of0 ?_)
    · unfold f_X11_told fb_X11_told_0
      rw [hN, if_neg (show ¬ (2 : Int32) = 0 by decide), if_neg (show ¬ (2 : Int32) = 1 by decide), if_pos rfl, h.c.2.2.1 2 (by decide)]; rfl
    · unfold f_X12_told fb_X12_told_0
      rw [if_neg (show ¬ (2 : Int32) < 0 by decide), if_neg (show ¬ (8 : Int32) ≤ 2 by decide), hS, lm_k2, lm_c2, lm_hd (h1.m hσ) (by decide)]; rfl
  by_cases e3 : x = 3
  · subst e3
    refine lr_ok.q h (r := A.1 3) (st := 0) (lr_cq.of0 ?_) (fun w1 h1 => lr_mq.of0 ?_)
    · unfold f_X11_told fb_X11_told_0
      rw [hN, if_neg (show ¬ (3 : Int32) = 0 by decide), if_neg (show ¬ (3 : Int32) = 1 by decide), if_neg (show ¬ (3 : Int32) = 2 by decide), if_pos rfl, h.c.2.2.1 3 (by decide)]; rfl
    · unfold f_X12_told fb_X12_told_0
      rw [if_neg (show ¬ (3 : Int32) < 0 by decide), if_neg (show ¬ (8 : Int32) ≤ 3 by decide), hS, lm_k3, lm_c3, lm_hd (h1.m hσ) (by decide)]; rfl
  by_cases e4 : x = 4
  · subst e4
    refine lr_ok.q h (r := A.1 4) (st := 0) (lr_cq.of0 ?_) (fun w1 h1 => lr_mq.of0 ?_)
    · unfold f_X11_told fb_X11_told_0
      rw [hN, if_neg (show ¬ (4 : Int32) = 0 by decide), if_neg (show ¬ (4 : Int32) = 1 by decide), if_neg (show ¬ (4 : Int32) = 2 by decide), if_neg (show ¬ (4 : Int32) = 3 by decide), if_pos rfl, h.c.2.2.1 4 (by decide)]; rfl
    · unfold f_X12_told fb_X12_told_0
      rw [if_neg (show ¬ (4 : Int32) < 0 by decide), if_neg (show ¬ (8 : Int32) ≤ 4 by decide), hS, lm_k4, lm_c4, lm_hd (h1.m hσ) (by decide)]; rfl
  by_cases e5 : x = 5
  · subst e5
    refine lr_ok.q h (r := A.1 5) (st := 0) (lr_cq.of0 ?_) (fun w1 h1 => lr_mq.of0 ?_)
    · unfold f_X11_told fb_X11_told_0
      rw [hN, if_neg (show ¬ (5 : Int32) = 0 by decide), if_neg (show ¬ (5 : Int32) = 1 by decide), if_neg (show ¬ (5 : Int32) = 2 by decide), if_neg (show ¬ (5 : Int32) = 3 by decide), if_neg (show ¬ (5 : Int32) = 4 by decide), if_pos rfl, h.c.2.2.1 5 (by decide)]; rfl
    · unfold f_X12_told fb_X12_told_0
      rw [if_neg (show ¬ (5 : Int32) < 0 by decide), if_neg (show ¬ (8 : Int32) ≤ 5 by decide), hS, lm_k5, lm_c5, lm_hd (h1.m hσ) (by decide)]; rfl
  by_cases e6 : x = 6
  · subst e6
    refine lr_ok.q h (r := A.1 6) (st := 0) (lr_cq.of0 ?_) (fun w1 h1 => lr_mq.of0 ?_)
    · unfold f_X11_told fb_X11_told_0
      rw [hN, if_neg (show ¬ (6 : Int32) = 0 by decide), if_neg (show ¬ (6 : Int32) = 1 by decide), if_neg (show ¬ (6 : Int32) = 2 by decide), if_neg (show ¬ (6 : Int32) = 3 by decide), if_neg (show ¬ (6 : Int32) = 4 by decide), if_neg (show ¬ (6 : Int32) = 5 by decide), if_pos rfl, h.c.2.2.1 6 (by decide)]; rfl
    · unfold f_X12_told fb_X12_told_0
      rw [if_neg (show ¬ (6 : Int32) < 0 by decide), if_neg (show ¬ (8 : Int32) ≤ 6 by decide), hS, lm_k6, lm_c6, lm_hd (h1.m hσ) (by decide)]; rfl
  by_cases e7 : x = 7
  · subst e7
    refine lr_ok.q h (r := A.1 7) (st := 0) (lr_cq.of0 ?_) (fun w1 h1 => lr_mq.of0 ?_)
    · unfold f_X11_told fb_X11_told_0
      rw [hN, if_neg (show ¬ (7 : Int32) = 0 by decide), if_neg (show ¬ (7 : Int32) = 1 by decide), if_neg (show ¬ (7 : Int32) = 2 by decide), if_neg (show ¬ (7 : Int32) = 3 by decide), if_neg (show ¬ (7 : Int32) = 4 by decide), if_neg (show ¬ (7 : Int32) = 5 by decide), if_neg (show ¬ (7 : Int32) = 6 by decide), if_pos rfl, h.c.2.2.1 7 (by decide)]; rfl
    · unfold f_X12_told fb_X12_told_0
      rw [if_neg (show ¬ (7 : Int32) < 0 by decide), if_neg (show ¬ (8 : Int32) ≤ 7 by decide), hS, lm_k7, lm_c7, lm_hd (h1.m hσ) (by decide)]; rfl
  by_cases e8 : x = 8
  · subst e8
    refine lr_ok.q h (r := la_sb (la_here A) (la_n A)) (st := 0) (lr_cq.of0 ?_) (fun w1 h1 => lr_mq.of0 ?_)
    · unfold f_X11_told fb_X11_told_0
      rw [hN, if_neg (show ¬ (8 : Int32) = 0 by decide), if_neg (show ¬ (8 : Int32) = 1 by decide), if_neg (show ¬ (8 : Int32) = 2 by decide), if_neg (show ¬ (8 : Int32) = 3 by decide), if_neg (show ¬ (8 : Int32) = 4 by decide), if_neg (show ¬ (8 : Int32) = 5 by decide), if_neg (show ¬ (8 : Int32) = 6 by decide), if_neg (show ¬ (8 : Int32) = 7 by decide), if_pos rfl, h.c.2.2.2.1]; rfl
    · unfold f_X12_told fb_X12_told_0 fb_X12_told_21
      rw [if_neg (show ¬ (8 : Int32) < 0 by decide), if_pos (show (8 : Int32) ≤ 8 by decide), if_pos rfl, lm_areHere hS (h1.m hσ), lu_bind]; rfl
  by_cases e9 : x = 9
  · subst e9
    refine lr_ok.q h (r := la_sb (la_hung A) (la_n A)) (st := 0) (lr_cq.of0 ?_) (fun w1 h1 => lr_mq.of0 ?_)
    · unfold f_X11_told fb_X11_told_0
      rw [hN, if_neg (show ¬ (9 : Int32) = 0 by decide), if_neg (show ¬ (9 : Int32) = 1 by decide), if_neg (show ¬ (9 : Int32) = 2 by decide), if_neg (show ¬ (9 : Int32) = 3 by decide), if_neg (show ¬ (9 : Int32) = 4 by decide), if_neg (show ¬ (9 : Int32) = 5 by decide), if_neg (show ¬ (9 : Int32) = 6 by decide), if_neg (show ¬ (9 : Int32) = 7 by decide), if_neg (show ¬ (9 : Int32) = 8 by decide), if_pos rfl, lc_hungry hT h.c, lu_bind]; rfl
    · unfold f_X12_told fb_X12_told_0 fb_X12_told_21
      rw [if_neg (show ¬ (9 : Int32) < 0 by decide), if_pos (show (8 : Int32) ≤ 9 by decide), if_neg (show ¬ (9 : Int32) = 8 by decide), if_pos rfl, lm_areHungry hS (h1.m hσ), lu_bind]; rfl
  by_cases e10 : x = 10
  · subst e10
    refine lr_ok.q h (r := la_sb (la_starv A) (la_n A)) (st := 0) (lr_cq.of0 ?_) (fun w1 h1 => lr_mq.of0 ?_)
    · unfold f_X11_told fb_X11_told_0
      rw [hN, if_neg (show ¬ (10 : Int32) = 0 by decide), if_neg (show ¬ (10 : Int32) = 1 by decide), if_neg (show ¬ (10 : Int32) = 2 by decide), if_neg (show ¬ (10 : Int32) = 3 by decide), if_neg (show ¬ (10 : Int32) = 4 by decide), if_neg (show ¬ (10 : Int32) = 5 by decide), if_neg (show ¬ (10 : Int32) = 6 by decide), if_neg (show ¬ (10 : Int32) = 7 by decide), if_neg (show ¬ (10 : Int32) = 8 by decide), if_neg (show ¬ (10 : Int32) = 9 by decide), if_pos rfl, lc_starved hT h.c, lu_bind]; rfl
    · unfold f_X12_told fb_X12_told_0 fb_X12_told_21
      rw [if_neg (show ¬ (10 : Int32) < 0 by decide), if_pos (show (8 : Int32) ≤ 10 by decide), if_neg (show ¬ (10 : Int32) = 8 by decide), if_neg (show ¬ (10 : Int32) = 9 by decide), if_pos rfl, lm_areStarved hS (h1.m hσ), lu_bind]; rfl
  refine lr_ok.q h (r := -1) (st := 1) (lr_cq.of0 ?_) (fun w1 h1 => lr_mq.of0 ?_)
  · unfold f_X11_told fb_X11_told_0
    rw [if_neg e0, if_neg e1, if_neg e2, if_neg e3, if_neg e4, if_neg e5, if_neg e6, if_neg e7, if_neg e8, if_neg e9, if_neg e10]; rfl
  · unfold f_X12_told fb_X12_told_0 fb_X12_told_21
    rw [if_neg e8, if_neg e9, if_neg e10]
    by_cases c : x < 0
    · rw [if_pos c]; rfl
    · rw [if_neg c, if_pos]
      · rfl
      · refine Int32.not_lt.mp fun z => ?_
        obtain ⟨j, hj, rfl⟩ := nI_of c
        have hj8 : j < 8 := (nI_ltI (b := 8) hj (by decide)).mp z
        have : j = 0 ∨ j = 1 ∨ j = 2 ∨ j = 3 ∨ j = 4 ∨ j = 5 ∨ j = 6 ∨ j = 7 := by omega
        rcases this with rfl | rfl | rfl | rfl | rfl | rfl | rfl | rfl
        · exact e0 rfl
        · exact e1 rfl
        · exact e2 rfl
        · exact e3 rfl
        · exact e4 rfl
        · exact e5 rfl
        · exact e6 rfl
        · exact e7 rfl
theorem op_guest (hσ : lr_S σ) (h : lr_0 w A) (x y : Int32) : lr_ok (f_X11_guest σ 0 x y) (f_X12_guest σ 233 x y) w := by
  have hN := lr_now hσ
  have hS := lr_mS hσ
  have hT := lr_nowS hσ
  have h7 := h.n7
  have bad : ((x < 0 ∨ nI (la_n A) ≤ x) ∨ y < 0 ∨ ¬ y ≤ 7) → lr_ok (f_X11_guest σ 0 x y) (f_X12_guest σ 233 x y) w := by
    intro hb
    refine lr_ok.q h (r := -1) (st := 1) (lr_cq.of0 ?_) (fun w1 h1 => lr_mq.of0 ?_)
    · unfold f_X11_guest fb_X11_guest_0
      rw [hN]
      rcases lq_ix x h7 with hx | ⟨j, hj, rfl⟩
      · rw [lq_hg_n h.c hx, lu_bind, if_pos rfl]; rfl
      · rw [lq_hg_y h.c hj, lu_bind, if_neg lu_10]
        have hy : y < 0 ∨ ¬ y ≤ 7 := by
          rcases hb with (hb | hb) | hb
          · exact absurd hb (nI_pos (by omega))
          · exact absurd hb (nI_ge hj (by omega))
          · exact hb
        have : ∀ k : Int32, ¬ k < 0 → k ≤ 7 → ¬ y = k := fun k a b e => by
          subst e; rcases hy with z | z
          · exact a z
          · exact z b
        rw [if_neg (this 0 (by decide) (by decide)), if_neg (this 1 (by decide) (by decide)), if_neg (this 2 (by decide) (by decide)), if_neg (this 3 (by decide) (by decide)), if_neg (this 4 (by decide) (by decide)), if_neg (this 5 (by decide) (by decide)), if_neg (this 6 (by decide) (by decide)), if_neg (this 7 (by decide) (by decide))]; rfl
    · unfold f_X12_guest fb_X12_guest_0
      rcases lq_ix x h7 with hx | ⟨j, hj, rfl⟩
      · rw [lq_ig_n hS (h1.m hσ) hx, lu_bind, if_pos rfl]; rfl
      · rw [lq_ig_y hS (h1.m hσ) hj, lu_bind, if_neg lu_10]
        have hy : y < 0 ∨ ¬ y ≤ 7 := by
          rcases hb with (hb | hb) | hb
          · exact absurd hb (nI_pos (by omega))
          · exact absurd hb (nI_ge hj (by omega))
          · exact hb
        by_cases c : y < 0
        · rw [if_pos c]; rfl
        · rw [if_neg c, if_neg (by rcases hy with z | z; exact absurd z c; exact z)]; rfl
  rcases lq_ix x h7 with hx | ⟨g, hg, rfl⟩
  · exact bad (Or.inl hx)
  obtain ⟨a0, a1, a2, a3, a4, a5⟩ := h.c.2.2.2.2 g hg
  obtain ⟨⟨s0, s1, s2, s3, s4, s5, s6, s7, s8⟩, l1, l2, l3, l4, l5, l6, l7, l8⟩ := hT
  by_cases e0 : y = 0
  · subst e0
    refine lr_ok.q h (r := A.2 g 0) (st := 0) (lr_cq.of0 ?_) (fun w1 h1 => lr_mq.of0 ?_)
    · unfold f_X11_guest fb_X11_guest_0
      rw [hN, lq_hg_y h.c hg, lu_bind, if_neg lu_10, if_pos rfl, s2, lu_ck (by omega) (by omega), nI_clamp (by omega), a0]; rfl
    · unfold f_X12_guest fb_X12_guest_0
      rw [lq_ig_y hS (h1.m hσ) hg, lu_bind, if_neg lu_10, if_neg (show ¬ (0 : Int32) < 0 by decide), if_pos (show (0 : Int32) ≤ 7 by decide), if_neg (show ¬ (0 : Int32) = 6 by decide), if_neg (show ¬ (0 : Int32) = 7 by decide), lm_of (x := 0) (f := 0) hS (h1.m hσ) hg rfl (by decide), lu_bind]; rfl
  by_cases e1 : y = 1
  · subst e1
    refine lr_ok.q h (r := A.2 g 1) (st := 0) (lr_cq.of0 ?_) (fun w1 h1 => lr_mq.of0 ?_)
    · unfold f_X11_guest fb_X11_guest_0
      rw [hN, lq_hg_y h.c hg, lu_bind, if_neg lu_10, if_neg (show ¬ (1 : Int32) = 0 by decide), if_pos rfl, s3, lu_ck (by omega) (by omega), nI_clamp (by omega), a1]; rfl
    · unfold f_X12_guest fb_X12_guest_0
      rw [lq_ig_y hS (h1.m hσ) hg, lu_bind, if_neg lu_10, if_neg (show ¬ (1 : Int32) < 0 by decide), if_pos (show (1 : Int32) ≤ 7 by decide), if_neg (show ¬ (1 : Int32) = 6 by decide), if_neg (show ¬ (1 : Int32) = 7 by decide), lm_of (x := 1) (f := 1) hS (h1.m hσ) hg rfl (by decide), lu_bind]; rfl
  by_cases e2 : y = 2
  · subst e2
    refine lr_ok.q h (r := A.2 g 2) (st := 0) (lr_cq.of0 ?_) (fun w1 h1 => lr_mq.of0 ?_)
    · unfold f_X11_guest fb_X11_guest_0
      rw [hN, lq_hg_y h.c hg, lu_bind, if_neg lu_10, if_neg (show ¬ (2 : Int32) = 0 by decide), if_neg (show ¬ (2 : Int32) = 1 by decide), if_pos rfl, s4, lu_ck (by omega) (by omega), nI_clamp (by omega), a2]; rfl
    · unfold f_X12_guest fb_X12_guest_0
      rw [lq_ig_y hS (h1.m hσ) hg, lu_bind, if_neg lu_10, if_neg (show ¬ (2 : Int32) < 0 by decide), if_pos (show (2 : Int32) ≤ 7 by decide), if_neg (show ¬ (2 : Int32) = 6 by decide), if_neg (show ¬ (2 : Int32) = 7 by decide), lm_of (x := 2) (f := 2) hS (h1.m hσ) hg rfl (by decide), lu_bind]; rfl
  by_cases e3 : y = 3
  · subst e3
    refine lr_ok.q h (r := A.2 g 3) (st := 0) (lr_cq.of0 ?_) (fun w1 h1 => lr_mq.of0 ?_)
    · unfold f_X11_guest fb_X11_guest_0
      rw [hN, lq_hg_y h.c hg, lu_bind, if_neg lu_10, if_neg (show ¬ (3 : Int32) = 0 by decide), if_neg (show ¬ (3 : Int32) = 1 by decide), if_neg (show ¬ (3 : Int32) = 2 by decide), if_pos rfl, s5, lu_ck (by omega) (by omega), nI_clamp (by omega), a3]; rfl
    · unfold f_X12_guest fb_X12_guest_0
      rw [lq_ig_y hS (h1.m hσ) hg, lu_bind, if_neg lu_10, if_neg (show ¬ (3 : Int32) < 0 by decide), if_pos (show (3 : Int32) ≤ 7 by decide), if_neg (show ¬ (3 : Int32) = 6 by decide), if_neg (show ¬ (3 : Int32) = 7 by decide), lm_of (x := 3) (f := 3) hS (h1.m hσ) hg rfl (by decide), lu_bind]; rfl
  by_cases e4 : y = 4
  · subst e4
    refine lr_ok.q h (r := A.2 g 4) (st := 0) (lr_cq.of0 ?_) (fun w1 h1 => lr_mq.of0 ?_)
    · unfold f_X11_guest fb_X11_guest_0
      rw [hN, lq_hg_y h.c hg, lu_bind, if_neg lu_10, if_neg (show ¬ (4 : Int32) = 0 by decide), if_neg (show ¬ (4 : Int32) = 1 by decide), if_neg (show ¬ (4 : Int32) = 2 by decide), if_neg (show ¬ (4 : Int32) = 3 by decide), if_pos rfl, s6, lu_ck (by omega) (by omega), nI_clamp (by omega), a4]; rfl
    · unfold f_X12_guest fb_X12_guest_0
      rw [lq_ig_y hS (h1.m hσ) hg, lu_bind, if_neg lu_10, if_neg (show ¬ (4 : Int32) < 0 by decide), if_pos (show (4 : Int32) ≤ 7 by decide), if_neg (show ¬ (4 : Int32) = 6 by decide), if_neg (show ¬ (4 : Int32) = 7 by decide), lm_of (x := 4) (f := 4) hS (h1.m hσ) hg rfl (by decide), lu_bind]; rfl
  by_cases e5 : y = 5
  · subst e5
    have hG := (h.O.2.2.2.2.2.2.2 g hg).2.2.2.2.2.1
    refine lr_ok.q h (r := A.2 g 5) (st := 0) (lr_cq.of0 ?_) (fun w1 h1 => lr_mq.of0 ?_)
    · unfold f_X11_guest fb_X11_guest_0
      rw [hN, lq_hg_y h.c hg, lu_bind, if_neg lu_10, if_neg (show ¬ (5 : Int32) = 0 by decide), if_neg (show ¬ (5 : Int32) = 1 by decide), if_neg (show ¬ (5 : Int32) = 2 by decide), if_neg (show ¬ (5 : Int32) = 3 by decide), if_neg (show ¬ (5 : Int32) = 4 by decide), if_pos rfl, lc_isThere h.c hg, lu_bind, lu_q]
      rcases hG with e | e
      · rw [if_neg (by simp [la_here, e]), e]; rfl
      · rw [if_pos (by simp [la_here, e]), e]; rfl
    · unfold f_X12_guest fb_X12_guest_0
      rw [lq_ig_y hS (h1.m hσ) hg, lu_bind, if_neg lu_10, if_neg (show ¬ (5 : Int32) < 0 by decide), if_pos (show (5 : Int32) ≤ 7 by decide), if_neg (show ¬ (5 : Int32) = 6 by decide), if_neg (show ¬ (5 : Int32) = 7 by decide), lm_of (x := 5) (f := 5) hS (h1.m hσ) hg rfl (by decide), lu_bind]; rfl
  by_cases e6 : y = 6
  · subst e6
    by_cases e : A.2 g 6 = -1
    · refine lr_ok.q h (r := -1) (st := 6) (lr_cq.of0 ?_) (fun w1 h1 => lr_mq.of0 ?_)
      · unfold f_X11_guest fb_X11_guest_0
        rw [hN, lq_hg_y h.c hg, lu_bind, if_neg lu_10, if_neg (show ¬ (6 : Int32) = 0 by decide), if_neg (show ¬ (6 : Int32) = 1 by decide), if_neg (show ¬ (6 : Int32) = 2 by decide), if_neg (show ¬ (6 : Int32) = 3 by decide), if_neg (show ¬ (6 : Int32) = 4 by decide), if_neg (show ¬ (6 : Int32) = 5 by decide), if_pos rfl, s7, lu_ck (by omega) (by omega), nI_clamp (by omega), a5, lq_gia, if_pos e]; rfl
      · unfold f_X12_guest fb_X12_guest_0
        rw [lq_ig_y hS (h1.m hσ) hg, lu_bind, if_neg lu_10, if_neg (show ¬ (6 : Int32) < 0 by decide), if_pos (show (6 : Int32) ≤ 7 by decide), if_pos rfl, lm_of (x := 6) (f := 6) hS (h1.m hσ) hg rfl (by decide), lu_bind, lq_orNone, if_pos e]; rfl
    · refine lr_ok.q h (r := A.2 g 6) (st := 0) (lr_cq.of0 ?_) (fun w1 h1 => lr_mq.of0 ?_)
      · unfold f_X11_guest fb_X11_guest_0
        rw [hN, lq_hg_y h.c hg, lu_bind, if_neg lu_10, if_neg (show ¬ (6 : Int32) = 0 by decide), if_neg (show ¬ (6 : Int32) = 1 by decide), if_neg (show ¬ (6 : Int32) = 2 by decide), if_neg (show ¬ (6 : Int32) = 3 by decide), if_neg (show ¬ (6 : Int32) = 4 by decide), if_neg (show ¬ (6 : Int32) = 5 by decide), if_pos rfl, s7, lu_ck (by omega) (by omega), nI_clamp (by omega), a5, lq_gia, if_neg e]; rfl
      · unfold f_X12_guest fb_X12_guest_0
        rw [lq_ig_y hS (h1.m hσ) hg, lu_bind, if_neg lu_10, if_neg (show ¬ (6 : Int32) < 0 by decide), if_pos (show (6 : Int32) ≤ 7 by decide), if_pos rfl, lm_of (x := 6) (f := 6) hS (h1.m hσ) hg rfl (by decide), lu_bind, lq_orNone, if_neg e]; rfl
  by_cases e7 : y = 7
  · subst e7
    refine lr_ok.q h (r := la_sb (la_pass A g) (la_n A)) (st := 0) (lr_cq.of0 ?_) (fun w1 h1 => lr_mq.of0 ?_)
    · unfold f_X11_guest fb_X11_guest_0
      rw [hN, lq_hg_y h.c hg, lu_bind, if_neg lu_10, if_neg (show ¬ (7 : Int32) = 0 by decide), if_neg (show ¬ (7 : Int32) = 1 by decide), if_neg (show ¬ (7 : Int32) = 2 by decide), if_neg (show ¬ (7 : Int32) = 3 by decide), if_neg (show ¬ (7 : Int32) = 4 by decide), if_neg (show ¬ (7 : Int32) = 5 by decide), if_neg (show ¬ (7 : Int32) = 6 by decide), if_pos rfl, lc_passing (lr_nowS hσ) h.c, lu_bind]; rfl
    · unfold f_X12_guest fb_X12_guest_0
      rw [lq_ig_y hS (h1.m hσ) hg, lu_bind, if_neg lu_10, if_neg (show ¬ (7 : Int32) < 0 by decide), if_pos (show (7 : Int32) ≤ 7 by decide), if_neg (show ¬ (7 : Int32) = 6 by decide), if_pos rfl, lm_passTo hS (h1.m hσ), lu_bind]; rfl
  refine bad (Or.inr ?_)
  by_cases c : y < 0
  · exact Or.inl c
  · refine Or.inr fun z => ?_
    obtain ⟨j, hj, rfl⟩ := nI_of c
    have hj8 : j ≤ 7 := (nI_leI (b := 7) hj (by decide)).mp z
    have : j = 0 ∨ j = 1 ∨ j = 2 ∨ j = 3 ∨ j = 4 ∨ j = 5 ∨ j = 6 ∨ j = 7 := by omega
    rcases this with rfl | rfl | rfl | rfl | rfl | rfl | rfl | rfl
    · exact e0 rfl
    · exact e1 rfl
    · exact e2 rfl
    · exact e3 rfl
    · exact e4 rfl
    · exact e5 rfl
    · exact e6 rfl
    · exact e7 rfl
/-- an answer that may be none -/
theorem lr_cq.gia {f : lt_W → Option (Int32 × lt_W)} {w w' : lt_W} {x : Int32} (h : f w = Option.bind (f_X11_givenIfAny σ 0 x w') (fun q => some (q.1, q.2))) (hq : lr_Q w w') : lr_cq f w x (if x = -1 then 6 else 0) := by
  rw [lq_gia] at h
  by_cases e : x = -1
  · rw [if_pos e] at h ⊢; exact lr_cq.of (h.trans (by rw [e]; rfl)) hq
  · rw [if_neg e] at h ⊢; exact lr_cq.of h hq
theorem lr_mq.orN {f : lt_W → Option (Int32 × lt_W)} {w w' : lt_W} {x : Int32} (h : f w = Option.bind (f_X12_orNone σ 233 x w') (fun q => some (q.1, q.2))) (hq : lr_Q w w') (h0 : lt_gi w' 0 0 = lt_gi w 0 0) : lr_mq f w x (if x = -1 then 6 else 0) := by
  rw [lq_orNone] at h
  by_cases e : x = -1
  · rw [if_pos e] at h ⊢; exact lr_mq.of (h.trans (by rw [e]; rfl)) hq h0
  · rw [if_neg e] at h ⊢; exact lr_mq.of h hq h0
theorem op_cutter (hσ : lr_S σ) (h : lr_0 w A) : lr_ok (f_X11_cutter σ 0) (f_X12_cutter σ 233) w := by
  refine lr_ok.q h (lr_cq.gia (σ := σ) (x := la_e (la_first A)) ?_ (lr_Q.refl w)) (fun w1 h1 => lr_mq.orN (σ := σ) ?_ (lr_Q.refl w1) rfl)
  · unfold f_X11_cutter fb_X11_cutter_0
    rw [lr_now hσ, lc_first (lr_nowS hσ) h.c h.O, lu_bind]
  · unfold f_X12_cutter fb_X12_cutter_0
    rw [lm_first (lr_mS hσ) (h1.m hσ), lu_bind]
/-- to whom the most pass: best, how many -/
def la_most (A : la_A) : Nat → Option Nat × Nat
  | 0 => (none, 0)
  | k + 1 => if la_here A k && decide ((la_most A k).2 < la_cnt (la_pass A k) (la_n A)) then (some k, la_cnt (la_pass A k) (la_n A)) else la_most A k
theorem la_most_le (A : la_A) (k : Nat) : (la_most A k).2 ≤ la_n A := by
  induction k with
  | zero => exact Nat.zero_le _
  | succ k ih =>
    rw [la_most]; split
    · exact la_cnt_le _ _
    · exact ih
theorem op_wanted (hσ : lr_S σ) (h : lr_0 w A) : lr_ok (f_X11_wanted σ 0) (f_X12_wanted σ 233) w := by
  have h7 := h.n7
  refine lr_ok.q h (lr_cq.gia (σ := σ) (x := la_e (la_most A (la_n A)).1) ?_ (lr_Q.refl w)) (fun w1 h1 => lr_mq.orN (σ := σ) ?_ (lr_Q.refl w1) rfl)
  · unfold f_X11_wanted fb_X11_wanted_0
    rw [lr_now hσ]
    have : f_X5_mostPassed σ 12 w = some (la_e (la_most A (la_n A)).1) := by
      unfold f_X5_mostPassed fb_X5_mostPassed_0
      refine lu_up (fun f k (x : Int32 × Int32) => fb_X5_mostPassed_6 σ 12 w f x.1 x.2 (nI k)) (la_n A) (fun k => (la_e (la_most A k).1, nI (la_most A k).2)) _ (fun f k hk => ?_) (fun f => ?_) lt_fu 0 (by omega) (by unfold lt_fu; omega)
      · have b1 := la_most_le A k
        have b2 := la_cnt_le (la_pass A k) (la_n A)
        show fb_X5_mostPassed_6 σ 12 w (f + 1) _ _ _ = fb_X5_mostPassed_6 σ 12 w f _ _ _
        rw [fb_X5_mostPassed_6, if_neg (lc_lt h.c hk), lc_passing (lr_nowS hσ) h.c, lu_bind, (la_count h7).1, lu_bind, lc_isThere h.c hk, lu_bind, lu_q, nI_1, la_most]
        by_cases e : la_here A k = true
        · rw [if_pos e]
          by_cases c : (la_most A k).2 < la_cnt (la_pass A k) (la_n A)
          · rw [if_neg (nI_ge c (by omega)), if_pos (by simp [e, c])]; rfl
          · rw [if_pos (nI_le (by omega) (by omega)), if_neg (by simp [c])]
        · rw [if_neg e, if_neg (by simp [e])]
      · show fb_X5_mostPassed_6 σ 12 w (f + 1) _ _ _ = _
        rw [fb_X5_mostPassed_6, if_pos (lc_ge h.c (by omega) (Nat.le_refl _))]
    rw [this, lu_bind]
  · unfold f_X12_wanted fb_X12_wanted_0
    refine lu_up (fun f k (x : Int32 × Int32) => fb_X12_wanted_6 σ 233 f x.1 x.2 (nI k) w1) (la_n A) (fun k => (la_e (la_most A k).1, nI (la_most A k).2)) _ (fun f k hk => ?_) (fun f => ?_) lt_fu 0 (by omega) (by unfold lt_fu; omega)
    · have b1 := la_most_le A k
      have b2 := la_cnt_le (la_pass A k) (la_n A)
      show fb_X12_wanted_6 σ 233 (f + 1) _ _ _ w1 = fb_X12_wanted_6 σ 233 f _ _ _ w1
      rw [fb_X12_wanted_6, lr_mS hσ, lm_k0, lm_c0, if_neg (lm_lt (h1.m hσ) hk), lm_here (lr_mS hσ) (h1.m hσ) hk, lu_bind, lu_q, lm_passTo (lr_mS hσ) (h1.m hσ), lu_bind, (la_count h7).2, lu_bind, la_most]
      unfold fb_X12_wanted_36
      rw [nI_1]
      by_cases e : la_here A k = true
      · rw [if_pos e]
        by_cases c : (la_most A k).2 < la_cnt (la_pass A k) (la_n A)
        · rw [if_pos (nI_lt c (by omega)), if_pos (by simp [e, c])]; rfl
        · rw [if_neg (nI_nlt (by omega) (by omega)), if_neg (by simp [c])]
      · rw [if_neg e, if_neg (show ¬ nI (la_most A k).2 < 0 from nI_pos (by omega)), if_neg (by simp [e])]
    · show fb_X12_wanted_6 σ 233 (f + 1) _ _ _ w1 = _
      rw [fb_X12_wanted_6, lr_mS hσ, lm_k0, lm_c0, if_pos (lm_ge (h1.m hσ) (by omega) (Nat.le_refl _))]
theorem lr_ok.q2 {fc fm : lt_W → Option (Int32 × lt_W)} {w : lt_W} {A : la_A} {r st : Int32} (h : lr_0 w A) (hc : lr_cq fc w r st) (hm : ∀ w1, lr_0 w1 A → lr_Q w w1 → lr_mq fm w1 r st) : lr_ok fc fm w := by
  obtain ⟨w1, a1, a2, a3⟩ := hc
  have h1 := h.congr a2
  obtain ⟨w2, b1, b2, b3, b4⟩ := hm w1 h1 a2
  exact ⟨r, w1, w2, a1, b1, by rw [b3, b4, a3], A, h1.congr b2⟩
theorem op_lived (hσ : lr_S σ) (h : lr_0 w A) (x : Int32) : lr_ok (f_X11_lived σ 0 x) (f_X12_lived σ 233 x) w := by
  by_cases c : lq_b x 0 4
  · obtain ⟨j, -, hj, rfl⟩ := c.R (by decide) (by decide)
    have cn : ¬ nI j < 0 := nI_pos (by omega)
    rcases h.1.2.2.2.2.2.2.2.1 with ⟨e1, e2⟩ | ⟨e1, e2, e3⟩
    · refine lr_ok.q2 h (r := -1) (st := 6) (lr_cq.of0 ?_) (fun w1 h1 hq => lr_mq.of0 ?_)
      · unfold f_X11_lived fb_X11_lived_0
        rw [lq_within_y (lo := 0) (hi := 4) 0 4 rfl rfl c, lu_bind, if_neg lu_10, if_pos e1]; rfl
      · have e2' : lt_gi w1 233 39 = 0 := (hq.1.1 _ _ (by unfold lr_px; omega)).trans e2
        unfold f_X12_lived fb_X12_lived_0
        rw [if_neg cn, if_pos (show nI j ≤ 4 from nI_le (b := 4) hj (by decide)), if_pos e2']; rfl
    · refine lr_ok.q2 h (r := lt_gi w 179 j) (st := 0) (lr_cq.of0 ?_) (fun w1 h1 hq => lr_mq.of0 ?_)
      · unfold f_X11_lived fb_X11_lived_0
        rw [lq_within_y (lo := 0) (hi := 4) 0 4 rfl rfl c, lu_bind, if_neg lu_10, if_neg (by rw [e1]; decide), hσ.r 0 14 (by decide) (by decide), hσ.l _ (by decide), show ((lr_rf.getD 0 []).getD 14 0) = 179 from rfl, show lr_ln.getD 179 0 = 5 from rfl, lu_ck (by omega) (by decide), nI_clamp (by omega)]; rfl
      · have e2' : lt_gi w1 233 39 = 1 := (hq.1.1 _ _ (by unfold lr_px; omega)).trans e2
        have e3' : lt_gi w1 254 j = lt_gi w 179 j := (hq.1.1 _ _ (by unfold lr_px; omega)).trans (e3 j (by omega)).symm
        unfold f_X12_lived fb_X12_lived_0
        rw [if_neg cn, if_pos (show nI j ≤ 4 from nI_le (b := 4) hj (by decide)), if_neg (by rw [e2']; decide), hσ.r 233 38 (by decide) (by decide), hσ.l _ (by decide), show ((lr_rf.getD 233 []).getD 38 0) = 254 from rfl, show lr_ln.getD 254 0 = 5 from rfl, lu_ck (by omega) (by decide), nI_clamp (by omega), e3']; rfl
  · refine lr_ok.q2 h (r := -1) (st := 1) (lr_cq.of0 ?_) (fun w1 h1 hq => lr_mq.of0 ?_)
    · unfold f_X11_lived fb_X11_lived_0
      rw [lq_within_n (lo := 0) (hi := 4) 0 4 rfl rfl c, lu_bind, if_pos rfl]; rfl
    · unfold f_X12_lived fb_X12_lived_0 fb_X12_lived_9
      by_cases c0 : x < 0
      · rw [if_pos c0]; rfl
      · rw [if_neg c0, if_neg (show ¬ x ≤ 4 from fun z => c ⟨Int32.not_lt.mp c0, z⟩)]; rfl
end OPS