/-! THE WEEKS LIVED: mean -/
section LN
variable {σ : lt_S}
theorem lz_lN (a b : Nat) : lN a + lN b = lN (a + b) := lN_add a b
set_option maxHeartbeats 4000000 in
theorem lz_mean (hσ : lr_S σ) {I : Nat → Nat → Int32} {N : Nat} {A : la_A} (hok : ∀ k, k < N → lw_ok I (la_n A) k) (hN6 : N ≤ 60) (hphi : lw_phi I N ≤ 30) (hb : lw_bal I 0 N 3) (hO : la_Ok A) {x1 x2 : Nat} (hx1 : x1 ≤ 9999) (hx2 : x2 ≤ 20) (nm : Nat → Int64) : ∀ r t S, t + r = x2 → S ≤ 7 * t → ∃ S', S' ≤ 7 * x2 ∧
  (∀ f u, r < f → lc_T u 12 A → lc_T u 170 A → (∀ g, g < 7 → lt_gl u 171 g = nm g) → (∀ g, g < 7 → lt_gl u 13 g = nm g) → lt_gi u 21 1 = nI (lw_phi I N) → (∀ k, k < N → lw_op I k ≠ 18 → lw_ci u 21 I k (lw_phi I k)) → ∃ u', fb_X11_mean_74 σ 0 f (nI x1) (nI x2) (nI S) (nI t) u = Option.bind (f_X11_fraction σ 0 (lN S') (lN x2) u') (fun q1 => lt_bz q1.1 (some (q1.1, q1.2))) ∧ lc_T u' 12 A ∧ (∀ g, g < 7 → lt_gl u' 13 g = nm g) ∧ (∀ a k, ¬ (12 ≤ a ∧ a ≤ 20) → a ≠ 169 → lt_gi u' a k = lt_gi u a k) ∧ ∀ a k, ¬ (12 ≤ a ∧ a ≤ 20) → lt_gl u' a k = lt_gl u a k) ∧
  (∀ f v, r < f → lm_T v 234 0 A → lm_T v 234 2140 A → lr_lp v → lt_gi v 234 8 = nI N → lt_gi v 234 2148 = nI N → (∀ k, k < N → ∀ i, i < 6 → lt_gi v 234 (60 + 6 * k + i) = I k i) → ∃ v', fb_X12_mean_71 σ 233 f (nI x1) (nI x2) (lN S) (nI t) v = Option.bind (f_X12_tellsBy σ 233 (lN S') (lN x2) v') (fun q1 => lt_bz q1.1 (some (q1.1, q1.2))) ∧ lm_T v' 234 0 A ∧ lt_gi v' 234 8 = nI N ∧ lr_lp v' ∧ (∀ a k, ¬ (a = 234 ∧ k < 60) → ¬ (a = 233 ∧ (k = 34 ∨ k = 35)) → a ≠ 252 → a ≠ 253 → lt_gi v' a k = lt_gi v a k) ∧ ∀ a k, lt_gl v' a k = lt_gl v a k) := by
  have h7 := hO.2.1
  have r013 : lt_r σ 0 13 = 169 := hσ.r 0 13 (by decide) (by decide)
  intro r
  induction r with
  | zero =>
    intro t S ht hS
    obtain rfl : t = x2 := by omega
    refine ⟨S, hS, fun f u hf h12 _ _ hnm _ _ => ?_, fun f v hf h0 _ hlp h8 _ _ => ?_⟩
    · obtain ⟨f, rfl⟩ : ∃ g, f = g + 1 := ⟨f - 1, by omega⟩
      refine ⟨u, ?_, h12, hnm, fun _ _ _ _ => rfl, fun _ _ _ => rfl⟩
      rw [fb_X11_mean_74, if_pos (nI_le (Nat.le_refl _) (by omega)), nI_l (by omega), nI_l (by omega)]
    · obtain ⟨f, rfl⟩ : ∃ g, f = g + 1 := ⟨f - 1, by omega⟩
      refine ⟨v, ?_, h0, h8, hlp, fun _ _ _ _ _ _ => rfl, fun _ _ => rfl⟩
      rw [fb_X12_mean_71, if_pos (nI_le (Nat.le_refl _) (by omega)), nI_l (by omega)]
  | succ r ih =>
    intro t S ht hS
    obtain ⟨A', s', m', lf, o1, o2, o5, o6, hC, hM⟩ := lz_both hσ hok hN6 hphi hb hO (x := x1 + t) (by omega)
    have hcn := la_cnt_le (la_here A') (la_n A')
    obtain ⟨S', hS', kC, kM⟩ := ih (t + 1) (S + la_cnt (la_here A') (la_n A')) (by omega) (by omega)
    refine ⟨S', hS', fun f u hf h12 h170 hn1 hn2 h21 hci => ?_, fun f v hf h0 hw hlp h8 h8' hI => ?_⟩
    · obtain ⟨f, rfl⟩ : ∃ g, f = g + 1 := ⟨f - 1, by omega⟩
      obtain ⟨u1, e1, e2, -, -, -, e6⟩ := hC u h12 h21 hci
      have h170' : lc_T u1 170 A := h170.congr fun a k z1 z2 => e6.2 a k (by omega) (by omega)
      obtain ⟨u2, a1, a2, a3, a4, a5⟩ := lc_copy (w := u1) (lr_nowS hσ) (lr_tab hσ (o := 170) (by decide)) (by omega)
      have a4' : ∀ g, g < 7 → lt_gl u2 13 g = nm g := fun g hg => by rw [a4 g hg, e6.1]; exact hn1 g hg
      obtain ⟨u', b1, b2, b3, b4, b5⟩ := kC f u2 (by omega) (h170'.move a2 a3) (h170'.congr fun a k z1 z2 => (a5 a k (by omega)).1) (fun g hg => by rw [(a5 171 g (by omega)).2, e6.1]; exact hn1 g hg) a4' (by rw [(a5 _ _ (by omega)).1, e6.2 _ _ (by omega) (by omega)]; exact h21) (fun k hk hq => ((hci k hk hq).c fun a j z1 z2 => by rw [(a5 a j (by omega)).1, e6.2 a j (by omega) (by omega)]))
      refine ⟨u', ?_, b2, b3, fun a k z1 z2 => by rw [b4 a k z1 z2, (a5 a k (by omega)).1, e6.2 a k z1 (by omega)], fun a k z1 => by rw [b5 a k z1, (a5 a k (by omega)).2, e6.1]⟩
      rw [fb_X11_mean_74, if_neg (nI_ge (by omega) (by omega)), r013, nI_add, e1, lu_bind, lr_now hσ, lc_countThere e2, lu_bind, lq_r169_2 hσ, a1, lu_bind, nI_add, nI_1]
      exact b1
    · obtain ⟨f, rfl⟩ : ∃ g, f = g + 1 := ⟨f - 1, by omega⟩
      obtain ⟨v1, e1, e2, -, -, -, -, -, -, e9, e10⟩ := hM v h0 hlp h8 hI
      obtain ⟨v2, a1, a2, a3⟩ := m_brings hσ (b := 2140) (by decide) (by decide) v1
      have hw1 : lm_T v1 234 2140 A := hw.congr fun k hk _ _ => e10.2 _ _ (by omega) (by omega) (by omega) (by omega)
      obtain ⟨v', b1, b2, b3, b4, b5, b6⟩ := kM f v2 (by omega) (hw1.congr fun k hk _ _ => by rw [Nat.zero_add]; exact a2 k hk) (hw1.congr fun k hk _ _ => a3.2 _ _ (by omega)) (fun k hk => by rw [a3.2 _ _ (by omega)]; exact e9 k hk) (by rw [a2 8 (by decide), e10.2 _ _ (by omega) (by omega) (by omega) (by omega)]; exact h8') (by rw [a3.2 _ _ (by omega), e10.2 _ _ (by omega) (by omega) (by omega) (by omega)]; exact h8') (fun k hk i hi => by rw [a3.2 _ _ (by omega), e10.2 _ _ (by omega) (by omega) (by omega) (by omega)]; exact hI k hk i hi)
      refine ⟨v', ?_, b2, b3, b4, fun a k z1 z2 z3 z4 => by rw [b5 a k z1 z2 z3 z4, a3.2 a k (by omega), e10.2 a k (by omega) (by omega) z3 z4], fun a k => by rw [b6, a3.1, e10.1]⟩
      have h2140 : f_X12_brings σ 233 2140 v1 = some v2 := a1
      rw [fb_X12_mean_71, if_neg (nI_ge (by omega) (by omega)), nI_add, e1, lu_bind, lm_areHere (lr_mS hσ) (lr_mT hσ e2), lu_bind, (la_count (by omega)).2, lu_bind, h2140, lu_bind, nI_l (by omega), lz_lN, nI_1]
      exact b1
set_option maxHeartbeats 4000000 in
theorem op_mean (hσ : lr_S σ) {w : lt_W} {A : la_A} (h : lr_0 w A) (x y : Int32) : lr_ok (f_X11_mean σ 0 x y) (f_X12_mean σ 233 x y) w := by
  have h7 := h.n7
  have r06 : lt_r σ 0 6 = 21 := hσ.r 0 6 (by decide) (by decide)
  have r013 : lt_r σ 0 13 = 169 := hσ.r 0 13 (by decide) (by decide)
  have k8 : ∀ (y : Option (Int32 × lt_W)), lt_ck 8 2560 y = y := fun y => lu_ck (i := 8) (by decide) (by decide)
  by_cases c : lq_b x 0 9999
  · by_cases c2 : lq_b y 1 20
    · obtain ⟨xn, -, hx, rfl⟩ := c.R (by decide) (by decide)
      obtain ⟨yn, hy1, hy, rfl⟩ := c2.R (by decide) (by decide)
      have opC : f_X11_mean σ 0 (nI xn) (nI yn) w = if (nI xn + nI yn) - 1 ≤ 9999 then (if lt_gi w 21 0 = 0 then some (0, lt_si w 0 0 6) else Option.bind (f_X5_copyFrom σ 170 12 w) (fun q7 => fb_X11_mean_74 σ 0 lt_fu (nI xn) (nI yn) 0 0 q7)) else some (0, lt_si w 0 0 1) := by
        unfold f_X11_mean fb_X11_mean_0
        rw [lq_within_y (lo := 0) (hi := 9999) 0 9999 rfl rfl c, lu_bind, if_neg lu_10, lq_within_y (lo := 1) (hi := 20) 1 20 rfl rfl c2, lu_bind, if_neg lu_10, r06, r013, lq_r169_2 hσ, lr_now hσ]
        rfl
      have opM : ∀ w1, f_X12_mean σ 233 (nI xn) (nI yn) w1 = if (nI xn + nI yn) - 1 ≤ 9999 then (if lt_gi w1 234 8 = -1 then some (0, lt_si w1 233 2 6) else Option.bind (f_X12_keeps σ 233 2140 w1) (fun q4 => fb_X12_mean_71 σ 233 lt_fu (nI xn) (nI yn) 0 0 q4)) else some (0, lt_si w1 233 2 1) := fun w1 => by
        unfold f_X12_mean fb_X12_mean_0
        rw [lq_from_y (lo := 0) (hi := 9999) 0 9999 rfl rfl (by decide) (by decide) c, lu_bind, if_neg lu_10, lq_from_y (lo := 1) (hi := 20) 1 20 rfl rfl (by decide) (by decide) c2, lu_bind, if_neg lu_10, lr_mS hσ, k8, lr_at hσ]
        rfl
      by_cases c3 : (nI xn + nI yn) - 1 ≤ 9999
      · rcases h.1.2.2.2.2.2.1 with ⟨g1, g2⟩ | ⟨g1, N, I, P1, P2, P3, P4, P5, P6, P7, P8⟩
        · refine op_refuse2 h (r := 0) (st := 6) ?_ (fun w1 h1 hq => ?_)
          · rw [opC, if_pos c3, if_pos g1]
          · rw [opM, if_pos c3, if_pos ((hq.1.1 234 8 (by unfold lr_px; omega)).trans g2)]
        · obtain ⟨S', hS', kC, kM⟩ := lz_mean hσ P6 P1 P4 P7 h.O hx hy (fun g => lt_gl w 13 g) yn 0 0 (by omega) (by omega)
          obtain ⟨wa, a1, a2, a3, a4, a5⟩ := lc_copy (w := w) (lr_tab hσ (o := 170) (by decide)) (lr_nowS hσ) (by omega)
          obtain ⟨u', b1, b2, b3, b4, b5⟩ := kC lt_fu wa (by unfold lt_fu; omega) (h.c.congr fun a k z1 z2 => (a5 a k (by omega)).1) (h.c.move a2 a3) (fun g hg => a4 g hg) (fun g hg => (a5 13 g (by omega)).2) (by rw [(a5 21 1 (by omega)).1]; exact P3) (fun k hk hq => ((show lw_ci w 21 I k (lw_phi I k) from P8 k hk hq).c fun a j z1 z2 => (a5 a j (by omega)).1))
          have hS9 : S' < 2 ^ 49 := by omega
          rw [lf_fraction hS9 (show yn < 2 ^ 49 by omega) (by omega)] at b1
          let w1 := lt_si (lt_sl (lt_sl u' 0 1 (lN (S' / Nat.gcd S' yn))) 0 2 (lN (yn / Nat.gcd S' yn))) 0 0 0
          have gC : ∀ a k, ¬ (12 ≤ a ∧ a ≤ 20) → a ≠ 169 → ¬ (170 ≤ a ∧ a < 179) → ¬ (a = 0 ∧ k = 0) → lt_gi w1 a k = lt_gi w a k := fun a k z1 z2 z3 z4 => by
            show lt_gi (lt_si (lt_sl (lt_sl u' 0 1 _) 0 2 _) 0 0 0) a k = _
            rw [lu_ne (by omega), lu_gisl, lu_gisl, b4 a k z1 z2, (a5 a k (by omega)).1]
          have lC : ∀ a k, ¬ (12 ≤ a ∧ a ≤ 20) → ¬ (170 ≤ a ∧ a < 179) → ¬ (a = 0 ∧ (k = 1 ∨ k = 2)) → lt_gl w1 a k = lt_gl w a k := fun a k z1 z3 z4 => by
            show lt_gl (lt_si (lt_sl (lt_sl u' 0 1 _) 0 2 _) 0 0 0) a k = _
            rw [lu_glsi, lu_glsl, if_neg (by omega), lu_glsl, if_neg (by omega), b5 a k z1, (a5 a k (by omega)).2]
          have t1 : lc_T w1 12 A := (show lc_T (lt_sl (lt_sl u' 0 1 _) 0 2 _) 12 A from b2).out (by omega)
          have eqC : f_X11_mean σ 0 (nI xn) (nI yn) w = some (1, w1) := by
            rw [opC, if_pos c3, if_neg (by rw [show lt_gi w 21 0 = 1 from g1]; decide), a1, lu_bind]
            exact b1
          have hm1 : lm_T w1 234 0 A := h.1.1.2.2.congr fun k _ _ _ => gC _ _ (by omega) (by omega) (by omega) (by omega)
          have P2' : lt_gi w1 234 8 = nI N := (gC _ _ (by omega) (by omega) (by omega) (by omega)).trans P2
          obtain ⟨v0, d1, d2, d3⟩ := m_keeps hσ (b := 2140) (by decide) (by decide) w1
          have hlp1 : lr_lp w1 := fun k hk => by rw [gC _ _ (by omega) (by omega) (by omega) (by omega)]; exact h.1.2.2.2.2.2.2.2.2 k hk
          obtain ⟨v', e1, e2, e3, e4, e5, e6⟩ := kM lt_fu v0 (by unfold lt_fu; omega) (hm1.congr fun k hk _ _ => d3.2 _ _ (by omega)) (hm1.congr fun k hk _ _ => by rw [Nat.zero_add]; exact d2 k hk) (fun k hk => by rw [d3.2 _ _ (by omega)]; exact hlp1 k hk) (by rw [d3.2 _ _ (by omega)]; exact P2') (by rw [d2 8 (by decide)]; exact P2') (fun k hk i hi => by
            rw [d3.2 _ _ (by omega), gC _ _ (by omega) (by omega) (by omega) (by omega)]
            have := P5 k hk i hi
            rw [Nat.zero_add] at this; exact this)
          rw [lf_tells hS9 (show yn < 2 ^ 49 by omega) (by omega)] at e1
          let w2 := lt_si (lt_sl (lt_sl v' 233 3 (lN (S' / Nat.gcd S' yn))) 233 4 (lN (yn / Nat.gcd S' yn))) 233 2 0
          have gM : ∀ a k, ¬ (a = 234 ∧ (k < 60 ∨ 2140 ≤ k)) → ¬ (a = 233 ∧ (k = 2 ∨ k = 34 ∨ k = 35)) → a ≠ 252 → a ≠ 253 → lt_gi w2 a k = lt_gi w1 a k := fun a k z1 z2 z3 z4 => by
            show lt_gi (lt_si (lt_sl (lt_sl v' 233 3 _) 233 4 _) 233 2 0) a k = _
            rw [lu_ne (by omega), lu_gisl, lu_gisl, e5 a k (by omega) (by omega) z3 z4, d3.2 a k (by omega)]
          have h8w : lt_gi w2 234 8 = lt_gi w 234 8 := by
            show lt_gi (lt_si (lt_sl (lt_sl v' 233 3 _) 233 4 _) 233 2 0) 234 8 = _
            rw [lu_ne (by omega), lu_gisl, lu_gisl, e3]; exact P2.symm
          have G : ∀ a k, ¬ (12 ≤ a ∧ a ≤ 20) → a ≠ 169 → ¬ (170 ≤ a ∧ a < 179) → ¬ (a = 0 ∧ k = 0) → ¬ (a = 234 ∧ (k < 60 ∧ k ≠ 8 ∨ 2140 ≤ k)) → ¬ (a = 233 ∧ (k = 2 ∨ k = 34 ∨ k = 35)) → a ≠ 252 → a ≠ 253 → lt_gi w2 a k = lt_gi w a k := fun a k z1 z2 z3 z4 z5 z6 z7 z8 => by
            by_cases e8 : a = 234 ∧ k = 8
            · rw [e8.1, e8.2]; exact h8w
            · rw [gM a k (by omega) z6 z7 z8]; exact gC a k z1 z2 z3 z4
          have GL : ∀ a k, ¬ (12 ≤ a ∧ a ≤ 20) → ¬ (170 ≤ a ∧ a < 179) → ¬ (a = 0 ∧ (k = 1 ∨ k = 2)) → ¬ (a = 233 ∧ (k = 3 ∨ k = 4)) → lt_gl w2 a k = lt_gl w a k := fun a k z1 z2 z3 z4 => by
            show lt_gl (lt_si (lt_sl (lt_sl v' 233 3 _) 233 4 _) 233 2 0) a k = _
            rw [lu_glsi, lu_glsl, if_neg (by omega), lu_glsl, if_neg (by omega), e6, d3.1]; exact lC a k z1 z2 z3
          have L13 : ∀ g, g < 7 → lt_gl w2 13 g = lt_gl w 13 g := fun g hg => by
            show lt_gl (lt_si (lt_sl (lt_sl v' 233 3 _) 233 4 _) 233 2 0) 13 g = _
            rw [lu_glsi, lu_glsl, if_neg (by omega), lu_glsl, if_neg (by omega), e6, d3.1]
            show lt_gl (lt_si (lt_sl (lt_sl u' 0 1 _) 0 2 _) 0 0 0) 13 g = _
            rw [lu_glsi, lu_glsl, if_neg (by omega), lu_glsl, if_neg (by omega)]; exact b3 g hg
          have cl : ∀ a b e f : Nat, lt_gl (lt_si (lt_sl (lt_sl v' 233 3 (lN (S' / Nat.gcd S' yn))) 233 4 (lN (yn / Nat.gcd S' yn))) 233 2 0) 0 1 = lN (S' / Nat.gcd S' yn) := fun _ _ _ _ => by
            rw [lu_glsi, lu_glsl, if_neg (by omega), lu_glsl, if_neg (by omega), e6, d3.1]
            show lt_gl (lt_si (lt_sl (lt_sl u' 0 1 _) 0 2 _) 0 0 0) 0 1 = _
            rw [lu_glsi, lu_glsl, if_neg (by omega), lu_glsl, if_pos ⟨rfl, rfl⟩]
          have cl2 : lt_gl w2 0 2 = lN (yn / Nat.gcd S' yn) := by
            show lt_gl (lt_si (lt_sl (lt_sl v' 233 3 _) 233 4 _) 233 2 0) 0 2 = _
            rw [lu_glsi, lu_glsl, if_neg (by omega), lu_glsl, if_neg (by omega), e6, d3.1]
            show lt_gl (lt_si (lt_sl (lt_sl u' 0 1 _) 0 2 _) 0 0 0) 0 2 = _
            rw [lu_glsi, lu_glsl, if_pos ⟨rfl, rfl⟩]
          refine ⟨1, w1, w2, eqC, ?_, ?_, A, ⟨⟨h.O, t1.congr fun a k z1 z2 => gM _ _ (by omega) (by omega) (by omega) (by omega), e2.congr fun k hk _ _ => (lu_ne (by omega)).trans rfl⟩, h.1.2.1.c (fun a k z => G a k (by omega) (by omega) (by omega) (by omega) (by omega) (by omega) (by omega) (by omega)) (fun a k z => GL a k (by omega) (by omega) (by omega) (by omega)), h.1.2.2.1.c (fun a k z => G a k (by omega) (by omega) (by omega) (by omega) (by omega) (by omega) (by omega) (by omega)), h.1.2.2.2.1.c (fun a k z => G a k (by omega) (by omega) (by omega) (by omega) (by omega) (by omega) (by omega) (by omega)), h.1.2.2.2.2.1.congr (fun g hg => L13 g (by omega)) (fun g hg => GL _ _ (by omega) (by omega) (by omega) (by omega)), h.1.2.2.2.2.2.1.c (fun a k z => G a k (by omega) (by omega) (by omega) (by omega) (by omega) (by omega) (by omega) (by omega)), h.1.2.2.2.2.2.2.1.c (fun a k z => G a k (by omega) (by omega) (by omega) (by omega) (by omega) (by omega) (by omega) (by omega)) (fun a k z => GL a k (by omega) (by omega) (by omega) (by omega)), h.1.2.2.2.2.2.2.2.1.c (fun a k z => G a k (by omega) (by omega) (by omega) (by omega) (by omega) (by omega) (by omega) (by omega)), fun k hk => ?_⟩, ?_, ?_⟩
          · have d1' : f_X12_keeps σ 233 2140 w1 = some v0 := d1
            rw [opM, if_pos c3, if_neg (by rw [P2']; exact lu_ne1 (by omega)), d1', lu_bind]
            exact e1
          · have y1 : lt_gi w2 233 2 = 0 := lu_eq
            have y2 : lt_gi w1 0 0 = 0 := lu_eq
            rw [y1, gM _ _ (by omega) (by omega) (by omega) (by omega), y2]
          · exact (show lt_gi w2 252 k = lt_gi v' 252 k from lu_ne (by omega)) ▸ e4 k hk
          · show lt_gl w2 0 1 = lt_gl w2 233 3
            rw [show lt_gl w2 0 1 = _ from cl 0 0 0 0]
            show _ = lt_gl (lt_si (lt_sl (lt_sl v' 233 3 _) 233 4 _) 233 2 0) 233 3
            rw [lu_glsi, lu_glsl, if_neg (by omega), lu_glsl, if_pos ⟨rfl, rfl⟩]
          · show lt_gl w2 0 2 = lt_gl w2 233 4
            rw [cl2]
            show _ = lt_gl (lt_si (lt_sl (lt_sl v' 233 3 _) 233 4 _) 233 2 0) 233 4
            rw [lu_glsi, lu_glsl, if_pos ⟨rfl, rfl⟩]
      · refine op_refuse h (r := 0) (st := 1) ?_ (fun w1 h1 => ?_)
        · rw [opC, if_neg c3]
        · rw [opM, if_neg c3]
    · refine op_refuse h (r := 0) (st := 1) ?_ (fun w1 h1 => ?_)
      · unfold f_X11_mean fb_X11_mean_0
        rw [lq_within_y (lo := 0) (hi := 9999) 0 9999 rfl rfl c, lu_bind, if_neg lu_10, lq_within_n (lo := 1) (hi := 20) 1 20 rfl rfl c2, lu_bind, if_pos rfl]; rfl
      · unfold f_X12_mean fb_X12_mean_0
        rw [lq_from_y (lo := 0) (hi := 9999) 0 9999 rfl rfl (by decide) (by decide) c, lu_bind, if_neg lu_10, lq_from_n (lo := 1) (hi := 20) 1 20 rfl rfl (by decide) (by decide) c2, lu_bind, if_pos rfl]; rfl
  · refine op_refuse h (r := 0) (st := 1) ?_ (fun w1 h1 => ?_)
    · unfold f_X11_mean fb_X11_mean_0
      rw [lq_within_n (lo := 0) (hi := 9999) 0 9999 rfl rfl c, lu_bind, if_pos rfl]; rfl
    · unfold f_X12_mean fb_X12_mean_0
      rw [lq_from_n (lo := 0) (hi := 9999) 0 9999 rfl rfl (by decide) (by decide) c, lu_bind, if_pos rfl]; rfl
end LN