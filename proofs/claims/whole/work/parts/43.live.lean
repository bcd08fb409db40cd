/-! THE WEEKS LIVED: live -/
section LL
variable {σ : lt_S}
set_option maxHeartbeats 2000000 in
/-- one life, both sides -/
theorem lz_both (hσ : lr_S σ) {I : Nat → Nat → Int32} {N : Nat} {A : la_A} (hok : ∀ k, k < N → lw_ok I (la_n A) k) (hN6 : N ≤ 60) (hphi : lw_phi I N ≤ 30) (hb : lw_bal I 0 N 3) (hO : la_Ok A) {x : Nat} (hx : x < 65536) : ∃ (A' : la_A) (s' : Nat) (m' lf : Int32), la_Ok A' ∧ la_n A' = la_n A ∧ s' ≤ 300 ∧ (lf = 0 ∨ lf = 1) ∧
  (∀ w, lc_T w 12 A → lt_gi w 21 1 = nI (lw_phi I N) → (∀ k, k < N → lw_op I k ≠ 18 → lw_ci w 21 I k (lw_phi I k)) → ∃ w', f_X2_pass σ 169 (nI x) w = some w' ∧ lc_T w' 12 A' ∧ lt_gi w' 169 5 = nI s' ∧ lt_gi w' 169 6 = m' ∧ lt_gi w' 169 7 = lf ∧ lz_Fc w w') ∧
  (∀ w, lm_T w 234 0 A → lr_lp w → lt_gi w 234 8 = nI N → (∀ k, k < N → ∀ i, i < 6 → lt_gi w 234 (60 + 6 * k + i) = I k i) → ∃ w', f_X12_lives σ 233 (nI x) w = some w' ∧ lm_T w' 234 0 A' ∧ lt_gi w' 233 35 = nI s' ∧ lt_gi w' 253 0 = m' ∧ lt_gi w' 253 1 = A'.1 6 - A.1 6 ∧ lt_gi w' 253 2 = A'.1 7 - A.1 7 ∧ lt_gi w' 253 3 = lz_c A - lz_c A' ∧ lt_gi w' 253 4 = lf ∧ lr_lp w' ∧ lz_Fl w w') := by
  obtain ⟨-, hX⟩ := lz_X.bal hσ (A0 := A) hok hN6 hphi hb
  obtain ⟨A', dr', s', m', ov, lf, o1, o2, o3, o4, o5, o6, hC, hM⟩ := hX (Nat.le_refl _) A x 0 0 hO rfl hx (by decide)
  have ph0 : lw_phi I 0 = 0 := rfl
  refine ⟨A', s', m', lf, o1, o2, o5, o6.2, fun w hA h21 hci => ?_, fun w hA hlp h8 hI => ?_⟩
  · let w5 := lt_si (lt_si (lt_si (lt_si (lt_si w 169 3 (nI x)) 169 4 0) 169 5 0) 169 6 0) 169 7 0
    have hF : lz_Fc w w5 := (((((lz_Fc.refl w).si (by decide) (by decide)).si (by decide) (by decide)).si (by decide) (by decide)).si (by decide) (by decide)).si (by decide) (by decide)
    have hS : lz_CS I N A x 0 0 0 0 w5 := by
      refine ⟨⟨((((hA.out (by omega)).out (by omega)).out (by omega)).out (by omega)).out (by omega), ?_, ?_⟩, ?_, ?_, lu_eq, lz_ciF hci hF⟩
      · show lt_gi (lt_si (lt_si (lt_si (lt_si (lt_si w 169 3 (nI x)) 169 4 0) 169 5 0) 169 6 0) 169 7 0) 169 3 = _
        rw [lu_ne (by omega), lu_ne (by omega), lu_ne (by omega), lu_ne (by omega), lu_eq]
      · show lt_gi (lt_si (lt_si (lt_si (lt_si (lt_si w 169 3 (nI x)) 169 4 0) 169 5 0) 169 6 0) 169 7 0) 169 6 = _
        rw [lu_ne (by omega), lu_eq]
      · show lt_gi (lt_si (lt_si (lt_si (lt_si (lt_si w 169 3 (nI x)) 169 4 0) 169 5 0) 169 6 0) 169 7 0) 169 4 = _
        rw [lu_ne (by omega), lu_ne (by omega), lu_ne (by omega), lu_eq]
      · show lt_gi (lt_si (lt_si (lt_si (lt_si (lt_si w 169 3 (nI x)) 169 4 0) 169 5 0) 169 6 0) 169 7 0) 169 5 = _
        rw [lu_ne (by omega), lu_ne (by omega), lu_eq]; rfl
    have h21' : lt_gi w5 21 1 = nI (lw_phi I N) := (hF.2 21 1 (by omega) (by omega)).trans h21
    obtain ⟨r, w', z1, z2, z3, z4, z5⟩ := hC 7 0 0 (lw_phi I N) w5 (by decide) (by decide) (by omega) (Nat.le_refl _) hphi hS
    refine ⟨w', ?_, z2.1.1, z2.2.2.1, z2.1.2.2, z2.2.2.2.1, hF.trans z3⟩
    have run : lz_G σ 7 lt_fu (lw_phi I N) 0 0 0 w5 = some w' := by
      cases ov with
      | true =>
        have := z5 rfl (lt_fu - r - 1)
        rw [show lt_fu - r - 1 + r + 1 = lt_fu by unfold lt_fu; omega] at this
        exact this
      | false =>
        have := z4 rfl (lt_fu - r)
        rw [show lt_fu - r + r = lt_fu by unfold lt_fu; omega, ph0] at this
        rw [this, show lt_fu - r = lt_fu - r - 1 + 1 by unfold lt_fu; omega]
        unfold lz_G
        rw [fb_X2_goThrough_6]
        split
        · rfl
        · rw [if_pos (nI_le (Nat.le_refl _) (by omega))]
    unfold f_X2_pass fb_X2_pass_0
    rw [lu_let, lu_let, lu_let, lu_let, lu_let, lq_r169_1 hσ]
    show Option.bind (f_X2_goThrough σ 169 8 0 (lt_gi w5 21 1) 0 w5) _ = _
    rw [h21']
    show Option.bind (lz_G σ 7 lt_fu (lw_phi I N) 0 0 0 w5) _ = _
    rw [run, lu_bind]
  · have start : ∃ v, (∀ r, fb_X12_lives_32 σ 233 lt_fu 0 v = some r → f_X12_lives σ 233 (nI x) w = some r) ∧ lz_MS I N A A x 0 0 0 v ∧ lz_Fl w v := by
      let v0 := lt_si (lt_si w 233 34 (nI x)) 233 35 0
      let v := lt_si (lt_si (lt_si (lt_si (lt_si v0 253 0 0) 253 1 0) 253 2 0) 253 3 0) 253 4 0
      have g : ∀ a j, ¬ (a = 233 ∧ (j = 34 ∨ j = 35)) → a ≠ 253 → lt_gi v a j = lt_gi w a j := fun a j z1 z2 => by
        show lt_gi (lt_si (lt_si (lt_si (lt_si (lt_si (lt_si (lt_si w 233 34 (nI x)) 233 35 0) 253 0 0) 253 1 0) 253 2 0) 253 3 0) 253 4 0) a j = _
        simp (disch := omega) only [lu_ne]
      have g5 : ∀ j, j < 5 → lt_gi v 253 j = 0 := fun j hj => by
        show lt_gi (lt_si (lt_si (lt_si (lt_si (lt_si v0 253 0 0) 253 1 0) 253 2 0) 253 3 0) 253 4 0) 253 j = 0
        have : j = 0 ∨ j = 1 ∨ j = 2 ∨ j = 3 ∨ j = 4 := by omega
        rcases this with rfl | rfl | rfl | rfl | rfl <;> simp (disch := omega) only [lu_ne, lu_eq]
      refine ⟨v, fun r hr => ?_, ⟨⟨hA.congr fun k _ _ _ => g _ _ (by omega) (by omega), ?_, ?_, ?_, ?_⟩, ?_, g5 0 (by decide), g5 4 (by decide), fun j hj => by rw [g _ _ (by omega) (by omega)]; exact hlp j hj, (g _ _ (by omega) (by omega)).trans h8, fun k hk i hi => (g _ _ (by omega) (by omega)).trans (hI k hk i hi)⟩, ⟨fun _ _ => rfl, fun a j _ z1 _ z2 => g a j z1 z2⟩⟩
      · unfold f_X12_lives fb_X12_lives_0
        rw [lu_let, lu_let]
        show fb_X12_lives_12 σ 233 lt_fu (nI 0) v0 = _
        have step : ∀ f k u, k < 5 → fb_X12_lives_12 σ 233 (f + 1) (nI k) u = fb_X12_lives_12 σ 233 f (nI (k + 1)) (lt_si u 253 k 0) := fun f k u hk => by
          rw [fb_X12_lives_12, if_neg (show ¬ (5 : Int32) ≤ nI k from nI_ge (b := 5) hk (by decide)), lq_r233_37 hσ, lq_l253 hσ, lu_ck hk (by decide), lu_let, nI_clamp (by omega), nI_1]
        rw [show lt_fu = lt_fu - 6 + 1 + 1 + 1 + 1 + 1 + 1 by unfold lt_fu; omega, step _ _ _ (by decide), step _ _ _ (by decide), step _ _ _ (by decide), step _ _ _ (by decide), step _ _ _ (by decide), fb_X12_lives_12, if_pos (show (5 : Int32) ≤ nI (0 + 1 + 1 + 1 + 1 + 1) by decide)]
        exact hr
      · show lt_gi (lt_si (lt_si (lt_si (lt_si (lt_si (lt_si (lt_si w 233 34 (nI x)) 233 35 0) 253 0 0) 253 1 0) 253 2 0) 253 3 0) 253 4 0) 233 34 = _
        simp (disch := omega) only [lu_ne, lu_eq]
      · rw [g5 1 (by decide)]; exact (Int32.sub_self _).symm
      · rw [g5 2 (by decide)]; exact (Int32.sub_self _).symm
      · rw [g5 3 (by decide)]; exact (Int32.sub_self _).symm
      · show lt_gi (lt_si (lt_si (lt_si (lt_si (lt_si (lt_si (lt_si w 233 34 (nI x)) 233 35 0) 253 0 0) 253 1 0) 253 2 0) 253 3 0) 253 4 0) 233 35 = _
        simp (disch := omega) only [lu_ne, lu_eq]; rfl
    obtain ⟨v, v1, v2, v3⟩ := start
    obtain ⟨g', w', z1, z2, z3, z4, z5, z6, z7⟩ := hM v lt_fu (by unfold lt_fu; omega) v2
    have run : fb_X12_lives_32 σ 233 lt_fu 0 v = some w' := by
      have h0 : 0 = N ∨ lw_op I 0 ≠ 18 := hb (fun a b _ => a = b ∨ lw_op I a ≠ 18) (fun a d => Or.inl rfl)
        (fun a k d h q _ _ => h.elim (fun e => Or.inr (e ▸ q)) Or.inr)
        (fun a k c d h hk _ _ _ _ => h.elim (fun e => Or.inr (by rw [e]; omega)) Or.inr)
      have start : ∀ f, lz_P σ f lt_fu 0 v = fb_X12_lives_32 σ 233 f 0 v := fun f => by
        rcases Nat.eq_zero_or_pos N with e | n0
        · unfold lz_P
          rw [show lt_fu = lt_fu - 1 + 1 by unfold lt_fu; omega, fb_X12_behindEnds_2, lr_mS hσ, lr_at hσ]
          show Option.bind (lt_ck (nI 8) 2560 (if lt_gi v 234 8 ≤ nI 0 then _ else _)) _ = _
          rw [lz_k2560 (by decide), v2.2.2.2.2.2.1, e, if_pos (nI_le (Nat.le_refl _) (by decide))]
          rfl
        · have e : lw_op I 0 ≠ 18 := h0.resolve_left (by omega)
          have e0 := v2.2.2.2.2.2.2 0 n0 0 (by decide)
          exact lz_Pi hσ (by unfold lt_fu; omega) v2.2.2.2.2.2.1 hN6 n0 (by rw [Nat.add_zero] at e0; rw [e0, (hok 0 n0).1]) e (lz_opI (hok 0 n0))
      have gl : ov = false → 1 ≤ g' := fun z => by
        rcases Nat.eq_zero_or_pos N with e | n0
        · rw [z4 e.symm]; unfold lt_fu; omega
        · have := z5 n0 z
          unfold lt_fu at this; omega
      cases ov with
      | true =>
        have := z7 rfl (lt_fu - s' - 1)
        rw [Nat.sub_zero, show lt_fu - s' - 1 + s' + 1 = lt_fu by unfold lt_fu; omega, start] at this
        exact this
      | false =>
        have := z6 rfl (lt_fu - s')
        rw [Nat.sub_zero, show lt_fu - s' + s' = lt_fu by unfold lt_fu; omega, start] at this
        rw [this]
        obtain ⟨g, rfl⟩ : ∃ j, g' = j + 1 := ⟨g' - 1, by have := gl rfl; omega⟩
        unfold lz_P
        rw [fb_X12_behindEnds_2, lr_mS hσ, lr_at hσ]
        show Option.bind (lt_ck (nI 8) 2560 (if lt_gi w' 234 8 ≤ nI N then _ else _)) _ = _
        rw [lz_k2560 (by decide), z1.2.2.2.2.2.1, if_pos (nI_le (Nat.le_refl _) (by omega)), lu_bind, show lt_fu - s' = lt_fu - s' - 1 + 1 by unfold lt_fu; omega, fb_X12_lives_32, lr_mS hσ, lr_at hσ]
        show lt_ck (nI 8) 2560 (if lt_gi w' 234 8 ≤ nI N then _ else _) = _
        rw [lz_k2560 (by decide), z1.2.2.2.2.2.1, if_pos (nI_le (Nat.le_refl _) (by omega))]
    obtain ⟨⟨t1, t2, t3, t4, t5⟩, t6, t7, t8, t9, -⟩ := z1
    exact ⟨w', v1 w' run, t1, t6, t7, t3, t4, t5, t8, t9, v3.trans z2⟩
theorem lz_k5c {α : Type} (y : Option α) : lt_ck 0 5 y = y ∧ lt_ck 1 5 y = y ∧ lt_ck 2 5 y = y ∧ lt_ck 3 5 y = y ∧ lt_ck 4 5 y = y := ⟨lu_ck (i := 0) (by decide) (by decide), lu_ck (i := 1) (by decide) (by decide), lu_ck (i := 2) (by decide) (by decide), lu_ck (i := 3) (by decide) (by decide), lu_ck (i := 4) (by decide) (by decide)⟩
theorem lz_l254 (hσ : lr_S σ) : lt_len σ 254 = 5 := hσ.l 254 (by decide)
/-- what was lived, put aside by the reference -/
theorem lz_43 (hσ : lr_S σ) (v : lt_W) : ∃ u, fb_X12_live_43 σ 233 lt_fu 0 v = some (lt_gi v 233 35, lt_si (lt_si u 233 39 1) 233 2 0) ∧ (∀ j, j < 5 → lt_gi u 254 j = lt_gi v 253 j) ∧ (∀ a k, a ≠ 254 → lt_gi u a k = lt_gi v a k) ∧ ∀ a k, lt_gl u a k = lt_gl v a k := by
  have loop : ∀ r k f u, k + r = 5 → r < f → (∀ j, j < k → lt_gi u 254 j = lt_gi v 253 j) → (∀ a k, a ≠ 254 → lt_gi u a k = lt_gi v a k) → (∀ a k, lt_gl u a k = lt_gl v a k) → ∃ u', fb_X12_live_43 σ 233 f (nI k) u = some (lt_gi v 233 35, lt_si (lt_si u' 233 39 1) 233 2 0) ∧ (∀ j, j < 5 → lt_gi u' 254 j = lt_gi v 253 j) ∧ (∀ a k, a ≠ 254 → lt_gi u' a k = lt_gi v a k) ∧ ∀ a k, lt_gl u' a k = lt_gl v a k := by
    intro r
    induction r with
    | zero =>
      intro k f u hk hf h1 h2 h3
      obtain ⟨f, rfl⟩ : ∃ g, f = g + 1 := ⟨f - 1, by omega⟩
      obtain rfl : k = 5 := by omega
      refine ⟨u, ?_, h1, h2, h3⟩
      rw [fb_X12_live_43, if_pos (show (5 : Int32) ≤ nI 5 by decide), lu_let, lu_ne (by omega), h2 _ _ (by omega)]
      rfl
    | succ r ih =>
      intro k f u hk hf h1 h2 h3
      obtain ⟨f, rfl⟩ : ∃ g, f = g + 1 := ⟨f - 1, by omega⟩
      obtain ⟨u', z1, z2⟩ := ih (k + 1) f (lt_si u 254 k (lt_gi u 253 k)) (by omega) (by omega) (fun j hj => by
        rw [lu_gisi]
        by_cases e : j = k
        · rw [if_pos ⟨rfl, e⟩, e]; exact h2 _ _ (by omega)
        · rw [if_neg (fun z => e z.2)]; exact h1 j (by omega)) (fun a j z => by rw [lu_ne (Or.inl z)]; exact h2 a j z) h3
      refine ⟨u', ?_, z2⟩
      rw [fb_X12_live_43, if_neg (show ¬ (5 : Int32) ≤ nI k from nI_ge (b := 5) (by omega) (by decide)), lq_r233_37 hσ, lq_l253 hσ, lq_r233_38 hσ, lz_l254 hσ, lu_ck (by omega) (by decide), lu_ck (by omega) (by decide), lu_let, nI_clamp (by omega), nI_1]
      exact z1
  exact loop 5 0 lt_fu v (by decide) (by unfold lt_fu; omega) (fun j hj => by omega) (fun _ _ _ => rfl) (fun _ _ => rfl)
set_option maxHeartbeats 4000000 in
theorem op_live (hσ : lr_S σ) {w : lt_W} {A : la_A} (h : lr_0 w A) (x : Int32) : lr_ok (f_X11_live σ 0 x) (f_X12_live σ 233 x) w := by
  have h7 := h.n7
  have r06 : lt_r σ 0 6 = 21 := hσ.r 0 6 (by decide) (by decide)
  have r013 : lt_r σ 0 13 = 169 := hσ.r 0 13 (by decide) (by decide)
  have r014 : lt_r σ 0 14 = 179 := hσ.r 0 14 (by decide) (by decide)
  have l179 : lt_len σ 179 = 5 := hσ.l 179 (by decide)
  have k8 : ∀ (y : Option (Int32 × lt_W)), lt_ck 8 2560 y = y := fun y => lu_ck (i := 8) (by decide) (by decide)
  by_cases c : lq_b x 0 9999
  · obtain ⟨xn, -, hx, rfl⟩ := c.R (by decide) (by decide)
    have opM : ∀ w1, f_X12_live σ 233 (nI xn) w1 = if lt_gi w1 234 8 = -1 then some (-1, lt_si w1 233 2 6) else Option.bind (f_X12_lives σ 233 (nI xn) w1) (fun q3 => fb_X12_live_43 σ 233 lt_fu 0 q3) := fun w1 => by
      unfold f_X12_live fb_X12_live_0
      rw [lq_from_y (lo := 0) (hi := 9999) 0 9999 rfl rfl (by decide) (by decide) c, lu_bind, if_neg lu_10, lr_mS hσ, k8, lr_at hσ]
      rfl
    rcases h.1.2.2.2.2.2.1 with ⟨g1, g2⟩ | ⟨g1, N, I, P1, P2, P3, P4, P5, P6, P7, P8⟩
    · refine op_refuse2 h (r := -1) (st := 6) ?_ (fun w1 h1 hq => ?_)
      · unfold f_X11_live fb_X11_live_0
        rw [lq_within_y (lo := 0) (hi := 9999) 0 9999 rfl rfl c, lu_bind, if_neg lu_10, r06, g1, if_pos rfl]; rfl
      · have g2' : lt_gi w1 234 8 = -1 := (hq.1.1 234 8 (by unfold lr_px; omega)).trans g2
        rw [opM, if_pos g2']
    · obtain ⟨A', s', m', lf, o1, o2, o5, o6, hC, hM⟩ := lz_both hσ P6 P1 P4 P7 h.O (x := xn) (by omega)
      have hP3 : lt_gi w 21 1 = nI (lw_phi I N) := P3
      obtain ⟨w', e1, e2, e3, e4, e5, e6⟩ := hC w h.c hP3 (fun k hk hq => P8 k hk hq)
      let u3 := lt_si (lt_si (lt_si w' 179 0 m') 179 1 (A'.1 6 - A.1 6)) 179 2 (A'.1 7 - A.1 7)
      let u5 := lt_si (lt_si u3 179 3 (lz_c A - lz_c A')) 179 4 lf
      let w1 := lt_si (lt_si u5 0 15 1) 0 0 0
      have t3 : lc_T u3 12 A' := ((e2.out (by omega)).out (by omega)).out (by omega)
      have t1 : lc_T w1 12 A' := (((t3.out (by omega)).out (by omega)).out (by omega)).out (by omega)
      have eqC : f_X11_live σ 0 (nI xn) w = some (nI s', w1) := by
        have c6 : lt_gi w 12 6 = A.1 6 := h.c.2.2.1 6 (by decide)
        have c7 : lt_gi w 12 7 = A.1 7 := h.c.2.2.1 7 (by decide)
        have d6 : lt_gi w' 12 6 = A'.1 6 := e2.2.2.1 6 (by decide)
        have d7 : lt_gi w' 12 7 = A'.1 7 := e2.2.2.1 7 (by decide)
        unfold f_X11_live fb_X11_live_0
        rw [lq_within_y (lo := 0) (hi := 9999) 0 9999 rfl rfl c, lu_bind, if_neg lu_10, r06, g1, if_neg lu_10, lr_now hσ, lc_countThere h.c, lu_bind, r013, e1, lu_bind, r014, l179, (lz_k5c _).1, lu_let, e4, c6, c7, (lz_k5c _).2.1, lu_let, lu_ne (by omega), d6, (lz_k5c _).2.2.1, lu_let, lu_ne (by omega), lu_ne (by omega), d7]
        show Option.bind (f_X5_countThere σ 12 u3) _ = _
        rw [lc_countThere t3, lu_bind, (lz_k5c _).2.2.2.1, lu_let]
        show (if lt_gi (lt_si u3 179 3 (lz_c A - lz_c A')) 169 7 = 0 then fb_X11_live_146 σ 0 179 4 0 (lt_si u3 179 3 (lz_c A - lz_c A')) else fb_X11_live_146 σ 0 179 4 1 (lt_si u3 179 3 (lz_c A - lz_c A'))) = _
        have e7 : lt_gi (lt_si u3 179 3 (lz_c A - lz_c A')) 169 7 = lf := by
          show lt_gi (lt_si (lt_si (lt_si (lt_si w' 179 0 m') 179 1 (A'.1 6 - A.1 6)) 179 2 (A'.1 7 - A.1 7)) 179 3 (lz_c A - lz_c A')) 169 7 = lf
          simp (disch := omega) only [lu_ne]
          exact e5
        have op146 : ∀ y, fb_X11_live_146 σ 0 179 4 y (lt_si u3 179 3 (lz_c A - lz_c A')) = some (nI s', lt_si (lt_si (lt_si (lt_si u3 179 3 (lz_c A - lz_c A')) 179 4 y) 0 15 1) 0 0 0) := fun y => by
          unfold fb_X11_live_146
          rw [l179, (lz_k5c _).2.2.2.2, lu_let, lu_let, r013]
          have : lt_gi (lt_si (lt_si (lt_si u3 179 3 (lz_c A - lz_c A')) 179 (4 : Int32).toNatClampNeg y) 0 15 1) 169 5 = nI s' := by
            show lt_gi (lt_si (lt_si (lt_si (lt_si (lt_si (lt_si w' 179 0 m') 179 1 (A'.1 6 - A.1 6)) 179 2 (A'.1 7 - A.1 7)) 179 3 (lz_c A - lz_c A')) 179 4 y) 0 15 1) 169 5 = _
            simp (disch := omega) only [lu_ne]
            exact e3
          rw [this]
          rfl
        rw [e7, op146, op146]
        rcases o6 with z | z
        · rw [if_pos z]
          show _ = some (nI s', lt_si (lt_si (lt_si (lt_si u3 179 3 (lz_c A - lz_c A')) 179 4 lf) 0 15 1) 0 0 0)
          rw [z]
        · rw [if_neg (by rw [z]; decide)]
          show _ = some (nI s', lt_si (lt_si (lt_si (lt_si u3 179 3 (lz_c A - lz_c A')) 179 4 lf) 0 15 1) 0 0 0)
          rw [z]
      have gC : ∀ a k, ¬ (12 ≤ a ∧ a ≤ 20) → a ≠ 169 → a ≠ 179 → ¬ (a = 0 ∧ (k = 0 ∨ k = 15)) → lt_gi w1 a k = lt_gi w a k := fun a k z1 z2 z3 z4 => by
        show lt_gi (lt_si (lt_si (lt_si (lt_si (lt_si (lt_si (lt_si w' 179 0 m') 179 1 (A'.1 6 - A.1 6)) 179 2 (A'.1 7 - A.1 7)) 179 3 (lz_c A - lz_c A')) 179 4 lf) 0 15 1) 0 0 0) a k = _
        simp (disch := omega) only [lu_ne]
        exact e6.2 a k z1 (by omega)
      have g179 : ∀ k, k < 5 → lt_gi w1 179 k = (if k = 0 then m' else if k = 1 then A'.1 6 - A.1 6 else if k = 2 then A'.1 7 - A.1 7 else if k = 3 then lz_c A - lz_c A' else lf) := fun k hk => by
        show lt_gi (lt_si (lt_si (lt_si (lt_si (lt_si (lt_si (lt_si w' 179 0 m') 179 1 (A'.1 6 - A.1 6)) 179 2 (A'.1 7 - A.1 7)) 179 3 (lz_c A - lz_c A')) 179 4 lf) 0 15 1) 0 0 0) 179 k = _
        have : k = 0 ∨ k = 1 ∨ k = 2 ∨ k = 3 ∨ k = 4 := by omega
        rcases this with rfl | rfl | rfl | rfl | rfl <;> simp (disch := omega) only [lu_ne, lu_eq] <;> rfl
      have hm1 : lm_T w1 234 0 A := h.1.1.2.2.congr fun k _ _ _ => gC _ _ (by omega) (by omega) (by omega) (by omega)
      have hP5 : ∀ k, k < N → ∀ i, i < 6 → lt_gi w1 234 (60 + 6 * k + i) = I k i := fun k hk i hi => by
        rw [gC _ _ (by omega) (by omega) (by omega) (by omega)]
        have := P5 k hk i hi
        rw [Nat.zero_add] at this; exact this
      obtain ⟨v, f1, f2, f3, f4, f5, f6, f7, f8, f9, f10⟩ := hM w1 hm1 (fun k hk => by rw [gC _ _ (by omega) (by omega) (by omega) (by omega)]; exact h.1.2.2.2.2.2.2.2.2 k hk) (by rw [gC _ _ (by omega) (by omega) (by omega) (by omega)]; exact P2) hP5
      obtain ⟨u, i1, i2, i3, i4⟩ := lz_43 hσ v
      let w2 := lt_si (lt_si u 233 39 1) 233 2 0
      have gM : ∀ a k, a ≠ 254 → ¬ (a = 233 ∧ (k = 2 ∨ k = 39)) → lt_gi w2 a k = lt_gi v a k := fun a k z1 z2 => by
        show lt_gi (lt_si (lt_si u 233 39 1) 233 2 0) a k = _
        rw [lu_ne (by omega), lu_ne (by omega)]; exact i3 a k z1
      have G : ∀ a k, ¬ (12 ≤ a ∧ a ≤ 20) → a ≠ 169 → a ≠ 179 → ¬ (a = 0 ∧ (k = 0 ∨ k = 15)) → ¬ (a = 234 ∧ k < 60 ∧ k ≠ 8 ∧ k ≠ 9) → ¬ (a = 233 ∧ (k = 2 ∨ k = 34 ∨ k = 35 ∨ k = 39)) → a ≠ 252 → a ≠ 253 → a ≠ 254 → lt_gi w2 a k = lt_gi w a k := fun a k z1 z2 z3 z4 z5 z6 z7 z8 z9 => by
        rw [gM a k z9 (by omega), f10.2 a k z5 (by omega) z7 z8]; exact gC a k z1 z2 z3 z4
      have GL : ∀ a k, lt_gl w2 a k = lt_gl w a k := fun a k => (i4 a k).trans ((f10.1 a k).trans (e6.1 a k))
      refine ⟨nI s', w1, w2, eqC, ?_, ?_, A', ⟨⟨o1, t1.congr fun a k z1 z2 => ?_, f2.congr fun k hk _ _ => gM _ _ (by omega) (by omega)⟩, h.1.2.1.c (fun a k z => G a k (by omega) (by omega) (by omega) (by omega) (by omega) (by omega) (by omega) (by omega) (by omega)) (fun a k _ => GL a k), h.1.2.2.1.c (fun a k z => G a k (by omega) (by omega) (by omega) (by omega) (by omega) (by omega) (by omega) (by omega) (by omega)), h.1.2.2.2.1.c (fun a k z => G a k (by omega) (by omega) (by omega) (by omega) (by omega) (by omega) (by omega) (by omega) (by omega)), ?_, ?_, h.1.2.2.2.2.2.2.1.c (fun a k z => G a k (by omega) (by omega) (by omega) (by omega) (by omega) (by omega) (by omega) (by omega) (by omega)) (fun a k _ => GL a k), Or.inr ⟨?_, lu_ne (by omega) |>.trans lu_eq, fun k hk => ?_⟩, fun k hk => ?_⟩, h.2.c (fun a k _ => GL a k)⟩
      · rw [opM, if_neg, f1, lu_bind, i1, f3]
        rw [gC _ _ (by omega) (by omega) (by omega) (by omega)]
        have : lt_gi w 234 8 = nI N := P2
        rw [this]; exact lu_ne1 (by omega)
      · have y1 : lt_gi w2 233 2 = 0 := lu_eq
        have y2 : lt_gi w1 0 0 = 0 := lu_eq
        rw [y1, gM _ _ (by omega) (by omega), f10.2 _ _ (by omega) (by omega) (by omega) (by omega), y2]
      · rw [gM _ _ (by omega) (by omega), f10.2 _ _ (by omega) (by omega) (by omega) (by omega)]
      · rw [o2]; exact h.1.2.2.2.2.1.c h7 fun a k _ => GL a k
      · rw [o2]; exact h.1.2.2.2.2.2.1.c (fun a k z => G a k (by omega) (by omega) (by omega) (by omega) (by omega) (by omega) (by omega) (by omega) (by omega))
      · rw [gM _ _ (by omega) (by omega), f10.2 _ _ (by omega) (by omega) (by omega) (by omega)]
        exact (lu_ne (by omega)).trans lu_eq
      · have y1 : lt_gi w2 179 k = lt_gi w1 179 k := by
          rw [gM _ _ (by omega) (by omega), f10.2 _ _ (by omega) (by omega) (by omega) (by omega)]
        have y2 : lt_gi w2 254 k = lt_gi v 253 k := by
          show lt_gi (lt_si (lt_si u 233 39 1) 233 2 0) 254 k = _
          rw [lu_ne (by omega), lu_ne (by omega)]; exact i2 k hk
        rw [y1, y2, g179 k hk]
        have : k = 0 ∨ k = 1 ∨ k = 2 ∨ k = 3 ∨ k = 4 := by omega
        rcases this with rfl | rfl | rfl | rfl | rfl
        · exact f4.symm
        · exact f5.symm
        · exact f6.symm
        · exact f7.symm
        · exact f8.symm
      · rw [gM _ _ (by omega) (by omega)]; exact f9 k hk
  · refine op_refuse h (r := -1) (st := 1) ?_ (fun w1 h1 => ?_)
    · unfold f_X11_live fb_X11_live_0
      rw [lq_within_n (lo := 0) (hi := 9999) 0 9999 rfl rfl c, lu_bind, if_pos rfl]; rfl
    · unfold f_X12_live fb_X12_live_0
      rw [lq_from_n (lo := 0) (hi := 9999) 0 9999 rfl rfl (by decide) (by decide) c, lu_bind, if_pos rfl]; rfl
end LL