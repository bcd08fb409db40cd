/-! ONE GUEST MORE; the calls that only tell -/
def la_sit (A : la_A) : la_A := (fun j => if j = 0 then nI (la_n A + 1) else A.1 j, fun g f => if g = la_n A then (if f = 5 then 1 else if f = 6 then -1 else 0) else A.2 g f)
theorem la_n_sit {A : la_A} (h : la_n A ≤ 7) : la_n (la_sit A) = la_n A + 1 := by
  show (nI (la_n A + 1)).toNatClampNeg = la_n A + 1
  exact nI_clamp (by omega)
theorem la_sit_g {A : la_A} {f : Nat} : (la_sit A).2 (la_n A) f = if f = 5 then 1 else if f = 6 then -1 else 0 := by
  unfold la_sit; simp only [if_true]
theorem la_sit_o {A : la_A} {g f : Nat} (h : g ≠ la_n A) : (la_sit A).2 g f = A.2 g f := by
  unfold la_sit; simp only [if_neg h]
theorem la_sit_h {A : la_A} {k : Nat} (h : k ≠ 0) : (la_sit A).1 k = A.1 k := by
  unfold la_sit; simp only [if_neg h]
theorem la_Ok_sit {A : la_A} (h : la_Ok A) (hn : la_n A < 7) : la_Ok (la_sit A) := by
  have e := la_n_sit (A := A) (by omega)
  obtain ⟨h0, h7, a1, a2, a3, a4, a5, hg⟩ := h
  refine ⟨by rw [e]; rfl, by omega, ?_, ?_, ?_, ?_, ?_, fun g hg' => ?_⟩
  · rw [la_sit_h (by decide)]; exact a1
  · rw [la_sit_h (by decide)]; exact a2
  · rw [la_sit_h (by decide)]; exact a3
  · rw [la_sit_h (by decide)]; exact a4
  · rw [la_sit_h (by decide)]; exact a5
  · by_cases c : g = la_n A
    · subst c
      unfold la_G
      simp only [la_sit_g]
      exact ⟨⟨0, by decide, by decide, rfl⟩, ⟨0, by decide, by decide, rfl⟩, ⟨0, by decide, by decide, rfl⟩, ⟨0, by decide, by decide, rfl⟩, ⟨0, by decide, by decide, rfl⟩, Or.inr rfl, Or.inl la_sit_g⟩
    · obtain ⟨b0, b1, b2, b3, b4, b5, b6⟩ := hg g (by omega)
      unfold la_G
      simp only [la_sit_o c]
      refine ⟨b0, b1, b2, b3, b4, b5, ?_⟩
      unfold la_to
      rw [la_sit_o c, e]
      rcases b6 with z | ⟨j, c1, c2, c3⟩
      · exact Or.inl z
      · exact Or.inr ⟨j, by omega, c2, c3⟩
section SI
variable {σ : lt_S}
set_option maxHeartbeats 2000000 in
/-- the class seats -/
theorem lc_seat {o : Nat} {w : lt_W} {A : la_A} (hS : lc_S σ o) (hA : lc_T w o A) (hn : la_n A < 7) (x : Int64) : ∃ w', f_X5_seat σ o x w = some w' ∧ lc_T w' o (la_sit A) ∧ (∀ a k, lt_gl w' a k = lt_gl (lt_sl w (o + 1) (la_n A) x) a k) ∧ ∀ a k, (a < o ∨ o + 8 ≤ a) → lt_gi w' a k = lt_gi w a k := by
  obtain ⟨⟨-, s0, s1, s2, s3, s4, s5, s6, s7⟩, l1, l2, l3, l4, l5, l6, l7, l8⟩ := hS
  obtain ⟨h1, h2, h3, h4, h5⟩ := hA
  have e0 : lt_gi w o 0 = nI (la_n A) := (h3 0 (by decide)).trans h1
  have e := la_n_sit (A := A) (by omega)
  refine ⟨lt_si (lt_si (lt_si (lt_si (lt_si (lt_si (lt_si (lt_si (lt_sl w (o + 1) (la_n A) x) (o + 2) (la_n A) 0) (o + 3) (la_n A) 0) (o + 4) (la_n A) 0) (o + 5) (la_n A) 0) (o + 6) (la_n A) 0) (o + 7) (la_n A) (-1)) o 8 (la_sb (la_here A) (la_n A) ||| la_b (la_n A))) o 0 (nI (la_n A + 1)), ?_, ⟨by rw [e]; rfl, by omega, fun k hk => ?_, ?_, fun g hg => ?_⟩, fun a k => rfl, fun a k z => ?_⟩
  · unfold f_X5_seat fb_X5_seat_0
    simp only [s0, s1, s2, s3, s4, s5, s6, l1, l2, l3, l4, l5, l6, l7]
    rw [e0, if_pos (show nI (la_n A) < (7 : Int32) from nI_lt (b := 7) hn (by decide)), lu_ck hn (by decide), lu_let, nI_clamp (by omega)]
    rw [lu_gisl, e0, lu_ck hn (by decide), lu_let, nI_clamp (by omega)]
    rw [lu_ne (by omega), lu_gisl, e0, lu_ck hn (by decide), lu_let, nI_clamp (by omega)]
    rw [lu_ne (by omega), lu_ne (by omega), lu_gisl, e0, lu_ck hn (by decide), lu_let, nI_clamp (by omega)]
    rw [lu_ne (by omega), lu_ne (by omega), lu_ne (by omega), lu_gisl, e0, lu_ck hn (by decide), lu_let, nI_clamp (by omega)]
    rw [lu_ne (by omega), lu_ne (by omega), lu_ne (by omega), lu_ne (by omega), lu_gisl, e0, lu_ck hn (by decide), lu_let, nI_clamp (by omega)]
    rw [lu_ne (by omega), lu_ne (by omega), lu_ne (by omega), lu_ne (by omega), lu_ne (by omega), lu_gisl, e0, lu_ck hn (by decide), lu_let, nI_clamp (by omega)]
    rw [lu_let, lu_let]
    simp (disch := omega) only [lu_ne, lu_gisl]
    rw [e0, h4, nI_1]
    rfl
  · by_cases c : k = 0
    · subst c; rw [lu_eq]; rfl
    · rw [la_sit_h c]
      simp (disch := omega) only [lu_ne, lu_gisl]
      exact h3 k hk
  · rw [lu_ne (by omega), lu_eq, e, la_sb]
    have c1 : la_here (la_sit A) (la_n A) = true := by unfold la_here; rw [la_sit_g]; decide
    rw [if_pos c1]
    congr 1
    exact la_sb_congr fun i hi => by unfold la_here; rw [la_sit_o (by omega)]
  · unfold lc_g
    rw [e] at hg
    by_cases c : g = la_n A
    · subst c
      simp (disch := omega) only [lu_ne, lu_eq, la_sit_g]
      exact ⟨rfl, rfl, rfl, rfl, rfl, rfl⟩
    · simp (disch := omega) only [lu_ne, lu_gisl, la_sit_o c]
      exact h5 g (by omega)
  · simp (disch := omega) only [lu_ne, lu_gisl]
theorem lr_nm1_0 : lr_nm1 0 0 := ⟨[], by decide, (fun c h => by cases h), rfl, rfl⟩
def la_sit4 (A : la_A) (a b c d : Int32) : la_A := la_c (la_c (la_c (la_c (la_sit A) (la_n A) 0 a) (la_n A) 1 b) (la_n A) 2 c) (la_n A) 3 d
set_option maxHeartbeats 4000000 in
theorem op_sit (hσ : lr_S σ) {w : lt_W} {A : la_A} (h : lr_0 w A) (a b c d : Int32) : lr_ok (f_X11_sit σ 0 a b c d) (f_X12_sit σ 233 a b c d) w := by
  have h7 := h.n7
  have hN := lr_now hσ
  by_cases ca : lq_b a 0 20
  · by_cases cb : lq_b b 0 20
    · by_cases cc : lq_b c 0 20
      · by_cases cd : lq_b d 0 2
        · have opC : f_X11_sit σ 0 a b c d w = if nI (la_n A) < 7 then Option.bind (f_X5_seat σ 12 0 w) (fun q8 => some (nI (la_n A), lt_si (lt_si (lt_si (lt_si (lt_si q8 14 (la_n A) a) 15 (la_n A) b) 16 (la_n A) c) 17 (la_n A) d) 0 0 0)) else some (-1, lt_si w 0 0 4) := by
            obtain ⟨⟨-, s0, s1, s2, s3, s4, s5, s6, s7⟩, l1, l2, l3, l4, l5, l6, l7, l8⟩ := lr_nowS hσ
            unfold f_X11_sit fb_X11_sit_0
            rw [lq_within_y (lo := 0) (hi := 20) 0 20 rfl rfl ca, lu_bind, if_neg lu_10, lq_within_y (lo := 0) (hi := 20) 0 20 rfl rfl cb, lu_bind, if_neg lu_10, lq_within_y (lo := 0) (hi := 20) 0 20 rfl rfl cc, lu_bind, if_neg lu_10, lq_within_y (lo := 0) (hi := 2) 0 2 rfl rfl cd, lu_bind, if_neg lu_10]
            rw [hN, lc_n h.c]
            by_cases c7 : nI (la_n A) < (7 : Int32)
            · have c7' : la_n A < 7 := (nI_ltI (b := 7) (by omega) (by decide)).mp c7
              rw [if_pos c7, if_pos c7, s1, s2, s3, s4, l2, l3, l4, l5]
              have key : ∀ q8 : lt_W, lt_ck (nI (la_n A)) 7 (lt_let (lt_si q8 (12 + 2) (nI (la_n A)).toNatClampNeg a) (fun w11 => lt_ck (nI (la_n A)) 7 (lt_let (lt_si w11 (12 + 3) (nI (la_n A)).toNatClampNeg b) (fun w14 => lt_ck (nI (la_n A)) 7 (lt_let (lt_si w14 (12 + 4) (nI (la_n A)).toNatClampNeg c) (fun w17 => lt_ck (nI (la_n A)) 7 (lt_let (lt_si w17 (12 + 5) (nI (la_n A)).toNatClampNeg d) (fun w20 => Option.bind (f_X11_given σ 0 (nI (la_n A)) w20) (fun q21 => some (q21.1, q21.2)))))))))) = some (nI (la_n A), lt_si (lt_si (lt_si (lt_si (lt_si q8 14 (la_n A) a) 15 (la_n A) b) 16 (la_n A) c) 17 (la_n A) d) 0 0 0) := by
                intro q8
                rw [lu_ck c7' (by decide), lu_let, lu_ck c7' (by decide), lu_let, lu_ck c7' (by decide), lu_let, lu_ck c7' (by decide), lu_let, nI_clamp (by omega)]
                rfl
              simp only [key]
            · rw [if_neg c7, if_neg c7]; rfl
          have opM : ∀ w1, lm_T w1 234 0 A → f_X12_sit σ 233 a b c d w1 = if nI (la_n A) = 7 then some (-1, lt_si w1 233 2 4) else some (nI (la_n A), lt_si (lt_sl (lt_si (lt_si (lt_si (lt_si (lt_si (lt_si (lt_si (lt_si w1 234 0 (nI (la_n A + 1))) 234 (10 + 7 * la_n A) a) 234 (10 + 7 * la_n A + 1) b) 234 (10 + 7 * la_n A + 2) c) 234 (10 + 7 * la_n A + 3) d) 234 (10 + 7 * la_n A + 4) 0) 234 (10 + 7 * la_n A + 5) 1) 234 (10 + 7 * la_n A + 6) (-1)) 235 (la_n A) 0) 233 2 0) := by
            intro w1 h1
            have n1 : lt_gi w1 234 0 = nI (la_n A) := by
              have := lm_n (lr_mT hσ h1)
              rw [lr_at hσ] at this; exact this
            have r235 : lt_r σ 233 1 = 235 := hσ.r 233 1 (by decide) (by decide)
            have l235 : lt_len σ 235 = 42 := hσ.l 235 (by decide)
            unfold f_X12_sit fb_X12_sit_0
            rw [lq_from_y (lo := 0) (hi := 20) 0 20 rfl rfl (by decide) (by decide) ca, lu_bind, if_neg lu_10, lq_from_y (lo := 0) (hi := 20) 0 20 rfl rfl (by decide) (by decide) cb, lu_bind, if_neg lu_10, lq_from_y (lo := 0) (hi := 20) 0 20 rfl rfl (by decide) (by decide) cc, lu_bind, if_neg lu_10, lq_from_y (lo := 0) (hi := 2) 0 2 rfl rfl (by decide) (by decide) cd, lu_bind, if_neg lu_10]
            rw [lr_mS hσ, lm_k0, lm_c0, lr_at hσ, n1, lu_let]
            by_cases c7 : nI (la_n A) = (7 : Int32)
            · rw [if_pos c7, if_pos c7]; rfl
            · have c7' : la_n A < 7 := by
                have : la_n A ≠ 7 := fun z => c7 (by rw [z]; rfl)
                omega
              rw [if_neg c7, if_neg c7, lm_row, lu_bind, lm_k0, lm_k0, lu_let, nI_1, lu_ck (by omega) (by decide), lu_let]
              rw [show nI (10 + 7 * la_n A) + 1 = nI (10 + 7 * la_n A + 1) from nI_add _ 1, show nI (10 + 7 * la_n A) + 2 = nI (10 + 7 * la_n A + 2) from nI_add _ 2, show nI (10 + 7 * la_n A) + 3 = nI (10 + 7 * la_n A + 3) from nI_add _ 3, show nI (10 + 7 * la_n A) + 4 = nI (10 + 7 * la_n A + 4) from nI_add _ 4, show nI (10 + 7 * la_n A) + 5 = nI (10 + 7 * la_n A + 5) from nI_add _ 5, show nI (10 + 7 * la_n A) + 6 = nI (10 + 7 * la_n A + 6) from nI_add _ 6]
              rw [lu_ck (by omega) (by decide), lu_let, lu_ck (by omega) (by decide), lu_let, lu_ck (by omega) (by decide), lu_let, lu_ck (by omega) (by decide), lu_let, lu_ck (by omega) (by decide), lu_let, lu_ck (by omega) (by decide), lu_let, r235, l235, lu_ck (by omega) (by decide), lu_let]
              rw [nI_clamp (by omega), nI_clamp (by omega), nI_clamp (by omega), nI_clamp (by omega), nI_clamp (by omega), nI_clamp (by omega), nI_clamp (by omega), nI_clamp (by omega)]
              rfl
          by_cases c7 : la_n A = 7
          · refine op_refuse h (r := -1) (st := 4) ?_ (fun w1 h1 => ?_)
            · rw [opC, if_neg (by rw [c7]; decide)]
            · rw [opM w1 (lr_mT' hσ (h1.m hσ)), if_pos (by rw [c7]; rfl)]
          · have c7' : la_n A < 7 := by omega
            obtain ⟨q, p1, p2, p3, p4⟩ := lc_seat (lr_nowS hσ) h.c c7' 0
            let w1 := lt_si (lt_si (lt_si (lt_si (lt_si q 14 (la_n A) a) 15 (la_n A) b) 16 (la_n A) c) 17 (la_n A) d) 0 0 0
            have i1 : ∀ x k, (x < 12 ∨ 20 ≤ x) → ¬ (x = 0 ∧ k = 0) → lt_gi w1 x k = lt_gi w x k := fun x k z z2 => by
              show lt_gi (lt_si (lt_si (lt_si (lt_si (lt_si q 14 (la_n A) a) 15 (la_n A) b) 16 (la_n A) c) 17 (la_n A) d) 0 0 0) x k = _
              rw [lu_ne (by omega), lu_ne (by omega), lu_ne (by omega), lu_ne (by omega), lu_ne (by omega)]
              exact p4 x k z
            have g1 : ∀ x k, lt_gl w1 x k = if x = 13 ∧ k = la_n A then 0 else lt_gl w x k := fun x k => p3 x k
            have hm1 : lm_T w1 234 0 A := h.1.1.2.2.congr fun k _ _ _ => i1 _ _ (by omega) (by omega)
            let w2 := lt_si (lt_sl (lt_si (lt_si (lt_si (lt_si (lt_si (lt_si (lt_si (lt_si w1 234 0 (nI (la_n A + 1))) 234 (10 + 7 * la_n A) a) 234 (10 + 7 * la_n A + 1) b) 234 (10 + 7 * la_n A + 2) c) 234 (10 + 7 * la_n A + 3) d) 234 (10 + 7 * la_n A + 4) 0) 234 (10 + 7 * la_n A + 5) 1) 234 (10 + 7 * la_n A + 6) (-1)) 235 (la_n A) 0) 233 2 0
            have i2 : ∀ x k, ¬ (x = 234 ∧ k < 60) → ¬ (x = 233 ∧ k = 2) → lt_gi w2 x k = lt_gi w1 x k := fun x k z z2 => by
              show lt_gi (lt_si (lt_sl (lt_si (lt_si (lt_si (lt_si (lt_si (lt_si (lt_si (lt_si w1 234 0 (nI (la_n A + 1))) 234 (10 + 7 * la_n A) a) 234 (10 + 7 * la_n A + 1) b) 234 (10 + 7 * la_n A + 2) c) 234 (10 + 7 * la_n A + 3) d) 234 (10 + 7 * la_n A + 4) 0) 234 (10 + 7 * la_n A + 5) 1) 234 (10 + 7 * la_n A + 6) (-1)) 235 (la_n A) 0) 233 2 0) x k = _
              simp (disch := omega) only [lu_ne, lu_gisl]
            have i8 : lt_gi w2 234 8 = lt_gi w1 234 8 := by
              show lt_gi (lt_si (lt_sl (lt_si (lt_si (lt_si (lt_si (lt_si (lt_si (lt_si (lt_si w1 234 0 (nI (la_n A + 1))) 234 (10 + 7 * la_n A) a) 234 (10 + 7 * la_n A + 1) b) 234 (10 + 7 * la_n A + 2) c) 234 (10 + 7 * la_n A + 3) d) 234 (10 + 7 * la_n A + 4) 0) 234 (10 + 7 * la_n A + 5) 1) 234 (10 + 7 * la_n A + 6) (-1)) 235 (la_n A) 0) 233 2 0) 234 8 = _
              simp (disch := omega) only [lu_ne, lu_gisl]
            have g2 : ∀ x k, lt_gl w2 x k = if x = 235 ∧ k = la_n A then 0 else lt_gl w1 x k := fun x k => rfl
            have G : ∀ x k, ¬ (x = 0 ∧ k = 0) → ¬ (x = 233 ∧ k = 2) → (x < 12 ∨ 20 ≤ x) → ¬ (x = 234 ∧ k < 60 ∧ k ≠ 8) → lt_gi w2 x k = lt_gi w x k := fun x k z1 z2 z3 z4 => by
              by_cases c8 : x = 234 ∧ k = 8
              · rw [c8.1, c8.2, i8]; exact i1 _ _ (by omega) (by omega)
              · rw [i2 x k (by omega) (by omega)]; exact i1 x k z3 z1
            have GL : ∀ x k, ¬ (x = 13 ∧ k = la_n A) → ¬ (x = 235 ∧ k = la_n A) → lt_gl w2 x k = lt_gl w x k := fun x k z1 z2 => by
              rw [g2, if_neg z2, g1, if_neg z1]
            have en := la_n_sit (A := A) (by omega)
            have hB : la_Ok (la_sit4 A a b c d) := ((((la_Ok_sit h.O c7').c (Or.inl ⟨rfl, ca.R (by decide) (by decide)⟩)).c (Or.inr (Or.inl ⟨rfl, cb.R (by decide) (by decide)⟩))).c (Or.inr (Or.inr (Or.inl ⟨rfl, cc.R (by decide) (by decide)⟩)))).c (Or.inr (Or.inr (Or.inr (Or.inl ⟨rfl, cd.R (by decide) (by decide)⟩))))
            have hC1 : lc_T w1 12 (la_sit4 A a b c d) := (((((p2.cell (Or.inl ⟨by decide, rfl⟩)).cell (Or.inl ⟨by decide, rfl⟩)).cell (Or.inl ⟨by decide, rfl⟩)).cell (Or.inl ⟨by decide, rfl⟩))).out (by omega)
            have hC2 : lc_T w2 12 (la_sit4 A a b c d) := hC1.congr fun x k z1 z2 => i2 x k (by omega) (by omega)
            have eB : la_n (la_sit4 A a b c d) = la_n A + 1 := en
            refine ⟨nI (la_n A), w1, w2, ?_, ?_, ?_, la_sit4 A a b c d, ⟨⟨hB, hC2, ⟨by rw [eB]; rfl, by rw [eB]; omega, fun k hk => ?_, fun g hg f hf => ?_⟩⟩, h.1.2.1.c (fun x k z => G x k (by omega) (by omega) (by omega) (by omega)) (fun x k z => GL x k (by omega) (by omega)), h.1.2.2.1.c (fun x k z => G x k (by omega) (by omega) (by omega) (by omega)), h.1.2.2.2.1.c (fun x k z => G x k (by omega) (by omega) (by omega) (by omega)), ?_, ?_, h.1.2.2.2.2.2.2.1.c (fun x k z => G x k (by omega) (by omega) (by omega) (by omega)) (fun x k z => GL x k (by omega) (by omega)), h.1.2.2.2.2.2.2.2.1.c (fun x k z => G x k (by omega) (by omega) (by omega) (by omega)), h.1.2.2.2.2.2.2.2.2.c (fun k => G _ _ (by omega) (by omega) (by omega) (by omega))⟩, h.2.c (fun x k z => GL x k (by omega) (by omega))⟩
            · rw [opC, if_pos (show nI (la_n A) < (7 : Int32) from nI_lt (b := 7) c7' (by decide)), p1, lu_bind]
            · rw [opM w1 hm1, if_neg (show ¬ nI (la_n A) = (7 : Int32) from fun z => c7 ((nI_eq (b := 7) (by omega) (by decide)).mp z))]
            · have e2 : lt_gi w2 233 2 = 0 := lu_eq
              have e1 : lt_gi w1 0 0 = 0 := lu_eq
              rw [e2, i2 0 0 (by omega) (by omega), e1]
            · rw [Nat.zero_add]
              have hk3 := (h.1.1.2.2).2.2.1 k hk
              rw [Nat.zero_add] at hk3
              show lt_gi (lt_si (lt_sl (lt_si (lt_si (lt_si (lt_si (lt_si (lt_si (lt_si (lt_si w1 234 0 (nI (la_n A + 1))) 234 (10 + 7 * la_n A) a) 234 (10 + 7 * la_n A + 1) b) 234 (10 + 7 * la_n A + 2) c) 234 (10 + 7 * la_n A + 3) d) 234 (10 + 7 * la_n A + 4) 0) 234 (10 + 7 * la_n A + 5) 1) 234 (10 + 7 * la_n A + 6) (-1)) 235 (la_n A) 0) 233 2 0) 234 k = (la_sit A).1 k
              by_cases k0 : k = 0
              · subst k0
                simp (disch := omega) only [lu_ne, lu_gisl, lu_eq]; rfl
              · rw [la_sit_h k0]
                simp (disch := omega) only [lu_ne, lu_gisl]
                rw [i1 _ _ (by omega) (by omega)]; exact hk3
            · rw [eB] at hg
              show lt_gi (lt_si (lt_sl (lt_si (lt_si (lt_si (lt_si (lt_si (lt_si (lt_si (lt_si w1 234 0 (nI (la_n A + 1))) 234 (10 + 7 * la_n A) a) 234 (10 + 7 * la_n A + 1) b) 234 (10 + 7 * la_n A + 2) c) 234 (10 + 7 * la_n A + 3) d) 234 (10 + 7 * la_n A + 4) 0) 234 (10 + 7 * la_n A + 5) 1) 234 (10 + 7 * la_n A + 6) (-1)) 235 (la_n A) 0) 233 2 0) 234 (0 + 10 + 7 * g + f) = _
              by_cases cg : g = la_n A
              · subst cg
                have hf7 : f = 0 ∨ f = 1 ∨ f = 2 ∨ f = 3 ∨ f = 4 ∨ f = 5 ∨ f = 6 := by omega
                rw [show 0 + 10 + 7 * la_n A + f = 10 + 7 * la_n A + f by omega]
                rcases hf7 with rfl | rfl | rfl | rfl | rfl | rfl | rfl <;> simp (disch := omega) only [lu_ne, lu_gisl, lu_eq, Nat.add_zero] <;> simp [la_sit4, la_c, la_sit_g]
              · have : (la_sit4 A a b c d).2 g f = A.2 g f := by
                  simp [la_sit4, la_c, cg, la_sit_o cg]
                rw [this]
                simp (disch := omega) only [lu_ne, lu_gisl]
                rw [i1 _ _ (by omega) (by omega)]
                exact (h.1.1.2.2).2.2.2 g (by omega) f hf
            · intro g hg
              rw [eB] at hg
              by_cases cg : g = la_n A
              · subst cg
                rw [g2, if_neg (by omega), g1, if_pos ⟨rfl, rfl⟩, g2, if_pos ⟨rfl, by omega⟩]
                exact lr_nm1_0
              · rw [GL _ _ (by omega) (by omega), GL _ _ (by omega) (by omega)]
                exact h.1.2.2.2.2.1 g (by omega)
            · rw [eB]
              exact (h.1.2.2.2.2.2.1.c (fun x k z => G x k (by omega) (by omega) (by omega) (by omega))).mono (by omega)
        · refine op_refuse h (r := -1) (st := 1) ?_ (fun w1 h1 => ?_)
          · unfold f_X11_sit fb_X11_sit_0
            rw [lq_within_y (lo := 0) (hi := 20) 0 20 rfl rfl ca, lu_bind, if_neg lu_10, lq_within_y (lo := 0) (hi := 20) 0 20 rfl rfl cb, lu_bind, if_neg lu_10, lq_within_y (lo := 0) (hi := 20) 0 20 rfl rfl cc, lu_bind, if_neg lu_10, lq_within_n (lo := 0) (hi := 2) 0 2 rfl rfl cd, lu_bind, if_pos rfl]; rfl
          · unfold f_X12_sit fb_X12_sit_0
            rw [lq_from_y (lo := 0) (hi := 20) 0 20 rfl rfl (by decide) (by decide) ca, lu_bind, if_neg lu_10, lq_from_y (lo := 0) (hi := 20) 0 20 rfl rfl (by decide) (by decide) cb, lu_bind, if_neg lu_10, lq_from_y (lo := 0) (hi := 20) 0 20 rfl rfl (by decide) (by decide) cc, lu_bind, if_neg lu_10, lq_from_n (lo := 0) (hi := 2) 0 2 rfl rfl (by decide) (by decide) cd, lu_bind, if_pos rfl]; rfl
      · refine op_refuse h (r := -1) (st := 1) ?_ (fun w1 h1 => ?_)
        · unfold f_X11_sit fb_X11_sit_0
          rw [lq_within_y (lo := 0) (hi := 20) 0 20 rfl rfl ca, lu_bind, if_neg lu_10, lq_within_y (lo := 0) (hi := 20) 0 20 rfl rfl cb, lu_bind, if_neg lu_10, lq_within_n (lo := 0) (hi := 20) 0 20 rfl rfl cc, lu_bind, if_pos rfl]; rfl
        · unfold f_X12_sit fb_X12_sit_0
          rw [lq_from_y (lo := 0) (hi := 20) 0 20 rfl rfl (by decide) (by decide) ca, lu_bind, if_neg lu_10, lq_from_y (lo := 0) (hi := 20) 0 20 rfl rfl (by decide) (by decide) cb, lu_bind, if_neg lu_10, lq_from_n (lo := 0) (hi := 20) 0 20 rfl rfl (by decide) (by decide) cc, lu_bind, if_pos rfl]; rfl
    · refine op_refuse h (r := -1) (st := 1) ?_ (fun w1 h1 => ?_)
      · unfold f_X11_sit fb_X11_sit_0
        rw [lq_within_y (lo := 0) (hi := 20) 0 20 rfl rfl ca, lu_bind, if_neg lu_10, lq_within_n (lo := 0) (hi := 20) 0 20 rfl rfl cb, lu_bind, if_pos rfl]; rfl
      · unfold f_X12_sit fb_X12_sit_0
        rw [lq_from_y (lo := 0) (hi := 20) 0 20 rfl rfl (by decide) (by decide) ca, lu_bind, if_neg lu_10, lq_from_n (lo := 0) (hi := 20) 0 20 rfl rfl (by decide) (by decide) cb, lu_bind, if_pos rfl]; rfl
  · refine op_refuse h (r := -1) (st := 1) ?_ (fun w1 h1 => ?_)
    · unfold f_X11_sit fb_X11_sit_0
      rw [lq_within_n (lo := 0) (hi := 20) 0 20 rfl rfl ca, lu_bind, if_pos rfl]; rfl
    · unfold f_X12_sit fb_X12_sit_0
      rw [lq_from_n (lo := 0) (hi := 20) 0 20 rfl rfl (by decide) (by decide) ca, lu_bind, if_pos rfl]; rfl
theorem op_status {w : lt_W} (h : lr_R w) : f_X12_status σ 233 w = f_X11_status σ 0 w := by
  show some (lt_gi w 233 2) = some (lt_gi w 0 0); rw [h.1]
theorem op_top {w : lt_W} (h : lr_R w) : f_X12_top σ 233 w = f_X11_top σ 0 w := by
  obtain ⟨-, A, h⟩ := h
  show some (lt_gl w 233 3) = some (lt_gl w 0 1); rw [h.2.1]
theorem op_bottom {w : lt_W} (h : lr_R w) : f_X12_bottom σ 233 w = f_X11_bottom σ 0 w := by
  obtain ⟨-, A, h⟩ := h
  show some (lt_gl w 233 4) = some (lt_gl w 0 2); rw [h.2.2]
theorem op_fault (hσ : lr_S σ) {w : lt_W} (h : lr_R w) (x : Int32) : f_X12_fault σ 233 x w = f_X11_fault σ 0 x w := by
  obtain ⟨-, A, h⟩ := h
  obtain ⟨e1, e2⟩ := h.1.2.2.2.1
  unfold f_X11_fault fb_X11_fault_0 f_X12_fault fb_X12_fault_0
  rw [lq_r0_4 hσ, e1, e2]
end SI