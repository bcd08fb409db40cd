/-! THE WEEKS' TEXT: an end; all steps -/
section TWE
variable {σ : lt_S} {w w0 wc wm : lt_W} {T : Nat → Nat} {L p n N d : Nat} {I : Nat → Nat → Int32} {st : Nat → Nat}
theorem tw_end (hσ : lr_S σ) (h : tk_S w w0 T L p wc wm) (hI : tw_I I N d st n wc wm) (hK : tx_K T L p = 11) : tk_O (tw_Q w w0 T L p n) (tk_E w w0) (f_X10_takeEnd σ 39 wc) (f_X12_weekStep σ 233 wm) := by
  obtain ⟨⟨r0, r1, r2, r3⟩, ⟨a2, a3, a4, a5, a6, a7, a8⟩, l1, l2, l3, l4, l5, l6, l7, l8⟩ := lr_39 hσ
  have l21 : lt_r σ 233 21 = 241 := lq_r233_21 hσ
  have e12 : ∀ {α : Type} (y : Option α), lt_ck 1720 2560 y = y := fun y => lu_ck (i := 1720) (by decide) (by decide)
  have er : (1772 : Int32) + 6 * nI N = nI (1772 + 6 * N) := by rw [show (6 : Int32) = nI 6 from rfl, pk_mul, show (1772 : Int32) = nI 1772 from rfl, nI_add]
  obtain ⟨hB, ⟨c1, c2⟩, c3, c4, c5⟩ := hI
  obtain ⟨⟨b1, b2, b3⟩, -, b4, -⟩ := id hB
  have eM : f_X12_weekStep σ 233 wm = if nI d = 0 then fb_X12_weekStep_87 σ 233 wm else fb_X12_weekStep_93 σ 233 (nI 18) (nI N) (nI (1772 + 6 * N)) 0 wm := by
    unfold f_X12_weekStep fb_X12_weekStep_0 fb_X12_weekStep_42
    rw [tx_inM hσ h.2.1, lu_bind, if_pos (show 1 ≤ tx_K T L p ∧ tx_K T L p ≤ 23 by omega), hK, show nI (tx_m 11) = nI 18 from rfl, lr_at hσ, lq_l234 hσ, e12, show (1720 : Int32).toNatClampNeg = 1720 from rfl, c3, lu_let, er, if_neg (show ¬ nI 18 = 16 by decide), if_neg (show ¬ nI 18 = 17 by decide), if_neg (show ¬ nI 18 = 6 by decide), if_neg (show ¬ nI 18 < 11 by decide), if_neg (show ¬ 19 < nI 18 by decide)]
    unfold fb_X12_weekStep_67
    rw [if_neg lu_10, if_pos (show nI 18 = 18 from rfl), c4]
  rw [eM]
  unfold f_X10_takeEnd fb_X10_takeEnd_0
  rw [r0, r2, r3, a8, l7, l8, c2]
  cases d with
  | zero =>
    rw [if_pos (show nI 0 = 0 from rfl), if_neg (show ¬ 0 < nI 0 by decide)]
    exact tp_failz h 2 (by decide) (by decide)
  | succ e =>
    have b5 := b4 e (by omega)
    have k5 : lw_op I (st e) ≠ 18 := by
      have := b5.2.2.2
      unfold tw_op at this; omega
    have hlt := tw_phlt b5.2.2.1 k5
    have hgt := tp_gt h (by omega)
    rw [if_neg (nI_ne0 (by omega) (by omega)), if_pos (show (0 : Int32) < nI (e + 1) from nI_lt (a := 0) (by omega) (by omega)), nI_pred, lu_let, lu_eq, lu_ck (by omega) (by decide), nI_clamp (by omega), lu_ne (by omega), b5.2.1, lu_ck (by omega) (by decide), lu_let, nI_clamp (by omega), lu_ne (by omega), c1]
    have hSm : tk_S w w0 T L p (lt_si (lt_si wc 39 4 (nI e)) 47 (lw_phi I (st e)) (nI (lw_phi I N))) (tm_z (1772 + 6 * N) N (lt_si (lt_si wm 233 23 (nI (lw_phi I N))) 234 (1772 + 6 * N) (nI 18))) := by
      unfold tm_z
      exact (((((((((h.mi (by omega)).mi (by omega)).mi (by omega)).mi (by omega)).mi (by omega)).mi (by omega)).mi (by omega)).mi (by omega)).ci (by omega)).ci (by omega)
    obtain ⟨x, y, d1, d2, d3, d4, d5⟩ := tp_adv hσ hSm (by omega)
    have hm : ∀ a k, ¬ (a = 233 ∧ k = 23) → ¬ (a = 234 ∧ (k = 1720 ∨ (1772 + 6 * N ≤ k ∧ k < 1772 + 6 * N + 6))) → lt_gi (tm_z (1772 + 6 * N) N (lt_si (lt_si wm 233 23 (nI (lw_phi I N))) 234 (1772 + 6 * N) (nI 18))) a k = lt_gi wm a k := fun a k z1 z2 => by
      unfold tm_z
      simp (disch := omega) only [lu_ne]
    have m23 : lt_gi (tm_z (1772 + 6 * N) N (lt_si (lt_si wm 233 23 (nI (lw_phi I N))) 234 (1772 + 6 * N) (nI 18))) 233 23 = nI (lw_phi I N) := by
      unfold tm_z
      simp (disch := omega) only [lu_ne, lu_eq]
    have mr : ∀ i, i < 6 → lt_gi (tm_z (1772 + 6 * N) N (lt_si (lt_si wm 233 23 (nI (lw_phi I N))) 234 (1772 + 6 * N) (nI 18))) 234 (1772 + 6 * N + i) = if i = 0 then 18 else 0 := fun i hi => by
      unfold tm_z
      rcases (show i = 0 ∨ i = 1 ∨ i = 2 ∨ i = 3 ∨ i = 4 ∨ i = 5 by omega) with z | z | z | z | z | z <;> subst z <;> simp (disch := omega) only [lu_ne, lu_eq, Nat.add_zero] <;> rfl
    have e93 : fb_X12_weekStep_93 σ 233 (nI 18) (nI N) (nI (1772 + 6 * N)) 0 wm = fb_X12_weekStep_297 σ 233 (lt_si (lt_si (lt_si y 233 22 (nI e)) 234 (1772 + 6 * N + 4) (nI (st e))) 234 (1772 + 6 * st e + 4) (nI N)) := by
      have y22 : lt_gi y 233 22 = nI (e + 1) := by rw [d5.1 _ _ (by omega), hm _ _ (by omega) (by omega)]; exact c4
      have y41 : lt_gi y 241 e = nI (st e) := by rw [d5.1 _ _ (by omega), hm _ _ (by omega) (by omega)]; exact b5.1
      have eo : f_X12_weekOrder σ 233 (nI 18) (nI (1772 + 6 * N)) y = some (1, y) := by
        unfold f_X12_weekOrder fb_X12_weekOrder_0
        rw [if_neg (show ¬ nI 18 = 6 by decide), if_neg (show ¬ nI 18 = 11 by decide), if_neg (show ¬ nI 18 = 12 by decide), if_neg (show ¬ nI 18 = 13 by decide), if_neg (show ¬ nI 18 = 14 by decide), if_neg (show ¬ nI 18 = 16 by decide), if_neg (show ¬ nI 18 = 17 by decide)]
      have er2 : (1772 : Int32) + 6 * nI (st e) = nI (1772 + 6 * st e) := by rw [show (6 : Int32) = nI 6 from rfl, pk_mul, show (1772 : Int32) = nI 1772 from rfl, nI_add]
      unfold fb_X12_weekStep_93
      rw [if_pos (show nI 18 = 18 from rfl)]
      unfold fb_X12_weekStep_115
      rw [if_pos rfl]
      unfold fb_X12_weekStep_135
      rw [if_pos (show nI 18 = 18 from rfl)]
      unfold fb_X12_weekStep_151
      rw [c5, lm_a0, Nat.add_zero, lu_let, lr_at hσ, lq_l234 hσ, lu_ck (by omega) (by decide), lu_let, nI_clamp (by omega), tm_165 hσ (by omega) ((lu_ne (by omega)).trans ((lu_ne (by omega)).trans c3)), d2, lu_bind, eo, lu_bind]
      unfold tw_k
      dsimp only
      rw [if_neg lu_10, if_pos rfl]
      unfold fb_X12_weekStep_240
      rw [if_pos (show nI 18 = 18 from rfl), y22, nI_pred, lu_let, l21, lq_l241 hσ, lu_eq, lu_ck (by omega) (by decide), lm_a4, lr_at hσ, lq_l234 hσ, lu_ck (by omega) (by decide), nI_clamp (by omega), nI_clamp (by omega), lu_ne (by omega), y41, lu_let]
      rw [lu_ne (by omega), lu_eq, lu_ck (by omega) (by decide), nI_clamp (by omega), lu_ne (by omega), lu_ne (by omega), y41, er2, lm_a4, lu_ck (by omega) (by decide), lu_let, nI_clamp (by omega)]
    rw [d1, lu_bind, e93]
    have hS2 : tk_S w w0 T L (tx_N T L p) x (lt_si (lt_si (lt_si y 233 22 (nI e)) 234 (1772 + 6 * N + 4) (nI (st e))) 234 (1772 + 6 * st e + 4) (nI N)) := ((d3.mi (by omega)).mi (by omega)).mi (by omega)
    have hB2 : tw_B (tw_cl I N (st e)) (N + 1) e st n x (lt_si (lt_si (lt_si y 233 22 (nI e)) 234 (1772 + 6 * N + 4) (nI (st e))) 234 (1772 + 6 * st e + 4) (nI N)) := by
      refine hB.close (fun a s k1 k2 k3 => ?_) ?_ (fun i hi => ?_) (fun k k1 k2 => ?_) lu_eq (fun i hi => ?_) (fun i hi => ?_)
      · rw [d4.1 _ _ (by omega), lu_ne (by omega), lu_ne (by omega)]
      · rw [d4.1 _ _ (by omega), lu_eq]
      · rw [d4.1 _ _ (by omega), lu_ne (by omega), lu_ne (by omega)]
      · rw [lu_ne (by omega), lu_ne (by omega), lu_ne (by omega), d5.1 _ _ (by omega), hm _ _ (by omega) (by omega)]
      · have eN : tw_cl I N (st e) N i = if i = 0 then 18 else if i = 4 then nI (st e) else 0 := if_pos rfl
        have := b5.2.2.1
        rw [eN, lu_ne (by omega)]
        by_cases z4 : i = 4
        · rw [z4, lu_eq]; rfl
        · rw [lu_ne (by omega), lu_ne (by omega), d5.1 _ _ (by omega), mr i hi]
          by_cases z0 : i = 0
          · rw [if_pos z0, if_pos z0]
          · rw [if_neg z0, if_neg z0, if_neg z4]
      · rw [lu_ne (by omega), lu_ne (by omega), lu_ne (by omega), d5.1 _ _ (by omega), hm _ _ (by omega) (by omega)]
    have eph : lw_phi (tw_cl I N (st e)) (N + 1) = lw_phi I N := by
      have o0 : lw_op (tw_cl I N (st e)) N = 18 := by
        have : tw_cl I N (st e) N 0 = 18 := if_pos rfl
        unfold lw_op; rw [this]; rfl
      rw [tw_phe o0]
      refine tw_phc fun j hj => ?_
      unfold tw_cl
      rw [if_neg (by omega), if_neg (by omega)]
    unfold fb_X12_weekStep_297
    refine (tp_sign hσ hS2 59 (by decide) (by decide)).bz.mono fun x3 y3 hP => ⟨_, _, _, _, _, ?_, hP.1, hB2.F hP.2.1 hP.2.2, ⟨?_, ?_⟩, ?_, ?_, ?_⟩
    · have := tp_ge hS2; omega
    · rw [hP.2.1.1 _ _ (by omega), d4.1 _ _ (by omega), lu_ne (by omega), lu_ne (by omega), eph]; exact c1
    · rw [hP.2.1.1 _ _ (by omega), d4.1 _ _ (by omega), lu_ne (by omega), lu_eq]
    · rw [hP.2.2.1 _ _ (by omega), lu_ne (by omega), lu_ne (by omega), lu_ne (by omega), d5.1 _ _ (by omega)]; exact lu_eq
    · rw [hP.2.2.1 _ _ (by omega), lu_ne (by omega), lu_ne (by omega), lu_eq]
    · rw [hP.2.2.1 _ _ (by omega), lu_ne (by omega), lu_ne (by omega), lu_ne (by omega), d5.1 _ _ (by omega), eph]; exact m23
def tw_c1 (σ : lt_S) (wc : lt_W) : Option (Int32 × lt_W) := if lt_gi wc 10 5 = 11 then f_X10_takeEnd σ 39 wc else tw_cs σ wc
theorem tw_any (hσ : lr_S σ) (h : tk_S w w0 T L p wc wm) (hI : tw_I I N d st n wc wm) (hH : tw_H n w w0) : tk_O (tw_Q w w0 T L p n) (tk_E w w0) (tw_c1 σ wc) (f_X12_weekStep σ 233 wm) := by
  unfold tw_c1
  by_cases k11 : tx_K T L p = 11
  · rw [if_pos (show lt_gi wc 10 5 = 11 from (tp_kind h (c := 11) (by decide)).mpr k11)]
    exact tw_end hσ h hI k11
  rw [if_neg (show ¬ lt_gi wc 10 5 = 11 from fun z => k11 ((tp_kind h (c := 11) (by decide)).mp z))]
  have hN := hI.2.2.1
  by_cases k13 : tx_K T L p = 13
  · exact tw_step hσ h hI 13 11 false k13 (by decide) (by decide) (by decide) (by decide) tw_a13 (tw_b13 hσ h hN k13) (fun x y p' hx hs hN6 hw h0 h4 => tw_ord13 hσ hx hs hN6 hw h0 h4)
  by_cases k14 : tx_K T L p = 14
  · exact tw_step hσ h hI 14 12 false k14 (by decide) (by decide) (by decide) (by decide) tw_a14 (tw_b14 hσ h hN k14) (fun x y p' hx hs hN6 hw h0 h4 => tw_ord14 hσ hx hH hs hN6 hw h0)
  by_cases k15 : tx_K T L p = 15
  · exact tw_step hσ h hI 15 13 false k15 (by decide) (by decide) (by decide) (by decide) tw_a15 (tw_b15 hσ h hN k15) (fun x y p' hx hs hN6 hw h0 h4 => tw_ord15 hσ hx hH hs hN6 hw h0)
  by_cases k16 : tx_K T L p = 16
  · exact tw_step hσ h hI 16 14 false k16 (by decide) (by decide) (by decide) (by decide) tw_a16 (tw_b16 hσ h hN k16) (fun x y p' hx hs hN6 hw h0 h4 => tw_ord16 hσ hx hs hN6 hw h0 h4)
  by_cases k17 : tx_K T L p = 17
  · exact tw_step hσ h hI 17 15 false k17 (by decide) (by decide) (by decide) (by decide) tw_a17 (tw_b17 hσ h hN k17) (fun x y p' hx hs hN6 hw h0 h4 => tw_ord17 hσ hx hs hw h0)
  by_cases k18 : tx_K T L p = 18
  · exact tw_step hσ h hI 18 16 true k18 (by decide) (by decide) (by decide) (by decide) tw_a18 (tw_b18 hσ h hN k18) (fun x y p' hx hs hN6 hw h0 h4 => tw_ord18 hσ hx hH hs hN6 hw h4)
  by_cases k22 : tx_K T L p = 22
  · exact tw_step hσ h hI 22 17 true k22 (by decide) (by decide) (by decide) (by decide) tw_a22 (tw_b22 hσ h hN k22) (fun x y p' hx hs hN6 hw h0 h4 => tw_ord22 hσ hx hs hN6 hw h0 h4)
  by_cases k23 : tx_K T L p = 23
  · exact tw_step hσ h hI 23 19 false k23 (by decide) (by decide) (by decide) (by decide) tw_a23 (tw_b23 hσ h hN k23) (fun x y p' hx hs hN6 hw h0 h4 => tw_ord23 hσ hx hs hw h0)
  by_cases k12 : tx_K T L p = 12
  · exact tw_step hσ h hI 12 6 false k12 (by decide) (by decide) (by decide) (by decide) tw_a12 (tw_b12 hσ h hN k12) (fun x y p' hx hs hN6 hw h0 h4 => tw_ord12 hσ hx hH hs hN6 hw h0)
  refine tw_bad hσ h hN fun c hc z => ?_
  rcases (show c = 12 ∨ c = 13 ∨ c = 14 ∨ c = 15 ∨ c = 16 ∨ c = 17 ∨ c = 18 ∨ c = 22 ∨ c = 23 ∨ c = 11 by omega) with e | e | e | e | e | e | e | e | e | e <;> omega
theorem tw_loop (hσ : lr_S σ) (hH : tw_H n w w0) (hL3 : L ≤ 300) : ∀ (r c p : Nat) (I : Nat → Nat → Int32) (N d : Nat) (st : Nat → Nat) (wc wm : lt_W) (f f' : Nat), L - p ≤ r → c ≤ p → tk_S w w0 T L p wc wm → tw_I I N d st n wc wm → r + 2 ≤ f → r + 2 ≤ f' → (∃ wc' wm', fb_X10_isWeeks_16 σ 39 f 1 (nI c) wc = fb_X10_isWeeks_111 σ 39 0 wc' ∧ fb_X12_weeks_38 σ 233 f' 1 wm = fb_X12_weeks_57 σ 233 wm' ∧ tk_E w w0 wc' wm') ∨ (∃ wc' wm' I N d st p', fb_X10_isWeeks_16 σ 39 f 1 (nI c) wc = fb_X10_isWeeks_111 σ 39 1 wc' ∧ fb_X12_weeks_38 σ 233 f' 1 wm = fb_X12_weeks_57 σ 233 wm' ∧ tk_S w w0 T L p' wc' wm' ∧ tw_I I N d st n wc' wm') := by
  obtain ⟨⟨r0, r1, r2, r3⟩, -, -⟩ := lr_39 hσ
  have stop : ∀ (c p : Nat) (I : Nat → Nat → Int32) (N d : Nat) (st : Nat → Nat) (wc wm : lt_W) (f f' : Nat), c ≤ p → tk_S w w0 T L p wc wm → tw_I I N d st n wc wm → tx_K T L p = 0 → (∃ wc' wm' I N d st p', fb_X10_isWeeks_16 σ 39 (f + 1) 1 (nI c) wc = fb_X10_isWeeks_111 σ 39 1 wc' ∧ fb_X12_weeks_38 σ 233 (f' + 1) 1 wm = fb_X12_weeks_57 σ 233 wm' ∧ tk_S w w0 T L p' wc' wm' ∧ tw_I I N d st n wc' wm') := fun c p I N d st wc wm f f' hc h hI hK => by
    have hp := h.1.2.1
    refine ⟨wc, wm, I, N, d, st, p, ?_, ?_, h, hI⟩
    · rw [fb_X10_isWeeks_16, if_neg (show ¬ (300 : Int32) < nI c from nI_nlt (a := 300) (by omega) (by decide)), if_neg lu_10, r0, if_pos (show lt_gi wc 10 5 = 0 from (tp_kind h (by decide)).mpr hK)]
    · rw [fb_X12_weeks_38, if_neg lu_10, if_pos ((tt_k0 h).mpr hK)]
  intro r
  induction r with
  | zero =>
    intro c p I N d st wc wm f f' hr hc h hI hf hf'
    obtain ⟨f, rfl⟩ : ∃ g, f = g + 1 := ⟨f - 1, by omega⟩
    obtain ⟨f', rfl⟩ : ∃ g, f' = g + 1 := ⟨f' - 1, by omega⟩
    have hp := h.1.2.1
    have hK : tx_K T L p = 0 := by
      have hN := tx_N_gt T hp
      by_cases z : tx_K T L p = 0
      · exact z
      · have := hN.2.2.2 z; omega
    exact Or.inr (stop c p I N d st wc wm f f' hc h hI hK)
  | succ r ih =>
    intro c p I N d st wc wm f f' hr hc h hI hf hf'
    obtain ⟨f, rfl⟩ : ∃ g, f = g + 1 := ⟨f - 1, by omega⟩
    obtain ⟨f', rfl⟩ : ∃ g, f' = g + 1 := ⟨f' - 1, by omega⟩
    have hp := h.1.2.1
    by_cases hK : tx_K T L p = 0
    · exact Or.inr (stop c p I N d st wc wm f f' hc h hI hK)
    · have e1 : fb_X10_isWeeks_16 σ 39 (f + 1) 1 (nI c) wc = Option.bind (tw_c1 σ wc) (fun q => fb_X10_isWeeks_16 σ 39 f q.1 (nI (c + 1)) q.2) := by
        rw [fb_X10_isWeeks_16, if_neg (show ¬ (300 : Int32) < nI c from nI_nlt (a := 300) (by omega) (by decide)), if_neg lu_10, r0, r2, if_neg (show ¬ lt_gi wc 10 5 = 0 from fun z => hK ((tp_kind h (c := 0) (by decide)).mp z)), nI_1]
        unfold tw_c1
        by_cases c11 : lt_gi wc 10 5 = 11
        · rw [if_pos c11, if_pos c11]
        · rw [if_neg c11, if_neg c11]
          unfold tw_cs
          cases f_X10_beginStep σ 39 (lt_gi wc 10 5) wc with
          | none => rfl
          | some q5 =>
            rw [lu_bind, lu_bind]
            by_cases z5 : q5.1 = 0
            · rw [if_pos z5, if_pos z5]; rfl
            · rw [if_neg z5, if_neg z5]
              cases f_X10_takeRest σ 39 (lt_gi wc 40 1) q5.2 with
              | none => rfl
              | some q6 =>
                rw [lu_bind, lu_bind]
                by_cases z6 : q6.1 = 0
                · rw [if_pos z6, if_pos z6]; rfl
                · rw [if_neg z6, if_neg z6]
                  cases f_X7_take σ 10 59 q6.2 with
                  | none => rfl
                  | some q8 =>
                    rw [lu_bind, lu_bind]
                    by_cases z8 : q8.1 = 0
                    · rw [if_pos z8, if_pos z8]; rfl
                    · rw [if_neg z8, if_neg z8]; rfl
      have e2 : fb_X12_weeks_38 σ 233 (f' + 1) 1 wm = Option.bind (f_X12_weekStep σ 233 wm) (fun q => fb_X12_weeks_38 σ 233 f' q.1 q.2) := by
        rw [fb_X12_weeks_38, if_neg lu_10, if_neg (fun z => hK ((tt_k0 h).mp z))]
      rw [e1, e2]
      rcases tw_any hσ h hI hH with ⟨x, y, a1, a2, a3⟩ | ⟨x, y, a1, a2, p', I', N', d', st', a3, a4, a5⟩
      · rw [a1, a2, lu_bind, lu_bind]
        refine Or.inl ⟨x, y, ?_, ?_, a3⟩
        · obtain ⟨g, rfl⟩ : ∃ g, f = g + 1 := ⟨f - 1, by omega⟩
          show fb_X10_isWeeks_16 σ 39 (g + 1) 0 _ x = _
          rw [fb_X10_isWeeks_16]
          split
          · rfl
          · rw [if_pos rfl]
        · obtain ⟨g, rfl⟩ : ∃ g, f' = g + 1 := ⟨f' - 1, by omega⟩
          show fb_X12_weeks_38 σ 233 (g + 1) 0 y = _
          rw [fb_X12_weeks_38, if_pos rfl]
      · rw [a1, a2, lu_bind, lu_bind]
        exact ih (c + 1) p' I' N' d' st' x y f f' (by omega) (by omega) a4 a5 (by omega) (by omega)
end TWE