/-! THE TABLE'S TEXT: butter -/
section TBU
variable {σ : lt_S} {w w0 wc wm : lt_W} {T : Nat → Nat} {L p : Nat} {A : la_A} {t : Nat → Bool}
/-- a name that stands here, among so many guests -/
theorem tt_look (hσ : lr_S σ) {o n nb : Nat} (h : tk_S w w0 T L p wc wm) (s9 : lt_r σ o 9 = o + 1) (sl : lt_len σ (o + 1) = 7) (hn : n ≤ 7) (hb : nb + 7 ≤ 42) (h0 : lt_gi wc o 0 = nI n) (hN : ∀ g, g < n → lr_nm1 (lt_gl wc (o + 1) g) (lt_gl wm 235 (nb + g))) (hK : tx_K T L p = 24) : ∃ v, f_X5_guestNamed σ o (lt_gl wc 10 6) wc = some v ∧ f_X12_findHere σ 233 (nI nb) (nI n) wm = some v ∧ (v = -1 ∨ ∃ g, g < n ∧ v = nI g) := by
  rw [h.1.nm hK]
  exact tx_find2 hσ s9 sl hn hb h0 hN (tx_w_L T h.1.2.1) (tx_w_8 T h.1.2.1 (by omega) (by omega)).1 (tx_nmM hσ h.2.1 (by omega) (by omega))
theorem tm_guestTo (hσ : lr_S σ) (hM : tx_Mt wm T L p) (hK : tx_K T L p = 24) {x1 nb n : Nat} {v : Int32} (hx : (x1 = 1712 ∧ nb = 28) ∨ (x1 = 0 ∧ nb = 0)) (h0 : lt_gi wm 234 x1 = nI n) (hf : f_X12_findHere σ 233 (nI nb) (nI n) wm = some v) (x2 : Nat) (h1 : 1712 ≤ x2) (h2 : x2 < 2140) : f_X12_guestTo σ 233 (nI x1) (nI x2) wm = if v = -1 then Option.bind (f_X12_fails σ 233 3 (lt_si wm 234 x2 v)) (fun q => lt_bz q.1 (some (q.1, q.2))) else Option.bind (f_X12_ahead σ 233 (lt_si wm 234 x2 v)) (fun q5 => some (1, q5)) := by
  have key : fb_X12_guestTo_34 σ 233 (nI x1) (nI x2) 234 (nI x2) (nI nb) wm = if v = -1 then Option.bind (f_X12_fails σ 233 3 (lt_si wm 234 x2 v)) (fun q => lt_bz q.1 (some (q.1, q.2))) else Option.bind (f_X12_ahead σ 233 (lt_si wm 234 x2 v)) (fun q5 => some (1, q5)) := by
    unfold fb_X12_guestTo_34
    rw [lr_at hσ, lq_l234 hσ, lm_a0, Nat.add_zero, lu_ck (by omega) (by decide), nI_clamp (by omega), h0, hf, lu_bind, lu_ck (by omega) (by decide), lu_let, nI_clamp (by omega), lu_ck (by omega) (by decide), lu_eq]
  unfold f_X12_guestTo fb_X12_guestTo_0
  rw [tx_isNm hσ hM, lu_bind, if_pos hK, if_neg lu_10, lr_at hσ]
  rcases hx with ⟨rfl, rfl⟩ | ⟨rfl, rfl⟩
  · rw [if_pos (show nI 1712 = 1712 from rfl)]; exact key
  · rw [if_neg (show ¬ nI 0 = 1712 by decide)]; exact key
theorem tm_guestNo (hσ : lr_S σ) (hM : tx_Mt wm T L p) (hK : tx_K T L p ≠ 24) (x1 x2 : Int32) : f_X12_guestTo σ 233 x1 x2 wm = Option.bind (f_X12_fails σ 233 2 wm) (fun q => lt_bz q.1 (some (q.1, q.2))) := by
  unfold f_X12_guestTo fb_X12_guestTo_0
  rw [tx_isNm hσ hM, lu_bind, if_neg hK, if_pos rfl]
/-- the second one -/
theorem tm_otherTo (hσ : lr_S σ) (hM : tx_Mt wm T L p) (hK : tx_K T L p = 24) {x1 nb n : Nat} {v : Int32} (hx : (x1 = 1712 ∧ nb = 28) ∨ (x1 = 0 ∧ nb = 0)) (h0 : lt_gi wm 234 x1 = nI n) (hf : f_X12_findHere σ 233 (nI nb) (nI n) wm = some v) (x2 : Nat) (h1 : 1712 ≤ x2) (h2 : x2 + 1 < 2140) : f_X12_otherTo σ 233 (nI x1) (nI x2) wm = if v = lt_gi wm 234 x2 then Option.bind (f_X12_fails σ 233 5 wm) (fun q => lt_bz q.1 (some (q.1, q.2))) else Option.bind (f_X12_guestTo σ 233 (nI x1) (nI (x2 + 1)) wm) (fun q => lt_bz q.1 (some (q.1, q.2))) := by
  have key : fb_X12_otherTo_23 σ 233 (nI x1) (nI x2) (nI nb) wm = if v = lt_gi wm 234 x2 then Option.bind (f_X12_fails σ 233 5 wm) (fun q => lt_bz q.1 (some (q.1, q.2))) else Option.bind (f_X12_guestTo σ 233 (nI x1) (nI (x2 + 1)) wm) (fun q => lt_bz q.1 (some (q.1, q.2))) := by
    unfold fb_X12_otherTo_23 fb_X12_otherTo_49
    rw [lr_at hσ, lq_l234 hσ, lm_a0, Nat.add_zero, lu_ck (by omega) (by decide), nI_clamp (by omega), h0, hf, lu_bind, lu_ck (by omega) (by decide), nI_clamp (by omega), nI_1]
  unfold f_X12_otherTo fb_X12_otherTo_0
  rw [tx_isNm hσ hM, lu_bind, if_pos hK, if_neg lu_10]
  rcases hx with ⟨rfl, rfl⟩ | ⟨rfl, rfl⟩
  · rw [if_pos (show nI 1712 = 1712 from rfl)]; exact key
  · rw [if_neg (show ¬ nI 0 = 1712 by decide)]; exact key
theorem tm_otherNo (hσ : lr_S σ) (hM : tx_Mt wm T L p) (hK : tx_K T L p ≠ 24) (x1 x2 : Int32) : f_X12_otherTo σ 233 x1 x2 wm = Option.bind (Option.bind (f_X12_fails σ 233 2 wm) (fun q => lt_bz q.1 (some (q.1, q.2)))) (fun q => lt_bz q.1 (some (q.1, q.2))) := by
  unfold f_X12_otherTo fb_X12_otherTo_0
  rw [tx_isNm hσ hM, lu_bind, if_neg hK, if_pos rfl]
  unfold fb_X12_otherTo_49
  rw [tm_guestNo hσ hM hK]
/-- both refuse, whatever the wrapping -/
theorem tp_f (h : tk_S w w0 T L p wc wm) (x : Nat) (h1 : 1 ≤ x) (h7 : x ≤ 7) : ∃ wc' wm', f_X7_refuse σ 10 (nI x) wc = some (0, wc') ∧ f_X12_fails σ 233 (nI x) wm = some (0, wm') ∧ tk_E w w0 wc' wm' := by
  rcases tp_fail (σ := σ) (P := fun _ _ => False) h x h1 h7 with h | ⟨_, _, _, _, h⟩
  · exact h
  · exact h.elim
theorem tt_b2 (hσ : lr_S σ) (h : tk_S w w0 T L p wc wm) (hD : tt_D A t wc wm) (hK : tx_K T L p = 12) : tk_O2 (tt_Q1 w w0 T L p t) (tk_E w w0) (fun u => Option.bind (f_X7_take σ 10 59 u) (fun q19 => lt_bz q19.1 (some (q19.1, q19.2)))) (f_X6_takeButter σ 29 wc) (f_X12_aButter σ 233 wm) := by
  have r29 : lt_r σ 29 0 = 10 := hσ.r 29 0 (by decide) (by decide)
  have r291 : lt_r σ 29 1 = 30 := hσ.r 29 1 (by decide) (by decide)
  obtain ⟨⟨-, s0, s1, s2, s3, s4, s5, s6, s7⟩, l1, l2, l3, l4, l5, l6, l7, l8⟩ := lr_tab hσ (o := 30) (by decide)
  obtain ⟨wc1, wm1, a1, b1, hS1, hF1, hF2⟩ := tp_adv hσ h (by omega)
  obtain ⟨hO, hc, hm, hN, hB⟩ := hD.F hF1 hF2
  have h7 := hO.2.1
  have n2 : lt_gi wm1 234 1712 = nI (la_n A) := (hm.2.2.1 0 (by decide)).trans hm.1
  have e12 : ∀ {α : Type} (y : Option α), lt_ck 1712 2560 y = y := fun y => lu_ck (i := 1712) (by decide) (by decide)
  have q1 := tp_gt h (by omega)
  unfold f_X6_takeButter fb_X6_takeButter_0 f_X12_aButter fb_X12_aButter_0
  rw [r29, r291, s6, l7, lr_at hσ, lq_l234 hσ, show (1712 : Int32).toNatClampNeg = 1712 from rfl, a1, lu_bind, b1, lu_bind, e12, n2, tx_isNm hσ hS1.2.1, lu_bind]
  have k24 := tp_kind hS1 (c := 24) (by decide)
  by_cases hK1 : tx_K T L (tx_N T L p) = 24
  · obtain ⟨v, v1, v2, v3⟩ := tt_look hσ (o := 30) (nb := 28) hS1 s0 l1 h7 (by decide) (lc_n hc) hN hK1
    have v2' : f_X12_findHere σ 233 28 (nI (la_n A)) wm1 = some v := v2
    rw [if_pos hK1, if_neg lu_10, v2', lu_bind]
    have eN : f_X7_namedGuest σ 10 30 wc1 = if v = -1 then Option.bind (f_X7_refuse σ 10 3 wc1) (fun q2 => some (v, q2.2)) else some (v, wc1) := by
      unfold f_X7_namedGuest fb_X7_namedGuest_0
      rw [if_pos (show lt_gi wc1 10 5 = 24 from k24.mpr hK1), v1, lu_bind]
    rw [eN]
    have gT := tm_guestTo hσ hS1.2.1 hK1 (Or.inl ⟨rfl, rfl⟩) n2 v2 2132 (by decide) (by decide)
    have gT : f_X12_guestTo σ 233 1712 2132 wm1 = _ := gT
    rcases v3 with v3 | ⟨g, hg, v3⟩
    · subst v3
      rw [if_pos rfl] at gT
      rw [if_pos rfl, if_pos rfl]
      unfold fb_X12_aButter_69
      rw [gT]
      obtain ⟨x, y, e1, e2, e3⟩ := tp_f (σ := σ) (hS1.mi (b := 234) (k := 2132) (v := -1) (by omega)) 3 (by decide) (by decide)
      rw [show f_X7_refuse σ 10 3 wc1 = _ from e1, show f_X12_fails σ 233 3 _ = _ from e2]
      exact Or.inl ⟨x, y, rfl, rfl, e3⟩
    · subst v3
      have g1 := lu_ne1 (i := g) (by omega)
      obtain ⟨c0, c1, c2, c3, c4, c5⟩ := hc.2.2.2.2 g hg
      have m6 : lt_gi wm1 234 (1712 + (10 + 7 * g) + 6) = A.2 g 6 := by
        rw [← hm.2.2.2 g hg 6 (by decide)]; congr 1; omega
      rw [if_neg g1] at gT
      rw [if_neg g1, if_neg g1, lu_bind, if_neg g1, lm_row, lu_bind, show (1712 : Int32) + nI (10 + 7 * g) = nI (1712 + (10 + 7 * g)) from nI_add 1712 _, lm_a6, lu_ck (by omega) (by decide), lu_ck (by omega) (by decide), nI_clamp (by omega), nI_clamp (by omega), m6, c5]
      by_cases hb : A.2 g 6 = -1
      · rw [if_pos hb, if_pos hb]
        unfold fb_X12_aButter_69
        rw [gT]
        have hS1' := hS1.mi (b := 234) (k := 2132) (v := nI g) (by omega)
        obtain ⟨wc2, wm2, a2, b2, hS2, hF3, hF4⟩ := tp_adv hσ hS1' (by omega)
        have hc2 := hc.Fk hF3
        have hm2 : lm_T wm2 234 1712 A := (hm.outK (by omega)).Fm hF4
        have hN2 : tt_N wc2 wm2 (la_n A) := fun i hi => by rw [hF3.2 _ _ (by omega), hF4.2]; exact hN i hi
        have hB2 : tt_B t wc2 wm2 := ⟨(hF3.1 _ _ (by omega)).trans hB.1, (hF4.1 _ _ (by omega)).trans ((lu_ne (by omega)).trans hB.2.1), (hF4.1 _ _ (by omega)).trans ((lu_ne (by omega)).trans hB.2.2)⟩
        have m32 : lt_gi wm2 234 2132 = nI g := (hF4.1 _ _ (by omega)).trans lu_eq
        have n3 : lt_gi wm2 234 1712 = nI (la_n A) := (hm2.2.2.1 0 (by decide)).trans hm2.1
        have q2 := tp_ge hS1
        rw [a2, lu_bind, b2, lu_bind, lu_bind, if_neg lu_10]
        have k24' := tp_kind hS2 (c := 24) (by decide)
        by_cases hK2 : tx_K T L (tx_N T L (tx_N T L p)) = 24
        · obtain ⟨v, v1, v2, v3⟩ := tt_look hσ (o := 30) (nb := 28) hS2 s0 l1 h7 (by decide) (lc_n hc2) hN2 hK2
          have eN : f_X7_namedGuest σ 10 30 wc2 = if v = -1 then Option.bind (f_X7_refuse σ 10 3 wc2) (fun q2 => some (v, q2.2)) else some (v, wc2) := by
            unfold f_X7_namedGuest fb_X7_namedGuest_0
            rw [if_pos (show lt_gi wc2 10 5 = 24 from k24'.mpr hK2), v1, lu_bind]
          have oT := tm_otherTo hσ hS2.2.1 hK2 (Or.inl ⟨rfl, rfl⟩) n3 v2 2132 (by decide) (by decide)
          have oT : f_X12_otherTo σ 233 1712 2132 wm2 = _ := oT
          have gT := tm_guestTo hσ hS2.2.1 hK2 (Or.inl ⟨rfl, rfl⟩) n3 v2 2133 (by decide) (by decide)
          rw [m32] at oT
          rw [eN, oT]
          rcases v3 with v3 | ⟨j, hj, v3⟩
          · subst v3
            rw [if_pos rfl] at gT
            rw [if_pos rfl, if_neg (show ¬ (-1 : Int32) = nI g from lu_m1ne (by omega)), gT]
            obtain ⟨x, y, e1, e2, e3⟩ := tp_f (σ := σ) (hS2.mi (b := 234) (k := 2133) (v := -1) (by omega)) 3 (by decide) (by decide)
            rw [show f_X7_refuse σ 10 3 wc2 = _ from e1, show f_X12_fails σ 233 3 _ = _ from e2]
            exact Or.inl ⟨x, y, rfl, rfl, e3⟩
          · subst v3
            have j1 := lu_ne1 (i := j) (by omega)
            rw [if_neg j1] at gT
            rw [if_neg j1, lu_bind, if_neg j1]
            by_cases e : j = g
            · subst e
              rw [if_pos rfl, if_pos rfl]
              obtain ⟨x, y, e1, e2, e3⟩ := tp_f (σ := σ) hS2 5 (by decide) (by decide)
              rw [show f_X7_refuse σ 10 5 wc2 = _ from e1, show f_X12_fails σ 233 5 wm2 = _ from e2]
              exact Or.inl ⟨x, y, rfl, rfl, e3⟩
            · have ne : ¬ nI j = nI g := fun z => e ((nI_eq (by omega) (by omega)).mp z)
              rw [if_neg ne, if_neg ne, gT, lu_ck (by omega) (by decide), lu_let]
              have hS2' := (hS2.ci (b := 37) (k := g) (v := nI j) (by omega)).mi (b := 234) (k := 2133) (v := nI j) (by omega)
              obtain ⟨wc3, wm3, a3, b3, hS3, hF5, hF6⟩ := tp_adv hσ hS2' (by omega)
              have q3 := tp_ge hS2
              rw [a3, lu_bind, b3, lu_bind, lu_bind]
              have m32' : lt_gi wm3 234 2132 = nI g := (hF6.1 _ _ (by omega)).trans ((lu_ne (by omega)).trans m32)
              have m33 : lt_gi wm3 234 2133 = nI j := (hF6.1 _ _ (by omega)).trans lu_eq
              have ek : ∀ {α : Type} (y : Option α), lt_ck 2132 2560 y = y := fun y => lu_ck (i := 2132) (by decide) (by decide)
              have ek1 : ∀ {α : Type} (y : Option α), lt_ck (2132 + 1) 2560 y = y := fun y => lu_ck (i := 2133) (by decide) (by decide)
              have hr : lt_bz (1, wm3).1 (some ((1, wm3).1, (1, wm3).2)) = some ((1 : Int32), wm3) := rfl
              rw [hr, lu_bind, if_neg lu_10, lr_at hσ, lq_l234 hσ, ek, show (2132 : Int32).toNatClampNeg = 2132 from rfl, show ((2132 : Int32) + 1).toNatClampNeg = 2133 from rfl]
              show tk_O2 _ _ _ _ (Option.bind (f_X12_guestRow (lt_gi wm3 234 2132)) _)
              rw [m32', lm_row, lu_bind, ek1]
              show tk_O2 _ _ _ _ (lt_ck ((1712 + nI (10 + 7 * g)) + 6) 2560 (lt_let (lt_si wm3 234 ((1712 + nI (10 + 7 * g)) + 6).toNatClampNeg (lt_gi wm3 234 2133)) _))
              rw [show (1712 : Int32) + nI (10 + 7 * g) = nI (1712 + (10 + 7 * g)) from nI_add 1712 _, lm_a6, lu_ck (by omega) (by decide), nI_clamp (by omega), lu_let, m33]
              refine Or.inr ⟨wc3, _, rfl, rfl, _, la_c A g 6 (nI j), ?_, hS3.mi (by omega), hO.c (Or.inr (Or.inr (Or.inr (Or.inr (Or.inr (Or.inr ⟨rfl, Or.inr ⟨j, hj, e, rfl⟩⟩)))))), ?_, ?_, ?_, ?_, ?_, ?_⟩
              · omega
              · exact (hc2.cell (Or.inr ⟨rfl, rfl⟩)).Fk hF5
              · exact ((hm2.outK (by omega)).Fm hF6).cell (by omega) (by decide)
              · intro i hi
                show lr_nm1 (lt_gl wc3 31 i) (lt_gl wm3 235 (28 + i))
                rw [hF5.2 _ _ (by omega), hF6.2]; exact hN2 i hi
              · rw [hF5.1 _ _ (by omega), lu_ne (by omega)]; exact hB2.1
              · rw [lu_ne (by omega), hF6.1 _ _ (by omega), lu_ne (by omega)]; exact hB2.2.1
              · rw [lu_ne (by omega), hF6.1 _ _ (by omega), lu_ne (by omega)]; exact hB2.2.2
        · have eN : f_X7_namedGuest σ 10 30 wc2 = Option.bind (f_X7_refuse σ 10 2 wc2) (fun q3 => some ((-1), q3.2)) := by
            unfold f_X7_namedGuest fb_X7_namedGuest_0
            rw [if_neg (show ¬ lt_gi wc2 10 5 = 24 from fun z => hK2 (k24'.mp z))]
          obtain ⟨x, y, e1, e2, e3⟩ := tp_f (σ := σ) hS2 2 (by decide) (by decide)
          rw [eN, tm_otherNo hσ hS2.2.1 hK2, show f_X7_refuse σ 10 2 wc2 = _ from e1, show f_X12_fails σ 233 2 wm2 = _ from e2]
          exact Or.inl ⟨x, y, rfl, rfl, e3⟩
      · rw [if_neg hb, if_neg hb]
        obtain ⟨x, y, e1, e2, e3⟩ := tp_f (σ := σ) hS1 5 (by decide) (by decide)
        rw [show f_X7_refuse σ 10 5 wc1 = _ from e1, show f_X12_fails σ 233 5 wm1 = _ from e2]
        exact Or.inl ⟨x, y, rfl, rfl, e3⟩
  · have eN : f_X7_namedGuest σ 10 30 wc1 = Option.bind (f_X7_refuse σ 10 2 wc1) (fun q3 => some ((-1), q3.2)) := by
      unfold f_X7_namedGuest fb_X7_namedGuest_0
      rw [if_neg (show ¬ lt_gi wc1 10 5 = 24 from fun z => hK1 (k24.mp z))]
    obtain ⟨x, y, e1, e2, e3⟩ := tp_f (σ := σ) hS1 2 (by decide) (by decide)
    rw [if_neg hK1, if_pos rfl, eN, show f_X7_refuse σ 10 2 wc1 = _ from e1, show f_X12_fails σ 233 2 wm1 = _ from e2]
    exact Or.inl ⟨x, y, rfl, rfl, e3⟩
theorem tt_butter (hσ : lr_S σ) (h : tk_S w w0 T L p wc wm) (hD : tt_D A t wc wm) (hK : tx_K T L p = 12) : tk_O (tt_Q w w0 T L p) (tk_E w w0) (f_X6_takeButter σ 29 wc) (f_X12_tablePart σ 233 wm) := by
  unfold f_X12_tablePart fb_X12_tablePart_0
  rw [tx_inM hσ h.2.1, lu_bind, if_pos (show 1 ≤ tx_K T L p ∧ tx_K T L p ≤ 23 by omega), hK, show nI (tx_m 12) = 6 from rfl, if_neg (by decide), if_pos (by decide), if_neg (by decide), if_pos rfl]
  rcases tt_b2 hσ h hD hK with ⟨x, y, e1, e2, e3⟩ | ⟨x, y, e1, e2, p', B, e3, e4, e5⟩
  · rw [e1, e2, lu_bind]
    exact Or.inl ⟨x, y, rfl, if_pos rfl, e3⟩
  · rw [e1, e2, lu_bind, if_neg lu_10]
    dsimp only
    rcases tp_sign hσ e4 59 (by decide) (by decide) with ⟨x2, y2, f1, f2, f3⟩ | ⟨x2, y2, f1, f2, f3⟩
    · rw [show f_X7_take σ 10 59 x = _ from f1, show f_X12_wantSign σ 233 59 y = _ from f2, lu_bind, lu_bind]
      exact Or.inl ⟨x2, y2, rfl, if_pos rfl, f3⟩
    · rw [show f_X7_take σ 10 59 x = _ from f1, show f_X12_wantSign σ 233 59 y = _ from f2, lu_bind, lu_bind]
      have := tp_ge e4
      exact Or.inr ⟨x2, y2, rfl, if_neg lu_10, _, B, t, by omega, f3.1, e5.F f3.2.1 f3.2.2⟩
end TBU