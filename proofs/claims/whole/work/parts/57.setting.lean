/-! THE TABLE'S TEXT: settings, guests -/
def tk_O2 (P E : lt_W → lt_W → Prop) (gc : lt_W → Option (Int32 × lt_W)) (fc fm : Option (Int32 × lt_W)) : Prop := (∃ wc wm, fc = some (0, wc) ∧ fm = some (0, wm) ∧ E wc wm) ∨ (∃ wc wm, fc = gc wc ∧ fm = some (1, wm) ∧ P wc wm)
theorem tk_O.bind2 {P Q E : lt_W → lt_W → Prop} {gc : lt_W → Option (Int32 × lt_W)} {fc fm : Option (Int32 × lt_W)} {kc km : Int32 × lt_W → Option (Int32 × lt_W)} (h : tk_O P E fc fm) (h1 : ∀ wc wm, P wc wm → tk_O2 Q E gc (kc (1, wc)) (km (1, wm))) (h0 : ∀ wc wm, kc (0, wc) = some (0, wc) ∧ km (0, wm) = some (0, wm)) : tk_O2 Q E gc (Option.bind fc kc) (Option.bind fm km) := by
  rcases h with ⟨wc, wm, e1, e2, e3⟩ | ⟨wc, wm, e1, e2, e3⟩
  · rw [e1, e2]; exact Or.inl ⟨wc, wm, (h0 wc wm).1, (h0 wc wm).2, e3⟩
  · rw [e1, e2]; exact h1 wc wm e3
theorem tk_O.fail2 {P E : lt_W → lt_W → Prop} {gc : lt_W → Option (Int32 × lt_W)} {fc fm : Option (Int32 × lt_W)} (h : tk_O (fun _ _ => False) E fc fm) : tk_O2 P E gc fc fm := by
  rcases h with h | ⟨_, _, _, _, h⟩
  · exact Or.inl h
  · exact h.elim
/-- the settings told, the class's bits one higher -/
def tt_c (t : Nat → Bool) : Nat → Bool | 0 => false | i + 1 => t i
def tt_N (wc wm : lt_W) (n : Nat) : Prop := ∀ g, g < n → lr_nm1 (lt_gl wc 31 g) (lt_gl wm 235 (28 + g))
def tt_B (t : Nat → Bool) (wc wm : lt_W) : Prop := lt_gi wc 29 2 = la_sb (tt_c t) 7 ∧ lt_gi wm 233 20 = la_sb t 7 ∧ lt_gi wm 234 1720 = -1
def tt_D (A : la_A) (t : Nat → Bool) (wc wm : lt_W) : Prop := la_Ok A ∧ lc_T wc 30 A ∧ lm_T wm 234 1712 A ∧ tt_N wc wm (la_n A) ∧ tt_B t wc wm
def tt_Q (w w0 : lt_W) (T : Nat → Nat) (L p : Nat) (wc wm : lt_W) : Prop := ∃ p' A t, p < p' ∧ tk_S w w0 T L p' wc wm ∧ tt_D A t wc wm
theorem lc_T.Fk {w w' : lt_W} {A : la_A} (h : lc_T w 30 A) (hF : tx_Fk w w') : lc_T w' 30 A := h.congr fun a k h1 h2 => hF.1 a k (by omega)
theorem lm_T.Fm {w w' : lt_W} {b : Nat} {A : la_A} (h : lm_T w 234 b A) (hF : tx_Fm w w') : lm_T w' 234 b A := h.congr fun k _ _ _ => hF.1 _ _ (by omega)
theorem tt_N.F {wc wm wc' wm' : lt_W} {n : Nat} (h : tt_N wc wm n) (h1 : tx_Fk wc wc') (h2 : tx_Fm wm wm') : tt_N wc' wm' n := fun g hg => by rw [h1.2 _ _ (by omega), h2.2]; exact h g hg
theorem tt_B.F {wc wm wc' wm' : lt_W} {t : Nat → Bool} (h : tt_B t wc wm) (h1 : tx_Fk wc wc') (h2 : tx_Fm wm wm') : tt_B t wc' wm' := ⟨(h1.1 _ _ (by omega)).trans h.1, (h2.1 _ _ (by omega)).trans h.2.1, (h2.1 _ _ (by omega)).trans h.2.2⟩
theorem tt_D.F {wc wm wc' wm' : lt_W} {A : la_A} {t : Nat → Bool} (h : tt_D A t wc wm) (h1 : tx_Fk wc wc') (h2 : tx_Fm wm wm') : tt_D A t wc' wm' := ⟨h.1, h.2.1.Fk h1, h.2.2.1.Fm h2, h.2.2.2.1.F h1 h2, h.2.2.2.2.F h1 h2⟩
theorem tk_E.ci {w w0 wc wm : lt_W} {b k : Nat} {v : Int32} (h : tk_E w w0 wc wm) (hb : 29 ≤ b ∧ b ≤ 48) : tk_E w w0 (lt_si wc b k v) wm := by
  obtain ⟨⟨f, a1, a2, a3, a4⟩, a5, a6, a7⟩ := h
  exact ⟨⟨f, a1, a2, (lu_ne (by omega)).trans a3, a4⟩, (lu_ne (by omega)).trans a5, a6.i (Or.inr hb), a7⟩
section TG
variable {σ : lt_S} {w w0 wc wm : lt_W} {T : Nat → Nat} {L p : Nat} {A : la_A} {t : Nat → Bool}
theorem tp_gt (h : tk_S w w0 T L p wc wm) (hK : tx_K T L p ≠ 0) : p < tx_N T L p := by
  obtain ⟨a, b, c, d⟩ := tx_N_gt T h.1.2.1
  have := d hK; omega
theorem tp_ge (h : tk_S w w0 T L p wc wm) : p ≤ tx_N T L p := by
  obtain ⟨a, b, c, d⟩ := tx_N_gt T h.1.2.1
  by_cases hK : tx_K T L p = 0
  · have h24 := tx_find_24 (tx_w T L p)
    rcases tx_cases T h.1.2.1 with ⟨x, y, z⟩ | ⟨x, y, z, z2⟩ | ⟨x, y, y2, z, z2⟩ | ⟨x, y, y2, y3, z, z2⟩ | ⟨x, y, y2, y3, z, z2⟩
    · omega
    · rw [z] at hK; split at hK <;> omega
    · rw [z] at hK; split at hK <;> omega
    · omega
    · omega
  · have := d hK; omega
theorem tt_setting (hσ : lr_S σ) (h : tk_S w w0 T L p wc wm) (hD : tt_D A t wc wm) (k a b : Nat) (k1 : 1 ≤ k) (k5 : k ≤ 5) (ha : a < 100) (hb : b < 100) (hK : tx_K T L p = k) (hcs : ∀ u, f_X6_takeSettingsNumber σ 29 (nI k) u = Option.bind (f_X7_takeNumber σ 10 (nI a) (nI b) u) (fun q2 => lt_let (lt_si q2.2 30 k (lt_gi q2.2 10 8)) (fun w5 => lt_bz q2.1 (some (q2.1, w5))))) (hl : f_X12_leastOf (nI k) = some (nI a)) (hm : f_X12_mostOf (nI k) = some (nI b)) (hOk : ∀ v, lu_R v a b → la_Ok (la_h A k v)) : tk_O (tt_Q w w0 T L p) (tk_E w w0) (f_X6_takeSetting σ 29 (nI k) wc) (f_X12_tablePart σ 233 wm) := by
  obtain ⟨hO, hc, hm4, hN, hB1, hB2, hB3⟩ := hD
  have em : tx_m k = k - 1 := by
    have key : ∀ x : Fin 6, 1 ≤ x.1 → tx_m x.1 = x.1 - 1 := by decide
    exact key ⟨k, by omega⟩ k1
  have r29 : lt_r σ 29 0 = 10 := hσ.r 29 0 (by decide) (by decide)
  unfold f_X6_takeSetting fb_X6_takeSetting_0 f_X12_tablePart fb_X12_tablePart_0
  rw [lq_within_y (lo := 1) (hi := 5) 1 5 rfl rfl ⟨nI_le k1 (by omega), nI_le k5 (by omega)⟩, lu_bind, if_neg lu_10, tx_inM hσ h.2.1, lu_bind, if_pos (show 1 ≤ tx_K T L p ∧ tx_K T L p ≤ 23 by omega), hK, em, if_neg (nI_pos (by omega)), if_pos (show nI (k - 1) ≤ 6 from nI_le (b := 6) (by omega) (by decide)), if_neg (show ¬ nI (k - 1) = 5 from fun z => by have := (nI_eq (b := 5) (by omega) (by decide)).mp z; omega), if_neg (show ¬ nI (k - 1) = 6 from fun z => by have := (nI_eq (b := 6) (by omega) (by decide)).mp z; omega), hB1, hB2, lz_isIn (by omega) (show k - 1 < 7 by omega), lu_bind, r29]
  have etk : tt_c t k = t (k - 1) := by
    obtain ⟨j, rfl⟩ : ∃ j, k = j + 1 := ⟨k - 1, by omega⟩
    rfl
  have ek : nI (k - 1) + 1 = nI k := by rw [nI_1]; congr 1; omega
  cases ht : t (k - 1) with
  | true =>
    rw [if_neg (show ¬ la_sb (tt_c t) 7 &&& 1 <<< (nI k &&& 31) = 0 from fun z => by have := (la_bit (by omega) (show k < 7 by omega)).mp z; rw [etk, ht] at this; cases this), if_pos rfl, if_neg lu_10]
    exact tp_failz h 5 (by decide) (by decide)
  | false =>
    rw [if_pos ((la_bit (by omega) (show k < 7 by omega)).mpr (etk.trans ht)), if_neg (show ¬ (false = true) by decide), if_pos rfl, la_set (by omega) (show k < 7 by omega), la_set (by omega) (show k - 1 < 7 by omega), lu_let, lu_let, ek, hl, hm]
    have hS1 := (h.ci (b := 29) (k := 2) (v := la_sb (fun j => if j = k then true else tt_c t j) 7) (by omega)).mi (b := 233) (k := 20) (v := la_sb (fun j => if j = k - 1 then true else t j) 7) (by omega)
    have hB' : tt_B (fun j => if j = k - 1 then true else t j) (lt_si wc 29 2 (la_sb (fun j => if j = k then true else tt_c t j) 7)) (lt_si wm 233 20 (la_sb (fun j => if j = k - 1 then true else t j) 7)) := by
      refine ⟨lu_eq.trans (la_sb_congr fun i hi => ?_), lu_eq, (lu_ne (by omega)).trans hB3⟩
      cases i with
      | zero => rw [if_neg (by omega)]; rfl
      | succ i =>
        show (if i + 1 = k then true else t i) = if i = k - 1 then true else t i
        by_cases e : i = k - 1
        · rw [if_pos e, if_pos (by omega)]
        · rw [if_neg e, if_neg (by omega)]
    have hD1 : tt_D A (fun j => if j = k - 1 then true else t j) (lt_si wc 29 2 (la_sb (fun j => if j = k then true else tt_c t j) 7)) (lt_si wm 233 20 (la_sb (fun j => if j = k - 1 then true else t j) 7)) :=
      ⟨hO, hc.out (by omega), hm4.outA (by omega), hN, hB'⟩
    obtain ⟨wc1, wm1, a1, b1, hS2, hF1, hF2⟩ := tp_adv hσ hS1 (by omega)
    have hD2 := hD1.F hF1 hF2
    rw [a1, lu_bind, b1, lu_bind, lu_bind, lu_bind, hcs, show (1712 : Int32) + nI (k - 1) + 1 = nI (1712 + k) by rw [show (1712 : Int32) = nI 1712 from rfl, nI_add, nI_1]; congr 1; omega]
    have hnum := tp_num hσ hS2 (1712 + k) a b (by omega) (by omega) ha hb
    have hx : tk_O (fun wc' wm' => tk_S w w0 T L (tx_N T L (tx_N T L p)) wc' wm' ∧ ∃ B s, tt_D B s wc' wm') (tk_E w w0) (Option.bind (f_X7_takeNumber σ 10 (nI a) (nI b) wc1) (fun q2 => lt_let (lt_si q2.2 30 k (lt_gi q2.2 10 8)) (fun w5 => lt_bz q2.1 (some (q2.1, w5))))) (f_X12_number σ 233 (nI (1712 + k)) (nI a) (nI b) wm1) := by
      rcases hnum with ⟨x, y, e1, e2, e3⟩ | ⟨x, y, e1, e2, f1, f2, f3, f4, f5, f6⟩
      · rw [e1, e2, lu_bind]; exact Or.inl ⟨_, y, rfl, rfl, e3.ci (by omega)⟩
      · rw [e1, e2, lu_bind]
        obtain ⟨g1, g2, g3, g4, g5⟩ := hD2
        have hv : lu_R (nI (tx_V T L (tx_N T L p))) a b := ⟨_, f5, f6, rfl⟩
        have hT1 : lc_T x 30 A := (g2.out (by omega)).Fk f2
        have hT2 : lm_T y 234 1712 (la_h A k (nI (tx_V T L (tx_N T L p)))) := (g3.hd rfl (by omega) (by omega)).Fm f3
        refine Or.inr ⟨_, y, rfl, rfl, f1.ci (by omega), la_h A k (nI (tx_V T L (tx_N T L p))), (fun j => if j = k - 1 then true else t j), hOk _ hv, ?_, hT2, ?_, ?_⟩
        · rw [f4]; exact hT1.hd (by omega) (by omega)
        · rw [la_n_h (by omega)]
          intro g hg
          rw [f3.2]
          show lr_nm1 (lt_gl x 31 g) _
          rw [f2.2 _ _ (by omega)]
          exact g4 g hg
        · obtain ⟨q1, q2, q3⟩ := g5
          exact ⟨by rw [lu_ne (by omega), f2.1 _ _ (by omega), lu_ne (by omega)]; exact q1, by rw [f3.1 _ _ (by omega), lu_ne (by omega)]; exact q2, by rw [f3.1 _ _ (by omega), lu_ne (by omega)]; exact q3⟩
    refine hx.bind (fun x y hP => ?_) (fun x y => ⟨if_pos rfl, if_pos rfl⟩)
    obtain ⟨hP, B, s, hB⟩ := hP
    show tk_O _ _ (if (1 : Int32) = 0 then _ else _) (if (1 : Int32) = 0 then _ else _)
    rw [if_neg lu_10, if_neg lu_10]
    refine (tp_sign hσ hP 59 (by decide) (by decide)).bind (fun x2 y2 hP2 => ?_) (fun x y => ⟨if_pos rfl, if_pos rfl⟩)
    refine Or.inr ⟨x2, y2, if_neg lu_10, if_neg lu_10, _, B, s, ?_, hP2.1, hB.F hP2.2.1 hP2.2.2⟩
    have := tp_gt h (by omega)
    have := tp_ge hS2
    have := tp_ge hP
    omega
end TG