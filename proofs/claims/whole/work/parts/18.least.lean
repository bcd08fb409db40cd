/-! STARVED FIRST, LEAST -/
def la_st (A : la_A) : Int32 := la_sb (la_starv A) (la_n A)
def la_str (A : la_A) : Nat → Nat → Option Nat
  | 0, _ => none
  | m + 1, k => if la_st A = 0 then la_str (la_day A) m (k + 1) else some k
def la_enf (A : la_A) : Nat → Bool
  | 0 => true
  | d + 1 => if la_st (la_day A) = 0 then la_enf (la_day A) d else false
def la_lst (A : la_A) (d : Nat) : Nat → Nat → Option Nat
  | 0, _ => none
  | m + 1, l => if la_enf (la_h A 4 (nI l)) d = true then some l else la_lst A d m (l + 1)
section ST
variable {σ : lt_S}
theorem lc_days1 (hσ : lr_S σ) {o : Nat} (ho : o ∈ lr_tabs) {w : lt_W} {A : la_A} (hA : lc_T w o A) (hO : la_Ok A) : ∃ w', f_X5_passDays σ o 1 w = some w' ∧ lc_T w' o (la_day A) ∧ lu_Fr o (o + 9) w w' := lc_passDays (lr_tab hσ ho) hA hO (d := 1) (by decide)
theorem lc_str (hσ : lr_S σ) : ∀ m k f (w : lt_W) (A : la_A), k + m = 100 → m + 1 < f → lc_T w 50 A → la_Ok A → ∃ w', fb_X0_daysToStarve_13 σ 49 f (nI k) w = some (la_e (la_str A m k), w') ∧ lu_Fg 49 59 w w' := by
  have hT := lr_tab hσ (o := 50) (by decide)
  intro m
  induction m with
  | zero =>
    intro k f w A hk hf hA hO
    obtain ⟨f, rfl⟩ : ∃ g, f = g + 1 := ⟨f - 1, by omega⟩
    rw [fb_X0_daysToStarve_13, if_pos (show (99 : Int32) < nI k from nI_lt (a := 99) (by omega) (by omega))]
    exact ⟨w, rfl, lu_Fg.refl _ _ _⟩
  | succ m ih =>
    intro k f w A hk hf hA hO
    obtain ⟨f, rfl⟩ : ∃ g, f = g + 1 := ⟨f - 1, by omega⟩
    rw [fb_X0_daysToStarve_13, if_neg (show ¬ (99 : Int32) < nI k from nI_nlt (a := 99) (by omega) (by omega)), lq_r49_1 hσ, lc_starved hT hA, lu_bind, la_str]
    show ∃ w', (if la_st A = 0 then _ else _) = _ ∧ _
    by_cases e : la_st A = 0
    · obtain ⟨w1, e1, e2, e3⟩ := lc_days1 hσ (o := 50) (by decide) hA hO
      obtain ⟨w', a1, a2⟩ := ih (k + 1) f w1 (la_day A) (by omega) (by omega) e2 (la_Ok_day hO)
      rw [if_pos e, if_pos e, e1, lu_bind, nI_1]
      exact ⟨w', a1, (e3.g.wide (by omega) (by omega)).trans a2⟩
    · rw [if_neg e, if_neg e]
      exact ⟨w, rfl, lu_Fg.refl _ _ _⟩
theorem lm_str {o : Nat} (hS : lm_S σ o) : ∀ m k f (w : lt_W) (A : la_A), k + m = 100 → m + 1 < f → lm_T w (lt_r σ o 0) 0 A → la_Ok A → ∃ w', fb_X12_starving_11 σ o f (-1) (nI k) w = fb_X12_starving_42 σ o (la_e (la_str A m k)) w' ∧ lm_D (lt_r σ o 0) w w' := by
  intro m
  induction m with
  | zero =>
    intro k f w A hk hf hA hO
    obtain ⟨f, rfl⟩ : ∃ g, f = g + 1 := ⟨f - 1, by omega⟩
    rw [fb_X12_starving_11, if_pos (show (99 : Int32) < nI k from nI_lt (a := 99) (by omega) (by omega))]
    exact ⟨w, rfl, lm_D.refl _ _⟩
  | succ m ih =>
    intro k f w A hk hf hA hO
    obtain ⟨f, rfl⟩ : ∃ g, f = g + 2 := ⟨f - 2, by omega⟩
    obtain ⟨w1, e1, e2, e3⟩ := lm_dayGoes hS hA hO
    rw [fb_X12_starving_11, if_neg (show ¬ (99 : Int32) < nI k from nI_nlt (a := 99) (by omega) (by omega)), if_pos rfl, lm_areStarved hS hA, lu_bind, la_str]
    unfold fb_X12_starving_31
    rw [e1, lu_bind, lu_bind, nI_1]
    show ∃ w', (if la_st A = 0 then fb_X12_starving_11 σ o (f + 1) (-1) (nI (k + 1)) w1 else fb_X12_starving_11 σ o (f + 1) (nI k) (nI (k + 1)) w1) = _ ∧ _
    by_cases e : la_st A = 0
    · obtain ⟨w', a1, a2⟩ := ih (k + 1) (f + 1) w1 (la_day A) (by omega) (by omega) e2 (la_Ok_day hO)
      rw [if_pos e, if_pos e]
      exact ⟨w', a1, e3.trans a2⟩
    · rw [if_neg e, if_neg e, fb_X12_starving_11, if_neg (lu_ne1 (by omega))]
      refine ⟨w1, ?_, e3⟩
      split <;> rfl
theorem op_starving (hσ : lr_S σ) {w : lt_W} {A : la_A} (h : lr_0 w A) : lr_ok (f_X11_starving σ 0) (f_X12_starving σ 233) w := by
  have hS := lr_mS hσ
  refine lr_ok.q h (r := la_e (la_str A 100 0)) (st := if la_e (la_str A 100 0) = -1 then 6 else 0) ?_ (fun w1 h1 => ?_)
  · obtain ⟨w1, e1, e2, e3⟩ := lc_copyT (A := A) (lr_tab hσ (o := 50) (by decide)) (lr_nowS hσ) (by omega) h.c
    obtain ⟨w2, f1, f2⟩ := lc_str hσ 100 0 lt_fu w1 A (by decide) (by unfold lt_fu; omega) e2 h.O
    have f1' : fb_X0_daysToStarve_13 σ 49 lt_fu 0 w1 = some (la_e (la_str A 100 0), w2) := f1
    refine lr_cq.gia (σ := σ) (w' := w2) ?_ (lr_Q.ofFg ((e3.wide (by omega) (by omega)).trans f2) (by decide) (by decide))
    unfold f_X11_starving fb_X11_starving_0 f_X0_daysToStarve fb_X0_daysToStarve_0
    rw [lq_r0_9 hσ, lq_r49_1 hσ, lq_r49_0 hσ, e1, lu_bind, f1', lu_bind]
  · obtain ⟨w2, e1, e2, e3, e4⟩ := lm_keepsT (b := 2140) hS (by decide) (by decide) (h1.m hσ)
    obtain ⟨w3, f1, f2⟩ := lm_str hS 100 0 lt_fu w2 A (by decide) (by unfold lt_fu; omega) e2 h1.O
    obtain ⟨w4, g1, g2, -⟩ := lm_back (b := 2140) hS (by decide) (by decide) e3 e4 f2
    have e1' : f_X12_keeps σ 233 2140 w1 = some w2 := e1
    have g1' : f_X12_brings σ 233 2140 w3 = some w4 := g1
    have f1' : fb_X12_starving_11 σ 233 lt_fu (-1) 0 w2 = fb_X12_starving_42 σ 233 (la_e (la_str A 100 0)) w3 := f1
    refine lr_mq.orN (σ := σ) (w' := w4) ?_ (lr_QF hσ g2 (by decide)) (g2.s0 hσ)
    unfold f_X12_starving fb_X12_starving_0
    rw [e1', lu_bind, f1']
    unfold fb_X12_starving_42
    rw [g1', lu_bind]
theorem lc_enf (hσ : lr_S σ) {d : Nat} (hd : d < 1000) : ∀ m i f (w : lt_W) (A : la_A), i + m = d → m < f → lc_T w 50 A → la_Ok A → ∃ w', fb_X0_isEnough_21 σ 49 f (nI d) (nI i) w = some (if la_enf A m = true then 1 else 0, w') ∧ lu_Fg 49 59 w w' := by
  have hT := lr_tab hσ (o := 50) (by decide)
  intro m
  induction m with
  | zero =>
    intro i f w A hk hf hA hO
    obtain ⟨f, rfl⟩ : ∃ g, f = g + 1 := ⟨f - 1, by omega⟩
    rw [fb_X0_isEnough_21, if_pos (nI_le (by omega) (by omega)), la_enf, if_pos rfl]
    exact ⟨w, rfl, lu_Fg.refl _ _ _⟩
  | succ m ih =>
    intro i f w A hk hf hA hO
    obtain ⟨f, rfl⟩ : ∃ g, f = g + 1 := ⟨f - 1, by omega⟩
    obtain ⟨w1, e1, e2, e3⟩ := lc_days1 hσ (o := 50) (by decide) hA hO
    rw [fb_X0_isEnough_21, if_neg (nI_ge (by omega) (by omega)), lq_r49_1 hσ, e1, lu_bind, lc_starved hT e2, lu_bind, la_enf, nI_1]
    show ∃ w', (if la_st (la_day A) = 0 then _ else _) = _ ∧ _
    have F1 : lu_Fg 49 59 w w1 := e3.g.wide (by omega) (by omega)
    by_cases e : la_st (la_day A) = 0
    · obtain ⟨w', a1, a2⟩ := ih (i + 1) f w1 (la_day A) (by omega) (by omega) e2 (la_Ok_day hO)
      rw [if_pos e, if_pos e]
      exact ⟨w', a1, F1.trans a2⟩
    · rw [if_neg e, if_neg e]
      exact ⟨w1, rfl, F1⟩
theorem lc_lst (hσ : lr_S σ) {d : Nat} (hd : d < 1000) {A : la_A} (hO : la_Ok A) : ∀ m l f (w : lt_W), 1 ≤ l → l + m = 61 → m < f → lc_T w 12 A → ∃ w', fb_X0_leastLoaf_2 σ 49 f (nI d) (nI l) w = some (la_e (la_lst A d m l), w') ∧ lu_Fg 49 59 w w' := by
  intro m
  induction m with
  | zero =>
    intro l f w h1 hk hf hA
    obtain ⟨f, rfl⟩ : ∃ g, f = g + 1 := ⟨f - 1, by omega⟩
    rw [fb_X0_leastLoaf_2, if_pos (show (60 : Int32) < nI l from nI_lt (a := 60) (by omega) (by omega))]
    exact ⟨w, rfl, lu_Fg.refl _ _ _⟩
  | succ m ih =>
    intro l f w h1 hk hf hA
    obtain ⟨f, rfl⟩ : ∃ g, f = g + 1 := ⟨f - 1, by omega⟩
    obtain ⟨w1, e1, e2, e3⟩ := lc_copyT (A := A) (lr_tab hσ (o := 50) (by decide)) (lr_nowS hσ) (by omega) hA
    have hB := e2.hd (k := 4) (v := nI l) (by decide) (by decide)
    have hOB : la_Ok (la_h A 4 (nI l)) := hO.h (Or.inr (Or.inr (Or.inr (Or.inr (Or.inr ⟨rfl, lu_R.of h1 (by omega)⟩)))))
    obtain ⟨w2, f1, f2⟩ := lc_enf hσ hd d 0 lt_fu _ _ (by omega) (by unfold lt_fu; omega) hB hOB
    have f1' : fb_X0_isEnough_21 σ 49 lt_fu (nI d) 0 (lt_si w1 50 4 (nI l)) = some (if la_enf (la_h A 4 (nI l)) d = true then 1 else 0, w2) := f1
    have F : lu_Fg 49 59 w w2 := ((e3.wide (by omega) (by omega)).si (by decide) (by decide)).trans f2
    rw [fb_X0_leastLoaf_2, if_neg (show ¬ (60 : Int32) < nI l from nI_nlt (a := 60) (by omega) (by omega))]
    unfold f_X0_isEnough fb_X0_isEnough_0
    rw [lq_r49_1 hσ, lq_r49_0 hσ, e1, lu_bind, lu_let, f1', lu_bind, lu_q, la_lst, nI_1]
    by_cases e : la_enf (la_h A 4 (nI l)) d = true
    · simp only [if_pos e]
      exact ⟨w2, rfl, F⟩
    · simp only [if_neg e]
      obtain ⟨w', a1, a2⟩ := ih (l + 1) f w2 (by omega) (by omega) (by omega) (hA.fg F (by omega))
      exact ⟨w', a1, F.trans a2⟩
theorem lm_enf {o : Nat} (hS : lm_S σ o) (K : Int32 → Int32 → Int32 → lt_W → Option (Int32 × lt_W)) {d : Nat} (hd : d < 1000) (x2 x3 : Int32) : ∀ m i f (w : lt_W) (A : la_A), i + m = d → m + 1 < f → lm_T w (lt_r σ o 0) 0 A → la_Ok A → ∃ w', fb_X12_least_53 σ o K f (nI d) x2 x3 1 (nI i) w = fb_X12_least_89 σ o K (nI d) x2 x3 (if la_enf A m = true then 1 else 0) w' ∧ lm_D (lt_r σ o 0) w w' := by
  intro m
  induction m with
  | zero =>
    intro i f w A hk hf hA hO
    obtain ⟨f, rfl⟩ : ∃ g, f = g + 1 := ⟨f - 1, by omega⟩
    rw [fb_X12_least_53, if_pos (nI_le (by omega) (by omega)), la_enf, if_pos rfl]
    exact ⟨w, rfl, lm_D.refl _ _⟩
  | succ m ih =>
    intro i f w A hk hf hA hO
    obtain ⟨f, rfl⟩ : ∃ g, f = g + 2 := ⟨f - 2, by omega⟩
    obtain ⟨w1, e1, e2, e3⟩ := lm_dayGoes hS hA hO
    rw [fb_X12_least_53, if_neg (nI_ge (by omega) (by omega)), if_neg lu_10, e1, lu_bind, lm_areStarved hS e2, lu_bind, la_enf, nI_1]
    show ∃ w', (if la_st (la_day A) = 0 then fb_X12_least_53 σ o K (f + 1) _ x2 x3 1 (nI (i + 1)) w1 else fb_X12_least_53 σ o K (f + 1) _ x2 x3 0 (nI (i + 1)) w1) = _ ∧ _
    by_cases e : la_st (la_day A) = 0
    · obtain ⟨w', a1, a2⟩ := ih (i + 1) (f + 1) w1 (la_day A) (by omega) (by omega) e2 (la_Ok_day hO)
      rw [if_pos e, if_pos e]
      exact ⟨w', a1, e3.trans a2⟩
    · rw [if_neg e, if_neg e, fb_X12_least_53]
      refine ⟨w1, ?_, e3⟩
      rw [if_pos rfl]; split <;> rfl
theorem lm_lst {o : Nat} (hS : lm_S σ o) {d : Nat} (hd : d < 1000) {A : la_A} (hO : la_Ok A) {w0 : lt_W} (hA : lm_T w0 (lt_r σ o 0) 0 A) : ∀ m l f (w : lt_W), 1 ≤ l → l + m = 61 → m + 1 < f → lm_F (lt_r σ o 0) 2140 2200 w0 w → (∀ k, k < 60 → lt_gi w (lt_r σ o 0) (2140 + k) = lt_gi w0 (lt_r σ o 0) k) → ∃ w', fb_X12_least_29 σ o f (nI d) (-1) (nI l) w = fb_X12_least_109 σ o (la_e (la_lst A d m l)) w' ∧ lm_F (lt_r σ o 0) 2140 2200 w0 w' := by
  intro m
  induction m with
  | zero =>
    intro l f w h1 hk hf hF hK
    obtain ⟨f, rfl⟩ : ∃ g, f = g + 1 := ⟨f - 1, by omega⟩
    rw [fb_X12_least_29, if_pos (show (60 : Int32) < nI l from nI_lt (a := 60) (by omega) (by omega))]
    exact ⟨w, rfl, hF⟩
  | succ m ih =>
    intro l f w h1 hk hf hF hK
    obtain ⟨f, rfl⟩ : ∃ g, f = g + 2 := ⟨f - 2, by omega⟩
    have hA1 : lm_T w (lt_r σ o 0) 0 A := hA.F hF (by omega)
    have hB := hA1.hd (i := 4) (k := 4) (v := nI l) rfl (by decide) (by decide)
    have hOB : la_Ok (la_h A 4 (nI l)) := hO.h (Or.inr (Or.inr (Or.inr (Or.inr (Or.inr ⟨rfl, lu_R.of h1 (by omega)⟩)))))
    obtain ⟨w2, f1, f2⟩ := lm_enf hS (fun x1 x2 x3 w => fb_X12_least_29 σ o (f + 1) x1 x2 x3 w) hd (-1) (nI l) d 0 lt_fu _ _ (by omega) (by unfold lt_fu; omega) hB hOB
    obtain ⟨w3, g1, g2, g3⟩ := lm_back (b := 2140) hS (by decide) (by decide) hK hF (((lm_D.refl _ w).si (k := 4) (v := nI l) (by decide) (by decide) (by decide)).trans f2)
    have g1' : f_X12_brings σ o 2140 w2 = some w3 := g1
    have f1' : fb_X12_least_53 σ o (fun x1 x2 x3 w => fb_X12_least_29 σ o (f + 1) x1 x2 x3 w) lt_fu (nI d) (-1) (nI l) 1 0 (lt_si w (lt_r σ o 0) 4 (nI l)) = _ := f1
    rw [fb_X12_least_29, if_neg (show ¬ (60 : Int32) < nI l from nI_nlt (a := 60) (by omega) (by omega)), if_pos rfl, hS, lm_k4, lu_let, lm_c4, f1', la_lst]
    unfold fb_X12_least_89 fb_X12_least_96
    rw [lu_q, g1', lu_bind, lu_bind, nI_1]
    by_cases e : la_enf (la_h A 4 (nI l)) d = true
    · rw [if_pos e, if_pos e]
      refine ⟨w3, ?_, g2⟩
      show fb_X12_least_29 σ o (f + 1) (nI d) (nI l) (nI (l + 1)) w3 = _
      rw [fb_X12_least_29, if_neg (lu_ne1 (by omega))]
      split <;> rfl
    · rw [if_neg e, if_neg e]
      exact ih (l + 1) (f + 1) w3 (by omega) (by omega) (by omega) g2 g3
theorem op_least (hσ : lr_S σ) {w : lt_W} {A : la_A} (h : lr_0 w A) (x : Int32) : lr_ok (f_X11_least σ 0 x) (f_X12_least σ 233 x) w := by
  have hS := lr_mS hσ
  by_cases c : lq_b x 1 20
  · obtain ⟨d, hd0, hd, rfl⟩ := c.R (by decide) (by decide)
    refine lr_ok.q h (r := la_e (la_lst A d 60 1)) (st := if la_e (la_lst A d 60 1) = -1 then 6 else 0) ?_ (fun w1 h1 => ?_)
    · obtain ⟨w2, f1, f2⟩ := lc_lst hσ (d := d) (by omega) h.O 60 1 lt_fu w (by decide) (by decide) (by unfold lt_fu; omega) h.c
      have f1' : fb_X0_leastLoaf_2 σ 49 lt_fu (nI d) 1 w = some (la_e (la_lst A d 60 1), w2) := f1
      refine lr_cq.gia (σ := σ) (w' := w2) ?_ (lr_Q.ofFg f2 (by decide) (by decide))
      unfold f_X11_least fb_X11_least_0 f_X0_leastLoaf fb_X0_leastLoaf_0
      rw [lq_within_y (lo := 1) (hi := 20) 1 20 rfl rfl c, lu_bind, if_neg lu_10, lq_r0_9 hσ, f1', lu_bind]
    · obtain ⟨w2, e1, e2, e3, e4⟩ := lm_keepsT (b := 2140) hS (by decide) (by decide) (h1.m hσ)
      obtain ⟨w3, f1, f2⟩ := lm_lst hS (d := d) (by omega) h1.O (h1.m hσ) 60 1 lt_fu w2 (by decide) (by decide) (by unfold lt_fu; omega) e4 e3
      have e1' : f_X12_keeps σ 233 2140 w1 = some w2 := e1
      have f1' : fb_X12_least_29 σ 233 lt_fu (nI d) (-1) 1 w2 = fb_X12_least_109 σ 233 (la_e (la_lst A d 60 1)) w3 := f1
      refine lr_mq.orN (σ := σ) (w' := w3) ?_ (lr_QF hσ f2 (by decide)) (f2.s0 hσ)
      unfold f_X12_least fb_X12_least_0
      rw [lq_from_y (lo := 1) (hi := 20) 1 20 rfl rfl (by decide) (by decide) c, lu_bind, if_neg lu_10, e1', lu_bind, f1']
      rfl
  · refine op_refuse h (r := -1) (st := 1) ?_ (fun w1 h1 => ?_)
    · unfold f_X11_least fb_X11_least_0
      rw [lq_within_n (lo := 1) (hi := 20) 1 20 rfl rfl c, lu_bind, if_pos rfl]; rfl
    · unfold f_X12_least fb_X12_least_0
      rw [lq_from_n (lo := 1) (hi := 20) 1 20 rfl rfl (by decide) (by decide) c, lu_bind, if_pos rfl]; rfl
end ST