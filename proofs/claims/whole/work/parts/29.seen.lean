/-! seen(), seenAs(), ask() -/
section SO
variable {σ : lt_S}
theorem ls_P.Q {fit : Nat → Bool} {cn : Nat → Nat → Nat} {w0 w : lt_W} {j : Nat} (h : ls_P fit cn w0 j w) : lr_Q w0 w := lr_Q.ofFg h.2.2.2 (by decide) (by decide)
theorem ls_c90 {fit : Nat → Bool} : ls_c fit 90 ≤ 90 := la_cnt_le _ _
/-- the looks at both sides -/
theorem ls_both (hσ : lr_S σ) {w : lt_W} {A : la_A} (h : lr_0 w A) {g i n m s : Nat} (hg : g < la_n A) (hi : i < 4) (hn : n ≤ 20) (hm : 2 * n ≤ m) (hL : lt_laid w i m s) (ok : ls_v (lt_gl w (3 + 2 * i)) n 0 = true) : (∃ w', f_X4_look σ 117 (nI g) (2 + 2 * i) (nI n) w = some w' ∧ ls_P (ls_fit A g (lt_gl w (3 + 2 * i)) n) (ls_cn A g) w 90 w') ∧ ∀ w1, lr_0 w1 A → lr_Q w w1 → ∃ w', f_X12_laysSeen σ 233 (nI g) (nI i) (nI n) w1 = some (nI (ls_c (ls_fit A g (lt_gl w (3 + 2 * i)) n) 90), w') ∧ ls_Pm (ls_fit A g (lt_gl w (3 + 2 * i)) n) (ls_cn A g) w1 90 w' := by
  obtain ⟨m60, s3, l0, l2, r2, l1, r1, ln⟩ := hL
  refine ⟨lc_look hσ h.c h.O hg hi hn hm m60 l2 ok, fun w1 h1 hQ => ?_⟩
  exact lm_lays hσ (lr_mT' hσ (h1.m hσ)) h1.O hg hi hn (fun k hk => by rw [hQ.1.2 238 _ (by unfold lr_q lr_q0; omega)]; exact (ln k (by omega)).symm) ok
theorem op_seen (hσ : lr_S σ) {w : lt_W} {A : la_A} (h : lr_0 w A) (x y z : Int32) : lr_ok (f_X11_seen σ 0 x y z) (f_X12_seen σ 233 x y z) w := by
  rcases ls_codes hσ h x y z with ⟨c, hc, e1, e2⟩ | ⟨g, i, n, m, s, hg, hi, hn, hm, rfl, rfl, rfl, hL, ok, e1, e2⟩
  · have c0 : ¬ c = 0 := by rcases hc with rfl | rfl | rfl | rfl <;> decide
    have c1 : ¬ c ≤ 0 := by rcases hc with rfl | rfl | rfl | rfl <;> decide
    refine op_refuse2 h (r := -1) (st := c) ?_ (fun w1 h1 hQ => ?_)
    · unfold f_X11_seen fb_X11_seen_0
      rw [e1, lu_bind, if_neg c0]; rfl
    · unfold f_X12_seen fb_X12_seen_0
      rw [e2 w1 h1 hQ, lu_bind, if_neg c1]; rfl
  · obtain ⟨⟨w', a1, a2⟩, b⟩ := ls_both hσ h hg hi hn hm hL ok
    obtain ⟨t1, t2, t3⟩ := lt_trR hσ hi
    refine lr_ok.q2 h (r := nI (ls_c (ls_fit A g (lt_gl w (3 + 2 * i)) n) 90)) (st := 0) (lr_cq.of (w' := w') ?_ a2.Q) (fun w1 h1 hQ => ?_)
    · unfold f_X11_seen fb_X11_seen_0
      rw [e1, lu_bind, if_pos rfl, lq_r0_3 hσ, lq_l1 hσ, lu_ck hi (by decide), nI_clamp (by omega), t1, lq_r0_11 hσ, a1, lu_bind, a2.1]; rfl
    · obtain ⟨w2, b1, b2⟩ := b w1 h1 hQ
      refine lr_mq.of (w' := w2) ?_ b2.2.Q (b2.2.2 _ _ (by decide) (by decide) (by decide) (by decide) (by decide))
      unfold f_X12_seen fb_X12_seen_0
      rw [e2 w1 h1 hQ, lu_bind, if_pos (by decide), b1, lu_bind]; rfl
/-- the first couple, as the reference finds it -/
theorem lm_48 (hσ : lr_S σ) {fit : Nat → Bool} {cn : Nat → Nat → Nat} {w0 u : lt_W} (h : ls_Pm fit cn w0 90 u) (x4 : Int32) : ∀ d j f, j + d = 90 → d < f → ls_f fit j = none → fb_X12_seenAs_48 σ 233 f x4 (nI (10 + j)) u = match ls_f fit 90 with | none => some (-1, lt_si u 233 2 6) | some q => if x4 = 0 then some (nI (q / 10), lt_si u 233 2 0) else some (nI (q % 10), lt_si u 233 2 0) := by
  intro d
  induction d with
  | zero =>
    intro j f hj hf hN
    obtain ⟨f, rfl⟩ : ∃ g, f = g + 1 := ⟨f - 1, by omega⟩
    obtain rfl : j = 90 := by omega
    rw [fb_X12_seenAs_48, if_pos (show (100 : Int32) ≤ nI (10 + 90) from nI_le (a := 100) (by decide) (by decide)), hN]; rfl
  | succ d ih =>
    intro j f hj hf hN
    obtain ⟨f, rfl⟩ : ∃ g, f = g + 1 := ⟨f - 1, by omega⟩
    obtain ⟨z1, -⟩ := h.1 (10 + j) (by omega) (by omega)
    rw [fb_X12_seenAs_48, if_neg (show ¬ (100 : Int32) ≤ nI (10 + j) from nI_ge (b := 100) (by omega) (by decide)), lq_r233_29 hσ, lq_l247 hσ, lu_ck (by omega) (by decide), nI_clamp (by omega), z1, lu_q, nI_1]
    by_cases c : fit (10 + j) = true
    · have e : ls_f fit 90 = some (10 + j) := by
        have e1 : ls_f fit (j + 1) = some (10 + j) := by rw [ls_f, hN]; simp only [c, if_true]
        have := ls_f_mono (89 - j) (j + 1) e1
        rwa [show j + 1 + (89 - j) = 90 from by omega] at this
      have ed : nI (10 + j) / 10 = nI ((10 + j) / 10) := pk_div (d := 10) (by omega) (by decide) (by decide)
      have er : nI (10 + j) - nI ((10 + j) / 10) * 10 = nI ((10 + j) % 10) := by
        have := pk_rem (a := 10 + j) (d := 10) (by omega) (by decide) (by decide)
        rw [show (10 : Int32) = nI 10 from rfl, ← this, show nI (10 + j) / nI 10 = nI ((10 + j) / 10) from ed]
      rw [if_pos c, e]
      simp only []
      by_cases c4 : x4 = 0
      · rw [if_pos c4, if_pos c4, ed]; rfl
      · rw [if_neg c4, if_neg c4, ed, er]; rfl
    · rw [if_neg c]
      exact ih (j + 1) f (by omega) (by omega) (by rw [ls_f, hN]; simp only [c, if_false]; rfl)
theorem op_seenAs (hσ : lr_S σ) {w : lt_W} {A : la_A} (h : lr_0 w A) (x y z v : Int32) : lr_ok (f_X11_seenAs σ 0 x y z v) (f_X12_seenAs σ 233 x y z v) w := by
  by_cases cv : lq_b v 0 1
  · have v0 : ¬ v < 0 := Int32.not_lt.mpr cv.1
    have v1 : v ≤ 1 := cv.2
    rcases ls_codes hσ h x y z with ⟨c, hc, e1, e2⟩ | ⟨g, i, n, m, s, hg, hi, hn, hm, rfl, rfl, rfl, hL, ok, e1, e2⟩
    · have c0 : ¬ c = 0 := by rcases hc with rfl | rfl | rfl | rfl <;> decide
      have c1 : ¬ c ≤ 0 := by rcases hc with rfl | rfl | rfl | rfl <;> decide
      refine op_refuse2 h (r := -1) (st := c) ?_ (fun w1 h1 hQ => ?_)
      · unfold f_X11_seenAs fb_X11_seenAs_0 fb_X11_seenAs_21
        rw [lq_within_y (lo := 0) (hi := 1) 0 1 rfl rfl cv, lu_bind, if_neg lu_10, e1, lu_bind, if_neg c0]; rfl
      · unfold f_X12_seenAs fb_X12_seenAs_0 fb_X12_seenAs_22
        rw [if_neg v0, if_pos v1, e2 w1 h1 hQ, lu_bind, if_neg c1]; rfl
    · obtain ⟨⟨w', a1, a2⟩, b⟩ := ls_both hσ h hg hi hn hm hL ok
      obtain ⟨t1, t2, t3⟩ := lt_trR hσ hi
      have toM : ∀ w1, lr_0 w1 A → lr_Q w w1 → ∀ w2, f_X12_laysSeen σ 233 (nI g) (nI i) (nI n) w1 = some (nI (ls_c (ls_fit A g (lt_gl w (3 + 2 * i)) n) 90), w2) → ls_Pm (ls_fit A g (lt_gl w (3 + 2 * i)) n) (ls_cn A g) w1 90 w2 → f_X12_seenAs σ 233 (nI g) (nI i) (nI n) v w1 = match ls_f (ls_fit A g (lt_gl w (3 + 2 * i)) n) 90 with | none => some (-1, lt_si w2 233 2 6) | some q => if v = 0 then some (nI (q / 10), lt_si w2 233 2 0) else some (nI (q % 10), lt_si w2 233 2 0) := by
        intro w1 h1 hQ w2 b1 b2
        unfold f_X12_seenAs fb_X12_seenAs_0 fb_X12_seenAs_22
        rw [if_neg v0, if_pos v1, e2 w1 h1 hQ, lu_bind, if_pos (by decide), b1, lu_bind]
        exact lm_48 hσ b2 v 90 0 lt_fu (by omega) (by unfold lt_fu; omega) rfl
      have toC : f_X11_seenAs σ 0 (nI g) (nI i) (nI n) v w = if nI (ls_c (ls_fit A g (lt_gl w (3 + 2 * i)) n) 90) = 0 then some (-1, lt_si w' 0 0 6) else if v = 0 then some (lt_gi w' 117 5, lt_si w' 0 0 0) else some (lt_gi w' 117 6, lt_si w' 0 0 0) := by
        unfold f_X11_seenAs fb_X11_seenAs_0 fb_X11_seenAs_21
        rw [lq_within_y (lo := 0) (hi := 1) 0 1 rfl rfl cv, lu_bind, if_neg lu_10, e1, lu_bind, if_pos rfl, lq_r0_3 hσ, lq_l1 hσ, lu_ck hi (by decide), nI_clamp (by omega), t1, lq_r0_11 hσ, a1, lu_bind, a2.1]; rfl
      cases ef : ls_f (ls_fit A g (lt_gl w (3 + 2 * i)) n) 90 with
      | none =>
        refine lr_ok.q2 h (r := -1) (st := 6) (lr_cq.of (w' := w') ?_ a2.Q) (fun w1 h1 hQ => ?_)
        · rw [toC, (ls_f_none 90).mp ef, if_pos (show nI 0 = 0 from rfl)]
        · obtain ⟨w2, b1, b2⟩ := b w1 h1 hQ
          refine lr_mq.of (w' := w2) ?_ b2.2.Q (b2.2.2 _ _ (by decide) (by decide) (by decide) (by decide) (by decide))
          rw [toM w1 h1 hQ w2 b1 b2, ef]
      | some q =>
        have hne : ¬ ls_c (ls_fit A g (lt_gl w (3 + 2 * i)) n) 90 = 0 := fun zz => by rw [(ls_f_none 90).mpr zz] at ef; cases ef
        obtain ⟨p5, p6⟩ := a2.2.1 q ef
        have cz : ¬ nI (ls_c (ls_fit A g (lt_gl w (3 + 2 * i)) n) 90) = 0 := nI_ne0 (by omega) (by have := ls_c90 (fit := ls_fit A g (lt_gl w (3 + 2 * i)) n); omega)
        by_cases c4 : v = 0
        · refine lr_ok.q2 h (r := nI (q / 10)) (st := 0) (lr_cq.of (w' := w') ?_ a2.Q) (fun w1 h1 hQ => ?_)
          · rw [toC, if_neg cz, if_pos c4, p5]
          · obtain ⟨w2, b1, b2⟩ := b w1 h1 hQ
            refine lr_mq.of (w' := w2) ?_ b2.2.Q (b2.2.2 _ _ (by decide) (by decide) (by decide) (by decide) (by decide))
            rw [toM w1 h1 hQ w2 b1 b2, ef]; simp only []; rw [if_pos c4]
        · refine lr_ok.q2 h (r := nI (q % 10)) (st := 0) (lr_cq.of (w' := w') ?_ a2.Q) (fun w1 h1 hQ => ?_)
          · rw [toC, if_neg cz, if_neg c4, p6]
          · obtain ⟨w2, b1, b2⟩ := b w1 h1 hQ
            refine lr_mq.of (w' := w2) ?_ b2.2.Q (b2.2.2 _ _ (by decide) (by decide) (by decide) (by decide) (by decide))
            rw [toM w1 h1 hQ w2 b1 b2, ef]; simp only []; rw [if_neg c4]
  · refine op_refuse h (r := -1) (st := 1) ?_ (fun w1 h1 => ?_)
    · unfold f_X11_seenAs fb_X11_seenAs_0 fb_X11_seenAs_21
      rw [lq_within_n (lo := 0) (hi := 1) 0 1 rfl rfl cv, lu_bind, if_pos rfl, if_neg lu_10]; rfl
    · unfold f_X12_seenAs fb_X12_seenAs_0 fb_X12_seenAs_22
      rw [if_neg (show ¬ (1 : Int32) ≤ 0 by decide)]
      by_cases c0 : v < 0
      · rw [if_pos c0]; rfl
      · rw [if_neg c0, if_neg (show ¬ v ≤ 1 from fun q => cv ⟨Int32.not_lt.mp c0, q⟩)]; rfl
/-- the day that parts the best, class -/
theorem lc_part (hσ : lr_S σ) {fit : Nat → Bool} {cn : Nat → Nat → Nat} {w0 u : lt_W} (h : ls_P fit cn w0 90 u) : f_X4_partingDay σ 117 u = some (nI (ls_bst (ls_most fit cn) 20)) := by
  unfold f_X4_partingDay fb_X4_partingDay_0
  -- the most of one day
  have inner : ∀ (K : Int32 → Int32 → Int32 → Option Int32) (x1 x2 : Int32) (t : Nat), t < 21 → ∀ d c f, c + d = 8 → d < f → fb_X4_partingDay_18 σ 117 u K f x1 x2 (nI t) (nI (ls_mx (fun c => ls_sz fit cn t c 90) c)) (nI c) = if x1 = (-1) then K (nI t) (nI (ls_most fit cn t)) (nI (t + 1)) else if x2 ≤ nI (ls_most fit cn t) then K x1 x2 (nI (t + 1)) else K (nI t) (nI (ls_most fit cn t)) (nI (t + 1)) := by
    intro K x1 x2 t ht d
    obtain ⟨r1, r2⟩ := lq_128 hσ ht
    induction d with
    | zero =>
      intro c f hc hf
      obtain ⟨f, rfl⟩ : ∃ g, f = g + 1 := ⟨f - 1, by omega⟩
      obtain rfl : c = 8 := by omega
      rw [fb_X4_partingDay_18, if_pos (show (7 : Int32) < nI 8 from nI_lt (a := 7) (by decide) (by decide)), nI_1]; rfl
    | succ d ih =>
      intro c f hc hf
      obtain ⟨f, rfl⟩ : ∃ g, f = g + 1 := ⟨f - 1, by omega⟩
      have m1 : ls_mx (fun c => ls_sz fit cn t c 90) c ≤ 90 := ls_mx90 (fun _ => ls_sz90) c
      have m2 : ls_sz fit cn t c 90 ≤ 90 := ls_sz90
      rw [fb_X4_partingDay_18, if_neg (show ¬ (7 : Int32) < nI c from nI_nlt (a := 7) (by omega) (by decide)), lq_r117_3 hσ, lq_l128 hσ, lu_ck ht (by decide), nI_clamp (by omega), r1, r2, lu_ck (by omega) (by decide), lu_let, nI_clamp (by omega), h.2.2.1 t ht c (by omega), lu_max (by omega) (by omega), nI_1]
      exact ih (c + 1) f (by omega) (by omega)
  have key : ∀ d t f, t + d = 20 → d + 1 < f → fb_X4_partingDay_6 σ 117 u f (nI (ls_bst (ls_most fit cn) t)) (nI (ls_most fit cn (ls_bst (ls_most fit cn) t))) (nI (t + 1)) = some (nI (ls_bst (ls_most fit cn) 20)) := by
    intro d
    induction d with
    | zero =>
      intro t f ht hf
      obtain ⟨f, rfl⟩ : ∃ g, f = g + 1 := ⟨f - 1, by omega⟩
      obtain rfl : t = 20 := by omega
      rw [fb_X4_partingDay_6, if_pos (show (20 : Int32) < nI (20 + 1) from nI_lt (a := 20) (by decide) (by decide))]
    | succ d ih =>
      intro t f ht hf
      obtain ⟨f, rfl⟩ : ∃ g, f = g + 1 := ⟨f - 1, by omega⟩
      have bb := ls_bst_le (most := ls_most fit cn) t
      have in0 := inner (fun x1 x2 x3 => fb_X4_partingDay_6 σ 117 u f x1 x2 x3) (nI (ls_bst (ls_most fit cn) t)) (nI (ls_most fit cn (ls_bst (ls_most fit cn) t))) (t + 1) (by omega) 8 0 lt_fu (by omega) (by unfold lt_fu; omega)
      have in0' : fb_X4_partingDay_18 σ 117 u (fun x1 x2 x3 => fb_X4_partingDay_6 σ 117 u f x1 x2 x3) lt_fu (nI (ls_bst (ls_most fit cn) t)) (nI (ls_most fit cn (ls_bst (ls_most fit cn) t))) (nI (t + 1)) 0 0 = _ := in0
      have q1 : ls_most fit cn (t + 1) ≤ 90 := ls_most90 _
      have q2 : ls_most fit cn (ls_bst (ls_most fit cn) t) ≤ 90 := ls_most90 _
      rw [fb_X4_partingDay_6, if_neg (show ¬ (20 : Int32) < nI (t + 1) from nI_nlt (a := 20) (by omega) (by decide)), in0', if_neg (lu_ne1 (by omega))]
      have := ih (t + 1) f (by omega) (by omega)
      rw [ls_bst] at this
      by_cases c : ls_most fit cn (t + 1) < ls_most fit cn (ls_bst (ls_most fit cn) t)
      · rw [if_neg (nI_ge c (by omega))]
        rw [if_pos c] at this; exact this
      · rw [if_pos (nI_le (by omega) (by omega))]
        rw [if_neg c] at this; exact this
  have in0 := inner (fun x1 x2 x3 => fb_X4_partingDay_6 σ 117 u (lt_fu - 1) x1 x2 x3) (-1) 0 0 (by decide) 8 0 lt_fu (by omega) (by unfold lt_fu; omega)
  have in0' : fb_X4_partingDay_18 σ 117 u (fun x1 x2 x3 => fb_X4_partingDay_6 σ 117 u (lt_fu - 1) x1 x2 x3) lt_fu (-1) 0 0 0 0 = _ := in0
  rw [show lt_fu = (lt_fu - 1) + 1 from rfl, fb_X4_partingDay_6, if_neg (by decide), in0', if_pos rfl]
  exact key 20 0 (lt_fu - 1) (by omega) (by unfold lt_fu; omega)
theorem lm_45 (hσ : lr_S σ) {fit : Nat → Bool} {cn : Nat → Nat → Nat} {w0 : lt_W} (h7 : ∀ q t, cn q t ≤ 7) : ∀ d t f u, t + d = 20 → d + 1 < f → ls_Pm fit cn w0 90 u → ∃ u', fb_X12_ask_45 σ 233 f (nI (ls_bst (ls_most fit cn) t)) (nI (t + 1)) u = some (nI (ls_bst (ls_most fit cn) 20), lt_si u' 233 2 0) ∧ ls_F w0 u' := by
  intro d
  induction d with
  | zero =>
    intro t f u ht hf hP
    obtain ⟨f, rfl⟩ : ∃ g, f = g + 1 := ⟨f - 1, by omega⟩
    obtain rfl : t = 20 := by omega
    rw [fb_X12_ask_45, if_pos (show (20 : Int32) < nI (20 + 1) from nI_lt (a := 20) (by decide) (by decide))]
    exact ⟨u, rfl, hP.2⟩
  | succ d ih =>
    intro t f u ht hf hP
    obtain ⟨f, rfl⟩ : ∃ g, f = g + 1 := ⟨f - 1, by omega⟩
    have bb := ls_bst_le (most := ls_most fit cn) t
    have q1 : ls_most fit cn (t + 1) ≤ 90 := ls_most90 _
    have q2 : ls_most fit cn (ls_bst (ls_most fit cn) t) ≤ 90 := ls_most90 _
    obtain ⟨u1, a1, a2⟩ := lm_alike hσ hP h7 (t := t + 1) (by omega)
    obtain ⟨u2, b1, b2⟩ := lm_alike hσ a2 h7 (t := ls_bst (ls_most fit cn) t) (by omega)
    rw [fb_X12_ask_45, if_neg (show ¬ (20 : Int32) < nI (t + 1) from nI_nlt (a := 20) (by omega) (by decide)), a1, lu_bind, b1, lu_bind, nI_1]
    have := ih (t + 1) f u2 (by omega) (by omega) b2
    rw [ls_bst] at this
    show ∃ u', (if nI (ls_most fit cn (ls_bst (ls_most fit cn) t)) ≤ nI (ls_most fit cn (t + 1)) then fb_X12_ask_45 σ 233 f (nI (ls_bst (ls_most fit cn) t)) (nI (t + 1 + 1)) u2 else fb_X12_ask_45 σ 233 f (nI (t + 1)) (nI (t + 1 + 1)) u2) = _ ∧ _
    by_cases c : ls_most fit cn (t + 1) < ls_most fit cn (ls_bst (ls_most fit cn) t)
    · rw [if_neg (nI_ge c (by omega))]
      rw [if_pos c] at this; exact this
    · rw [if_pos (nI_le (by omega) (by omega))]
      rw [if_neg c] at this; exact this
theorem op_ask (hσ : lr_S σ) {w : lt_W} {A : la_A} (h : lr_0 w A) (x y z : Int32) : lr_ok (f_X11_ask σ 0 x y z) (f_X12_ask σ 233 x y z) w := by
  rcases ls_codes hσ h x y z with ⟨c, hc, e1, e2⟩ | ⟨g, i, n, m, s, hg, hi, hn, hm, rfl, rfl, rfl, hL, ok, e1, e2⟩
  · have c0 : ¬ c = 0 := by rcases hc with rfl | rfl | rfl | rfl <;> decide
    have c1 : ¬ c ≤ 0 := by rcases hc with rfl | rfl | rfl | rfl <;> decide
    refine op_refuse2 h (r := -1) (st := c) ?_ (fun w1 h1 hQ => ?_)
    · unfold f_X11_ask fb_X11_ask_0
      rw [e1, lu_bind, if_neg c0]; rfl
    · unfold f_X12_ask fb_X12_ask_0
      rw [e2 w1 h1 hQ, lu_bind, if_neg c1]; rfl
  · obtain ⟨⟨w', a1, a2⟩, b⟩ := ls_both hσ h hg hi hn hm hL ok
    obtain ⟨t1, t2, t3⟩ := lt_trR hσ hi
    have hc90 := ls_c90 (fit := ls_fit A g (lt_gl w (3 + 2 * i)) n)
    by_cases c2 : 2 ≤ ls_c (ls_fit A g (lt_gl w (3 + 2 * i)) n) 90
    · refine lr_ok.q2 h (r := nI (ls_bst (ls_most (ls_fit A g (lt_gl w (3 + 2 * i)) n) (ls_cn A g)) 20)) (st := 0) (lr_cq.of (w' := w') ?_ a2.Q) (fun w1 h1 hQ => ?_)
      · unfold f_X11_ask fb_X11_ask_0
        rw [e1, lu_bind, if_pos rfl, lq_r0_3 hσ, lq_l1 hσ, lu_ck hi (by decide), nI_clamp (by omega), t1, lq_r0_11 hσ, a1, lu_bind, a2.1, if_pos (show (2 : Int32) ≤ nI _ from nI_le (a := 2) c2 (by omega)), lc_part hσ a2, lu_bind]; rfl
      · obtain ⟨w2, b1, b2⟩ := b w1 h1 hQ
        obtain ⟨w3, d1, d2⟩ := lm_45 hσ (fun q t => ls_cn7 h.n7 g q t) 20 0 lt_fu w2 (by omega) (by unfold lt_fu; omega) b2
        have d1' : fb_X12_ask_45 σ 233 lt_fu 0 1 w2 = _ := d1
        refine lr_mq.of (w' := w3) ?_ d2.Q (d2.2 _ _ (by decide) (by decide) (by decide) (by decide) (by decide))
        unfold f_X12_ask fb_X12_ask_0
        rw [e2 w1 h1 hQ, lu_bind, if_pos (by decide), b1, lu_bind]
        show (if (2 : Int32) ≤ nI (ls_c (ls_fit A g (lt_gl w (3 + 2 * i)) n) 90) then fb_X12_ask_45 σ 233 lt_fu 0 1 w2 else _) = _
        rw [if_pos (show (2 : Int32) ≤ nI _ from nI_le (a := 2) c2 (by omega)), d1']
    · refine lr_ok.q2 h (r := -1) (st := 6) (lr_cq.of (w' := w') ?_ a2.Q) (fun w1 h1 hQ => ?_)
      · unfold f_X11_ask fb_X11_ask_0
        rw [e1, lu_bind, if_pos rfl, lq_r0_3 hσ, lq_l1 hσ, lu_ck hi (by decide), nI_clamp (by omega), t1, lq_r0_11 hσ, a1, lu_bind, a2.1, if_neg (show ¬ (2 : Int32) ≤ nI _ from nI_ge (b := 2) (by omega) (by decide))]; rfl
      · obtain ⟨w2, b1, b2⟩ := b w1 h1 hQ
        refine lr_mq.of (w' := w2) ?_ b2.2.Q (b2.2.2 _ _ (by decide) (by decide) (by decide) (by decide) (by decide))
        unfold f_X12_ask fb_X12_ask_0
        rw [e2 w1 h1 hQ, lu_bind, if_pos (by decide), b1, lu_bind]
        show (if (2 : Int32) ≤ nI (ls_c (ls_fit A g (lt_gl w (3 + 2 * i)) n) 90) then _ else Option.bind (f_X12_refuse σ 233 6 w2) _) = _
        rw [if_neg (show ¬ (2 : Int32) ≤ nI _ from nI_ge (b := 2) (by omega) (by decide))]; rfl
end SO