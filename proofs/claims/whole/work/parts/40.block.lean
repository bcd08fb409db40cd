/-! THE WEEKS LIVED: tests, blocks -/
def lz_T (I : Nat → Nat → Int32) (k : Nat) (A : la_A) : Nat := if lw_op I k = 17 then (I k 1).toNatClampNeg else if lz_hold I k A = true then 1 else 0
def lz_bk (I : Nat → Nat → Int32) (k : Nat) : Prop := lw_op I k = 17 ∨ 1600 ≤ lw_op I k
theorem lz_cmpE (c x v : Int32) : (if c = 60 then if v ≤ x then some (0 : Int32) else some 1 else if c = 62 then if x ≤ v then some 0 else some 1 else if x = v then some 1 else some 0) = some (if lz_cmp c x v = true then 1 else 0) := by
  unfold lz_cmp
  by_cases c1 : c = 60
  · rw [if_pos c1, if_pos c1]
    by_cases z : v ≤ x
    · rw [if_pos z, decide_eq_false (Int32.not_lt.mpr z)]; rfl
    · rw [if_neg z, decide_eq_true (Int32.not_le.mp z)]; rfl
  · rw [if_neg c1, if_neg c1]
    by_cases c2 : c = 62
    · rw [if_pos c2, if_pos c2]
      by_cases z : x ≤ v
      · rw [if_pos z, decide_eq_false (Int32.not_lt.mpr z)]; rfl
      · rw [if_neg z, decide_eq_true (Int32.not_le.mp z)]; rfl
    · rw [if_neg c2, if_neg c2]
      by_cases z : x = v
      · rw [if_pos z, decide_eq_true z]; rfl
      · rw [if_neg z, decide_eq_false z]; rfl
theorem lz_hold0 {I : Nat → Nat → Int32} {k j : Nat} {A : la_A} (q : lw_op I k = 1620) (hj : j < 2 ^ 31) (ej : I k 1 = nI j) : lz_hold I k A = la_here A j := by
  unfold lz_hold
  rw [if_pos q, ej, nI_clamp hj]
theorem lz_hold1 {I : Nat → Nat → Int32} {k j : Nat} {A : la_A} (q : lw_op I k = 1621) (hj : j < 2 ^ 31) (ej : I k 1 = nI j) : lz_hold I k A = la_hung A j := by
  unfold lz_hold
  rw [if_neg (by omega), if_pos q, ej, nI_clamp hj]
theorem lz_hold2 {I : Nat → Nat → Int32} {k : Nat} {A : la_A} (q : lw_op I k = 1622) : lz_hold I k A = lz_cmp (I k 5) (A.1 5) (I k 2) := by
  unfold lz_hold
  rw [if_neg (by omega), if_neg (by omega), if_pos q]
theorem lz_hold7 {I : Nat → Nat → Int32} {k j : Nat} {A : la_A} (q : lw_op I k = 1607) (hj : j < 2 ^ 31) (ej : I k 1 = nI j) : lz_hold I k A = lz_cmp (I k 5) (A.2 j 0) (I k 2) := by
  unfold lz_hold
  rw [if_neg (by omega), if_neg (by omega), if_neg (by omega), ej, nI_clamp hj]
section LB
variable {σ : lt_S}
theorem lz_cmpC (hσ : lr_S σ) {s : Nat} {w : lt_W} {x c v : Int32} (hs : s < 30) (e5 : lt_gi w 26 s = c) (e6 : lt_gi w 27 s = v) : f_X2_compare σ 169 x (nI s) w = some (if lz_cmp c x v = true then 1 else 0) := by
  unfold f_X2_compare fb_X2_compare_0
  rw [lq_r169_1 hσ, lq_r21_7 hσ, lq_l27 hσ, lu_ck hs (by decide), lu_let, lq_r21_6 hσ, lq_l26 hσ, lu_ck hs (by decide), nI_clamp (by omega), e5, e6]
  exact lz_cmpE c x v
theorem lz_69 (hσ : lr_S σ) {I : Nat → Nat → Int32} {k : Nat} {w : lt_W} (h60 : k < 60) (hp : ∀ i, i < 6 → lt_gi w 234 (60 + 6 * k + i) = I k i) (y : Int32) : fb_X12_holds_69 σ 233 w (nI (60 + 6 * k)) y = some (if lz_cmp (I k 5) y (I k 2) = true then 1 else 0) := by
  unfold fb_X12_holds_69
  rw [lr_mS hσ, lr_at hσ, lm_a5, lm_a2, lz_k2560 (by omega), nI_clamp (by omega), nI_clamp (by omega), hp 5 (by decide), hp 2 (by decide)]
  rw [lz_k2560 (by omega), lz_k2560 (by omega), lz_k2560 (by omega), lz_k2560 (by omega)]
  exact lz_cmpE _ _ _
theorem lz_ops {I : Nat → Nat → Int32} {n k : Nat} (hk : lw_ok I n k) (hb : 1600 ≤ lw_op I k) : (lw_op I k = 1620 ∨ lw_op I k = 1621 ∨ lw_op I k = 1607) ∧ lw_g (I k 1) n ∨ lw_op I k = 1622 := by
  obtain ⟨-, hk⟩ := hk
  rcases hk with h | ⟨h | h, -⟩ | h | h | h | h | h | h | ⟨h, -⟩
  any_goals (exfalso; omega)
  exact h
theorem lz_holdC (hσ : lr_S σ) {I : Nat → Nat → Int32} {k s : Nat} {A : la_A} {w : lt_W} (hk : lw_ok I (la_n A) k) (hb : 1600 ≤ lw_op I k) (hs : s < 30) (hc : lw_ci w 21 I k s) (h1 : lc_T w 12 A) : f_X2_holds σ 169 (nI s) w = some (if lz_hold I k A = true then 1 else 0) := by
  obtain ⟨-, -, -, -, c5, -⟩ := hc
  obtain ⟨c5, c6, c7⟩ := c5 hb
  have c5' : lt_gi w 23 s = lw_ts (lw_op I k) := c5
  have h7 := h1.2.1
  obtain ⟨⟨-, s0, s1, s2, s3, s4, s5, s6, s7⟩, l1, l2, l3, l4, l5, l6, l7, l8⟩ := lr_nowS hσ
  unfold f_X2_holds fb_X2_holds_0
  rw [lq_r169_1 hσ, lq_r21_4 hσ, lq_l24 hσ, lu_ck hs (by decide), lu_let, lq_r21_3 hσ, lq_l23 hσ, lu_ck hs (by decide), nI_clamp (by omega), c5', lq_r169_0 hσ]
  rcases lz_ops hk hb with ⟨q | q | q, j, hj, ej⟩ | q
  · have cm : lt_gi w 24 s = nI j := (c6 (by omega)).trans ej
    rw [q, show lw_ts 1620 = 19 from rfl, if_pos rfl, cm, lc_isThere h1 hj, lu_bind, lz_hold0 q (by omega) ej]
    cases la_here A j <;> rfl
  · have cm : lt_gi w 24 s = nI j := (c6 (by omega)).trans ej
    rw [q, show lw_ts 1621 = 20 from rfl, if_neg (by decide), if_pos rfl, cm, lc_hungers (lr_nowS hσ) h1 hj, lu_bind, lz_hold1 q (by omega) ej]
    cases la_hung A j <;> rfl
  · have cm : lt_gi w 24 s = nI j := (c6 (by omega)).trans ej
    obtain ⟨c8, c9⟩ := c7 (Or.inr q)
    rw [q, show lw_ts 1607 = 7 from rfl, if_neg (by decide), if_neg (by decide), if_neg (by decide), cm, lq_hg_y h1 hj, lu_bind, if_neg lu_10, s1, l2, lu_ck (show j < 7 by omega) (by decide), nI_clamp (by omega), (h1.2.2.2.2 j hj).1, lz_cmpC hσ hs c8 c9, lu_bind, lz_hold7 q (by omega) ej]
    cases lz_cmp (I k 5) (A.2 j 0) (I k 2) <;> rfl
  · obtain ⟨c8, c9⟩ := c7 (Or.inl q)
    rw [q, show lw_ts 1622 = 21 from rfl, if_neg (by decide), if_neg (by decide), if_pos rfl, h1.2.2.1 5 (by decide), lz_cmpC hσ hs c8 c9, lu_bind, lz_hold2 q]
    cases lz_cmp (I k 5) (A.1 5) (I k 2) <;> rfl
theorem lz_holdM (hσ : lr_S σ) {I : Nat → Nat → Int32} {k : Nat} {A : la_A} {w : lt_W} (hk : lw_ok I (la_n A) k) (hb : 1600 ≤ lw_op I k) (h60 : k < 60) (hp : ∀ i, i < 6 → lt_gi w 234 (60 + 6 * k + i) = I k i) (h1 : lm_T w 234 0 A) : f_X12_holds σ 233 (nI (60 + 6 * k)) w = some (if lz_hold I k A = true then 1 else 0) := by
  have h7 := h1.2.1
  have e0 := hp 0 (by decide)
  rw [Nat.add_zero] at e0
  unfold f_X12_holds fb_X12_holds_0
  rw [lr_mS hσ, lr_at hσ, lz_k2560 (by omega), nI_clamp (by omega), e0, lu_let, lm_a1, lz_k2560 (by omega), nI_clamp (by omega), hp 1 (by decide), lu_let, hk.1]
  rcases lz_ops hk hb with ⟨q | q | q, j, hj, ej⟩ | q
  · rw [q, show nI 1620 - 1600 = 20 from rfl, if_pos rfl, ej, lm_here (lr_mS hσ) (lr_mT hσ h1) hj, lu_bind, lz_hold0 q (by omega) ej]
    cases la_here A j <;> rfl
  · rw [q, show nI 1621 - 1600 = 21 from rfl, if_neg (by decide), if_pos rfl, ej, lm_areHungry (lr_mS hσ) (lr_mT hσ h1), lu_bind, lz_isIn h7 hj, lu_bind, lz_hold1 q (by omega) ej]
    cases la_hung A j <;> rfl
  · rw [q, show nI 1607 - 1600 = 7 from rfl, if_neg (by decide), if_neg (by decide), if_neg (by decide), ej, lm_of (x := 0) (f := 0) (lr_mS hσ) (lr_mT hσ h1) hj rfl (by decide), lu_bind, lz_69 hσ h60 hp, lz_hold7 q (by omega) ej]
  · have e5 := lm_hd (lr_mT hσ h1) (k := 5) (by decide)
    rw [lr_at hσ] at e5
    rw [q, show nI 1622 - 1600 = 22 from rfl, if_neg (by decide), if_neg (by decide), if_pos rfl]
    show lt_ck (nI 5) 2560 (fb_X12_holds_69 σ 233 w (nI (60 + 6 * k)) (lt_gi w 234 5)) = _
    rw [lz_k2560 (by decide), e5, lz_69 hσ h60 hp, lz_hold2 q]
theorem lz_timesC (hσ : lr_S σ) {I : Nat → Nat → Int32} {k s : Nat} {A : la_A} {w : lt_W} (hk : lw_ok I (la_n A) k) (hb : lz_bk I k) (hs : s < 30) (hc : lw_ci w 21 I k s) (h1 : lc_T w 12 A) : f_X2_timesWithin σ 169 (nI s) w = some (nI (lz_T I k A)) := by
  have hc' := hc
  obtain ⟨c1, c2, -⟩ := hc
  have c1' : lt_gi w 22 s = lw_wd (lw_op I k) := c1
  unfold f_X2_timesWithin fb_X2_timesWithin_0 lz_T
  rw [lq_r169_1 hσ, lq_r21_2 hσ, lq_l22 hσ, lu_ck hs (by decide), nI_clamp (by omega), c1']
  rcases hb with q | q
  · have cm : lt_gi w 27 s = I k 1 := c2 (Or.inr (Or.inr q))
    have : ∃ j, 1 ≤ j ∧ j ≤ 99 ∧ I k 1 = nI j := by
      obtain ⟨-, hk⟩ := hk
      rcases hk with h | ⟨h | h, -⟩ | h | h | h | h | ⟨-, h, -⟩ | h | ⟨⟨h | h | h, -⟩ | h, -⟩
      any_goals (exfalso; omega)
      exact h
    obtain ⟨j, j1, j2, ej⟩ := this
    rw [q, show lw_wd 17 = 22 from rfl, if_pos rfl, if_pos rfl, lq_r21_7 hσ, lq_l27 hσ, lu_ck hs (by decide), cm, ej, nI_clamp (by omega)]
  · have hw : lw_wd (lw_op I k) = 18 := by
      unfold lw_wd
      rw [if_neg (by omega), if_neg (by omega), if_neg (by omega), if_neg (by omega), if_neg (by omega), if_neg (by omega), if_neg (by omega), if_neg (by omega)]
    rw [hw, if_neg (by decide), if_neg (by omega), lz_holdC hσ hk q hs hc' h1, lu_bind]
    cases lz_hold I k A <;> rfl
theorem lz_doesB (hσ : lr_S σ) {I : Nat → Nat → Int32} {k : Nat} {w : lt_W} (hb : lz_bk I k) (hq9 : lw_op I k < 2 ^ 31) (h60 : k < 60) (e0 : lt_gi w 234 (60 + 6 * k) = nI (lw_op I k)) : f_X12_does σ 233 (nI (60 + 6 * k)) w = some (1, w) := by
  have ne : ∀ x, x < 17 → ¬ nI (lw_op I k) = nI x := fun x hx z => by
    have := (nI_eq hq9 (by omega)).mp z
    unfold lz_bk at hb; omega
  unfold f_X12_does fb_X12_does_0
  rw [lr_mS hσ, lm_a1, lz_k2560 (by omega), lu_let, lz_k2560 (by omega), lr_at hσ, nI_clamp (by omega), nI_clamp (by omega), e0, if_neg (show ¬ nI (lw_op I k) = (6 : Int32) from ne 6 (by decide)), if_neg (show ¬ nI (lw_op I k) = (11 : Int32) from ne 11 (by decide)), if_neg (show ¬ nI (lw_op I k) = (12 : Int32) from ne 12 (by decide)), if_neg (show ¬ nI (lw_op I k) = (13 : Int32) from ne 13 (by decide)), if_neg (show ¬ nI (lw_op I k) = (14 : Int32) from ne 14 (by decide)), if_neg (show ¬ nI (lw_op I k) = (15 : Int32) from ne 15 (by decide))]
/-- at an end -/
theorem lz_Pe (hσ : lr_S σ) {I : Nat → Nat → Int32} {N k c f g : Nat} {w : lt_W} (hN : lt_gi w 234 8 = nI N) (hN6 : N ≤ 60) (hc : c < N) (hk : k < N) (hI : ∀ k, k < N → ∀ i, i < 6 → lt_gi w 234 (60 + 6 * k + i) = I k i) (ec : I c 0 = nI 18) (ec4 : I c 4 = nI k) (ek : I k 0 = nI (lw_op I k)) (hq9 : lw_op I k < 2 ^ 31) : lz_P σ f (g + 1) c w = if lw_op I k = 17 ∧ ¬ lt_gi w 252 k ≤ 0 then lz_P σ f g (k + 1) (lt_si w 252 k (lt_gi w 252 k - 1)) else lz_P σ f g (c + 1) (lt_si w 252 k (lt_gi w 252 k - 0)) := by
  have h0 := hI c hc 0 (by decide)
  have h4 := hI c hc 4 (by decide)
  have hk0 := hI k hk 0 (by decide)
  rw [Nat.add_zero] at h0 hk0
  have e95 : ∀ x, fb_X12_behindEnds_95 σ 233 (fun x2 w => fb_X12_behindEnds_2 σ 233 g x2 w) (nI c) (nI k) 1 252 (nI k) (lt_gi w 252 k) x w = fb_X12_behindEnds_2 σ 233 g (nI (k + 1)) (lt_si w 252 k (lt_gi w 252 k - x)) ∧ fb_X12_behindEnds_95 σ 233 (fun x2 w => fb_X12_behindEnds_2 σ 233 g x2 w) (nI c) (nI k) 0 252 (nI k) (lt_gi w 252 k) x w = fb_X12_behindEnds_2 σ 233 g (nI (c + 1)) (lt_si w 252 k (lt_gi w 252 k - x)) := fun x => by
    unfold fb_X12_behindEnds_95
    rw [lq_l252 hσ, lu_ck (by omega) (by decide), lu_let, nI_clamp (by omega), if_neg lu_10, nI_1, lu_ck (by omega) (by decide), lu_let, if_pos rfl, nI_1]
    exact ⟨rfl, rfl⟩
  unfold lz_P
  rw [fb_X12_behindEnds_2, lr_mS hσ, lr_at hσ]
  show Option.bind (lt_ck (nI 8) 2560 (if lt_gi w 234 8 ≤ nI c then _ else _)) _ = _
  rw [lz_k2560 (by decide), hN, if_neg (nI_ge hc (by omega)), lz_60, lz_k2560 (by omega), nI_clamp (by omega), h0, ec, if_pos (show nI 18 = 18 from rfl), lm_a4, lz_k2560 (by omega), nI_clamp (by omega), h4, ec4, lu_let, lz_60, lz_k2560 (by omega), nI_clamp (by omega), hk0, ek, lq_r233_36 hσ, lq_l252 hσ, lu_ck (by omega) (by decide), nI_clamp (by omega)]
  unfold fb_X12_behindEnds_75 fb_X12_behindEnds_76
  rw [lq_r233_36 hσ, lq_l252 hσ, lu_ck (by omega) (by decide), lu_ck (by omega) (by decide), nI_clamp (by omega), if_pos rfl, if_neg lu_10, (e95 0).2, (e95 1).1]
  by_cases q : lw_op I k = 17
  · rw [if_pos (show nI (lw_op I k) = 17 by rw [q]; rfl)]
    by_cases z : lt_gi w 252 k ≤ 0
    · rw [if_pos z, if_neg (fun y => y.2 z)]
    · rw [if_neg z, if_pos ⟨q, z⟩]
  · rw [if_neg (show ¬ nI (lw_op I k) = 17 from fun z => q ((nI_eq (b := 17) hq9 (by decide)).mp z)), if_neg (fun y => q y.1)]
end LB