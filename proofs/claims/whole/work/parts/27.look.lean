/-! WHAT IS SEEN: the class's looks -/
def ls_A (A : la_A) (g q : Nat) : la_A := la_c (la_h A 2 (nI (q / 10))) g 0 (nI (q % 10))
def ls_cn (A : la_A) (g q t : Nat) : Nat := la_cnt (la_here (la_days (ls_A A g q) t)) (la_n A)
def ls_ft (cn : Nat → Nat) (vals : Nat → Int64) : Nat → Nat → Bool
  | 0, _ => true
  | m + 1, k => decide (lN (cn (vals (2 * k)).toInt32.toNatClampNeg) = vals (2 * k + 1)) && ls_ft cn vals m (k + 1)
def ls_fit (A : la_A) (g : Nat) (vals : Nat → Int64) (n q : Nat) : Bool := ls_ft (ls_cn A g q) vals n 0
def ls_c (fit : Nat → Bool) (j : Nat) : Nat := la_cnt (fun i => fit (10 + i)) j
def ls_sz (fit : Nat → Bool) (cn : Nat → Nat → Nat) (t c j : Nat) : Nat := la_cnt (fun i => fit (10 + i) && decide (cn (10 + i) t = c)) j
def ls_f (fit : Nat → Bool) : Nat → Option Nat
  | 0 => none
  | j + 1 => match ls_f fit j with | some f => some f | none => if fit (10 + j) then some (10 + j) else none
theorem ls_f_b {fit : Nat → Bool} : ∀ j f, ls_f fit j = some f → 10 ≤ f ∧ f < 10 + j ∧ fit f = true := by
  intro j
  induction j with
  | zero => intro f h; cases h
  | succ j ih =>
    intro f h
    rw [ls_f] at h
    cases e : ls_f fit j with
    | none =>
      rw [e] at h; simp only [] at h
      split at h
      · obtain rfl := Option.some.inj h
        rename_i z
        exact ⟨by omega, by omega, z⟩
      · cases h
    | some g =>
      rw [e] at h
      obtain rfl := Option.some.inj h
      obtain ⟨a, b, c⟩ := ih g e
      exact ⟨a, by omega, c⟩
theorem ls_f_none {fit : Nat → Bool} : ∀ j, ls_f fit j = none ↔ ls_c fit j = 0 := by
  intro j
  induction j with
  | zero => exact ⟨fun _ => rfl, fun _ => rfl⟩
  | succ j ih =>
    unfold ls_c at ih ⊢
    rw [ls_f, la_cnt]
    cases e : ls_f fit j with
    | none =>
      have := ih.mp e
      simp only []
      by_cases c : fit (10 + j) = true
      · rw [if_pos c, if_pos c]; exact ⟨fun z => (by cases z), fun z => by omega⟩
      · rw [if_neg c, if_neg c]; exact ⟨fun _ => this, fun _ => rfl⟩
    | some f =>
      have : ¬ la_cnt (fun i => fit (10 + i)) j = 0 := fun z => by rw [ih.mpr z] at e; cases e
      simp only []
      refine ⟨fun z => (by cases z), fun z => ?_⟩
      split at z <;> omega
theorem ls_cn7 {A : la_A} (h7 : la_n A ≤ 7) (g q t : Nat) : ls_cn A g q t ≤ 7 := Nat.le_trans (la_cnt_le _ _) h7
theorem ls_AO {A : la_A} (hO : la_Ok A) {g q : Nat} (h1 : 10 ≤ q) (h2 : q < 100) : la_Ok (ls_A A g q) :=
  (hO.h (Or.inr (Or.inr (Or.inr (Or.inl ⟨rfl, lu_R.of (by omega) (by omega)⟩))))).c (Or.inl ⟨rfl, lu_R.of (by omega) (by omega)⟩)
theorem ls_An {A : la_A} {g q : Nat} : la_n (ls_A A g q) = la_n A := by unfold ls_A; rw [la_n_c, la_n_h (by decide)]
section SC
variable {σ : lt_S}
theorem lq_128 (hσ : lr_S σ) {t : Nat} (ht : t < 21) : lt_r σ 128 t = 129 + t ∧ lt_len σ (129 + t) = 8 := by
  have h : ∀ t, t < 21 → (lr_rf.getD 128 []).getD t 0 = 129 + t ∧ lr_ln.getD (129 + t) 0 = 8 := by decide
  obtain ⟨a, b⟩ := h t ht
  exact ⟨(hσ.r 128 t (by decide) (by omega)).trans a, (hσ.l (129 + t) (by omega)).trans b⟩
theorem lc_cah (hσ : lr_S σ) {w : lt_W} {A : la_A} (hA : lc_T w 12 A) (hO : la_Ok A) {g q : Nat} (hg : g < la_n A) (h1 : 10 ≤ q) (h2 : q < 100) : ∃ w', f_X4_countAhead σ 117 (nI g) (nI (q / 10)) (nI (q % 10)) w = some w' ∧ (∀ t, t < 21 → lt_gi w' 127 t = nI (ls_cn A g q t)) ∧ lu_Fg 118 128 w w' := by
  have hT := lr_tab hσ (o := 118) (by decide)
  have h7 := hA.2.1
  have hOB := ls_AO hO (g := g) h1 h2
  obtain ⟨w1, e1, e2, e3⟩ := lc_copyT (A := A) hT (lr_nowS hσ) (by omega) hA
  have hB : lc_T (lt_si (lt_si w1 118 2 (nI (q / 10))) 120 g (nI (q % 10))) 118 (ls_A A g q) := (e2.hd (by decide) (by decide)).cell (Or.inl ⟨by decide, rfl⟩)
  unfold f_X4_countAhead fb_X4_countAhead_0
  rw [lq_r117_1 hσ, lq_r117_0 hσ, e1, lu_bind, lu_let, hT.1.2.2.1, hT.2.2.1, lu_ck (by omega) (by decide), lu_let, nI_clamp (by omega)]
  refine lu_upR (fun f k u => fb_X4_countAhead_32 σ 117 f (nI k) u) 21 (fun k u => lc_T u 118 (la_days (ls_A A g q) k) ∧ (∀ t, t < k → lt_gi u 127 t = nI (ls_cn A g q t)) ∧ lu_Fg 118 128 w u) _ (fun f k u hk hI => ?_) (fun f u hI => ?_) lt_fu 0 _ (by omega) (by unfold lt_fu; omega) ⟨hB, fun t ht => by omega, ((e3.wide (by omega) (by omega)).si (by decide) (by decide)).si (by decide) (by decide)⟩
  · obtain ⟨x1, x2, x3⟩ := hI
    have x1' : lc_T (lt_si u 127 k (nI (ls_cn A g q k))) 118 (la_days (ls_A A g q) k) := x1.out (by omega)
    obtain ⟨u1, d1, d2, d3⟩ := lc_days1 hσ (o := 118) (by decide) x1' (la_Ok_days hOB k)
    have ec := lc_countThere (σ := σ) x1
    rw [la_n_days, ls_An] at ec
    show ∃ b', fb_X4_countAhead_32 σ 117 (f + 1) (nI k) u = fb_X4_countAhead_32 σ 117 f (nI (k + 1)) b' ∧ _
    rw [fb_X4_countAhead_32, if_neg (show ¬ (20 : Int32) < nI k from nI_nlt (a := 20) (by omega) (by decide)), lq_r117_1 hσ, ec, lu_bind, lq_r117_2 hσ, lq_l127 hσ, lu_ck hk (by decide), lu_let, nI_clamp (by omega), nI_1]
    have d1' : f_X5_passDays σ 118 1 (lt_si u 127 k (nI (la_cnt (la_here (la_days (ls_A A g q) k)) (la_n A)))) = some u1 := d1
    rw [d1', lu_bind]
    refine ⟨u1, rfl, d2, fun t ht => ?_, (x3.si (by decide) (by decide)).trans (d3.g.wide (by omega) (by omega))⟩
    rw [d3.2 _ _ (by omega), lu_gisi]
    by_cases e : t = k
    · rw [if_pos ⟨rfl, e⟩, e]
    · rw [if_neg (fun z => e z.2)]; exact x2 t (by omega)
  · show ∃ r, fb_X4_countAhead_32 σ 117 (f + 1) _ u = _ ∧ _
    rw [fb_X4_countAhead_32, if_pos (show (20 : Int32) < nI 21 from nI_lt (a := 20) (by decide) (by decide))]
    exact ⟨u, rfl, hI.2.1, hI.2.2⟩
theorem lc_asSeen (hσ : lr_S σ) {w : lt_W} {i n m : Nat} {vals : Nat → Int64} {cn : Nat → Nat} (hi : i < 4) (hn : n ≤ 20) (hm : 2 * n ≤ m) (hm60 : m ≤ 60) (e2 : lt_gi w (2 + 2 * i) 2 = nI m) (hv : ∀ k, lt_gl w (3 + 2 * i) k = vals k) (hc : ∀ t, t < 21 → lt_gi w 127 t = nI (cn t)) (h7 : ∀ t, cn t ≤ 7) (ok : ls_v vals n 0 = true) : f_X4_isAsSeen σ 117 (2 + 2 * i) (nI n) w = some (if ls_ft cn vals n 0 = true then 1 else 0) := by
  obtain ⟨r1, r2, r3⟩ := lt_trR hσ hi
  unfold f_X4_isAsSeen fb_X4_isAsSeen_0
  have key : ∀ r k f, k + r = n → r < f → fb_X4_isAsSeen_2 σ 117 w f (2 + 2 * i) (nI n) (nI k) = some (if ls_ft cn vals r k = true then 1 else 0) := by
    intro r
    induction r with
    | zero =>
      intro k f hk hf
      obtain ⟨f, rfl⟩ : ∃ g, f = g + 1 := ⟨f - 1, by omega⟩
      rw [fb_X4_isAsSeen_2, if_pos (nI_le (by omega) (by omega)), ls_ft, if_pos rfl]
    | succ r ih =>
      intro k f hk hf
      obtain ⟨f, rfl⟩ : ∃ g, f = g + 1 := ⟨f - 1, by omega⟩
      obtain ⟨v1, v2⟩ := ls_v_of n 0 ok k (by omega) (by omega)
      obtain ⟨d, hd, ed⟩ := lv_of v1 (by decide)
      have p0 := (lv_cmp (lN d) (a := 0) (by decide)).1
      have p1 := (lv_cmp (lN d) (a := 20) (by decide)).2
      have eT : (lN d).toInt = d := pk_lT (by omega)
      have g0 : ¬ lg_cmp (lN d) (lN 0) < 0 := fun z => by have := p0.mp z; omega
      have g1 : ¬ 0 < lg_cmp (lN d) (lN 20) := fun z => by have := p1.mp z; omega
      rw [fb_X4_isAsSeen_2, if_neg (nI_ge (by omega) (by omega)), show (2 : Int32) = nI 2 from rfl, pk_mul, nI_1, show lt_gi w (2 + 2 * i) 2 = nI m from e2, if_neg (nI_ge (by omega) (by omega)), r2, r3, lu_ck (by omega) (by decide), nI_clamp (by omega), hv, lu_let, ed, show (0 : Int64) = lN 0 from rfl, show (20 : Int64) = lN 20 from rfl, if_neg g0, if_neg g1, lN_i, lq_r117_2 hσ, lq_l127 hσ, lu_ck (by omega) (by decide), lu_ck (by omega) (by decide), nI_clamp (by omega), nI_clamp (by omega), hv, hc d (by omega), nI_l (by have := h7 d; omega), nI_1, ls_ft, ed, lN_i, nI_clamp (by omega)]
      by_cases c : lN (cn d) = vals (2 * k + 1)
      · rw [if_pos (lv_eq.mpr c), ih (k + 1) f (by omega) (by omega), decide_eq_true c, Bool.true_and]
      · rw [if_neg (fun z => c (lv_eq.mp z)), if_neg (by rw [Bool.and_eq_true, decide_eq_true_eq]; exact fun z => c z.1)]
  exact key n 0 lt_fu (by omega) (by unfold lt_fu; omega)
theorem lc_add29 (hσ : lr_S σ) {w : lt_W} {cn : Nat → Nat} (hc : ∀ t, t < 21 → lt_gi w 127 t = nI (cn t)) (h7 : ∀ t, cn t ≤ 7) : ∃ w', fb_X4_addCouple_29 σ 117 lt_fu 0 w = some w' ∧ (∀ t, t < 21 → ∀ c, lt_gi w' (129 + t) c = if c = cn t then lt_gi w (129 + t) c + 1 else lt_gi w (129 + t) c) ∧ lu_Fg 129 150 w w' := by
  refine lu_upR (fun f k u => fb_X4_addCouple_29 σ 117 f (nI k) u) 21 (fun k u => (∀ t, t < 21 → ∀ c, lt_gi u (129 + t) c = if t < k ∧ c = cn t then lt_gi w (129 + t) c + 1 else lt_gi w (129 + t) c) ∧ lu_Fg 129 150 w u) _ (fun f k u hk hI => ?_) (fun f u hI => ?_) lt_fu 0 w (by omega) (by unfold lt_fu; omega) ⟨fun t _ c => by rw [if_neg (by omega)], lu_Fg.refl _ _ _⟩
  · obtain ⟨x1, x2⟩ := hI
    obtain ⟨r1, r2⟩ := lq_128 hσ hk
    have ec : lt_gi u 127 k = nI (cn k) := (x2 127 k (by omega)).1.trans (hc k hk)
    have b7 := h7 k
    show ∃ b', fb_X4_addCouple_29 σ 117 (f + 1) (nI k) u = fb_X4_addCouple_29 σ 117 f (nI (k + 1)) b' ∧ _
    rw [fb_X4_addCouple_29, if_neg (show ¬ (20 : Int32) < nI k from nI_nlt (a := 20) (by omega) (by decide)), lq_r117_2 hσ, lq_l127 hσ, lu_ck hk (by decide), lu_ck hk (by decide), lu_ck hk (by decide), nI_clamp (by omega), ec, if_neg (nI_pos (by omega)), if_neg (show ¬ (7 : Int32) < nI (cn k) from nI_nlt (a := 7) b7 (by decide)), lq_r117_3 hσ, lq_l128 hσ, lu_ck hk (by decide), r1, r2, lu_ck (by omega) (by decide), lu_ck (by omega) (by decide), lu_let, nI_clamp (by omega), nI_1]
    refine ⟨_, rfl, fun t ht c => ?_, x2.si (by omega) (by omega)⟩
    rw [lu_gisi]
    by_cases e : t = k ∧ c = cn k
    · rw [if_pos ⟨by omega, e.2⟩, if_pos ⟨by omega, by rw [e.1]; exact e.2⟩, x1 k hk, if_neg (by omega), e.1, e.2]
    · rw [if_neg (by omega), x1 t ht c]
      by_cases e2 : t < k ∧ c = cn t
      · rw [if_pos e2, if_pos ⟨by omega, e2.2⟩]
      · rw [if_neg e2, if_neg]
        rintro ⟨z1, z2⟩
        by_cases z3 : t = k
        · exact e ⟨z3, by rw [← z3]; exact z2⟩
        · exact e2 ⟨by omega, z2⟩
  · obtain ⟨x1, x2⟩ := hI
    show ∃ r, fb_X4_addCouple_29 σ 117 (f + 1) _ u = _ ∧ _
    rw [fb_X4_addCouple_29, if_pos (show (20 : Int32) < nI 21 from nI_lt (a := 20) (by decide) (by decide))]
    refine ⟨u, rfl, fun t ht c => ?_, x2⟩
    rw [x1 t ht c]
    by_cases e : c = cn t
    · rw [if_pos ⟨ht, e⟩, if_pos e]
    · rw [if_neg (fun z => e z.2), if_neg e]
/-- what the looks have laid out, j couples on -/
def ls_P (fit : Nat → Bool) (cn : Nat → Nat → Nat) (w0 : lt_W) (j : Nat) (u : lt_W) : Prop := lt_gi u 117 4 = nI (ls_c fit j) ∧ (∀ f, ls_f fit j = some f → lt_gi u 117 5 = nI (f / 10) ∧ lt_gi u 117 6 = nI (f % 10)) ∧ (∀ t, t < 21 → ∀ c, c < 8 → lt_gi u (129 + t) c = nI (ls_sz fit cn t c j)) ∧ lu_Fg 117 150 w0 u
theorem lc_add (hσ : lr_S σ) {fit : Nat → Bool} {cn : Nat → Nat → Nat} {w0 w : lt_W} {j : Nat} (hj : j < 90) (h : ls_P fit cn w0 j w) (hf : fit (10 + j) = true) (hc : ∀ t, t < 21 → lt_gi w 127 t = nI (cn (10 + j) t)) (h7 : ∀ t, cn (10 + j) t ≤ 7) : ∃ w', f_X4_addCouple σ 117 (nI ((10 + j) / 10)) (nI ((10 + j) % 10)) w = some w' ∧ ls_P fit cn w0 (j + 1) w' := by
  obtain ⟨p1, p2, p3, p4⟩ := h
  have hcj : ls_c fit j ≤ 90 := Nat.le_trans (la_cnt_le _ _) (by omega)
  have ecj : ls_c fit (j + 1) = ls_c fit j + 1 := by unfold ls_c; rw [la_cnt, if_pos hf]
  -- behind the count, whatever stands in 5, 6
  have fin : ∀ u : lt_W, lt_gi u 117 4 = nI (ls_c fit j) → (∀ f, ls_f fit (j + 1) = some f → lt_gi u 117 5 = nI (f / 10) ∧ lt_gi u 117 6 = nI (f % 10)) → (∀ a k, a ≠ 117 → lt_gi u a k = lt_gi w a k) → lu_Fg 117 150 w0 u → ∃ w', fb_X4_addCouple_17 σ 117 u = some w' ∧ ls_P fit cn w0 (j + 1) w' := by
    intro u q1 q2 q3 q4
    unfold fb_X4_addCouple_17
    rw [lu_let, q1, nI_1]
    obtain ⟨w', a1, a2, a3⟩ := lc_add29 hσ (w := lt_si u 117 4 (nI (ls_c fit j + 1))) (cn := cn (10 + j)) (fun t ht => by rw [lu_ne (Or.inl (by decide)), q3 _ _ (by decide)]; exact hc t ht) h7
    refine ⟨w', a1, ?_, fun f hf' => ?_, fun t ht c hc' => ?_, (q4.si (by decide) (by decide)).trans (a3.wide (by omega) (by omega))⟩
    · rw [(a3 _ _ (by omega)).1, lu_eq, ecj]
    · rw [(a3 _ _ (by omega)).1, (a3 _ _ (by omega)).1, lu_ne (Or.inr (by decide)), lu_ne (Or.inr (by decide))]; exact q2 f hf'
    · rw [a2 t ht c, lu_ne (Or.inl (by omega)), q3 _ _ (by omega), p3 t ht c hc']
      unfold ls_sz
      rw [la_cnt, nI_1]
      by_cases e : c = cn (10 + j) t
      · rw [if_pos e, if_pos (by simp [hf, e])]
      · rw [if_neg e, if_neg (by simp [hf]; exact fun z => e z.symm)]
  unfold f_X4_addCouple fb_X4_addCouple_0
  rw [p1]
  by_cases c0 : ls_c fit j = 0
  · rw [c0, if_pos (show nI 0 = 0 from rfl), lu_let, lu_let]
    refine fin _ ?_ (fun f hf' => ?_) (fun a k z => ?_) ((p4.si (by decide) (by decide)).si (by decide) (by decide))
    · rw [lu_ne (Or.inr (by decide)), lu_ne (Or.inr (by decide))]; exact p1
    · rw [ls_f, (ls_f_none j).mpr c0] at hf'
      simp only [hf, if_true] at hf'
      obtain rfl := Option.some.inj hf'
      rw [lu_ne (Or.inr (by decide)), lu_eq, lu_eq]; exact ⟨rfl, rfl⟩
    · rw [lu_ne (Or.inl z), lu_ne (Or.inl z)]
  · rw [if_neg (nI_ne0 (by omega) (by omega))]
    refine fin w p1 (fun f hf' => ?_) (fun _ _ _ => rfl) p4
    cases e : ls_f fit j with
    | none => exact absurd ((ls_f_none j).mp e) c0
    | some g =>
      rw [ls_f, e] at hf'
      obtain rfl := Option.some.inj hf'
      exact p2 _ e
/-- without a couple -/
theorem ls_P.skip {fit : Nat → Bool} {cn : Nat → Nat → Nat} {w0 w : lt_W} {j : Nat} (h : ls_P fit cn w0 j w) (hf : ¬ fit (10 + j) = true) : ls_P fit cn w0 (j + 1) w := by
  obtain ⟨p1, p2, p3, p4⟩ := h
  refine ⟨?_, fun f hf' => ?_, fun t ht c hc => ?_, p4⟩
  · rw [p1]; unfold ls_c; rw [la_cnt, if_neg hf]
  · cases e : ls_f fit j with
    | none => rw [ls_f, e] at hf'; simp only [hf, if_false] at hf'; cases hf'
    | some g =>
      rw [ls_f, e] at hf'
      obtain rfl := Option.some.inj hf'
      exact p2 _ e
  · rw [p3 t ht c hc]; unfold ls_sz; rw [la_cnt, if_neg (by simp [hf])]
theorem ls_P.fg {fit : Nat → Bool} {cn : Nat → Nat → Nat} {w0 w w' : lt_W} {j : Nat} (h : ls_P fit cn w0 j w) (e : lu_Fg 118 128 w w') : ls_P fit cn w0 j w' := by
  obtain ⟨p1, p2, p3, p4⟩ := h
  refine ⟨(e _ _ (by omega)).1.trans p1, fun f hf => ?_, fun t ht c hc => (e _ _ (by omega)).1.trans (p3 t ht c hc), p4.trans (e.wide (by omega) (by omega))⟩
  rw [(e _ _ (by omega)).1, (e _ _ (by omega)).1]; exact p2 f hf
theorem lc_look29 (hσ : lr_S σ) {w0 : lt_W} {A : la_A} (hA : lc_T w0 12 A) (hO : la_Ok A) {g i n m : Nat} (hg : g < la_n A) (hi : i < 4) (hn : n ≤ 20) (hm : 2 * n ≤ m) (hm60 : m ≤ 60) (e2 : lt_gi w0 (2 + 2 * i) 2 = nI m) (ok : ls_v (lt_gl w0 (3 + 2 * i)) n 0 = true) (K : Int32 → Nat → Int32 → Int32 → lt_W → Option lt_W) {r : Nat} (h1 : 1 ≤ r) (h9 : r ≤ 9) : ∀ d x f u, x + d = 10 → d < f → ls_P (ls_fit A g (lt_gl w0 (3 + 2 * i)) n) (ls_cn A g) w0 (10 * r + x - 10) u → ∃ u', fb_X4_look_29 σ 117 K f (nI g) (2 + 2 * i) (nI n) (nI r) (nI x) u = K (nI g) (2 + 2 * i) (nI n) (nI (r + 1)) u' ∧ ls_P (ls_fit A g (lt_gl w0 (3 + 2 * i)) n) (ls_cn A g) w0 (10 * r) u' := by
  intro d
  induction d with
  | zero =>
    intro x f u hx hf hP
    obtain ⟨f, rfl⟩ : ∃ g, f = g + 1 := ⟨f - 1, by omega⟩
    rw [fb_X4_look_29, if_pos (show (9 : Int32) < nI x from nI_lt (a := 9) (by omega) (by omega)), nI_1]
    rw [show 10 * r + x - 10 = 10 * r from by omega] at hP
    exact ⟨u, rfl, hP⟩
  | succ d ih =>
    intro x f u hx hf hP
    obtain ⟨f, rfl⟩ : ∃ g, f = g + 1 := ⟨f - 1, by omega⟩
    have q1 : (10 * r + x) / 10 = r := by omega
    have q2 : (10 * r + x) % 10 = x := by omega
    have ej : 10 + (10 * r + x - 10) = 10 * r + x := by omega
    have hF := hP.2.2.2
    have hB : lc_T u 12 A := hA.fg hF (by omega)
    obtain ⟨u1, a1, a2, a3⟩ := lc_cah hσ hB hO hg (q := 10 * r + x) (by omega) (by omega)
    rw [q1, q2] at a1
    have F1 : lu_Fg 117 150 w0 u1 := hF.trans (a3.wide (by omega) (by omega))
    have s1 := lc_asSeen hσ (w := u1) (vals := lt_gl w0 (3 + 2 * i)) (cn := ls_cn A g (10 * r + x)) hi hn hm hm60 (by rw [(F1 _ _ (by omega)).1]; exact e2) (fun k => (F1 _ _ (by omega)).2) a2 (fun t => ls_cn7 hA.2.1 _ _ _) ok
    have P1 := hP.fg a3
    rw [fb_X4_look_29, if_neg (show ¬ (9 : Int32) < nI x from nI_nlt (a := 9) (by omega) (by decide)), a1, lu_bind, s1, lu_bind, lu_q, nI_1]
    have ef : ls_fit A g (lt_gl w0 (3 + 2 * i)) n (10 + (10 * r + x - 10)) = ls_ft (ls_cn A g (10 * r + x)) (lt_gl w0 (3 + 2 * i)) n 0 := by rw [ej]; rfl
    by_cases c : ls_ft (ls_cn A g (10 * r + x)) (lt_gl w0 (3 + 2 * i)) n 0 = true
    · obtain ⟨u2, b1, b2⟩ := lc_add hσ (by omega) P1 (by rw [ef]; exact c) (fun t ht => by rw [ej]; exact a2 t ht) (fun t => ls_cn7 hA.2.1 _ _ _)
      rw [ej, q1, q2] at b1
      rw [if_pos c, b1, lu_bind]
      exact ih (x + 1) f u2 (by omega) (by omega) (by rw [show 10 * r + (x + 1) - 10 = 10 * r + x - 10 + 1 from by omega]; exact b2)
    · rw [if_neg c]
      exact ih (x + 1) f u1 (by omega) (by omega) (by rw [show 10 * r + (x + 1) - 10 = 10 * r + x - 10 + 1 from by omega]; exact P1.skip (by rw [ef]; exact c))
theorem lc_look (hσ : lr_S σ) {w0 : lt_W} {A : la_A} (hA : lc_T w0 12 A) (hO : la_Ok A) {g i n m : Nat} (hg : g < la_n A) (hi : i < 4) (hn : n ≤ 20) (hm : 2 * n ≤ m) (hm60 : m ≤ 60) (e2 : lt_gi w0 (2 + 2 * i) 2 = nI m) (ok : ls_v (lt_gl w0 (3 + 2 * i)) n 0 = true) : ∃ w', f_X4_look σ 117 (nI g) (2 + 2 * i) (nI n) w0 = some w' ∧ ls_P (ls_fit A g (lt_gl w0 (3 + 2 * i)) n) (ls_cn A g) w0 90 w' := by
  -- forget
  have hfor : ∃ u, f_X4_forget σ 117 w0 = some u ∧ ls_P (ls_fit A g (lt_gl w0 (3 + 2 * i)) n) (ls_cn A g) w0 0 u := by
    unfold f_X4_forget fb_X4_forget_0
    rw [lu_let]
    have key := lu_upR (fun f k u => fb_X4_forget_7 σ 117 f (nI k) u) 21 (fun k u => lt_gi u 117 4 = 0 ∧ (∀ t, t < k → ∀ c, c < 8 → lt_gi u (129 + t) c = 0) ∧ lu_Fg 117 150 w0 u) (fun u => lt_gi u 117 4 = 0 ∧ (∀ t, t < 21 → ∀ c, c < 8 → lt_gi u (129 + t) c = 0) ∧ lu_Fg 117 150 w0 u) (fun f k u hk hI => ?_) (fun f u hI => ?_) lt_fu 0 (lt_si w0 117 4 0) (by omega) (by unfold lt_fu; omega) ⟨lu_eq, fun t ht => by omega, (lu_Fg.refl _ _ _).si (by decide) (by decide)⟩
    · obtain ⟨u, a1, a2, a3, a4⟩ := key
      exact ⟨u, a1, a2, fun f hf => (by cases hf), fun t ht c hc => a3 t ht c hc, a4⟩
    · obtain ⟨x1, x2, x3⟩ := hI
      obtain ⟨r1, r2⟩ := lq_128 hσ hk
      have inner : ∀ d c f' v, c + d = 8 → d < f' → (lt_gi v 117 4 = 0 ∧ (∀ t, t < k → ∀ c, c < 8 → lt_gi v (129 + t) c = 0) ∧ (∀ c', c' < c → lt_gi v (129 + k) c' = 0) ∧ lu_Fg 117 150 w0 v) → ∃ v', fb_X4_forget_15 σ 117 (fun x1 w => fb_X4_forget_7 σ 117 f x1 w) f' (nI k) (nI c) v = fb_X4_forget_7 σ 117 f (nI (k + 1)) v' ∧ (lt_gi v' 117 4 = 0 ∧ (∀ t, t < k + 1 → ∀ c, c < 8 → lt_gi v' (129 + t) c = 0) ∧ lu_Fg 117 150 w0 v') := by
        intro d
        induction d with
        | zero =>
          intro c f' v hc hf hI
          obtain ⟨f', rfl⟩ : ∃ g, f' = g + 1 := ⟨f' - 1, by omega⟩
          obtain ⟨y1, y2, y3, y4⟩ := hI
          rw [fb_X4_forget_15, if_pos (show (7 : Int32) < nI c from nI_lt (a := 7) (by omega) (by omega)), nI_1]
          refine ⟨v, rfl, y1, fun t ht c' hc' => ?_, y4⟩
          by_cases e : t = k
          · rw [e]; exact y3 c' (by omega)
          · exact y2 t (by omega) c' hc'
        | succ d ih =>
          intro c f' v hc hf hI
          obtain ⟨f', rfl⟩ : ∃ g, f' = g + 1 := ⟨f' - 1, by omega⟩
          obtain ⟨y1, y2, y3, y4⟩ := hI
          rw [fb_X4_forget_15, if_neg (show ¬ (7 : Int32) < nI c from nI_nlt (a := 7) (by omega) (by decide)), lq_r117_3 hσ, lq_l128 hσ, lu_ck hk (by decide), nI_clamp (by omega), r1, r2, lu_ck (by omega) (by decide), lu_let, nI_clamp (by omega), nI_1]
          refine ih (c + 1) f' _ (by omega) (by omega) ⟨?_, fun t ht c' hc' => ?_, fun c' hc' => ?_, y4.si (by omega) (by omega)⟩
          · rw [lu_ne (Or.inl (by omega))]; exact y1
          · rw [lu_ne (Or.inl (by omega))]; exact y2 t ht c' hc'
          · rw [lu_gisi]
            by_cases e : c' = c
            · rw [if_pos ⟨rfl, e⟩]
            · rw [if_neg (fun z => e z.2)]; exact y3 c' (by omega)
      obtain ⟨v', b1, b2⟩ := inner 8 0 lt_fu u (by omega) (by unfold lt_fu; omega) ⟨x1, x2, fun c' hc' => by omega, x3⟩
      show ∃ b', fb_X4_forget_7 σ 117 (f + 1) (nI k) u = fb_X4_forget_7 σ 117 f (nI (k + 1)) b' ∧ _
      rw [fb_X4_forget_7, if_neg (show ¬ (20 : Int32) < nI k from nI_nlt (a := 20) (by omega) (by decide))]
      exact ⟨v', b1, b2⟩
    · show ∃ r, fb_X4_forget_7 σ 117 (f + 1) _ u = _ ∧ _
      rw [fb_X4_forget_7, if_pos (show (20 : Int32) < nI 21 from nI_lt (a := 20) (by decide) (by decide))]
      exact ⟨u, rfl, hI⟩
  obtain ⟨u, a1, a2⟩ := hfor
  unfold f_X4_look fb_X4_look_0
  rw [a1, lu_bind, lq_r117_0 hσ, lq_hg_y (hA.fg a2.2.2.2 (by omega)) hg, lu_bind, if_neg lu_10]
  have outer : ∀ d r f v, 1 ≤ r → r + d = 10 → d < f → ls_P (ls_fit A g (lt_gl w0 (3 + 2 * i)) n) (ls_cn A g) w0 (10 * r - 10) v → ∃ w', fb_X4_look_19 σ 117 f (nI g) (2 + 2 * i) (nI n) (nI r) v = some w' ∧ ls_P (ls_fit A g (lt_gl w0 (3 + 2 * i)) n) (ls_cn A g) w0 90 w' := by
    intro d
    induction d with
    | zero =>
      intro r f v h1 hr hf hP
      obtain ⟨f, rfl⟩ : ∃ g, f = g + 1 := ⟨f - 1, by omega⟩
      rw [fb_X4_look_19, if_pos (show (9 : Int32) < nI r from nI_lt (a := 9) (by omega) (by omega))]
      rw [show 10 * r - 10 = 90 from by omega] at hP
      exact ⟨v, rfl, hP⟩
    | succ d ih =>
      intro r f v h1 hr hf hP
      obtain ⟨f, rfl⟩ : ∃ g, f = g + 1 := ⟨f - 1, by omega⟩
      obtain ⟨v', b1, b2⟩ := lc_look29 hσ hA hO hg hi hn hm hm60 e2 ok (fun x1 x2 x3 x4 w => fb_X4_look_19 σ 117 f x1 x2 x3 x4 w) (r := r) h1 (by omega) 10 0 lt_fu v (by omega) (by unfold lt_fu; omega) hP
      rw [fb_X4_look_19, if_neg (show ¬ (9 : Int32) < nI r from nI_nlt (a := 9) (by omega) (by decide))]
      have b1' : fb_X4_look_29 σ 117 (fun x1 x2 x3 x4 w => fb_X4_look_19 σ 117 f x1 x2 x3 x4 w) lt_fu (nI g) (2 + 2 * i) (nI n) (nI r) 0 v = _ := b1
      rw [b1']
      exact ih (r + 1) f v' (by omega) (by omega) (by omega) b2
  exact outer 9 1 lt_fu u (by decide) (by decide) (by unfold lt_fu; omega) a2
end SC