/-! NEXT, HANGS, STARVED, LEAST -/
/-- the first cut, as days go by: m days more, from the day k on -/
def la_nxt (A : la_A) : Nat → Nat → Option (Nat × Nat)
  | 0, _ => none
  | m + 1, k => match la_first A with | some g => some (k, g) | none => la_nxt (la_day A) m (k + 1)
def la_next (A : la_A) : Option (Nat × Nat) := la_nxt A 99 1
def la_d1 (p : Option (Nat × Nat)) : Int32 := match p with | none => -1 | some q => nI q.1
def la_d2 (p : Option (Nat × Nat)) : Int32 := match p with | none => -1 | some q => nI q.2
def la_en (p : Option (Nat × Nat)) : Int32 := match p with | none => -1 | some q => nI (10 * q.1 + q.2)
theorem la_nxt_b : ∀ m k (A : la_A), la_n A ≤ 7 → ∀ q, la_nxt A m k = some q → k ≤ q.1 ∧ q.1 < k + m ∧ q.2 < 7 := by
  intro m
  induction m with
  | zero => intro k A _ q h; cases h
  | succ m ih =>
    intro k A h7 q h
    rw [la_nxt] at h
    cases e : la_first A with
    | none =>
      rw [e] at h
      obtain ⟨a, b, c⟩ := ih (k + 1) (la_day A) (by rw [la_n_day]; exact h7) q h
      exact ⟨by omega, by omega, c⟩
    | some g =>
      rw [e] at h
      obtain rfl := Option.some.inj h
      exact ⟨Nat.le_refl _, by omega, by have := (la_first_may A g e).1; omega⟩
theorem la_day_none {A : la_A} (h : la_first A = none) : la_day A = la_eats A := by unfold la_day; rw [h]; rfl
section NX
variable {σ : lt_S}
theorem lc_fn (hσ : lr_S σ) : ∀ m k f (w : lt_W) (A : la_A), k + m = 100 → m + 1 < f → lc_T w 50 A → la_Ok A → lt_gi w 49 2 = -1 → lt_gi w 49 3 = -1 → ∃ w', fb_X0_findNextOfThen_12 σ 49 f (nI k) w = some w' ∧ lt_gi w' 49 2 = la_d1 (la_nxt A m k) ∧ lt_gi w' 49 3 = la_d2 (la_nxt A m k) ∧ lu_Fg 49 59 w w' := by
  have hT := lr_tab hσ (o := 50) (by decide)
  intro m
  induction m with
  | zero =>
    intro k f w A hk hf hA hO h2 h3
    obtain ⟨f, rfl⟩ : ∃ g, f = g + 1 := ⟨f - 1, by omega⟩
    rw [fb_X0_findNextOfThen_12, if_pos (show (99 : Int32) < nI k from nI_lt (a := 99) (by omega) (by omega))]
    exact ⟨w, rfl, h2, h3, lu_Fg.refl _ _ _⟩
  | succ m ih =>
    intro k f w A hk hf hA hO h2 h3
    obtain ⟨f, rfl⟩ : ∃ g, f = g + 2 := ⟨f - 2, by omega⟩
    have h7 := hA.2.1
    rw [fb_X0_findNextOfThen_12, if_neg (show ¬ (99 : Int32) < nI k from nI_nlt (a := 99) (by omega) (by omega)), if_pos h3, lq_r49_1 hσ, lc_first hT hA hO, lu_bind, la_nxt]
    cases e : la_first A with
    | none =>
      rw [if_pos (show la_e none = -1 from rfl)]
      obtain ⟨w1, e1, e2, e3⟩ := lc_passDay hT hA hO (g := none) (fun j hj => by cases hj)
      have e1' : f_X5_passDay σ 50 (-1) w = some w1 := e1
      rw [e1', lu_bind, nI_1]
      obtain ⟨w', a1, a2, a3, a4⟩ := ih (k + 1) (f + 1) w1 (la_day A) (by omega) (by omega) (by rw [la_day_none e]; exact e2) (la_Ok_day hO) ((e3.2 _ _ (by omega)).trans h2) ((e3.2 _ _ (by omega)).trans h3)
      exact ⟨w', a1, a2, a3, (e3.g.wide (by omega) (by omega)).trans a4⟩
    | some g =>
      have hg := (la_first_may A g e).1
      rw [if_neg (show ¬ la_e (some g) = -1 from lu_ne1 (by omega)), lu_let, lu_let, nI_1, fb_X0_findNextOfThen_12]
      have : (if (99 : Int32) < nI (k + 1) then some (lt_si (lt_si w 49 2 (nI k)) 49 3 (la_e (some g))) else if lt_gi (lt_si (lt_si w 49 2 (nI k)) 49 3 (la_e (some g))) 49 3 = -1 then Option.bind (f_X5_firstCutter σ (lt_r σ 49 1) (lt_si (lt_si w 49 2 (nI k)) 49 3 (la_e (some g)))) (fun q2 => if q2 = (-1) then Option.bind (f_X5_passDay σ (lt_r σ 49 1) (-1) (lt_si (lt_si w 49 2 (nI k)) 49 3 (la_e (some g)))) (fun q6 => fb_X0_findNextOfThen_12 σ 49 f (nI (k + 1) + 1) q6) else lt_let (lt_si (lt_si (lt_si w 49 2 (nI k)) 49 3 (la_e (some g))) 49 2 (nI (k + 1))) (fun w3 => lt_let (lt_si w3 49 3 q2) (fun w4 => fb_X0_findNextOfThen_12 σ 49 f (nI (k + 1) + 1) w4))) else some (lt_si (lt_si w 49 2 (nI k)) 49 3 (la_e (some g)))) = some (lt_si (lt_si w 49 2 (nI k)) 49 3 (la_e (some g))) := by
        rw [lu_eq, if_neg (show ¬ la_e (some g) = -1 from lu_ne1 (by omega))]; split <;> rfl
      rw [this]
      refine ⟨_, rfl, ?_, ?_, ((lu_Fg.refl _ _ _).si (by decide) (by decide)).si (by decide) (by decide)⟩
      · rw [lu_ne (Or.inr (by decide)), lu_eq]; rfl
      · rw [lu_eq]; rfl
theorem lc_findThen (hσ : lr_S σ) {w : lt_W} {A : la_A} (hA : lc_T w 50 A) (hO : la_Ok A) : ∃ w', f_X0_findNextOfThen σ 49 w = some w' ∧ lt_gi w' 49 2 = la_d1 (la_next A) ∧ lt_gi w' 49 3 = la_d2 (la_next A) ∧ lu_Fg 49 59 w w' := by
  unfold f_X0_findNextOfThen fb_X0_findNextOfThen_0
  rw [lu_let, lu_let]
  obtain ⟨w', e1, e2, e3, e4⟩ := lc_fn hσ 99 1 lt_fu (lt_si (lt_si w 49 2 (-1)) 49 3 (-1)) A (by decide) (by unfold lt_fu; omega) ((hA.out (by omega)).out (by omega)) hO (by rw [lu_ne (Or.inr (by decide)), lu_eq]) (by rw [lu_eq])
  exact ⟨w', e1, e2, e3, (((lu_Fg.refl 49 59 w).si (by decide) (by decide)).si (by decide) (by decide)).trans e4⟩
theorem lc_findNext (hσ : lr_S σ) {w : lt_W} {A : la_A} (hA : lc_T w 12 A) (hO : la_Ok A) : ∃ w', f_X0_findNext σ 49 w = some w' ∧ lt_gi w' 49 2 = la_d1 (la_next A) ∧ lt_gi w' 49 3 = la_d2 (la_next A) ∧ lu_Fg 49 59 w w' := by
  obtain ⟨w1, e1, e2, e3⟩ := lc_copyT (A := A) (lr_tab hσ (o := 50) (by decide)) (lr_nowS hσ) (by omega) hA
  obtain ⟨w2, f1, f2, f3, f4⟩ := lc_findThen hσ e2 hO
  unfold f_X0_findNext fb_X0_findNext_0
  rw [lq_r49_1 hσ, lq_r49_0 hσ, e1, lu_bind, f1, lu_bind]
  exact ⟨w2, rfl, f2, f3, (e3.wide (by omega) (by omega)).trans f4⟩
theorem lm_nx {o : Nat} (hS : lm_S σ o) : ∀ m k f (w : lt_W) (A : la_A), k + m = 100 → m + 1 < f → lm_T w (lt_r σ o 0) 0 A → la_Ok A → ∃ w', fb_X12_nextCut_11 σ o f (-1) (nI k) w = fb_X12_nextCut_45 σ o (la_en (la_nxt A m k)) w' ∧ lm_D (lt_r σ o 0) w w' := by
  intro m
  induction m with
  | zero =>
    intro k f w A hk hf hA hO
    obtain ⟨f, rfl⟩ : ∃ g, f = g + 1 := ⟨f - 1, by omega⟩
    rw [fb_X12_nextCut_11, if_pos (show (99 : Int32) < nI k from nI_lt (a := 99) (by omega) (by omega))]
    exact ⟨w, rfl, lm_D.refl _ _⟩
  | succ m ih =>
    intro k f w A hk hf hA hO
    obtain ⟨f, rfl⟩ : ∃ g, f = g + 2 := ⟨f - 2, by omega⟩
    have h7 := hA.2.1
    obtain ⟨w1, e1, e2, e3⟩ := lm_dayGoes hS hA hO
    rw [fb_X12_nextCut_11, if_neg (show ¬ (99 : Int32) < nI k from nI_nlt (a := 99) (by omega) (by omega)), if_pos rfl, e1, lu_bind, la_nxt]
    cases e : la_first A with
    | none =>
      obtain ⟨w', a1, a2⟩ := ih (k + 1) (f + 1) w1 (la_day A) (by omega) (by omega) e2 (la_Ok_day hO)
      refine ⟨w', ?_, e3.trans a2⟩
      show (if (-1 : Int32) = -1 then fb_X12_nextCut_11 σ o (f + 1) (-1) (nI k + 1) w1 else _) = _
      rw [if_pos rfl, nI_1]; exact a1
    | some g =>
      have hg := (la_first_may A g e).1
      refine ⟨w1, ?_, e3⟩
      show (if nI g = -1 then _ else fb_X12_nextCut_11 σ o (f + 1) (10 * nI k + nI g) (nI k + 1) w1) = fb_X12_nextCut_45 σ o (nI (10 * k + g)) w1
      rw [if_neg (lu_ne1 (by omega)), show (10 : Int32) = nI 10 from rfl, pk_mul, nI_add, fb_X12_nextCut_11, if_neg (lu_ne1 (by omega))]
      split <;> rfl
theorem lm_nextCut {o : Nat} (hS : lm_S σ o) {w : lt_W} {A : la_A} (hA : lm_T w (lt_r σ o 0) 0 A) (hO : la_Ok A) : ∃ w', f_X12_nextCut σ o w = some (la_en (la_next A), w') ∧ lm_F (lt_r σ o 0) 2140 2200 w w' := by
  obtain ⟨w1, e1, e2, e3, e4⟩ := lm_keepsT (b := 2140) hS (by decide) (by decide) hA
  obtain ⟨w2, f1, f2⟩ := lm_nx hS 99 1 lt_fu w1 A (by decide) (by unfold lt_fu; omega) e2 hO
  obtain ⟨w3, g1, g2, -⟩ := lm_back (b := 2140) hS (by decide) (by decide) e3 e4 f2
  have e1' : f_X12_keeps σ o 2140 w = some w1 := e1
  have g1' : f_X12_brings σ o 2140 w2 = some w3 := g1
  have f1' : fb_X12_nextCut_11 σ o lt_fu (-1) 1 w1 = fb_X12_nextCut_45 σ o (la_en (la_next A)) w2 := f1
  refine ⟨w3, ?_, g2⟩
  unfold f_X12_nextCut fb_X12_nextCut_0
  rw [e1', lu_bind, f1']
  unfold fb_X12_nextCut_45
  rw [g1', lu_bind]
theorem op_next (hσ : lr_S σ) {w : lt_W} {A : la_A} (h : lr_0 w A) : lr_ok (f_X11_next σ 0) (f_X12_next σ 233) w := by
  refine lr_ok.q h (r := la_d1 (la_next A)) (st := if la_d1 (la_next A) = -1 then 6 else 0) ?_ (fun w1 h1 => ?_)
  · obtain ⟨w', e1, e2, e3, e4⟩ := lc_findNext hσ h.c h.O
    refine lr_cq.gia (σ := σ) (w' := w') ?_ (lr_Q.ofFg e4 (by decide) (by decide))
    unfold f_X11_next fb_X11_next_0
    rw [lq_r0_9 hσ, e1, lu_bind, e2]
  · obtain ⟨w', e1, e2⟩ := lm_nextCut (lr_mS hσ) (h1.m hσ) h1.O
    unfold f_X12_next fb_X12_next_0
    cases e : la_next A with
    | none =>
      rw [e] at e1
      refine lr_mq.F hσ (w' := w') ?_ e2
      show Option.bind (f_X12_nextCut σ 233 w1) _ = _
      rw [e1]; rfl
    | some q =>
      rw [e] at e1
      obtain ⟨q1, q2, q3⟩ := la_nxt_b 99 1 A h.n7 q e
      have hne : ¬ la_en (some q) = -1 := lu_ne1 (by omega)
      have hd : la_en (some q) / 10 = nI q.1 := by
        show nI (10 * q.1 + q.2) / nI 10 = _
        rw [pk_div (by omega) (by decide) (by decide)]; congr 1; omega
      have hs : ¬ la_d1 (some q) = -1 := lu_ne1 (by omega)
      rw [if_neg hs]
      refine lr_mq.F hσ (w' := w') ?_ e2
      show Option.bind (f_X12_nextCut σ 233 w1) _ = _
      rw [e1, lu_bind]
      show (if la_en (some q) = -1 then _ else Option.bind (f_X12_gives σ 233 (la_en (some q) / 10) w') _) = _
      rw [if_neg hne, hd]; rfl
theorem op_nextBy (hσ : lr_S σ) {w : lt_W} {A : la_A} (h : lr_0 w A) : lr_ok (f_X11_nextBy σ 0) (f_X12_nextBy σ 233) w := by
  refine lr_ok.q h (r := la_d2 (la_next A)) (st := if la_d2 (la_next A) = -1 then 6 else 0) ?_ (fun w1 h1 => ?_)
  · obtain ⟨w', e1, e2, e3, e4⟩ := lc_findNext hσ h.c h.O
    refine lr_cq.gia (σ := σ) (w' := w') ?_ (lr_Q.ofFg e4 (by decide) (by decide))
    unfold f_X11_nextBy fb_X11_nextBy_0
    rw [lq_r0_9 hσ, e1, lu_bind, e3]
  · obtain ⟨w', e1, e2⟩ := lm_nextCut (lr_mS hσ) (h1.m hσ) h1.O
    unfold f_X12_nextBy fb_X12_nextBy_0
    cases e : la_next A with
    | none =>
      rw [e] at e1
      refine lr_mq.F hσ (w' := w') ?_ e2
      show Option.bind (f_X12_nextCut σ 233 w1) _ = _
      rw [e1]; rfl
    | some q =>
      rw [e] at e1
      obtain ⟨q1, q2, q3⟩ := la_nxt_b 99 1 A h.n7 q e
      have hne : ¬ la_en (some q) = -1 := lu_ne1 (by omega)
      have hd : la_en (some q) - la_en (some q) / 10 * 10 = nI q.2 := by
        show nI (10 * q.1 + q.2) - nI (10 * q.1 + q.2) / nI 10 * nI 10 = _
        rw [pk_rem (by omega) (by decide) (by decide)]; congr 1; omega
      have hs : ¬ la_d2 (some q) = -1 := lu_ne1 (by omega)
      rw [if_neg hs]
      refine lr_mq.F hσ (w' := w') ?_ e2
      show Option.bind (f_X12_nextCut σ 233 w1) _ = _
      rw [e1, lu_bind]
      show (if la_en (some q) = -1 then _ else Option.bind (f_X12_gives σ 233 (la_en (some q) - la_en (some q) / 10 * 10) w') _) = _
      rw [if_neg hne, hd]; rfl
/-- on whom it hangs -/
def la_hang (A : la_A) (i : Nat) : Bool := la_here A i && !decide (la_next (la_c A i 5 0) = la_next A)
theorem la_next_c {A B : la_A} (hA : la_n A ≤ 7) (hB : la_n B ≤ 7) : (la_d1 (la_next A) = la_d1 (la_next B) ∧ la_d2 (la_next A) = la_d2 (la_next B)) ↔ la_next A = la_next B := by
  constructor
  · rintro ⟨h1, h2⟩
    cases e : la_next A with
    | none =>
      cases e' : la_next B with
      | none => rfl
      | some q =>
        rw [e, e'] at h1
        obtain ⟨q1, q2, q3⟩ := la_nxt_b 99 1 B hB q e'
        exact absurd h1.symm (lu_ne1 (by omega))
    | some p =>
      obtain ⟨p1, p2, p3⟩ := la_nxt_b 99 1 A hA p e
      cases e' : la_next B with
      | none => rw [e, e'] at h1; exact absurd h1 (lu_ne1 (by omega))
      | some q =>
        obtain ⟨q1, q2, q3⟩ := la_nxt_b 99 1 B hB q e'
        rw [e, e'] at h1 h2
        have a1 := (nI_eq (a := p.1) (b := q.1) (by omega) (by omega)).mp h1
        have a2 := (nI_eq (a := p.2) (b := q.2) (by omega) (by omega)).mp h2
        exact congrArg some (Prod.ext a1 a2)
  · intro h; rw [h]; exact ⟨rfl, rfl⟩
theorem la_next_m {A B : la_A} (hA : la_n A ≤ 7) (hB : la_n B ≤ 7) : la_en (la_next A) = la_en (la_next B) ↔ la_next A = la_next B := by
  constructor
  · intro h1
    cases e : la_next A with
    | none =>
      cases e' : la_next B with
      | none => rfl
      | some q =>
        rw [e, e'] at h1
        obtain ⟨q1, q2, q3⟩ := la_nxt_b 99 1 B hB q e'
        exact absurd h1.symm (lu_ne1 (by omega))
    | some p =>
      obtain ⟨p1, p2, p3⟩ := la_nxt_b 99 1 A hA p e
      cases e' : la_next B with
      | none => rw [e, e'] at h1; exact absurd h1 (lu_ne1 (by omega))
      | some q =>
        obtain ⟨q1, q2, q3⟩ := la_nxt_b 99 1 B hB q e'
        rw [e, e'] at h1
        have a1 := (nI_eq (a := 10 * p.1 + p.2) (b := 10 * q.1 + q.2) (by omega) (by omega)).mp h1
        exact congrArg some (Prod.ext (by omega) (by omega))
  · intro h; rw [h]
theorem lc_hang (hσ : lr_S σ) {w : lt_W} {A : la_A} (hA : lc_T w 12 A) (hO : la_Ok A) : ∃ w', f_X0_hangingSet σ 49 w = some (la_sb (la_hang A) (la_n A), w') ∧ lu_Fg 49 59 w w' := by
  have h7 := hA.2.1
  obtain ⟨w1, e1, e2, e3, e4⟩ := lc_findNext hσ hA hO
  unfold f_X0_hangingSet fb_X0_hangingSet_0
  rw [e1, lu_bind, e2, e3]
  have := lu_upR (fun f k (u : Int32 × lt_W) => fb_X0_hangingSet_19 σ 49 f (la_d1 (la_next A)) (la_d2 (la_next A)) u.1 (nI k) u.2) (la_n A) (fun k u => u.1 = la_sb (la_hang A) k ∧ lu_Fg 49 59 w u.2) (fun r => r.1 = la_sb (la_hang A) (la_n A) ∧ lu_Fg 49 59 w r.2) (fun f k u hk hI => ?_) (fun f u hI => ?_) lt_fu 0 (0, w1) (by omega) (by unfold lt_fu; omega) ⟨rfl, e4⟩
  · obtain ⟨r, a1, a2, a3⟩ := this
    refine ⟨r.2, ?_, a3⟩
    rw [← a2]; exact a1
  · obtain ⟨x, u⟩ := u
    obtain ⟨hx, hF⟩ := hI
    simp only [] at hx hF
    subst hx
    have hB : lc_T u 12 A := hA.fg hF (by omega)
    show ∃ b' : Int32 × lt_W, fb_X0_hangingSet_19 σ 49 (f + 1) _ _ _ (nI k) u = fb_X0_hangingSet_19 σ 49 f _ _ b'.1 (nI (k + 1)) b'.2 ∧ _
    rw [fb_X0_hangingSet_19, lq_r49_0 hσ, if_neg (lc_lt hB hk), lc_isThere hB hk, lu_bind, lu_q, lq_r49_1 hσ]
    unfold fb_X0_hangingSet_95
    rw [nI_1]
    by_cases e : la_here A k = true
    · rw [if_pos e]
      obtain ⟨u1, b1, b2, b3⟩ := lc_copyT (A := A) (lr_tab hσ (o := 50) (by decide)) (lr_nowS hσ) (by omega) hB
      have hC : lc_T (lt_si u1 50 8 (lt_gi u1 50 8 &&& ((1 <<< (nI k &&& 31)) ^^^ (-1)))) 50 (la_c A k 5 0) := by
        refine b2.there ?_
        rw [b2.2.2.2.1, la_clr h7 hk]
        refine la_sb_congr fun i _ => ?_
        unfold la_here la_c
        by_cases ei : i = k
        · simp [ei]
        · simp [ei]
      obtain ⟨u2, c1, c2, c3, c4⟩ := lc_findThen hσ hC (hO.c (Or.inr (Or.inr (Or.inr (Or.inr (Or.inr (Or.inl ⟨rfl, Or.inl rfl⟩)))))))
      have hF2 : lu_Fg 49 59 w u2 := hF.trans (((b3.wide (by omega) (by omega)).si (by decide) (by decide)).trans c4)
      rw [b1, lu_bind, lu_let, c1, lu_bind, c2, c3]
      have key := la_next_c (A := la_c A k 5 0) (B := A) h7 h7
      by_cases hn : la_next (la_c A k 5 0) = la_next A
      · obtain ⟨k1, k2⟩ := key.mpr hn
        rw [if_pos k1, if_pos k2]
        exact ⟨(_, u2), rfl, by rw [la_sb, if_neg (by simp [la_hang, hn])], hF2⟩
      · have : ((if la_d1 (la_next (la_c A k 5 0)) = la_d1 (la_next A) then if la_d2 (la_next (la_c A k 5 0)) = la_d2 (la_next A) then fb_X0_hangingSet_19 σ 49 f (la_d1 (la_next A)) (la_d2 (la_next A)) (la_sb (la_hang A) k) (nI (k + 1)) u2 else lt_let (la_sb (la_hang A) k ||| (1 <<< (nI k &&& 31))) (fun z1 => fb_X0_hangingSet_19 σ 49 f (la_d1 (la_next A)) (la_d2 (la_next A)) z1 (nI (k + 1)) u2) else lt_let (la_sb (la_hang A) k ||| (1 <<< (nI k &&& 31))) (fun z1 => fb_X0_hangingSet_19 σ 49 f (la_d1 (la_next A)) (la_d2 (la_next A)) z1 (nI (k + 1)) u2))) = fb_X0_hangingSet_19 σ 49 f (la_d1 (la_next A)) (la_d2 (la_next A)) (la_sb (la_hang A) k ||| (1 <<< (nI k &&& 31))) (nI (k + 1)) u2 := by
          by_cases k1 : la_d1 (la_next (la_c A k 5 0)) = la_d1 (la_next A)
          · rw [if_pos k1, if_neg (fun k2 => hn (key.mp ⟨k1, k2⟩))]; rfl
          · rw [if_neg k1]; rfl
        rw [this]
        exact ⟨(_, u2), rfl, by rw [la_sb, if_pos (by simp [la_hang, hn, e])]; rfl, hF2⟩
    · rw [if_neg e]
      exact ⟨(_, u), rfl, by rw [la_sb, if_neg (by simp [la_hang, e])], hF⟩
  · obtain ⟨x, u⟩ := u
    obtain ⟨hx, hF⟩ := hI
    simp only [] at hx hF
    subst hx
    have hB : lc_T u 12 A := hA.fg hF (by omega)
    show ∃ r, fb_X0_hangingSet_19 σ 49 (f + 1) _ _ _ _ u = _ ∧ _
    rw [fb_X0_hangingSet_19, lq_r49_0 hσ, if_pos (lc_ge hB (by omega) (Nat.le_refl _))]
    exact ⟨_, rfl, rfl, hF⟩
theorem lm_F.idem {t lo hi : Nat} {w w' : lt_W} {k : Nat} {v : Int32} (h : lm_F t lo hi w (w')) (hk : lt_gi w t k = v) : lm_F t lo hi w (lt_si w' t k v) :=
  ⟨fun a j => h.1 a j, fun a j z => by
    rw [lu_gisi]
    by_cases c : a = t ∧ j = k
    · rw [if_pos c, c.1, c.2]; exact hk.symm
    · rw [if_neg c]; exact h.2 a j z⟩
theorem op_hangs (hσ : lr_S σ) {w : lt_W} {A : la_A} (h : lr_0 w A) : lr_ok (f_X11_hangs σ 0) (f_X12_hangs σ 233) w := by
  have hS := lr_mS hσ
  refine lr_ok.q h (r := la_sb (la_hang A) (la_n A)) (st := 0) ?_ (fun w1 h1 => ?_)
  · obtain ⟨w', e1, e2⟩ := lc_hang hσ h.c h.O
    refine lr_cq.fg (w' := w') ?_ e2
    unfold f_X11_hangs fb_X11_hangs_0
    rw [lq_r0_9 hσ, e1, lu_bind]; rfl
  · have hA := h1.m hσ
    have h7 := hA.2.1
    obtain ⟨w2, e1, e2⟩ := lm_nextCut hS hA h1.O
    have := lu_upR (fun f k (u : Int32 × lt_W) => fb_X12_hangs_9 σ 233 f (la_en (la_next A)) u.1 (nI k) u.2) (la_n A) (fun k u => u.1 = la_sb (la_hang A) k ∧ lm_F (lt_r σ 233 0) 2140 2200 w1 u.2) (fun r => r.1 = la_sb (la_hang A) (la_n A) ∧ ∃ u, r.2 = lt_si u 233 2 0 ∧ lm_F (lt_r σ 233 0) 2140 2200 w1 u) (fun f k u hk hI => ?_) (fun f u hI => ?_) lt_fu 0 (0, w2) (by omega) (by unfold lt_fu; omega) ⟨rfl, e2⟩
    · obtain ⟨r, a1, a2, u, a3, a4⟩ := this
      refine lr_mq.F hσ (w' := u) ?_ a4
      unfold f_X12_hangs fb_X12_hangs_0
      rw [e1, lu_bind]
      refine a1.trans ?_
      rw [← a2, ← a3]
    · obtain ⟨x, u⟩ := u
      obtain ⟨hx, hF⟩ := hI
      simp only [] at hx hF
      subst hx
      have hB : lm_T u (lt_r σ 233 0) 0 A := hA.F hF (by omega)
      show ∃ b' : Int32 × lt_W, fb_X12_hangs_9 σ 233 (f + 1) _ _ (nI k) u = fb_X12_hangs_9 σ 233 f _ b'.1 (nI (k + 1)) b'.2 ∧ _
      rw [fb_X12_hangs_9, hS, lm_k0, lm_c0, if_neg (lm_lt hB hk), lm_here hS hB hk, lu_bind, lu_q, lm_row, lu_bind, lm_a5, lu_ck (by omega) (by decide), lu_let, nI_clamp (by omega)]
      have k58 : ∀ (y0 y1 : Int32) (v : lt_W), fb_X12_hangs_58 σ 233 (fun x1 x2 x3 w => fb_X12_hangs_9 σ 233 f x1 x2 x3 w) (la_en (la_next A)) (nI k) y0 y1 v = fb_X12_hangs_9 σ 233 f (la_en (la_next A)) (y0 ||| y1) (nI (k + 1)) (lt_si v (lt_r σ 233 0) (10 + 7 * k + 5) 1) := by
        intro y0 y1 v
        unfold fb_X12_hangs_58
        rw [lm_row, lu_bind, hS, lm_a5, lu_ck (by omega) (by decide), nI_clamp (by omega), nI_1]; rfl
      simp only [k58]
      rw [nI_1]
      by_cases e : la_here A k = true
      · rw [if_pos e]
        have hC : lm_T (lt_si u (lt_r σ 233 0) (10 + 7 * k + 5) 0) (lt_r σ 233 0) 0 (la_c A k 5 0) := hB.cell (by omega) (by decide)
        obtain ⟨u2, c1, c2⟩ := lm_nextCut hS hC (h1.O.c (Or.inr (Or.inr (Or.inr (Or.inr (Or.inr (Or.inl ⟨rfl, Or.inl rfl⟩)))))))
        have hone : lt_gi u (lt_r σ 233 0) (10 + 7 * k + 5) = 1 := by
          rw [lm_at hB hk (by decide)]; simpa [la_here] using e
        have hF2 : lm_F (lt_r σ 233 0) 2140 2200 w1 (lt_si u2 (lt_r σ 233 0) (10 + 7 * k + 5) 1) := by
          refine hF.trans ⟨fun a j => c2.1 a j, fun a j z => ?_⟩
          rw [lu_gisi]
          by_cases c : a = lt_r σ 233 0 ∧ j = 10 + 7 * k + 5
          · rw [if_pos c, c.1, c.2]; exact hone.symm
          · rw [if_neg c, c2.2 a j z, lu_ne (by omega)]
        rw [c1, lu_bind]
        have key := la_next_m (A := la_c A k 5 0) (B := A) h7 h7
        by_cases hn : la_next (la_c A k 5 0) = la_next A
        · rw [if_pos (key.mpr hn), Int32.or_zero]
          exact ⟨(_, _), rfl, by rw [la_sb, if_neg (by simp [la_hang, hn])], hF2⟩
        · rw [if_neg (fun z => hn (key.mp z))]
          exact ⟨(_, _), rfl, by rw [la_sb, if_pos (by simp [la_hang, hn, e])]; rfl, hF2⟩
      · rw [if_neg e]
        exact ⟨(_, u), rfl, by rw [la_sb, if_neg (by simp [la_hang, e])], hF⟩
    · obtain ⟨x, u⟩ := u
      obtain ⟨hx, hF⟩ := hI
      simp only [] at hx hF
      subst hx
      have hB : lm_T u (lt_r σ 233 0) 0 A := hA.F hF (by omega)
      show ∃ r, fb_X12_hangs_9 σ 233 (f + 1) _ _ _ u = _ ∧ _
      rw [fb_X12_hangs_9, hS, lm_k0, lm_c0, if_pos (lm_ge hB (by omega) (Nat.le_refl _))]
      exact ⟨_, rfl, rfl, u, rfl, hF⟩
end NX