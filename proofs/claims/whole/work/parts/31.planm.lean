/-! PLANS: the reference's machine -/
def lp_bm (w : lt_W) (D : Nat) (b : lp_B) : Prop := ∀ q, b = some q → ∀ j, j < D → lt_gi w 244 j = q.2 j
/-- what a level leaves -/
def lp_Fm (L : Nat) (w w' : lt_W) : Prop := (∀ a k, lt_gl w' a k = lt_gl w a k) ∧ ∀ a k, ((a ≠ 234 ∧ a ≠ 242 ∧ a ≠ 243 ∧ a ≠ 244) ∨ (a = 234 ∧ 60 ≤ k ∧ k < 2260 + 60 * L) ∨ (a = 242 ∧ k < L) ∨ (a = 243 ∧ k ≤ L)) → lt_gi w' a k = lt_gi w a k
theorem lp_Fm.refl (L : Nat) (w : lt_W) : lp_Fm L w w := ⟨fun _ _ => rfl, fun _ _ _ => rfl⟩
theorem lp_Fm.trans {L : Nat} {w w' w'' : lt_W} (h : lp_Fm L w w') (h' : lp_Fm L w' w'') : lp_Fm L w w'' := ⟨fun a k => (h'.1 a k).trans (h.1 a k), fun a k z => (h'.2 a k z).trans (h.2 a k z)⟩
theorem lp_Fm.down {L : Nat} {w w' : lt_W} (h : lp_Fm (L + 1) w w') : lp_Fm L w w' := ⟨h.1, fun a k z => h.2 a k (by omega)⟩
theorem lp_Fm.D {L : Nat} {w w' : lt_W} (h : lm_D 234 w w') : lp_Fm L w w' := ⟨h.1, fun a k z => h.2 a k (by omega)⟩
/-- a level, ahead of its try t -/
def lp_S (D L : Nat) (A : la_A) (d : Nat) (row : Nat → Int32) (t : Nat) (b : lp_B) (u : lt_W) : Prop := lm_T u 234 (2200 + 60 * L) A ∧ lt_gi u 242 L = nI t - 1 ∧ lt_gi u 243 L = nI d ∧ (∀ j, j < L → lt_gi u 242 j - 1 = row j) ∧ lp_bm u D b
theorem la_cdE (t : Nat) : nI t - 1 = la_e (la_cd t) := by
  cases t with
  | zero => rfl
  | succ t => rw [nI_pred]; rfl
def lp_N : Nat → Nat | 0 => 0 | m + 1 => 9 + 8 * lp_N m
section PM
variable {σ : lt_S}
theorem lp_level (k : Nat) : f_X12_levelAt (nI k) = some (nI (2200 + 60 * k)) := by
  unfold f_X12_levelAt fb_X12_levelAt_0
  rw [show (60 : Int32) = nI 60 from rfl, show (2200 : Int32) = nI 2200 from rfl, pk_mul, nI_add]
/-- the record of a row -/
theorem lp_161 (hσ : lr_S σ) {D : Nat} (hD : D ≤ 5) (u : lt_W) : ∃ u', (∀ K x2 x3, fb_X12_laysPlan_161 σ 233 K lt_fu (nI D) x2 x3 0 u = K (nI D) x2 x3 u') ∧ (∀ j, j < D → lt_gi u' 244 j = lt_gi u 242 j - 1) ∧ (∀ a k, a ≠ 244 → lt_gi u' a k = lt_gi u a k) ∧ ∀ a k, lt_gl u' a k = lt_gl u a k := by
  have key : ∀ r k f v, k + r = D → r < f → (∀ j, j < k → lt_gi v 244 j = lt_gi u 242 j - 1) → (∀ a k, a ≠ 244 → lt_gi v a k = lt_gi u a k) → (∀ a k, lt_gl v a k = lt_gl u a k) → ∃ u', (∀ K x2 x3, fb_X12_laysPlan_161 σ 233 K f (nI D) x2 x3 (nI k) v = K (nI D) x2 x3 u') ∧ (∀ j, j < D → lt_gi u' 244 j = lt_gi u 242 j - 1) ∧ (∀ a k, a ≠ 244 → lt_gi u' a k = lt_gi u a k) ∧ ∀ a k, lt_gl u' a k = lt_gl u a k := by
    intro r
    induction r with
    | zero =>
      intro k f v hk hf y1 y2 y3
      obtain ⟨f, rfl⟩ : ∃ g, f = g + 1 := ⟨f - 1, by omega⟩
      obtain rfl : k = D := by omega
      exact ⟨v, fun K x2 x3 => by rw [fb_X12_laysPlan_161, if_pos (nI_le (Nat.le_refl _) (by omega))], y1, y2, y3⟩
    | succ r ih =>
      intro k f v hk hf y1 y2 y3
      obtain ⟨f, rfl⟩ : ∃ g, f = g + 1 := ⟨f - 1, by omega⟩
      obtain ⟨u', z1, z2⟩ := ih (k + 1) f (lt_si v 244 k (lt_gi v 242 k - 1)) (by omega) (by omega) (fun j hj => by
        rw [lu_gisi]
        by_cases e : j = k
        · rw [if_pos ⟨rfl, e⟩, e, y2 242 k (by decide)]
        · rw [if_neg (fun z => e z.2)]; exact y1 j (by omega)) (fun a k' z => by rw [lu_ne (Or.inl z)]; exact y2 a k' z) y3
      refine ⟨u', fun K x2 x3 => ?_, z2⟩
      rw [fb_X12_laysPlan_161, if_neg (nI_ge (by omega) (by omega)), lq_r233_24 hσ, lq_l242 hσ, lu_ck (by omega) (by decide), lq_r233_26 hσ, lq_l244 hσ, lu_ck (by omega) (by decide), lu_let, nI_clamp (by omega), nI_1]
      exact z1 K x2 x3
  exact key D 0 lt_fu u (by omega) (by unfold lt_fu; omega) (fun j hj => by omega) (fun _ _ _ => rfl) (fun _ _ => rfl)
/-- behind the cut: the day, and what is looked at -/
theorem lp_123 (hσ : lr_S σ) {D d : Nat} {b : lp_B} {C : la_A} {u : lt_W} (hC : lm_T u 234 0 C) (hO : la_Ok C) (hd : d < 2 ^ 30) (hb : lp_ok b) (x3 : Int32) : ∃ u', (∀ K, fb_X12_laysPlan_123 σ 233 K (nI D) (lp_v b) x3 (nI d) u = (if (decide (la_st (la_eats C) = 0) && !lp_pr b d) = true then fb_X12_laysPlan_148 σ 233 K (nI D) (lp_v b) x3 (nI d) u' else K (nI D) (lp_v b) x3 u')) ∧ lm_T u' 234 0 (la_eats C) ∧ lm_D 234 u u' := by
  have h := lm_eats (lr_mS hσ) (lr_mT hσ hC) hO
  rw [lr_at hσ] at h
  obtain ⟨u', e1, e2, e3⟩ := h
  refine ⟨u', fun K => ?_, e2, e3⟩
  unfold fb_X12_laysPlan_123
  rw [e1, lu_bind, lm_areStarved (lr_mS hσ) (lr_mT hσ e2), lu_bind]
  show (if la_st (la_eats C) = 0 then _ else _) = _
  by_cases c : la_st (la_eats C) = 0
  · rw [if_pos c, decide_eq_true c, Bool.true_and]
    cases b with
    | none => rw [if_pos (show lp_v none = -1 from rfl)]; rfl
    | some q =>
      have := hb q rfl
      rw [if_neg (show ¬ lp_v (some q) = -1 from lu_ne1 (by omega))]
      by_cases c2 : q.1 ≤ d
      · rw [if_neg (show ¬ nI d < lp_v (some q) from nI_nlt c2 (by omega)), if_neg (by simp [lp_pr, c2])]
      · rw [if_pos (show nI d < lp_v (some q) from nI_lt (by omega) (by omega)), if_pos (by simp [lp_pr, c2])]
  · rw [if_neg c, decide_eq_false c, Bool.false_and, if_neg (by decide)]
/-- one try, up to where the machine goes on -/
theorem lp_try (hσ : lr_S σ) {D L d t : Nat} {A : la_A} {row : Nat → Int32} {b : lp_B} {u : lt_W} (hL : L < 5) (hO : la_Ok A) (hS : lp_S D L A d row t b u) (ht : t ≤ la_n A) (hd : d ≤ 100) (hb : lp_ok b) : ∃ u', (∀ g, fb_X12_laysPlan_26 σ 233 (g + 1) (nI D) (lp_v b) (nI L) u = (if (lp_can A (la_cd t) && decide (la_st (lp_C A (la_cd t)) = 0) && !lp_pr b (d + lp_d A (la_cd t))) = true then fb_X12_laysPlan_148 σ 233 (fun x1 x2 x3 w => fb_X12_laysPlan_26 σ 233 g x1 x2 x3 w) (nI D) (lp_v b) (nI L) (nI (d + lp_d A (la_cd t))) u' else fb_X12_laysPlan_26 σ 233 g (nI D) (lp_v b) (nI L) u')) ∧ (lp_can A (la_cd t) = true → lm_T u' 234 0 (lp_C A (la_cd t))) ∧ lp_S D L A d row (t + 1) b u' ∧ lp_Fm L u u' := by
  obtain ⟨p1, p2, p3, p4, p5⟩ := hS
  have h7 := p1.2.1
  obtain ⟨v, b1, b2, b3⟩ := m_brings hσ (b := 2200 + 60 * L) (by omega) (by omega) u
  have hAv : lm_T v 234 0 A := p1.congr fun k hk _ _ => by rw [Nat.zero_add]; exact b2 k hk
  have hz : nI t - 1 + 1 = nI t := Int32.sub_add_cancel _ _
  have v242 : lt_gi v 242 L = nI t - 1 := (b3.2 _ _ (by omega)).trans p2
  let v1 := lt_si v 242 L (nI t)
  have hA1 : lm_T v1 234 0 A := hAv.outA (by decide)
  have n1 : lt_gi v1 234 0 = nI (la_n A) := by
    have := lm_n (lr_mT hσ hA1)
    rw [lr_at hσ] at this; exact this
  have F1 : lp_Fm L u v1 := ⟨b3.1, fun a k z => by
    show lt_gi (lt_si v 242 L (nI t)) a k = _
    rw [lu_ne (by omega)]; exact b3.2 a k (by omega)⟩
  -- a level's state behind it
  have hSt : ∀ u', lp_Fm L v1 u' → lt_gi u' 242 L = nI t → lp_bm u' D b → lp_S D L A d row (t + 1) b u' := by
    intro u' hF e242 hbm
    have F := F1.trans hF
    exact ⟨p1.congr fun k hk _ _ => F.2 _ _ (by omega), by rw [e242, nI_pred], (F.2 _ _ (by omega)).trans p3, fun j hj => by rw [F.2 _ _ (by omega)]; exact p4 j hj, hbm⟩
  have bm1 : lp_bm v1 D b := fun q hq j hj => by
    show lt_gi (lt_si v 242 L (nI t)) 244 j = _
    rw [lu_ne (Or.inl (by decide)), b3.2 _ _ (by omega)]; exact p5 q hq j hj
  have open1 : ∀ g, fb_X12_laysPlan_26 σ 233 (g + 1) (nI D) (lp_v b) (nI L) u = if la_e (la_cd t) = -1 then fb_X12_laysPlan_123 σ 233 (fun x1 x2 x3 w => fb_X12_laysPlan_26 σ 233 g x1 x2 x3 w) (nI D) (lp_v b) (nI L) (nI d) v1 else Option.bind (f_X12_canCut σ 233 (la_e (la_cd t)) v1) (fun q12 => if q12 = 0 then fb_X12_laysPlan_26 σ 233 g (nI D) (lp_v b) (nI L) v1 else Option.bind (f_X12_cuts1 σ 233 (la_e (la_cd t)) v1) (fun q13 => if q13.1 = 1 then Option.bind (f_X12_guestOf σ 233 (la_e (la_cd t)) 2 q13.2) (fun q14 => fb_X12_laysPlan_123 σ 233 (fun x1 x2 x3 w => fb_X12_laysPlan_26 σ 233 g x1 x2 x3 w) (nI D) (lp_v b) (nI L) (nI d + q14) q13.2) else fb_X12_laysPlan_123 σ 233 (fun x1 x2 x3 w => fb_X12_laysPlan_26 σ 233 g x1 x2 x3 w) (nI D) (lp_v b) (nI L) (nI d) q13.2)) := by
    intro g
    have e243 : lt_gi (lt_si v 242 L (nI t)) 243 L = nI d := by rw [lu_ne (Or.inl (by decide)), b3.2 _ _ (by omega)]; exact p3
    have n1' : lt_gi (lt_si v 242 L (nI t)) 234 0 = nI (la_n A) := n1
    have hne : ¬ la_e (la_cd t) = nI (la_n A) := by
      cases t with
      | zero => exact lu_m1ne (by omega)
      | succ i => exact fun z => by have := (nI_eq (by omega) (by omega)).mp z; omega
    rw [fb_X12_laysPlan_26, if_neg (nI_pos (by omega)), lp_level, lu_bind, b1, lu_bind, lq_r233_24 hσ, lq_l242 hσ, lu_ck (by omega) (by decide), lu_ck (by omega) (by decide), lu_let, nI_clamp (by omega), v242, hz, lu_ck (by omega) (by decide), lu_eq, la_cdE, lu_let, lr_mS hσ, lm_k0, lm_c0, lr_at hσ, n1', if_neg hne, lq_r233_25 hσ, lq_l243 hσ, lu_ck (by omega) (by decide), e243, lu_let]
  -- from a cut table to the day's end
  have fin : ∀ (e : Nat) (C : la_A) v2, lm_T v2 234 0 C → la_Ok C → lm_D 234 v1 v2 → e ≤ 20 → ∃ u', (∀ K, fb_X12_laysPlan_123 σ 233 K (nI D) (lp_v b) (nI L) (nI (d + e)) v2 = (if (decide (la_st (la_eats C) = 0) && !lp_pr b (d + e)) = true then fb_X12_laysPlan_148 σ 233 K (nI D) (lp_v b) (nI L) (nI (d + e)) u' else K (nI D) (lp_v b) (nI L) u')) ∧ lm_T u' 234 0 (la_eats C) ∧ lp_S D L A d row (t + 1) b u' ∧ lp_Fm L u u' := by
    intro e C v2 hC hOC hD2 he
    obtain ⟨u', a1, a2, a3⟩ := lp_123 hσ (D := D) (d := d + e) (b := b) hC hOC (by omega) hb (nI L)
    have D3 := hD2.trans a3
    have F2 := lp_Fm.D (L := L) D3
    exact ⟨u', a1, a2, hSt u' F2 (by rw [D3.2 _ _ (by omega)]; exact lu_eq) (fun q hq j hj => by rw [D3.2 _ _ (by omega)]; exact bm1 q hq j hj), F1.trans F2⟩
  cases t with
  | zero =>
    obtain ⟨u', a1, a2, a3, a4⟩ := fin 0 A v1 hA1 hO (lm_D.refl _ _) (by decide)
    refine ⟨u', fun g => ?_, fun _ => a2, a3, a4⟩
    rw [open1, if_pos (show la_e (la_cd 0) = -1 from rfl)]
    exact a1 _
  | succ i =>
    have hi : i < la_n A := by omega
    have hne : ¬ la_e (la_cd (i + 1)) = -1 := lu_ne1 (show i < 2 ^ 31 by omega)
    have ecc := lm_canCut (lr_mS hσ) (lr_mT hσ hA1) hi
    by_cases hcan : la_here A i = true ∧ A.1 5 = 0
    · have hlp : lp_can A (la_cd (i + 1)) = true := by show lp_can A (some i) = true; simp [lp_can, hcan.1, hcan.2]
      have hm : la_may A (some i) := lp_may (c := some i) hlp (fun j e => by obtain rfl := Option.some.inj e; exact hi)
      obtain ⟨d20, dear⟩ := lp_d20 hO (c := some i) (fun j e => by obtain rfl := Option.some.inj e; exact hi)
      have hcut := lm_cuts (lr_mS hσ) (lr_mT hσ hA1) hi
      rw [lr_at hσ] at hcut
      obtain ⟨v2, c1, c2, c3⟩ := hcut
      obtain ⟨u', a1, a2, a3, a4⟩ := fin (lp_d A (some i)) (la_cut A i) v2 c2 (la_Ok_cut hO i hi) c3 d20
      refine ⟨u', fun g => ?_, fun _ => a2, a3, a4⟩
      rw [open1, if_neg hne]
      simp only [show la_e (la_cd (i + 1)) = nI i from rfl]
      rw [ecc, lu_bind, if_pos hcan, if_neg lu_10, c1, lu_bind, hlp, Bool.true_and]
      by_cases k1 : A.2 i 3 = 1
      · have e0 : lp_d A (some i) = 0 := by unfold lp_d; simp only []; rw [if_pos k1]
        rw [e0] at a1
        show (if (if A.2 i 3 = 1 then (0 : Int32) else 1) = 1 then _ else _) = _
        rw [if_pos k1, if_neg (by decide)]
        show fb_X12_laysPlan_123 σ 233 _ (nI D) (lp_v b) (nI L) (nI (d + 0)) v2 = _
        rw [a1, show lp_d A (la_cd (i + 1)) = 0 from e0]; rfl
      · have e0 : lp_d A (some i) = (A.2 i 2).toNatClampNeg := by unfold lp_d; simp only []; rw [if_neg k1]
        have hof := lm_of (x := 2) (f := 2) (lr_mS hσ) (lr_mT hσ c2) (g := i) (by rw [la_n_cut]; exact hi) rfl (by decide)
        rw [la_cut_2 (by decide) (by decide), dear i rfl, ← e0] at hof
        show (if (if A.2 i 3 = 1 then (0 : Int32) else 1) = 1 then Option.bind (f_X12_guestOf σ 233 (nI i) 2 v2) _ else _) = _
        rw [if_neg k1, if_pos rfl, hof, lu_bind, nI_add, a1]; rfl
    · have hlp : lp_can A (la_cd (i + 1)) = false := by
        show lp_can A (some i) = false
        cases e : lp_can A (some i) with
        | false => rfl
        | true => simp [lp_can] at e; exact absurd e hcan
      refine ⟨v1, fun g => ?_, fun z => (by rw [hlp] at z; cases z), hSt v1 (lp_Fm.refl _ _) lu_eq bm1, F1⟩
      rw [open1, if_neg hne]
      simp only [show la_e (la_cd (i + 1)) = nI i from rfl]
      rw [ecc, lu_bind, if_neg hcan, if_pos rfl, hlp, Bool.false_and, Bool.false_and, if_neg (by decide)]
set_option maxHeartbeats 4000000 in
theorem lp_lv (hσ : lr_S σ) {D L d m X : Nat} {A : la_A} {row : Nat → Int32} (hL : L < 5) (h7 : la_n A ≤ 7) (one : ∀ t b u, t ≤ la_n A → lp_ok b → lp_S D L A d row t b u → ∃ s u', s ≤ 1 + X ∧ (∀ f, fb_X12_laysPlan_26 σ 233 (f + s) (nI D) (lp_v b) (nI L) u = fb_X12_laysPlan_26 σ 233 f (nI D) (lp_v (lp_st m A d row L (la_cd t) b)) (nI L) u') ∧ lp_S D L A d row (t + 1) (lp_st m A d row L (la_cd t) b) u' ∧ lp_ok (lp_st m A d row L (la_cd t) b) ∧ lp_Fm L u u') (b : lp_B) (w : lt_W) (hb : lp_ok b) (hS : lp_S D L A d row 0 b w) : ∃ s w', s ≤ 9 + 8 * X ∧ (∀ f, fb_X12_laysPlan_26 σ 233 (f + s) (nI D) (lp_v b) (nI L) w = fb_X12_laysPlan_26 σ 233 f (nI D) (lp_v (lp_g (m + 1) A d row L b)) (nI L + (-1)) w') ∧ lp_bm w' D (lp_g (m + 1) A d row L b) ∧ lp_ok (lp_g (m + 1) A d row L b) ∧ lp_Fm L w w' := by
  have loop : ∀ r t u, t + r = la_n A + 1 → lp_ok (lp_fold (lp_st m A d row L) t b) → lp_S D L A d row t (lp_fold (lp_st m A d row L) t b) u → lp_Fm L w u → ∃ s w', s ≤ r * (1 + X) + 1 ∧ (∀ f, fb_X12_laysPlan_26 σ 233 (f + s) (nI D) (lp_v (lp_fold (lp_st m A d row L) t b)) (nI L) u = fb_X12_laysPlan_26 σ 233 f (nI D) (lp_v (lp_g (m + 1) A d row L b)) (nI L + (-1)) w') ∧ lp_bm w' D (lp_g (m + 1) A d row L b) ∧ lp_ok (lp_g (m + 1) A d row L b) ∧ lp_Fm L w w' := by
    intro r
    induction r with
    | zero =>
      intro t u ht hb hS hF
      obtain rfl : t = la_n A + 1 := by omega
      rw [lp_g_s]
      obtain ⟨p1, p2, p3, p4, p5⟩ := hS
      obtain ⟨v, b1, b2, b3⟩ := m_brings hσ (b := 2200 + 60 * L) (by omega) (by omega) u
      have hAv : lm_T v 234 0 A := p1.congr fun k hk _ _ => by rw [Nat.zero_add]; exact b2 k hk
      have hz : nI (la_n A + 1) - 1 + 1 = nI (la_n A + 1) := Int32.sub_add_cancel _ _
      have v242 : lt_gi v 242 L = nI (la_n A + 1) - 1 := (b3.2 _ _ (by omega)).trans p2
      have n1 : lt_gi (lt_si v 242 L (nI (la_n A + 1))) 234 0 = nI (la_n A) := by
        have := lm_n (lr_mT hσ (hAv.outA (a := 242) (k := L) (v := nI (la_n A + 1)) (by decide)))
        rw [lr_at hσ] at this; exact this
      refine ⟨1, lt_si v 242 L (nI (la_n A + 1)), by omega, fun f => ?_, fun q hq j hj => ?_, hb, hF.trans ⟨b3.1, fun a k z => by rw [lu_ne (by omega)]; exact b3.2 a k (by omega)⟩⟩
      · rw [fb_X12_laysPlan_26, if_neg (nI_pos (by omega)), lp_level, lu_bind, b1, lu_bind, lq_r233_24 hσ, lq_l242 hσ, lu_ck (by omega) (by decide), lu_ck (by omega) (by decide), lu_let, nI_clamp (by omega), v242, hz, lu_ck (by omega) (by decide), lu_eq, lu_let, lr_mS hσ, lm_k0, lm_c0, lr_at hσ, n1, nI_pred, if_pos rfl]
      · rw [lu_ne (Or.inl (by decide)), b3.2 _ _ (by omega)]; exact p5 q hq j hj
    | succ r ih =>
      intro t u ht hb hS hF
      obtain ⟨s1, u1, c1, c2, c3, c4, c5⟩ := one t _ u (by omega) hb hS
      obtain ⟨s2, w', d1, d2, d3, d4, d5⟩ := ih (t + 1) u1 (by omega) c4 c3 (hF.trans c5)
      refine ⟨s2 + s1, w', ?_, fun f => ?_, d3, d4, d5⟩
      · rw [Nat.succ_mul]; omega
      · rw [← Nat.add_assoc, c2]; exact d2 f
  obtain ⟨s, w', e1, e2⟩ := loop (la_n A + 1) 0 w (by omega) hb hS (lp_Fm.refl _ _)
  refine ⟨s, w', ?_, e2⟩
  have : (la_n A + 1) * (1 + X) ≤ 8 * (1 + X) := Nat.mul_le_mul_right _ (by omega)
  omega
theorem lp_dl {A : la_A} (hO : la_Ok A) {t : Nat} (ht : t ≤ la_n A) : lp_d A (la_cd t) ≤ 20 := (lp_d20 hO (c := la_cd t) (fun j e => by
  cases t with
  | zero => cases e
  | succ i => obtain rfl := Option.some.inj e; omega)).1
theorem lp_mayt {A : la_A} {t : Nat} (ht : t ≤ la_n A) (h : lp_can A (la_cd t) = true) : la_may A (la_cd t) := lp_may h (fun j e => by
  cases t with
  | zero => cases e
  | succ i => obtain rfl := Option.some.inj e; omega)
set_option maxHeartbeats 8000000 in
theorem lp_m (hσ : lr_S σ) {D : Nat} (hD : D ≤ 5) : ∀ m L (A : la_A) d row b w, L + m + 1 = D → d ≤ 20 * L → la_Ok A → lp_ok b → lp_S D L A d row 0 b w → ∃ s w', s ≤ lp_N (m + 1) ∧ (∀ f, fb_X12_laysPlan_26 σ 233 (f + s) (nI D) (lp_v b) (nI L) w = fb_X12_laysPlan_26 σ 233 f (nI D) (lp_v (lp_g (m + 1) A d row L b)) (nI L + (-1)) w') ∧ lp_bm w' D (lp_g (m + 1) A d row L b) ∧ lp_ok (lp_g (m + 1) A d row L b) ∧ lp_Fm L w w' := by
  intro m
  induction m with
  | zero =>
    intro L A d row b w hL hd hO hb hS
    refine lp_lv hσ (X := lp_N 0) (by omega) hS.1.2.1 (fun t b u ht hb hS => ?_) b w hb hS
    obtain ⟨u', a1, a2, a3, a4⟩ := lp_try hσ (by omega) hO hS ht (by omega) hb
    unfold lp_st
    by_cases c : (lp_can A (la_cd t) && decide (la_st (lp_C A (la_cd t)) = 0) && !lp_pr b (d + lp_d A (la_cd t))) = true
    · simp only [if_pos c] at a1 ⊢
      obtain ⟨u2, b1, b2, b3, b4⟩ := lp_161 hσ hD u'
      have dl := lp_dl hO ht
      obtain ⟨p1, p2, p3, p4, p5⟩ := a3
      refine ⟨1, u2, by omega, fun g => ?_, ⟨p1.congr fun k _ _ _ => b3 _ _ (by decide), (b3 _ _ (by decide)).trans p2, (b3 _ _ (by decide)).trans p3, fun j hj => by rw [b3 _ _ (by decide)]; exact p4 j hj, fun q hq j hj => ?_⟩, fun q hq => by obtain rfl := Option.some.inj hq; show d + lp_d A (la_cd t) < 2 ^ 30; omega, a4.trans ⟨b4, fun a k z => b3 a k (by omega)⟩⟩
      · rw [a1 g]
        unfold fb_X12_laysPlan_148
        rw [nI_1, if_pos (show nI (L + 1) = nI D by congr 1), b1]
        rfl
      · obtain rfl := Option.some.inj hq
        rw [b2 j hj]
        show _ = lp_up row L (la_e (la_cd t)) j
        unfold lp_up
        by_cases ej : j = L
        · rw [if_pos ej, ej, p2, nI_pred, ← la_cdE]
        · rw [if_neg ej]; exact p4 j (by omega)
    · simp only [if_neg c] at a1 ⊢
      exact ⟨1, u', by omega, a1, a3, hb, a4⟩
  | succ m ih =>
    intro L A d row b w hL hd hO hb hS
    refine lp_lv hσ (X := lp_N (m + 1)) (by omega) hS.1.2.1 (fun t b u ht hb hS => ?_) b w hb hS
    obtain ⟨u', a1, a2, a3, a4⟩ := lp_try hσ (by omega) hO hS ht (by omega) hb
    unfold lp_st
    by_cases c : (lp_can A (la_cd t) && decide (la_st (lp_C A (la_cd t)) = 0) && !lp_pr b (d + lp_d A (la_cd t))) = true
    · simp only [if_pos c] at a1 ⊢
      have hcan : lp_can A (la_cd t) = true := by
        rw [Bool.and_eq_true, Bool.and_eq_true] at c; exact c.1.1
      have dl := lp_dl hO ht
      obtain ⟨p1, p2, p3, p4, p5⟩ := a3
      -- the child's level
      let v := lt_si (lt_si u' 242 (L + 1) (-1)) 243 (L + 1) (nI (d + lp_d A (la_cd t)))
      obtain ⟨v', k1, k2, k3⟩ := m_keeps hσ (b := 2200 + 60 * (L + 1)) (by omega) (by omega) v
      have Fv : lp_Fm L u' v' := ⟨fun a k => (k3.1 a k), fun a k z => by
        rw [k3.2 a k (by omega)]
        show lt_gi (lt_si (lt_si u' 242 (L + 1) (-1)) 243 (L + 1) _) a k = _
        rw [lu_ne (by omega), lu_ne (by omega)]⟩
      have h242 : ∀ j, j ≤ L → lt_gi v' 242 j = lt_gi u' 242 j := fun j hj => by
        rw [k3.2 _ _ (by omega)]
        show lt_gi (lt_si (lt_si u' 242 (L + 1) (-1)) 243 (L + 1) _) 242 j = _
        rw [lu_ne (Or.inl (by decide)), lu_ne (Or.inr (by omega))]
      have bmv : lp_bm v' D b := fun q hq j hj => by
        rw [k3.2 _ _ (by omega)]
        show lt_gi (lt_si (lt_si u' 242 (L + 1) (-1)) 243 (L + 1) _) 244 j = _
        rw [lu_ne (Or.inl (by decide)), lu_ne (Or.inl (by decide))]; exact p5 q hq j hj
      have hSc : lp_S D (L + 1) (lp_C A (la_cd t)) (d + lp_d A (la_cd t)) (lp_up row L (la_e (la_cd t))) 0 b v' := by
        refine ⟨?_, ?_, ?_, fun j hj => ?_, bmv⟩
        · have h1 : lm_T v 234 0 (lp_C A (la_cd t)) := ((a2 hcan).outA (by decide)).outA (by decide)
          exact h1.congr fun k hk _ _ => by rw [Nat.zero_add]; exact k2 k hk
        · rw [k3.2 _ _ (by omega)]
          show lt_gi (lt_si (lt_si u' 242 (L + 1) (-1)) 243 (L + 1) _) 242 (L + 1) = _
          rw [lu_ne (Or.inl (by decide)), lu_eq]; rfl
        · rw [k3.2 _ _ (by omega)]; exact lu_eq
        · rw [h242 j (by omega)]
          unfold lp_up
          by_cases ej : j = L
          · rw [if_pos ej, ej, p2, nI_pred, ← la_cdE]
          · rw [if_neg ej]; exact p4 j (by omega)
      obtain ⟨s, w', e1, e2, e3, e4, e5⟩ := ih (L + 1) (lp_C A (la_cd t)) (d + lp_d A (la_cd t)) (lp_up row L (la_e (la_cd t))) b v' (by omega) (by omega) (lp_O hO (lp_mayt ht hcan)) hb hSc
      refine ⟨s + 1, w', by omega, fun f => ?_, ⟨p1.congr fun k hk _ _ => ?_, ?_, ?_, fun j hj => ?_, e3⟩, e4, a4.trans (Fv.trans e5.down)⟩
      · rw [← Nat.add_assoc, a1 (f + s)]
        unfold fb_X12_laysPlan_148
        have hne : ¬ nI (L + 1) = nI D := fun z => by have := (nI_eq (by omega) (by omega)).mp z; omega
        rw [nI_1, if_neg hne, lq_r233_24 hσ, lq_l242 hσ, lu_ck (by omega) (by decide), lu_let, lq_r233_25 hσ, lq_l243 hσ, lu_ck (by omega) (by decide), lu_let, nI_clamp (by omega), lp_level, lu_bind]
        show Option.bind (f_X12_keeps σ 233 (nI (2200 + 60 * (L + 1))) v) _ = _
        rw [k1, lu_bind]
        show fb_X12_laysPlan_26 σ 233 (f + s) (nI D) (lp_v b) (nI (L + 1)) v' = _
        rw [e2 f, pk_m1]
      · rw [e5.2 _ _ (by omega), Fv.2 _ _ (by omega)]
      · rw [e5.2 _ _ (by omega), h242 L (Nat.le_refl _)]; exact p2
      · rw [e5.2 _ _ (by omega), Fv.2 _ _ (by omega)]; exact p3
      · rw [e5.2 _ _ (by omega), h242 j (by omega)]; exact p4 j hj
    · simp only [if_neg c] at a1 ⊢
      exact ⟨1, u', by omega, a1, a3, hb, a4⟩
/-- the whole of it, both sides -/
theorem lp_mAll (hσ : lr_S σ) {D : Nat} (hD1 : 1 ≤ D) (hD : D ≤ 5) {A : la_A} {w : lt_W} (hA : lm_T w 234 0 A) (hO : la_Ok A) (row : Nat → Int32) : ∃ w', f_X12_laysPlan σ 233 (nI D) w = some (lp_v (lp_g D A 0 row 0 none), w') ∧ lp_bm w' D (lp_g D A 0 row 0 none) ∧ (∀ a k, lt_gl w' a k = lt_gl w a k) ∧ ∀ a k, ((a ≠ 234 ∧ a ≠ 242 ∧ a ≠ 243 ∧ a ≠ 244) ∨ (a = 234 ∧ k < 2200)) → lt_gi w' a k = lt_gi w a k := by
  let v := lt_si (lt_si w 242 0 (-1)) 243 0 0
  obtain ⟨v', k1, k2, k3⟩ := m_keeps hσ (b := 2200) (by decide) (by decide) v
  have hv : ∀ a k, a ≠ 242 → a ≠ 243 → lt_gi v a k = lt_gi w a k := fun a k z1 z2 => by
    show lt_gi (lt_si (lt_si w 242 0 (-1)) 243 0 0) a k = _
    rw [lu_ne (Or.inl z2), lu_ne (Or.inl z1)]
  have hS : lp_S D 0 A 0 row 0 none v' := by
    refine ⟨hA.congr fun k hk _ _ => ?_, ?_, ?_, fun j hj => by omega, fun q hq => by cases hq⟩
    · rw [Nat.mul_zero, Nat.add_zero, k2 k hk, hv _ _ (by decide) (by decide), Nat.zero_add]
    · rw [k3.2 _ _ (by omega)]
      show lt_gi (lt_si (lt_si w 242 0 (-1)) 243 0 0) 242 0 = _
      rw [lu_ne (Or.inl (by decide)), lu_eq]; rfl
    · rw [k3.2 _ _ (by omega)]; exact lu_eq
  obtain ⟨m, rfl⟩ : ∃ m, D = m + 1 := ⟨D - 1, by omega⟩
  obtain ⟨s, w1, e1, e2, e3, e4, e5⟩ := lp_m hσ hD m 0 A 0 row none v' (by omega) (by decide) hO (fun q hq => by cases hq) hS
  obtain ⟨w2, b1, b2, b3⟩ := m_brings hσ (b := 2200) (by decide) (by decide) w1
  have hs : s ≤ 100000 := by
    have : lp_N (m + 1) ≤ lp_N 5 := by
      have hm : m = 0 ∨ m = 1 ∨ m = 2 ∨ m = 3 ∨ m = 4 := by omega
      rcases hm with rfl | rfl | rfl | rfl | rfl <;> decide
    have h5 : lp_N 5 = 42129 := by decide
    omega
  have run : fb_X12_laysPlan_26 σ 233 lt_fu (nI (m + 1)) (-1) 0 v' = some (lp_v (lp_g (m + 1) A 0 row 0 none), w2) := by
    have h := e2 (lt_fu - s)
    rw [show lt_fu - s + s = lt_fu from by unfold lt_fu; omega] at h
    have h' : fb_X12_laysPlan_26 σ 233 lt_fu (nI (m + 1)) (-1) 0 v' = _ := h
    rw [h', show lt_fu - s = lt_fu - s - 1 + 1 from by unfold lt_fu; omega, fb_X12_laysPlan_26, if_pos (show nI 0 + (-1) < (0 : Int32) by decide)]
    have hl : f_X12_levelAt 0 = some (nI 2200) := lp_level 0
    rw [hl, lu_bind, b1, lu_bind]
  refine ⟨w2, ?_, fun q hq j hj => ?_, fun a k => ?_, fun a k z => ?_⟩
  · unfold f_X12_laysPlan fb_X12_laysPlan_0
    have hl : f_X12_levelAt 0 = some (nI 2200) := lp_level 0
    rw [lq_r233_24 hσ, lq_l242 hσ, lq_r233_25 hσ, lq_l243 hσ, show lt_ck 0 6 = (fun (x : Option (Int32 × lt_W)) => x) from funext fun x => lu_ck (i := 0) (by decide) (by decide), lu_let, lu_let, hl, lu_bind]
    show Option.bind (f_X12_keeps σ 233 (nI 2200) v) _ = _
    rw [k1, lu_bind]; exact run
  · rw [b3.2 _ _ (by omega)]; exact e3 q hq j hj
  · rw [b3.1, e5.1, k3.1]; rfl
  · by_cases c : a = 234 ∧ k < 60
    · rw [c.1, b2 k c.2, e5.2 _ _ (by omega), k2 k c.2]; exact hv _ _ (by decide) (by decide)
    · rw [b3.2 a k (by omega), e5.2 a k (by omega), k3.2 a k (by omega)]; exact hv _ _ (by omega) (by omega)
theorem lp_cAll (hσ : lr_S σ) {D : Nat} (hD1 : 1 ≤ D) (hD : D ≤ 5) {A : la_A} {w : lt_W} (hA : lc_T w 12 A) (hO : la_Ok A) (row : Nat → Int32) : ∃ w', f_X3_leastDear σ 59 (nI D) w = some (lp_v (lp_g D A 0 row 0 none), w') ∧ lp_bc w' D (lp_g D A 0 row 0 none) ∧ lp_ok (lp_g D A 0 row 0 none) ∧ lu_Fg 59 117 w w' := by
  obtain ⟨r0, s0⟩ := lq_60 hσ (k := 0) (by decide)
  obtain ⟨w1, a1, a2, a3⟩ := lc_copyT (w := lt_si w 59 4 (-1)) (A := A) s0 (lr_nowS hσ) (by omega) (hA.out (by omega))
  have h12 : lt_gi w1 12 0 = nI (la_n A) := by rw [(a3 12 0 (by omega)).1, lu_ne (Or.inl (by decide))]; exact lc_n hA
  obtain ⟨w', b1, b2, b3, b4⟩ := lp_c hσ hD D 0 8 A 0 row none w1 (by omega) (by omega) (by decide) a2 hO rfl h12 (fun j hj => by omega) (fun q hq => by cases hq) ⟨by rw [(a3 59 4 (by omega)).1, lu_eq]; rfl, fun q hq => by cases hq⟩
  refine ⟨w', ?_, b2, b3, fun a k z => ?_⟩
  · unfold f_X3_leastDear fb_X3_leastDear_0
    have r0' : lt_r σ 60 0 = 63 + 9 * 0 := r0
    have hmin : lt_min (nI D) 5 = nI D := by
      rw [show (5 : Int32) = nI 5 from rfl, lu_min (by omega) (by decide), Nat.min_eq_left hD]
    have b1' : f_X3_search σ 59 8 0 (nI D) 0 w1 = some w' := b1
    rw [lu_let, lq_r59_1 hσ, lq_l60 hσ, show lt_ck 0 6 = (fun (x : Option (Int32 × lt_W)) => x) from funext fun x => lu_ck (i := 0) (by decide) (by decide), lm_c0, r0', lq_r59_0 hσ, a1, lu_bind, hmin, b1', lu_bind, b2.1]
    rfl
  · exact ⟨by rw [(b4.1 a k (by omega)).1, (a3 a k (by omega)).1, lu_ne (Or.inl (by omega))], by rw [(b4.1 a k (by omega)).2, (a3 a k (by omega)).2]; rfl⟩
theorem lp_Q (hσ : lr_S σ) {w w' : lt_W} (h1 : ∀ a k, lt_gl w' a k = lt_gl w a k) (h2 : ∀ a k, ((a ≠ 234 ∧ a ≠ 242 ∧ a ≠ 243 ∧ a ≠ 244) ∨ (a = 234 ∧ k < 2200)) → lt_gi w' a k = lt_gi w a k) : lr_Q w w' :=
  ⟨⟨fun a k z => h2 a k (by unfold lr_px at z; omega), fun a k _ => h1 a k⟩, fun a k z => h2 a k (by unfold lr_pt at z; omega)⟩
theorem op_plan (hσ : lr_S σ) {w : lt_W} {A : la_A} (h : lr_0 w A) (x : Int32) : lr_ok (f_X11_plan σ 0 x) (f_X12_plan σ 233 x) w := by
  by_cases c : lq_b x 1 5
  · obtain ⟨D, hD1, hD, rfl⟩ := c.R (by decide) (by decide)
    refine lr_ok.q h (r := lp_v (lp_g D A 0 (fun _ => 0) 0 none)) (st := if lp_v (lp_g D A 0 (fun _ => 0) 0 none) = -1 then 6 else 0) ?_ (fun w1 h1 => ?_)
    · obtain ⟨w', a1, a2, a3, a4⟩ := lp_cAll hσ hD1 hD h.c h.O (fun _ => 0)
      refine lr_cq.gia (σ := σ) (w' := w') ?_ (lr_Q.ofFg a4 (by decide) (by decide))
      unfold f_X11_plan fb_X11_plan_0
      rw [lq_within_y (lo := 1) (hi := 5) 1 5 rfl rfl c, lu_bind, if_neg lu_10, lq_r0_10 hσ, a1, lu_bind]
    · obtain ⟨w', a1, a2, a3, a4⟩ := lp_mAll hσ hD1 hD (lr_mT' hσ (h1.m hσ)) h1.O (fun _ => 0)
      refine lr_mq.orN (σ := σ) (w' := w') ?_ (lp_Q hσ a3 a4) (a4 _ _ (by omega))
      unfold f_X12_plan fb_X12_plan_0
      rw [lq_from_y (lo := 1) (hi := 5) 1 5 rfl rfl (by decide) (by decide) c, lu_bind, if_neg lu_10, a1, lu_bind]
  · refine op_refuse h (r := -1) (st := 1) ?_ (fun w1 h1 => ?_)
    · unfold f_X11_plan fb_X11_plan_0
      rw [lq_within_n (lo := 1) (hi := 5) 1 5 rfl rfl c, lu_bind, if_pos rfl]; rfl
    · unfold f_X12_plan fb_X12_plan_0
      rw [lq_from_n (lo := 1) (hi := 5) 1 5 rfl rfl (by decide) (by decide) c, lu_bind, if_pos rfl]; rfl
theorem op_planAt (hσ : lr_S σ) {w : lt_W} {A : la_A} (h : lr_0 w A) (x y : Int32) : lr_ok (f_X11_planAt σ 0 x y) (f_X12_planAt σ 233 x y) w := by
  have hS := lr_mS hσ
  by_cases c : lq_b x 1 5
  · obtain ⟨D, hD1, hD, rfl⟩ := c.R (by decide) (by decide)
    have eD : nI D - 1 = nI (D - 1) := by rw [show D = D - 1 + 1 from by omega, nI_pred]; rfl
    by_cases c2 : lq_b y 0 (D - 1)
    · obtain ⟨k, -, hk, rfl⟩ := c2.R (by decide) (by omega)
      have kD : k < D := by omega
      obtain ⟨w', a1, a2, a3, a4⟩ := lp_cAll hσ hD1 hD h.c h.O (fun _ => 0)
      have toC : f_X11_planAt σ 0 (nI D) (nI k) w = if lp_v (lp_g D A 0 (fun _ => 0) 0 none) = -1 then some (-1, lt_si w' 0 0 6) else if lt_gi w' 62 k = -1 then some (nI (la_n A), lt_si w' 0 0 0) else some (lt_gi w' 62 k, lt_si w' 0 0 0) := by
        have n12 : lt_gi w' 12 0 = nI (la_n A) := by rw [(a4 12 0 (by omega)).1]; exact lc_n h.c
        unfold f_X11_planAt fb_X11_planAt_0 fb_X11_planAt_72
        rw [lq_within_y (lo := 1) (hi := 5) 1 5 rfl rfl c, lu_bind, if_neg lu_10, eD, lq_within_y (lo := 0) (hi := nI (D - 1)) 0 (D - 1) rfl rfl c2, lu_bind, if_neg lu_10, lq_r0_10 hσ, a1, lu_bind, lq_r59_3 hσ, lq_l62 hσ, lu_ck (by omega) (by decide), lu_let, nI_clamp (by omega), lr_now hσ, n12]
        rfl
      have toM : ∀ w1 w2, f_X12_laysPlan σ 233 (nI D) w1 = some (lp_v (lp_g D A 0 (fun _ => 0) 0 none), w2) → lt_gi w2 234 0 = nI (la_n A) → f_X12_planAt σ 233 (nI D) (nI k) w1 = if lp_v (lp_g D A 0 (fun _ => 0) 0 none) = -1 then some (-1, lt_si w2 233 2 6) else if lt_gi w2 244 k = -1 then some (nI (la_n A), lt_si w2 233 2 0) else some (lt_gi w2 244 k, lt_si w2 233 2 0) := by
        intro w1 w2 e n0
        unfold f_X12_planAt fb_X12_planAt_0 fb_X12_planAt_69
        rw [lq_from_y (lo := 1) (hi := 5) 1 5 rfl rfl (by decide) (by decide) c, lu_bind, if_neg lu_10, if_neg (nI_pos (by omega)), if_pos (nI_lt kD (by omega)), e, lu_bind, lq_r233_26 hσ, lq_l244 hσ, lu_ck (by omega) (by decide), lu_ck (by omega) (by decide), nI_clamp (by omega), hS, lm_k0, lm_c0, lr_at hσ, n0]
        rfl
      have refm : ∀ w1, lr_0 w1 A → ∃ w2, f_X12_laysPlan σ 233 (nI D) w1 = some (lp_v (lp_g D A 0 (fun _ => 0) 0 none), w2) ∧ lp_bm w2 D (lp_g D A 0 (fun _ => 0) 0 none) ∧ lt_gi w2 234 0 = nI (la_n A) ∧ lr_Q w1 w2 ∧ lt_gi w2 0 0 = lt_gi w1 0 0 := by
        intro w1 h1
        obtain ⟨w2, b1, b2, b3, b4⟩ := lp_mAll hσ hD1 hD (lr_mT' hσ (h1.m hσ)) h1.O (fun _ => 0)
        refine ⟨w2, b1, b2, ?_, lp_Q hσ b3 b4, b4 _ _ (by omega)⟩
        rw [b4 _ _ (by omega)]
        have := lm_n (h1.m hσ)
        rw [lr_at hσ] at this; exact this
      cases e : lp_g D A 0 (fun _ => 0) 0 none with
      | none =>
        refine lr_ok.q h (r := -1) (st := 6) (lr_cq.of (w' := w') ?_ (lr_Q.ofFg a4 (by decide) (by decide))) (fun w1 h1 => ?_)
        · rw [toC, e, if_pos (show lp_v none = -1 from rfl)]
        · obtain ⟨w2, b1, b2, b3, b4, b5⟩ := refm w1 h1
          refine lr_mq.of (w' := w2) ?_ b4 b5
          rw [toM w1 w2 b1 b3, e, if_pos (show lp_v none = -1 from rfl)]
      | some q =>
        rw [e] at a2 a3
        have hq := a3 q rfl
        have hne : ¬ lp_v (some q) = -1 := lu_ne1 (by omega)
        have ec := a2.2 q rfl k kD
        refine lr_ok.q h (r := if q.2 k = -1 then nI (la_n A) else q.2 k) (st := 0) (lr_cq.of (w' := w') ?_ (lr_Q.ofFg a4 (by decide) (by decide))) (fun w1 h1 => ?_)
        · rw [toC, e, if_neg hne, ec]
          by_cases z : q.2 k = -1
          · rw [if_pos z, if_pos z]
          · rw [if_neg z, if_neg z]
        · obtain ⟨w2, b1, b2, b3, b4, b5⟩ := refm w1 h1
          refine lr_mq.of (w' := w2) ?_ b4 b5
          rw [toM w1 w2 b1 b3, e, if_neg hne, b2 q e k kD]
          by_cases z : q.2 k = -1
          · rw [if_pos z, if_pos z]
          · rw [if_neg z, if_neg z]
    · refine op_refuse h (r := -1) (st := 1) ?_ (fun w1 h1 => ?_)
      · unfold f_X11_planAt fb_X11_planAt_0 fb_X11_planAt_20
        rw [lq_within_y (lo := 1) (hi := 5) 1 5 rfl rfl c, lu_bind, if_neg lu_10, eD, lq_within_n (lo := 0) (hi := nI (D - 1)) 0 (D - 1) rfl rfl c2, lu_bind, if_pos rfl]; rfl
      · unfold f_X12_planAt fb_X12_planAt_0 fb_X12_planAt_21
        rw [lq_from_y (lo := 1) (hi := 5) 1 5 rfl rfl (by decide) (by decide) c, lu_bind, if_neg lu_10]
        by_cases c0 : y < 0
        · rw [if_pos c0]; rfl
        · rw [if_neg c0, if_neg]
          · rfl
          · intro z
            refine c2 ⟨Int32.not_lt.mp c0, ?_⟩
            obtain ⟨j, hj, rfl⟩ := nI_of c0
            have := (nI_ltI hj (by omega)).mp z
            exact nI_le (by omega) (by omega)
  · refine op_refuse h (r := -1) (st := 1) ?_ (fun w1 h1 => ?_)
    · unfold f_X11_planAt fb_X11_planAt_0 fb_X11_planAt_20
      rw [lq_within_n (lo := 1) (hi := 5) 1 5 rfl rfl c, lu_bind, if_pos rfl]; rfl
    · unfold f_X12_planAt fb_X12_planAt_0 fb_X12_planAt_21
      rw [lq_from_n (lo := 1) (hi := 5) 1 5 rfl rfl (by decide) (by decide) c, lu_bind, if_pos rfl]; rfl
end PM