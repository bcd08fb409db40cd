/-! THE WEEKS LIVED: the walk over a block -/
section LK
variable {σ : lt_S}
/-- the rest of a block, j times more -/
def lz_Y (σ : lt_S) (I : Nat → Nat → Int32) (N n : Nat) (A0 : la_A) (k c d j : Nat) : Prop := ∀ (A : la_A) (dr s : Nat) (m : Int32), la_Ok A → la_n A = n → dr < 65536 → s ≤ 300 → ∃ (A' : la_A) (dr' s' : Nat) (m' : Int32) (ov : Bool) (lf : Int32), la_Ok A' ∧ la_n A' = n ∧ dr' < 65536 ∧ s ≤ s' ∧ s' ≤ 300 ∧ ((ov = false → lf = 0) ∧ (lf = 0 ∨ lf = 1)) ∧
  (∀ dd x3 w, d + 1 ≤ dd → x3 + d + 1 ≤ 3 → lz_CS I N A dr s m 0 0 w → ∃ w', lz_CS I N A' dr' s' m' (if ov = true then 1 else 0) lf w' ∧ lz_Fc w w' ∧ ∀ f k6 x2 y5 T, j < f → j ≤ T → T < 100 → fb_X2_goThrough_122 σ 169 (fun x1 x2 x3 w => f_X2_goThrough σ 169 dd x1 x2 x3 w) k6 f x2 (nI x3) (nI (lw_phi I k)) y5 (nI T) (nI (lw_phi I c)) (nI (T - j)) w = k6 x2 (nI x3) (nI (lw_phi I c)) (y5 + 1) w') ∧
  (∀ w g, lt_fu + j ≤ g + 100 * d + 98 → lz_MS I N A0 A dr s m 0 w → (lw_op I k = 17 → lt_gi w 252 k = nI j) → (lw_op I k ≠ 17 → j = 0) → ∃ g' w', lz_MS I N A0 A' dr' s' m' lf w' ∧ lz_Fl w w' ∧ (∀ j, j < k → lt_gi w' 252 j = lt_gi w 252 j) ∧ (ov = false → lt_fu ≤ g' + 100 * (d + 1)) ∧ (ov = false → ∀ f, lz_P σ (f + (s' - s)) g c w = lz_P σ f g' (c + 1) w') ∧ (ov = true → ∀ f, lz_P σ (f + (s' - s) + 1) g c w = some w'))
theorem lz_MS.lp {I : Nat → Nat → Int32} {N : Nat} {A0 A : la_A} {d s k : Nat} {m lf v : Int32} {w : lt_W} (h : lz_MS I N A0 A d s m lf w) (hv : lu_R v 0 98) : lz_MS I N A0 A d s m lf (lt_si w 252 k v) := by
  obtain ⟨a1, a2, a3, a4, a5, a6, a7⟩ := h
  refine ⟨⟨a1.1.outA (by decide), (lu_ne (by omega)).trans a1.2.1, (lu_ne (by omega)).trans a1.2.2.1, (lu_ne (by omega)).trans a1.2.2.2.1, (lu_ne (by omega)).trans a1.2.2.2.2⟩, (lu_ne (by omega)).trans a2, (lu_ne (by omega)).trans a3, (lu_ne (by omega)).trans a4, fun j hj => ?_, (lu_ne (by omega)).trans a6, fun j hj i hi => (lu_ne (by omega)).trans (a7 j hj i hi)⟩
  rw [lu_gisi]
  by_cases c : j = k
  · rw [if_pos ⟨rfl, c⟩]; exact hv
  · rw [if_neg (fun z => c z.2)]; exact a5 j hj
theorem lz_Fl.lp {w w' : lt_W} {k : Nat} {v : Int32} (h : lz_Fl w w') : lz_Fl w (lt_si w' 252 k v) := ⟨h.1, fun a j z z2 z3 z4 => by rw [lu_ne (by omega)]; exact h.2 a j z z2 z3 z4⟩
/-- the class, once through the inside -/
theorem lz_in (hσ : lr_S σ) {I : Nat → Nat → Int32} {N k c d : Nat} {A A' : la_A} {dr s dr' s' : Nat} {m m' lf : Int32} {ov : Bool} (p1 : lw_phi I (k + 1) = lw_phi I k + 1) (p2 : lw_phi I (k + 1) ≤ lw_phi I c) (p3 : lw_phi I c ≤ 30)
  (hC : ∀ dd x3 c' e w, d ≤ dd → x3 + d ≤ 3 → c' + (lw_phi I c - lw_phi I (k + 1)) ≤ 30 → lw_phi I c ≤ e → e ≤ 30 → lz_CS I N A dr s m 0 0 w → ∃ r w', r ≤ lw_phi I c - lw_phi I (k + 1) ∧ lz_CS I N A' dr' s' m' (if ov = true then 1 else 0) lf w' ∧ lz_Fc w w' ∧ (ov = false → ∀ f, lz_G σ dd (f + r) e x3 (lw_phi I (k + 1)) c' w = lz_G σ dd f e x3 (lw_phi I c) (c' + r) w') ∧ (ov = true → ∀ f, lz_G σ dd (f + r + 1) e x3 (lw_phi I (k + 1)) c' w = some w'))
  (dd x3 : Nat) (w : lt_W) (hdd : d + 1 ≤ dd) (hx : x3 + d + 1 ≤ 3) (hS : lz_CS I N A dr s m 0 0 w) : ∃ w', lz_CS I N A' dr' s' m' (if ov = true then 1 else 0) lf w' ∧ lz_Fc w w' ∧ ∀ f k6 x2 y5 T j, j + 1 ≤ T → T < 100 → fb_X2_goThrough_122 σ 169 (fun x1 x2 x3 w => f_X2_goThrough σ 169 dd x1 x2 x3 w) k6 (f + 1) x2 (nI x3) (nI (lw_phi I k)) y5 (nI T) (nI (lw_phi I c)) (nI (T - (j + 1))) w = fb_X2_goThrough_122 σ 169 (fun x1 x2 x3 w => f_X2_goThrough σ 169 dd x1 x2 x3 w) k6 f x2 (nI x3) (nI (lw_phi I k)) y5 (nI T) (nI (lw_phi I c)) (nI (T - j)) w' := by
  obtain ⟨dd, rfl⟩ : ∃ g, dd = g + 1 := ⟨dd - 1, by omega⟩
  obtain ⟨r, w', z1, z2, z3, z4, z5⟩ := hC dd (x3 + 1) 0 (lw_phi I c) w (by omega) (by omega) (by omega) (Nat.le_refl _) p3 hS
  refine ⟨w', z2, z3, fun f k6 x2 y5 T j hj hT => ?_⟩
  have run : f_X2_goThrough σ 169 (dd + 1) (nI (lw_phi I k) + 1) (nI (lw_phi I c)) (nI x3 + 1) w = some w' := by
    rw [f_X2_goThrough]
    unfold fb_X2_goThrough_0
    rw [nI_1, nI_1, ← p1]
    show lz_G σ dd lt_fu (lw_phi I c) (x3 + 1) (lw_phi I (k + 1)) 0 w = some w'
    cases ov with
    | true =>
      have := z5 rfl (lt_fu - r - 1)
      rw [show lt_fu - r - 1 + r + 1 = lt_fu by unfold lt_fu; omega] at this
      exact this
    | false =>
      have := z4 rfl (lt_fu - r)
      rw [show lt_fu - r + r = lt_fu by unfold lt_fu; omega] at this
      rw [this, show lt_fu - r = lt_fu - r - 1 + 1 by unfold lt_fu; omega]
      unfold lz_G
      rw [fb_X2_goThrough_6]
      split
      · rfl
      · rw [if_pos (nI_le (Nat.le_refl _) (by omega))]
  rw [fb_X2_goThrough_122, if_neg (nI_ge (by omega) (by omega)), if_pos hS.2.1, if_neg (show ¬ (3 : Int32) ≤ nI x3 from nI_ge (b := 3) (by omega) (by decide))]
  show Option.bind (f_X2_goThrough σ 169 (dd + 1) (nI (lw_phi I k) + 1) (nI (lw_phi I c)) (nI x3 + 1) w) _ = _
  rw [run, lu_bind, nI_1, show T - (j + 1) + 1 = T - j by omega]
theorem lz_122o {dd f : Nat} {k6 : Int32 → Int32 → Int32 → Int32 → lt_W → Option lt_W} {x2 x3 x4 x5 x6 x7 x8 : Int32} {w : lt_W} (h4 : lt_gi w 169 4 = 1) : fb_X2_goThrough_122 σ 169 (fun x1 x2 x3 w => f_X2_goThrough σ 169 dd x1 x2 x3 w) k6 (f + 1) x2 x3 x4 x5 x6 x7 x8 w = k6 x2 x3 x7 (x5 + 1) w := by
  rw [fb_X2_goThrough_122]
  split
  · rfl
  · rw [if_neg (show ¬ lt_gi w 169 4 = 0 by rw [h4]; decide)]
set_option maxHeartbeats 4000000 in
theorem lz_Yall (hσ : lr_S σ) {I : Nat → Nat → Int32} {N n k c d : Nat} {A0 : la_A} (hok : ∀ k, k < N → lw_ok I n k) (hN6 : N ≤ 60) (hphi : lw_phi I N ≤ 30) (hd2 : d ≤ 2) (hX : lz_X σ I N n A0 (k + 1) c d) (hb : lz_bk I k) (hc : c < N) (ec : lw_op I c = 18) (lk : lw_lk I k = c) (lc : lw_lk I c = k) : ∀ j, j ≤ 98 → lz_Y σ I N n A0 k c d j := by
  obtain ⟨q1, hX⟩ := hX
  have hq18 : lw_op I k ≠ 18 := by unfold lz_bk at hb; omega
  have p1 := lw_phi_s hq18
  have p2 := lw_phi_le (I := I) q1
  have p3 : lw_phi I c ≤ 30 := Nat.le_trans (lw_phi_le (by omega)) hphi
  have hkk := hok k (by omega)
  have hcc := hok c hc
  have hq9 := lz_opI hkk
  have ec0 : I c 0 = nI 18 := by rw [hcc.1, ec]
  have ec4 : I c 4 = nI k := by
    obtain ⟨-, hcc⟩ := hcc
    rcases hcc with h | ⟨h | h, -⟩ | h | h | h | h | h | ⟨-, h⟩ | ⟨⟨h | h | h, -⟩ | h, -⟩
    any_goals (exfalso; omega)
    rw [h, lc]
  intro j
  induction j with
  | zero =>
    intro _ A dr s m hO hn hd hs
    refine ⟨A, dr, s, m, false, 0, hO, hn, hd, Nat.le_refl _, hs, ⟨fun _ => rfl, Or.inl rfl⟩, fun dd x3 w y1 y2 hS => ⟨w, hS, lz_Fc.refl _, fun f k6 x2 y5 T hf _ hT => ?_⟩, fun w g hg hS h17 _ => ?_⟩
    · obtain ⟨f, rfl⟩ : ∃ g, f = g + 1 := ⟨f - 1, by omega⟩
      rw [fb_X2_goThrough_122, Nat.sub_zero, if_pos (nI_le (Nat.le_refl _) (by omega))]
    · obtain ⟨g, rfl⟩ : ∃ j, g = j + 1 := ⟨g - 1, by unfold lt_fu at hg; omega⟩
      refine ⟨g, lt_si w 252 k (lt_gi w 252 k - 0), hS.lp (by rw [Int32.sub_zero]; exact hS.2.2.2.2.1 k (by omega)), (lz_Fl.refl w).lp, fun j hj => lu_ne (by omega), fun _ => by omega, fun _ f => ?_, (fun z => by cases z)⟩
      rw [Nat.sub_self, lz_Pe hσ hS.2.2.2.2.2.1 hN6 hc (by omega) hS.2.2.2.2.2.2 ec0 ec4 hkk.1 hq9, if_neg]
      · rfl
      · rintro ⟨z1, z2⟩
        rw [h17 z1] at z2
        exact z2 (by decide)
  | succ j ih =>
    intro hj A dr s m hO hn hd hs
    obtain ⟨A1, dr1, s1, m1, ov1, lf1, o1, o2, o3, o4, o5, o6, hC, hM⟩ := hX (by omega) A dr s m hO hn hd hs
    have cin := lz_in hσ p1 p2 p3 hC
    -- the reference, into the inside once more
    have min : ∀ w g, lt_fu + (j + 1) ≤ g + 100 * d + 98 → lz_MS I N A0 A dr s m 0 w → (lw_op I k = 17 → lt_gi w 252 k = nI (j + 1)) → (lw_op I k ≠ 17 → j + 1 = 0) → lz_MS I N A0 A dr s m 0 (lt_si w 252 k (nI j)) ∧ (∀ f, lz_P σ f g c w = lz_P σ f (g - 1) (k + 1) (lt_si w 252 k (nI j))) ∧ 1 ≤ g - 1 ∧ lw_op I k = 17 := by
      intro w g hg hS h17 hn17
      have q17 : lw_op I k = 17 := by
        by_cases z : lw_op I k = 17
        · exact z
        · exact absurd (hn17 z) (by omega)
      have h252 := h17 q17
      refine ⟨hS.lp ⟨j, by omega, by omega, rfl⟩, fun f => ?_, by unfold lt_fu at hg; omega, q17⟩
      obtain ⟨g, rfl⟩ : ∃ j, g = j + 1 := ⟨g - 1, by unfold lt_fu at hg; omega⟩
      rw [lz_Pe hσ hS.2.2.2.2.2.1 hN6 hc (by omega) hS.2.2.2.2.2.2 ec0 ec4 hkk.1 hq9, if_pos, h252, nI_pred]
      · rfl
      · exact ⟨q17, by rw [h252]; exact nI_nle (by omega) (by omega)⟩
    cases ov1 with
    | true =>
      refine ⟨A1, dr1, s1, m1, true, lf1, o1, o2, o3, o4, o5, ⟨(fun z => by cases z), o6.2⟩, fun dd x3 w y1 y2 hS => ?_, fun w g hg hS h17 hn17 => ?_⟩
      · obtain ⟨w', z1, z2, z3⟩ := cin dd x3 w y1 y2 hS
        refine ⟨w', z1, z2, fun f k6 x2 y5 T hf hjT hT => ?_⟩
        obtain ⟨f, rfl⟩ : ∃ g, f = g + 1 + 1 := ⟨f - 2, by omega⟩
        rw [z3 (f + 1) k6 x2 y5 T j hjT hT, lz_122o z1.2.1]
      · obtain ⟨v1, v2, v3, v4⟩ := min w g hg hS h17 hn17
        obtain ⟨g', w', z1, z2, z3, z4, z5, z6, z7⟩ := hM _ (g - 1) v3 v1
        exact ⟨g', w', z1, ((lz_Fl.refl w).lp).trans z2, fun i hi => (z3 i (by omega)).trans (lu_ne (by omega)), (fun z => by cases z), (fun z => by cases z), fun _ f => by rw [v2]; exact z7 rfl f⟩
    | false =>
      obtain rfl := o6.1 rfl
      obtain ⟨A2, dr2, s2, m2, ov2, lf2, x1, x2, x3, x4, x5, x6, hC', hM'⟩ := ih (by omega) A1 dr1 s1 m1 o1 o2 o3 o5
      refine ⟨A2, dr2, s2, m2, ov2, lf2, x1, x2, x3, by omega, x5, x6, fun dd x3 w y1 y2 hS => ?_, fun w g hg hS h17 hn17 => ?_⟩
      · obtain ⟨w1, z1, z2, z3⟩ := cin dd x3 w y1 y2 hS
        obtain ⟨w2, t1, t2, t3⟩ := hC' dd x3 w1 y1 y2 z1
        refine ⟨w2, t1, z2.trans t2, fun f k6 x2 y5 T hf hjT hT => ?_⟩
        obtain ⟨f, rfl⟩ : ∃ g, f = g + 1 := ⟨f - 1, by omega⟩
        rw [z3 f k6 x2 y5 T j hjT hT, t3 f k6 x2 y5 T (by omega) (by omega) hT]
      · obtain ⟨v1, v2, v3, v4⟩ := min w g hg hS h17 hn17
        obtain ⟨g1, w1, z1, z2, z3, z4, z5, z6, -⟩ := hM _ (g - 1) v3 v1
        have hg1 : lt_fu + j ≤ g1 + 100 * d + 98 := by
          by_cases e : k + 1 = c
          · rw [z4 e]; omega
          · have := z5 (by omega) rfl
            omega
        have e252 : lt_gi w1 252 k = nI j := (z3 k (by omega)).trans lu_eq
        obtain ⟨g2, w2, t1, t2, t3, t4, t5, t6⟩ := hM' w1 g1 hg1 z1 (fun _ => e252) (fun z => absurd v4 z)
        refine ⟨g2, w2, t1, ((lz_Fl.refl w).lp).trans (z2.trans t2), fun i hi => (t3 i hi).trans ((z3 i (by omega)).trans (lu_ne (by omega))), t4, fun z f => ?_, fun z f => ?_⟩
        · rw [v2, show f + (s2 - s) = f + (s2 - s1) + (s1 - s) by omega, z6 rfl, t5 z f]
        · rw [v2, show f + (s2 - s) + 1 = f + (s2 - s1) + 1 + (s1 - s) by omega, z6 rfl, t6 z f]
end LK