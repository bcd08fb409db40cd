/-! THE WEEKS LIVED: the walk; sequences and steps without a block -/
theorem lz_dec_in : ∀ a b c d e f g : Bool, ∀ i : Fin 7, f_X12_isIn 233 (la_sb (la_7 a b c d e f g) 7) (nI i.1) = some (if la_7 a b c d e f g i.1 = true then 1 else 0) := by decide +kernel
theorem lz_isIn {p : Nat → Bool} {n g : Nat} (hn : n ≤ 7) (hg : g < n) : f_X12_isIn 233 (la_sb p n) (nI g) = some (if p g = true then 1 else 0) := by
  obtain ⟨a, b, c, d, e, f, q, h1, -, h3, -⟩ := la_to7 p n hn
  rw [h3, h1 g hg]
  exact lz_dec_in a b c d e f q ⟨g, by omega⟩
def lz_cmp (c v x : Int32) : Bool := if c = 60 then decide (v < x) else if c = 62 then decide (x < v) else decide (v = x)
def lz_hold (I : Nat → Nat → Int32) (k : Nat) (A : la_A) : Bool :=
  if lw_op I k = 1620 then la_here A (I k 1).toNatClampNeg else if lw_op I k = 1621 then la_hung A (I k 1).toNatClampNeg else if lw_op I k = 1622 then lz_cmp (I k 5) (A.1 5) (I k 2) else lz_cmp (I k 5) (A.2 (I k 1).toNatClampNeg 0) (I k 2)
def lz_CS (I : Nat → Nat → Int32) (N : Nat) (A : la_A) (d s : Nat) (m ov lf : Int32) (w : lt_W) : Prop := lz_C w A d m ∧ lt_gi w 169 4 = ov ∧ lt_gi w 169 5 = nI s ∧ lt_gi w 169 7 = lf ∧ ∀ k, k < N → lw_op I k ≠ 18 → lw_ci w 21 I k (lw_phi I k)
def lz_MS (I : Nat → Nat → Int32) (N : Nat) (A0 A : la_A) (d s : Nat) (m lf : Int32) (w : lt_W) : Prop := lz_M A0 A d w ∧ lt_gi w 233 35 = nI s ∧ lt_gi w 253 0 = m ∧ lt_gi w 253 4 = lf ∧ lr_lp w ∧ lt_gi w 234 8 = nI N ∧ ∀ k, k < N → ∀ i, i < 6 → lt_gi w 234 (60 + 6 * k + i) = I k i
def lz_Fl (w w' : lt_W) : Prop := (∀ a k, lt_gl w' a k = lt_gl w a k) ∧ ∀ a k, ¬ (a = 234 ∧ k < 60 ∧ k ≠ 8 ∧ k ≠ 9) → ¬ (a = 233 ∧ (k = 34 ∨ k = 35)) → a ≠ 252 → a ≠ 253 → lt_gi w' a k = lt_gi w a k
theorem lz_Fl.refl (w : lt_W) : lz_Fl w w := ⟨fun _ _ => rfl, fun _ _ _ _ _ _ => rfl⟩
theorem lz_Fl.trans {w w' w'' : lt_W} (h : lz_Fl w w') (h' : lz_Fl w' w'') : lz_Fl w w'' := ⟨fun a k => (h'.1 a k).trans (h.1 a k), fun a k z z2 z3 z4 => (h'.2 a k z z2 z3 z4).trans (h.2 a k z z2 z3 z4)⟩
theorem lz_Fl.m {w w' : lt_W} (h : lz_Fm w w') : lz_Fl w w' := ⟨h.1, fun a k z z2 z3 z4 => h.2 a k z (by omega) (by omega)⟩
theorem lw_ci.c {w w' : lt_W} {I : Nat → Nat → Int32} {k s : Nat} (h : lw_ci w 21 I k s) (e : ∀ a j, 21 ≤ a → a < 29 → lt_gi w' a j = lt_gi w a j) : lw_ci w' 21 I k s := by
  unfold lw_ci at h ⊢
  rw [e (21 + 1) s (by omega) (by omega), e (21 + 2) s (by omega) (by omega), e (21 + 3) s (by omega) (by omega), e (21 + 4) s (by omega) (by omega), e (21 + 5) s (by omega) (by omega), e (21 + 6) s (by omega) (by omega), e (21 + 7) s (by omega) (by omega)]
  exact h
theorem lz_ciF {w w' : lt_W} {I : Nat → Nat → Int32} {N : Nat} (h : ∀ k, k < N → lw_op I k ≠ 18 → lw_ci w 21 I k (lw_phi I k)) (hF : lz_Fc w w') : ∀ k, k < N → lw_op I k ≠ 18 → lw_ci w' 21 I k (lw_phi I k) :=
  fun k hk hq => (h k hk hq).c fun a j z1 z2 => hF.2 a j (by omega) (by omega)
theorem lw_phi_s {I : Nat → Nat → Int32} {k : Nat} (h : lw_op I k ≠ 18) : lw_phi I (k + 1) = lw_phi I k + 1 := by
  unfold lw_phi
  rw [la_cnt, if_pos (by simp [h])]
theorem lw_phi_e {I : Nat → Nat → Int32} {k : Nat} (h : lw_op I k = 18) : lw_phi I (k + 1) = lw_phi I k := by
  unfold lw_phi
  rw [la_cnt, if_neg (by simp [h])]
theorem lw_phi_le {I : Nat → Nat → Int32} {a b : Nat} (h : a ≤ b) : lw_phi I a ≤ lw_phi I b := la_cnt_mono b a h
section LX
variable {σ : lt_S}
/-- the class's walk, its depth left dd; the reference's, at a place maybe behind ends -/
abbrev lz_G (σ : lt_S) (dd f e x3 a c : Nat) (w : lt_W) : Option lt_W := fb_X2_goThrough_6 σ 169 (fun x1 x2 x3 w => f_X2_goThrough σ 169 dd x1 x2 x3 w) f (nI e) (nI x3) (nI a) (nI c) w
def lz_P (σ : lt_S) (f g a : Nat) (w : lt_W) : Option lt_W := Option.bind (fb_X12_behindEnds_2 σ 233 g (nI a) w) (fun q => fb_X12_lives_32 σ 233 f q.1 q.2)
theorem lz_177 (f a : Nat) (w : lt_W) : fb_X12_lives_177 σ 233 (fun x2 w => fb_X12_lives_32 σ 233 f x2 w) (nI a) w = lz_P σ f lt_fu a w := rfl
/-- the walk from a to b, at most d deep: one outcome, both sides -/
def lz_X (σ : lt_S) (I : Nat → Nat → Int32) (N n : Nat) (A0 : la_A) (a b d : Nat) : Prop := a ≤ b ∧ (b ≤ N → ∀ (A : la_A) (dr s : Nat) (m : Int32), la_Ok A → la_n A = n → dr < 65536 → s ≤ 300 → ∃ (A' : la_A) (dr' s' : Nat) (m' : Int32) (ov : Bool) (lf : Int32), la_Ok A' ∧ la_n A' = n ∧ dr' < 65536 ∧ s ≤ s' ∧ s' ≤ 300 ∧ ((ov = false → lf = 0) ∧ (lf = 0 ∨ lf = 1)) ∧
  (∀ dd x3 c e w, d ≤ dd → x3 + d ≤ 3 → c + (lw_phi I b - lw_phi I a) ≤ 30 → lw_phi I b ≤ e → e ≤ 30 → lz_CS I N A dr s m 0 0 w → ∃ r w', r ≤ lw_phi I b - lw_phi I a ∧ lz_CS I N A' dr' s' m' (if ov = true then 1 else 0) lf w' ∧ lz_Fc w w' ∧ (ov = false → ∀ f, lz_G σ dd (f + r) e x3 (lw_phi I a) c w = lz_G σ dd f e x3 (lw_phi I b) (c + r) w') ∧ (ov = true → ∀ f, lz_G σ dd (f + r + 1) e x3 (lw_phi I a) c w = some w')) ∧
  (∀ w g, 1 ≤ g → lz_MS I N A0 A dr s m 0 w → ∃ g' w', lz_MS I N A0 A' dr' s' m' lf w' ∧ lz_Fl w w' ∧ (∀ j, j < a → lt_gi w' 252 j = lt_gi w 252 j) ∧ (a = b → g' = g) ∧ (a < b → ov = false → lt_fu ≤ g' + 100 * d) ∧ (ov = false → ∀ f, lz_P σ (f + (s' - s)) g a w = lz_P σ f g' b w') ∧ (ov = true → ∀ f, lz_P σ (f + (s' - s) + 1) g a w = some w')))
theorem lz_X.nil {I : Nat → Nat → Int32} {N n : Nat} {A0 : la_A} (a d : Nat) : lz_X σ I N n A0 a a d := by
  refine ⟨Nat.le_refl _, fun _ A dr s m hO hn hd hs => ⟨A, dr, s, m, false, 0, hO, hn, hd, Nat.le_refl _, hs, ⟨fun _ => rfl, Or.inl rfl⟩, fun dd x3 c e w _ _ _ _ _ h => ⟨0, w, by omega, h, lz_Fc.refl _, fun _ f => rfl, fun z => by cases z⟩, fun w g _ h => ⟨g, w, h, lz_Fl.refl _, fun _ _ => rfl, fun _ => rfl, fun z => by omega, fun _ f => by rw [Nat.sub_self]; rfl, fun z => by cases z⟩⟩⟩
theorem lz_X.trans {I : Nat → Nat → Int32} {N n a k b d : Nat} {A0 : la_A} (hd3 : d ≤ 3) (h : lz_X σ I N n A0 a k d) (h' : lz_X σ I N n A0 k b d) : lz_X σ I N n A0 a b d := by
  obtain ⟨q1, h⟩ := h
  obtain ⟨q2, h'⟩ := h'
  refine ⟨by omega, fun hb A dr s m hO hn hd hs => ?_⟩
  obtain ⟨A1, dr1, s1, m1, ov1, lf1, o1, o2, o3, o4, o5, o6, hC, hM⟩ := h (by omega) A dr s m hO hn hd hs
  have p1 := lw_phi_le (I := I) q1
  have p2 := lw_phi_le (I := I) q2
  cases ov1 with
  | true =>
    refine ⟨A1, dr1, s1, m1, true, lf1, o1, o2, o3, o4, o5, ⟨(fun z => by cases z), o6.2⟩, fun dd x3 c e w y1 y2 y3 y4 y5 hS => ?_, fun w g hg hS => ?_⟩
    · obtain ⟨r, w', z1, z2, z3, z4, z5⟩ := hC dd x3 c e w y1 y2 (by omega) (by omega) y5 hS
      exact ⟨r, w', by omega, z2, z3, (fun z => by cases z), z5⟩
    · obtain ⟨g', w', z1, z2, z3, z4, z5, z6, z7⟩ := hM w g hg hS
      by_cases ab : a = b
      · exact ⟨g, w', z1, z2, z3, fun _ => rfl, (fun _ z => by cases z), (fun z => by cases z), z7⟩
      · exact ⟨g', w', z1, z2, z3, fun z => absurd z ab, (fun _ z => by cases z), (fun z => by cases z), z7⟩
  | false =>
    obtain rfl := o6.1 rfl
    obtain ⟨A2, dr2, s2, m2, ov2, lf2, x1, x2, x3, x4, x5, x6, hC', hM'⟩ := h' hb A1 dr1 s1 m1 o1 o2 o3 o5
    refine ⟨A2, dr2, s2, m2, ov2, lf2, x1, x2, x3, by omega, x5, x6, fun dd x3 c e w y1 y2 y3 y4 y5 hS => ?_, fun w g hg hS => ?_⟩
    · obtain ⟨r, w1, z1, z2, z3, z4, -⟩ := hC dd x3 c e w y1 y2 (by omega) (by omega) y5 hS
      obtain ⟨r2, w2, v1, v2, v3, v4, v5⟩ := hC' dd x3 (c + r) e w1 y1 y2 (by omega) y4 y5 z2
      refine ⟨r2 + r, w2, by omega, v2, z3.trans v3, fun z f => ?_, fun z f => ?_⟩
      · rw [← Nat.add_assoc, z4 rfl, v4 z f, Nat.add_comm r2 r, Nat.add_assoc]
      · rw [show f + (r2 + r) + 1 = f + r2 + 1 + r by omega, z4 rfl, v5 z f]
    · obtain ⟨g1, w1, z1, z2, z3, z4, z5, z6, -⟩ := hM w g hg hS
      have hg1 : 1 ≤ g1 := by
        by_cases ak : a = k
        · rw [z4 ak]; exact hg
        · have := z5 (by omega) rfl
          unfold lt_fu at this; omega
      obtain ⟨g2, w2, v1, v2, v3, v4, v5, v6, v7⟩ := hM' w1 g1 hg1 z1
      refine ⟨g2, w2, v1, z2.trans v2, fun j hj => (v3 j (by omega)).trans (z3 j hj), fun z => by rw [v4 (by omega), z4 (by omega)], fun ab z => ?_, fun z f => ?_, fun z f => ?_⟩
      · by_cases kb : k = b
        · rw [v4 kb]; exact z5 (by omega) rfl
        · exact v5 (by omega) z
      · rw [show f + (s2 - s) = f + (s2 - s1) + (s1 - s) by omega, z6 rfl, v6 z f]
      · rw [show f + (s2 - s) + 1 = f + (s2 - s1) + 1 + (s1 - s) by omega, z6 rfl, v7 z f]
theorem lz_k2560 {α : Type} {i : Nat} (h : i < 2560) (y : Option α) : lt_ck (nI i) 2560 y = y := lu_ck h (by decide)
theorem lz_60 (k : Nat) : (60 : Int32) + 6 * nI k = nI (60 + 6 * k) := by
  show nI 60 + nI 6 * nI k = _
  rw [pk_mul, nI_add]
/-- at a place that is no end -/
theorem lz_Pi (hσ : lr_S σ) {I : Nat → Nat → Int32} {N k f g : Nat} {w : lt_W} (hg : 1 ≤ g) (hN : lt_gi w 234 8 = nI N) (hN6 : N ≤ 60) (hk : k < N) (e0 : lt_gi w 234 (60 + 6 * k) = nI (lw_op I k)) (hq : lw_op I k ≠ 18) (hq9 : lw_op I k < 2 ^ 31) : lz_P σ f g k w = fb_X12_lives_32 σ 233 f (nI k) w := by
  obtain ⟨g, rfl⟩ : ∃ j, g = j + 1 := ⟨g - 1, by omega⟩
  unfold lz_P
  rw [fb_X12_behindEnds_2, lr_mS hσ, lr_at hσ]
  show Option.bind (lt_ck (nI 8) 2560 (if lt_gi w 234 8 ≤ nI k then _ else _)) _ = _
  rw [lz_k2560 (by decide), hN, if_neg (nI_ge hk (by omega)), lz_60, lz_k2560 (by omega), nI_clamp (by omega), e0, if_neg (show ¬ nI (lw_op I k) = 18 from fun z => hq ((nI_eq (b := 18) hq9 (by decide)).mp z)), lu_bind]
theorem lz_opI {I : Nat → Nat → Int32} {n k : Nat} (h : lw_ok I n k) : lw_op I k < 2 ^ 31 := by
  obtain ⟨-, h⟩ := h
  rcases h with h | ⟨h | h, -⟩ | h | h | h | h | h | h | ⟨⟨h | h | h, -⟩ | h, -⟩ <;> omega
theorem lz_k5' (i : Nat) (h : i < 5) {α : Type} (y : Option α) : lt_ck (nI i) 5 y = y := lu_ck h (by decide)
/-- what the reference does with a step, as far as all of them go -/
theorem lz_32 (hσ : lr_S σ) {I : Nat → Nat → Int32} {N k f s : Nat} {w : lt_W} (hN : lt_gi w 234 8 = nI N) (hN6 : N ≤ 60) (hk : k < N) (e0 : lt_gi w 234 (60 + 6 * k) = nI (lw_op I k)) (hs : lt_gi w 233 35 = nI s) (hs3 : s ≤ 300) (hq9 : lw_op I k < 2 ^ 31) : fb_X12_lives_32 σ 233 (f + 1) (nI k) w = if s = 300 then some (lt_si w 253 4 1) else if lw_op I k = 19 then some (lt_si w 233 35 (nI (s + 1))) else Option.bind (f_X12_does σ 233 (nI (60 + 6 * k)) (lt_si w 233 35 (nI (s + 1)))) (fun q5 => fb_X12_lives_111 σ 233 (fun x2 w => fb_X12_lives_32 σ 233 f x2 w) (nI k) (nI (60 + 6 * k)) 253 0 (lt_gi w 253 0) (if q5.1 = 0 then 1 else 0) q5.2) := by
  rw [fb_X12_lives_32, lr_mS hσ, lr_at hσ]
  show lt_ck (nI 8) 2560 (if lt_gi w 234 8 ≤ nI k then _ else _) = _
  rw [lz_k2560 (by decide), hN, if_neg (nI_ge hk (by omega)), hs, lz_60]
  by_cases c : s = 300
  · rw [if_pos (show nI s = 300 by rw [c]; rfl), if_pos c, lq_r233_37 hσ, lq_l253 hσ]
    show lt_ck (nI 4) 5 _ = _
    rw [lz_k5 (by decide)]; rfl
  · rw [if_neg (show ¬ nI s = 300 from fun z => c ((nI_eq (b := 300) (by omega) (by decide)).mp z)), if_neg c, nI_1, lu_let, lz_k2560 (by omega), nI_clamp (by omega), lu_ne (by omega), e0]
    by_cases c9 : lw_op I k = 19
    · rw [if_pos (show nI (lw_op I k) = 19 by rw [c9]; rfl), if_pos c9]
    · rw [if_neg (show ¬ nI (lw_op I k) = 19 from fun z => c9 ((nI_eq (b := 19) hq9 (by decide)).mp z)), if_neg c9, lq_r233_37 hσ, lq_l253 hσ]
      show lt_ck (nI 0) 5 _ = _
      rw [lz_k5 (by decide)]
      congr 1
      funext q5
      have e : lt_gi (lt_si w 233 35 (nI (s + 1))) 253 (0 : Int32).toNatClampNeg = lt_gi w 253 0 := lu_ne (by omega)
      rw [e]
      by_cases z : q5.1 = 0
      · rw [if_pos z, if_pos z]
      · rw [if_neg z, if_neg z]
end LX