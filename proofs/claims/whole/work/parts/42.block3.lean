/-! THE WEEKS LIVED: a block, and the whole walk -/
section LH
variable {σ : lt_S}
theorem lz_T17 {I : Nat → Nat → Int32} {n k : Nat} {A : la_A} (hk : lw_ok I n k) (q : lw_op I k = 17) : 1 ≤ lz_T I k A ∧ lz_T I k A ≤ 99 ∧ I k 1 = nI (lz_T I k A) := by
  obtain ⟨-, hk⟩ := hk
  rcases hk with h | ⟨h | h, -⟩ | h | h | h | h | ⟨-, ⟨j, j1, j2, ej⟩, -⟩ | h | ⟨⟨h | h | h, -⟩ | h, -⟩
  any_goals (exfalso; omega)
  unfold lz_T
  rw [if_pos q, ej, nI_clamp (by omega)]
  exact ⟨j1, j2, rfl⟩
theorem lz_T1 {I : Nat → Nat → Int32} {k : Nat} {A : la_A} (q : lw_op I k ≠ 17) : lz_T I k A = if lz_hold I k A = true then 1 else 0 := by
  unfold lz_T
  rw [if_neg q]
theorem lz_lk {I : Nat → Nat → Int32} {n k : Nat} (hk : lw_ok I n k) (hb : lz_bk I k) : I k 4 = nI (lw_lk I k) := by
  unfold lz_bk at hb
  obtain ⟨-, hk⟩ := hk
  rcases hk with h | ⟨h | h, -⟩ | h | h | h | h | ⟨-, -, h⟩ | ⟨-, h⟩ | ⟨-, h⟩
  any_goals (exfalso; omega)
  · exact h
  · exact h
  · exact h
theorem lz_hdC (hσ : lr_S σ) {I : Nat → Nat → Int32} {N k c dd f e x3 c' s dr : Nat} {A : la_A} {m : Int32} {w : lt_W} (hk : lw_ok I (la_n A) k) (hkN : k < N) (hb : lz_bk I k) (lk : lw_lk I k = c) (hS : lz_CS I N A dr s m 0 0 w) (hs : s < 300) (hc : c' < 30) (hp : lw_phi I k < e) (he : e ≤ 30) : lz_CS I N A dr (s + 1) m 0 0 (lt_si w 169 5 (nI (s + 1))) ∧ lz_Fc w (lt_si w 169 5 (nI (s + 1))) ∧ lz_G σ dd (f + 1) e x3 (lw_phi I k) c' w = fb_X2_goThrough_122 σ 169 (fun x1 x2 x3 w => f_X2_goThrough σ 169 dd x1 x2 x3 w) (fun x2 x3 x4 x5 w => fb_X2_goThrough_6 σ 169 (fun x1 x2 x3 w => f_X2_goThrough σ 169 dd x1 x2 x3 w) f x2 x3 x4 x5 w) lt_fu (nI e) (nI x3) (nI (lw_phi I k)) (nI c') (nI (lz_T I k A)) (nI (lw_phi I c)) 0 (lt_si w 169 5 (nI (s + 1))) := by
  obtain ⟨a1, a2, a3, a4, a5⟩ := hS
  have hF : lz_Fc w (lt_si w 169 5 (nI (s + 1))) := (lz_Fc.refl w).si (by decide) (by decide)
  have hq18 : lw_op I k ≠ 18 := by unfold lz_bk at hb; omega
  have hci := lz_ciF a5 hF k hkN hq18
  have h1 : lc_T (lt_si w 169 5 (nI (s + 1))) 12 A := a1.1.out (by omega)
  refine ⟨⟨⟨h1, (lu_ne (by omega)).trans a1.2.1, (lu_ne (by omega)).trans a1.2.2⟩, (lu_ne (by omega)).trans a2, lu_eq, (lu_ne (by omega)).trans a4, lz_ciF a5 hF⟩, hF, ?_⟩
  have hw : lt_gi w 22 (lw_phi I k) = 18 ∨ lt_gi w 22 (lw_phi I k) = 22 := by
    have : lt_gi w 22 (lw_phi I k) = lw_wd (lw_op I k) := (a5 k hkN hq18).1
    rw [this]
    rcases hb with q | q
    · rw [q]; exact Or.inr rfl
    · left
      unfold lw_wd
      rw [if_neg (by omega), if_neg (by omega), if_neg (by omega), if_neg (by omega), if_neg (by omega), if_neg (by omega), if_neg (by omega), if_neg (by omega)]
  have h28 : lt_gi (lt_si w 169 5 (nI (s + 1))) 28 (lw_phi I k) = nI (lw_phi I c) := by
    obtain ⟨-, -, -, -, -, c6⟩ := hci
    rw [← lk]
    exact c6 hb
  rw [lz_6 hσ hc hp he a2 a3 hs, if_pos hw]
  unfold fb_X2_goThrough_99
  rw [lz_timesC hσ hk hb (by omega) hci h1, lu_bind, lq_r169_1 hσ, lq_r21_8 hσ, lq_l28 hσ, lu_ck (by omega) (by decide), lu_let, nI_clamp (by omega), h28]
theorem lz_hdM (hσ : lr_S σ) {I : Nat → Nat → Int32} {N k c s g dr : Nat} {A0 A : la_A} {m : Int32} {w : lt_W} (hk : lw_ok I (la_n A) k) (hN6 : N ≤ 60) (hkN : k < N) (hcN : c < N) (hb : lz_bk I k) (lk : lw_lk I k = c) (hg : 1 ≤ g) (hS : lz_MS I N A0 A dr s m 0 w) (hs : s < 300) : ∃ w1, lz_MS I N A0 A dr (s + 1) m 0 w1 ∧ lz_Fl w w1 ∧ (∀ j, j < k → lt_gi w1 252 j = lt_gi w 252 j) ∧ (lw_op I k = 17 → lt_gi w1 252 k = nI (lz_T I k A - 1)) ∧ ∀ f, lz_P σ (f + 1) g k w = lz_P σ f lt_fu (if lz_T I k A = 0 then c + 1 else k + 1) w1 := by
  have hq9 := lz_opI hk
  have hq18 : lw_op I k ≠ 18 := by unfold lz_bk at hb; omega
  have hq19 : lw_op I k ≠ 19 := by unfold lz_bk at hb; omega
  have h0 : lt_gi w 234 (60 + 6 * k) = nI (lw_op I k) := by
    have := hS.2.2.2.2.2.2 k hkN 0 (by decide)
    rw [Nat.add_zero] at this; rw [this, hk.1]
  have e4 : I k 4 = nI c := by rw [lz_lk hk hb, lk]
  obtain ⟨a1, a2, a3, a4, a5, a6, a7⟩ := hS
  let w1 := lt_si (lt_si w 233 35 (nI (s + 1))) 253 0 (m + 0)
  have g1 : ∀ a j, ¬ (a = 233 ∧ j = 35) → lt_gi w1 a j = lt_gi w a j := fun a j z => by
    show lt_gi (lt_si (lt_si w 233 35 (nI (s + 1))) 253 0 (m + 0)) a j = _
    rw [lu_gisi]
    by_cases y : a = 253 ∧ j = 0
    · rw [if_pos y, y.1, y.2, a3]; exact Int32.add_zero m
    · rw [if_neg y, lu_ne (by omega)]
  have hM1 : lz_MS I N A0 A dr (s + 1) m 0 w1 := ⟨⟨(a1.1.outA (by decide)).outA (by decide), (g1 _ _ (by omega)).trans a1.2.1, (g1 _ _ (by omega)).trans a1.2.2.1, (g1 _ _ (by omega)).trans a1.2.2.2.1, (g1 _ _ (by omega)).trans a1.2.2.2.2⟩, (lu_ne (by omega)).trans lu_eq, (g1 _ _ (by omega)).trans a3, (g1 _ _ (by omega)).trans a4, fun j hj => by rw [g1 _ _ (by omega)]; exact a5 j hj, (g1 _ _ (by omega)).trans a6, fun j hj i hi => (g1 _ _ (by omega)).trans (a7 j hj i hi)⟩
  have hF1 : lz_Fl w w1 := ⟨fun _ _ => rfl, fun a j z z2 z3 z4 => g1 a j (by omega)⟩
  have op : ∀ f, lz_P σ (f + 1) g k w = fb_X12_lives_111 σ 233 (fun x2 w => fb_X12_lives_32 σ 233 f x2 w) (nI k) (nI (60 + 6 * k)) 253 0 m 0 (lt_si w 233 35 (nI (s + 1))) := fun f => by
    rw [lz_Pi hσ hg a6 hN6 hkN h0 hq18 hq9, lz_32 hσ a6 hN6 hkN h0 a2 (by omega) hq9, if_neg (by omega), if_neg hq19, lz_doesB hσ hb hq9 (by omega) ((lu_ne (by omega)).trans h0), lu_bind, a3, if_neg lu_10]
  have op2 : ∀ f, lz_P σ (f + 1) g k w = (if nI (lw_op I k) = 17 then lt_let (lt_si w1 252 k (I k 1 - 1)) (fun w5 => fb_X12_lives_140 σ 233 (fun x2 w => fb_X12_lives_32 σ 233 f x2 w) (nI k) (nI (60 + 6 * k)) w5) else fb_X12_lives_140 σ 233 (fun x2 w => fb_X12_lives_32 σ 233 f x2 w) (nI k) (nI (60 + 6 * k)) w1) := fun f => by
    rw [op]
    unfold fb_X12_lives_111
    rw [lq_l253 hσ]
    show lt_ck (nI 0) 5 _ = _
    rw [lz_k5 (by decide), lu_let, lr_mS hσ, lz_k2560 (by omega), nI_clamp (by omega), lr_at hσ]
    show (if lt_gi w1 234 (60 + 6 * k) = 17 then lt_ck (nI (60 + 6 * k) + 1) 2560 (lt_ck (nI k) (lt_len σ (lt_r σ 233 36)) (lt_let (lt_si w1 (lt_r σ 233 36) (nI k).toNatClampNeg (lt_gi w1 234 (nI (60 + 6 * k) + 1).toNatClampNeg - 1)) _)) else _) = _
    rw [g1 234 _ (by omega), h0, lm_a1, lz_k2560 (by omega), lq_r233_36 hσ, lq_l252 hσ, lu_ck (by omega) (by decide), nI_clamp (by omega), nI_clamp (by omega), g1 234 _ (by omega), a7 k hkN 1 (by decide)]
    rfl
  have op140 : ∀ f u, (∀ a j, a = 234 → lt_gi u a j = lt_gi w a j) → fb_X12_lives_140 σ 233 (fun x2 w => fb_X12_lives_32 σ 233 f x2 w) (nI k) (nI (60 + 6 * k)) u = if nI (lw_op I k) < 1600 then lz_P σ f lt_fu (k + 1) u else Option.bind (f_X12_holds σ 233 (nI (60 + 6 * k)) u) (fun q2 => if q2 = 0 then lz_P σ f lt_fu (c + 1) u else lz_P σ f lt_fu (k + 1) u) := fun f u hu => by
    unfold fb_X12_lives_140 fb_X12_lives_174
    rw [lr_mS hσ, lz_k2560 (by omega), nI_clamp (by omega), lr_at hσ, hu 234 _ rfl, h0, nI_1, lm_a4, lz_k2560 (by omega), nI_clamp (by omega), hu 234 _ rfl, a7 k hkN 4 (by decide), e4, nI_1]
    rfl
  by_cases q17 : lw_op I k = 17
  · obtain ⟨t1, t2, t3⟩ := lz_T17 (A := A) hk q17
    refine ⟨lt_si w1 252 k (nI (lz_T I k A - 1)), hM1.lp ⟨lz_T I k A - 1, by omega, by omega, rfl⟩, hF1.lp, fun j hj => (lu_ne (by omega)).trans (g1 _ _ (by omega)), fun _ => lu_eq, fun f => ?_⟩
    rw [op2, if_pos (show nI (lw_op I k) = 17 by rw [q17]; rfl), lu_let, t3, show nI (lz_T I k A) - 1 = nI (lz_T I k A - 1) by rw [show lz_T I k A = lz_T I k A - 1 + 1 by omega, nI_pred]; rfl, op140 f _ (fun a j z => (lu_ne (by omega)).trans (g1 _ _ (by omega))), if_pos (show nI (lw_op I k) < 1600 by rw [q17]; decide), if_neg (by omega)]
  · have q16 : 1600 ≤ lw_op I k := hb.resolve_left q17
    refine ⟨w1, hM1, hF1, fun j hj => g1 _ _ (by omega), fun z => absurd z q17, fun f => ?_⟩
    have hh := lz_holdM hσ (w := w1) (A := A) hk q16 (by omega) (fun i hi => (g1 _ _ (by omega)).trans (a7 k hkN i hi)) hM1.1.1
    rw [op2, if_neg (show ¬ nI (lw_op I k) = 17 from fun z => q17 ((nI_eq (b := 17) hq9 (by decide)).mp z)), op140 f w1 (fun a j z => g1 _ _ (by omega)), if_neg (show ¬ nI (lw_op I k) < 1600 from nI_nlt (b := 1600) q16 hq9), hh, lu_bind, lz_T1 q17]
    cases lz_hold I k A
    · rfl
    · rfl
set_option maxHeartbeats 4000000 in
theorem lz_X.block (hσ : lr_S σ) {I : Nat → Nat → Int32} {N n k c d : Nat} {A0 : la_A} (hok : ∀ k, k < N → lw_ok I n k) (hN6 : N ≤ 60) (hphi : lw_phi I N ≤ 30) (hd2 : d ≤ 2) (hX : lz_X σ I N n A0 (k + 1) c d) (hb : lz_bk I k) (ec : lw_op I c = 18) (lk : lw_lk I k = c) (lc : lw_lk I c = k) : lz_X σ I N n A0 k (c + 1) (d + 1) := by
  have hX' := hX
  obtain ⟨q1, hX'⟩ := hX'
  refine ⟨by omega, fun hcN A dr s m hO hn hd hs => ?_⟩
  have hq18 : lw_op I k ≠ 18 := by unfold lz_bk at hb; omega
  have p1 := lw_phi_s hq18
  have p2 := lw_phi_le (I := I) q1
  have p3 : lw_phi I c ≤ 30 := Nat.le_trans (lw_phi_le (by omega)) hphi
  have p4 := lw_phi_e ec
  have hk := hok k (by omega)
  have hq9 := lz_opI hk
  have hkA : lw_ok I (la_n A) k := by rw [hn]; exact hk
  by_cases s3 : s = 300
  · subst s3
    obtain ⟨xc, xm⟩ := lz_X300 hσ (A0 := A0) (A := A) (b := c + 1) (dr := dr) (d := d + 1) (m := m) hN6 (by omega) (by omega) hq18 hq9 hk.1
    refine ⟨A, dr, 300, m, true, 1, hO, hn, hd, Nat.le_refl _, by decide, ⟨(fun z => by cases z), Or.inr rfl⟩, fun dd x3 c e w y1 y2 y3 y4 y5 hS => ?_, fun w g hg hS => ?_⟩
    · obtain ⟨r, w', z1, z2, z3, z4⟩ := xc dd x3 c e w y1 y2 y3 y4 y5 hS
      exact ⟨r, w', z1, z2, z3, (fun z => by cases z), fun _ => z4⟩
    · obtain ⟨w', z1, z2, z3, z4⟩ := xm w g hg hS
      exact ⟨g, w', z1, z2, fun j _ => z3 j, fun _ => rfl, (fun _ z => by cases z), (fun z => by cases z), fun _ f => by rw [Nat.sub_self]; exact z4 f⟩
  · have s3' : s < 300 := by omega
    by_cases t0 : lz_T I k A = 0
    · refine ⟨A, dr, s + 1, m, false, 0, hO, hn, hd, by omega, by omega, ⟨fun _ => rfl, Or.inl rfl⟩, fun dd x3 c' e w y1 y2 y3 y4 y5 hS => ?_, fun w g hg hS => ?_⟩
      · have hh := fun f => lz_hdC hσ (dd := dd) (f := f) (x3 := x3) (c' := c') (e := e) hkA (by omega) hb lk hS s3' (by omega) (by omega) y5
        refine ⟨1, _, by omega, (hh 0).1, (hh 0).2.1, fun _ f => ?_, (fun z => by cases z)⟩
        rw [(hh f).2.2, t0, show lt_fu = lt_fu - 1 + 1 from by unfold lt_fu; omega, fb_X2_goThrough_122, if_pos (show nI 0 ≤ (0 : Int32) by decide), nI_1, p4]
      · obtain ⟨w1, z1, z2, z3, z4, z5⟩ := lz_hdM hσ hkA hN6 (by omega) (by omega) hb lk hg hS s3'
        refine ⟨lt_fu, w1, z1, z2, z3, fun z => by omega, fun _ _ => by omega, fun _ f => ?_, (fun z => by cases z)⟩
        rw [show s + 1 - s = 1 by omega, z5 f, if_pos t0]
    · have t99 : lz_T I k A ≤ 99 := by
        by_cases q17 : lw_op I k = 17
        · exact (lz_T17 hk q17).2.1
        · rw [lz_T1 q17]; split <;> omega
      obtain ⟨A1, dr1, s1, m1, ov1, lf1, o1, o2, o3, o4, o5, o6, hC, hM⟩ := hX' (by omega) A dr (s + 1) m hO hn hd (by omega)
      have cin := lz_in hσ p1 p2 p3 hC
      have e0 : ∀ T : Nat, T ≠ 0 → (0 : Int32) = nI (T - (T - 1 + 1)) := fun T hT => by rw [show T - (T - 1 + 1) = 0 by omega]; rfl
      cases ov1 with
      | true =>
        refine ⟨A1, dr1, s1, m1, true, lf1, o1, o2, o3, by omega, o5, ⟨(fun z => by cases z), o6.2⟩, fun dd x3 c' e w y1 y2 y3 y4 y5 hS => ?_, fun w g hg hS => ?_⟩
        · have hh := fun f => lz_hdC hσ (dd := dd) (f := f) (x3 := x3) (c' := c') (e := e) hkA (by omega) hb lk hS s3' (by omega) (by omega) y5
          obtain ⟨w', z1, z2, z3⟩ := cin dd x3 _ y1 (by omega) (hh 0).1
          refine ⟨1, w', by omega, z1, (hh 0).2.1.trans z2, (fun z => by cases z), fun _ f => ?_⟩
          rw [show f + 1 + 1 = (f + 1) + 1 from rfl, (hh (f + 1)).2.2, e0 _ t0, show lt_fu = lt_fu - 2 + 1 + 1 from by unfold lt_fu; omega, z3 (lt_fu - 2 + 1) _ _ _ _ (lz_T I k A - 1) (by omega) (by omega), lz_122o z1.2.1, nI_1]
          exact lz_6o z1.2.1
        · obtain ⟨w1, z1, z2, z3, z4, z5⟩ := lz_hdM hσ hkA hN6 (by omega) (by omega) hb lk hg hS s3'
          obtain ⟨g', w', v1, v2, v3, v4, v5, v6, v7⟩ := hM w1 lt_fu (by unfold lt_fu; omega) z1
          refine ⟨g', w', v1, z2.trans v2, fun j hj => (v3 j (by omega)).trans (z3 j hj), fun z => by omega, (fun _ z => by cases z), (fun z => by cases z), fun _ f => ?_⟩
          rw [show f + (s1 - s) + 1 = f + (s1 - (s + 1)) + 1 + 1 by omega, z5, if_neg t0, v7 rfl f]
      | false =>
        obtain rfl := o6.1 rfl
        obtain ⟨A2, dr2, s2, m2, ov2, lf2, x1, x2, x3, x4, x5, x6, hC', hM'⟩ := lz_Yall hσ hok hN6 hphi hd2 hX hb (by omega) ec lk lc (lz_T I k A - 1) (by omega) A1 dr1 s1 m1 o1 o2 o3 o5
        refine ⟨A2, dr2, s2, m2, ov2, lf2, x1, x2, x3, by omega, x5, x6, fun dd x3 c' e w y1 y2 y3 y4 y5 hS => ?_, fun w g hg hS => ?_⟩
        · have hh := fun f => lz_hdC hσ (dd := dd) (f := f) (x3 := x3) (c' := c') (e := e) hkA (by omega) hb lk hS s3' (by omega) (by omega) y5
          obtain ⟨w1, z1, z2, z3⟩ := cin dd x3 _ y1 (by omega) (hh 0).1
          obtain ⟨w2, t1, t2, t3⟩ := hC' dd x3 w1 y1 (by omega) z1
          have run : ∀ f, lz_G σ dd (f + 1) e x3 (lw_phi I k) c' w = lz_G σ dd f e x3 (lw_phi I (c + 1)) (c' + 1) w2 := fun f => by
            rw [(hh f).2.2, e0 _ t0, show lt_fu = lt_fu - 1 + 1 from by unfold lt_fu; omega, z3 (lt_fu - 1) _ _ _ _ (lz_T I k A - 1) (by omega) (by omega), t3 (lt_fu - 1) _ _ _ _ (by unfold lt_fu; omega) (by omega) (by omega), nI_1, p4]
          refine ⟨1, w2, by omega, t1, (hh 0).2.1.trans (z2.trans t2), fun z f => run f, fun z f => ?_⟩
          rw [show f + 1 + 1 = (f + 1) + 1 from rfl, run (f + 1)]
          exact lz_6o (by rw [t1.2.1, z, if_pos rfl])
        · obtain ⟨w1, z1, z2, z3, z4, z5⟩ := lz_hdM hσ hkA hN6 (by omega) (by omega) hb lk hg hS s3'
          obtain ⟨g1, w2, v1, v2, v3, v4, v5, v6, -⟩ := hM w1 lt_fu (by unfold lt_fu; omega) z1
          have hg1 : lt_fu + (lz_T I k A - 1) ≤ g1 + 100 * d + 98 := by
            by_cases e : k + 1 = c
            · rw [v4 e]; omega
            · have := v5 (by omega) rfl
              omega
          obtain ⟨g2, w3, t1, t2, t3, t4, t5, t6⟩ := hM' w2 g1 hg1 v1 (fun z => (v3 k (by omega)).trans (z4 z)) (fun z => by rw [lz_T1 z]; split <;> omega)
          refine ⟨g2, w3, t1, z2.trans (v2.trans t2), fun j hj => (t3 j hj).trans ((v3 j (by omega)).trans (z3 j hj)), fun z => by omega, fun _ z => t4 z, fun z f => ?_, fun z f => ?_⟩
          · rw [show f + (s2 - s) = f + (s2 - s1) + (s1 - (s + 1)) + 1 by omega, z5, if_neg t0, v6 rfl, t5 z f]
          · rw [show f + (s2 - s) + 1 = f + (s2 - s1) + 1 + (s1 - (s + 1)) + 1 by omega, z5, if_neg t0, v6 rfl, t6 z f]
/-- the whole walk -/
theorem lz_X.bal (hσ : lr_S σ) {I : Nat → Nat → Int32} {N n : Nat} {A0 : la_A} (hok : ∀ k, k < N → lw_ok I n k) (hN6 : N ≤ 60) (hphi : lw_phi I N ≤ 30) (hb : lw_bal I 0 N 3) : lz_X σ I N n A0 0 N 3 := by
  have := hb (fun a b d => d ≤ 3 → lz_X σ I N n A0 a b d) (fun a d _ => lz_X.nil a d)
    (fun a k d h q18 q17 q16 h3 => lz_X.trans h3 (h h3) (lz_X.one hσ hok hN6 q18 q17 q16))
    (fun a k c d h hb hX ec lk lc h3 => lz_X.trans h3 (h h3) (lz_X.block hσ hok hN6 hphi (by omega) (hX (by omega)) hb ec lk lc))
  exact this (by decide)
end LH