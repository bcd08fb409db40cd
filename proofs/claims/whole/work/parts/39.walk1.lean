/-! THE WEEKS LIVED: the walk over one step without a block -/
section LI
variable {σ : lt_S}
theorem lz_6 (hσ : lr_S σ) {dd f e x3 p c s : Nat} {w : lt_W} (hc : c < 30) (hp : p < e) (he : e ≤ 30) (h4 : lt_gi w 169 4 = 0) (h5 : lt_gi w 169 5 = nI s) (hs : s < 300) : lz_G σ dd (f + 1) e x3 p c w = (if lt_gi w 22 p = 18 ∨ lt_gi w 22 p = 22 then fb_X2_goThrough_99 σ 169 (fun x1 x2 x3 w => f_X2_goThrough σ 169 dd x1 x2 x3 w) (fun x2 x3 x4 x5 w => fb_X2_goThrough_6 σ 169 (fun x1 x2 x3 w => f_X2_goThrough σ 169 dd x1 x2 x3 w) f x2 x3 x4 x5 w) (nI e) (nI x3) (nI p) (nI c) (lt_si w 169 5 (nI (s + 1))) else Option.bind (f_X2_goStep σ 169 (nI p) (lt_si w 169 5 (nI (s + 1)))) (fun q6 => lz_G σ dd f e x3 (p + 1) (c + 1) q6)) := by
  unfold lz_G
  rw [fb_X2_goThrough_6, if_neg (show ¬ (30 : Int32) ≤ nI c from nI_ge (b := 30) hc (by decide)), if_neg (nI_ge hp (by omega)), if_pos h4, h5, if_pos (show nI s < (300 : Int32) from nI_lt (b := 300) hs (by decide)), nI_1, lu_let, lq_r169_1 hσ, lq_r21_2 hσ, lq_l22 hσ, lu_ck (by omega) (by decide), nI_clamp (by omega), lu_ne (by omega), lu_ck (by omega) (by decide), nI_1, nI_1]
  by_cases c1 : lt_gi w 22 p = 18
  · rw [if_pos c1, if_pos (Or.inl c1)]
  · rw [if_neg c1]
    by_cases c2 : lt_gi w 22 p = 22
    · rw [if_pos c2, if_pos (Or.inr c2)]
    · rw [if_neg c2, if_neg (fun z => z.elim c1 c2)]
/-- once it is over -/
theorem lz_6o {dd f e x3 p c : Nat} {w : lt_W} (h4 : lt_gi w 169 4 = 1) : lz_G σ dd (f + 1) e x3 p c w = some w := by
  unfold lz_G
  rw [fb_X2_goThrough_6, if_neg (show ¬ lt_gi w 169 4 = 0 by rw [h4]; decide)]
  split
  · rfl
  · split <;> rfl
/-- too many steps -/
theorem lz_6s {dd f e x3 p c : Nat} {w : lt_W} (hc : c < 30) (hp : p < e) (he : e ≤ 30) (h4 : lt_gi w 169 4 = 0) (h5 : lt_gi w 169 5 = nI 300) : lz_G σ dd (f + 1) e x3 p c w = some (lt_si (lt_si w 169 7 1) 169 4 1) := by
  unfold lz_G
  rw [fb_X2_goThrough_6, if_neg (show ¬ (30 : Int32) ≤ nI c from nI_ge (b := 30) hc (by decide)), if_neg (nI_ge hp (by omega)), if_pos h4, h5, if_neg (show ¬ nI 300 < (300 : Int32) by decide)]
  rfl
/-- both, at 300 steps -/
theorem lz_X300 (hσ : lr_S σ) {I : Nat → Nat → Int32} {N : Nat} {A0 A : la_A} {k b dr d : Nat} {m : Int32} (hN6 : N ≤ 60) (hk : k < N) (hb : k < b) (hq18 : lw_op I k ≠ 18) (hq9 : lw_op I k < 2 ^ 31) (e0 : I k 0 = nI (lw_op I k)) :
  (∀ dd x3 c e w, d ≤ dd → x3 + d ≤ 3 → c + (lw_phi I b - lw_phi I k) ≤ 30 → lw_phi I b ≤ e → e ≤ 30 → lz_CS I N A dr 300 m 0 0 w → ∃ r w', r ≤ lw_phi I b - lw_phi I k ∧ lz_CS I N A dr 300 m 1 1 w' ∧ lz_Fc w w' ∧ ∀ f, lz_G σ dd (f + r + 1) e x3 (lw_phi I k) c w = some w') ∧
  (∀ w g, 1 ≤ g → lz_MS I N A0 A dr 300 m 0 w → ∃ w', lz_MS I N A0 A dr 300 m 1 w' ∧ lz_Fl w w' ∧ (∀ j, lt_gi w' 252 j = lt_gi w 252 j) ∧ ∀ f, lz_P σ (f + 1) g k w = some w') := by
  have p1 := lw_phi_s hq18
  have p2 := lw_phi_le (I := I) (show k + 1 ≤ b by omega)
  refine ⟨fun dd x3 c e w _ _ y3 y4 y5 hS => ?_, fun w g hg hS => ?_⟩
  · obtain ⟨a1, a2, a3, a4, a5⟩ := hS
    have hF : lz_Fc w (lt_si (lt_si w 169 7 1) 169 4 1) := ((lz_Fc.refl w).si (by decide) (by decide)).si (by decide) (by decide)
    refine ⟨0, lt_si (lt_si w 169 7 1) 169 4 1, by omega, ⟨⟨(a1.1.out (by omega)).out (by omega), ?_, ?_⟩, lu_eq, ?_, ?_, lz_ciF a5 hF⟩, hF, fun f => lz_6s (by omega) (by omega) y5 a2 a3⟩
    · rw [lu_ne (by omega), lu_ne (by omega)]; exact a1.2.1
    · rw [lu_ne (by omega), lu_ne (by omega)]; exact a1.2.2
    · rw [lu_ne (by omega), lu_ne (by omega)]; exact a3
    · rw [lu_ne (by omega), lu_eq]
  · obtain ⟨a1, a2, a3, a4, a5, a6, a7⟩ := hS
    have e0' : lt_gi w 234 (60 + 6 * k) = nI (lw_op I k) := by
      have := a7 k hk 0 (by decide)
      rw [Nat.add_zero] at this; rw [this, e0]
    refine ⟨lt_si w 253 4 1, ⟨⟨a1.1.outA (by decide), (lu_ne (by omega)).trans a1.2.1, (lu_ne (by omega)).trans a1.2.2.1, (lu_ne (by omega)).trans a1.2.2.2.1, (lu_ne (by omega)).trans a1.2.2.2.2⟩, (lu_ne (by omega)).trans a2, (lu_ne (by omega)).trans a3, lu_eq, fun j hj => by rw [lu_ne (by omega)]; exact a5 j hj, (lu_ne (by omega)).trans a6, fun j hj i hi => (lu_ne (by omega)).trans (a7 j hj i hi)⟩, ⟨fun _ _ => rfl, fun a j _ _ _ z => lu_ne (by omega)⟩, fun j => lu_ne (by omega), fun f => ?_⟩
    rw [lz_Pi hσ hg a6 hN6 hk e0' hq18 hq9, lz_32 hσ a6 hN6 hk e0' a2 (by decide) hq9, if_pos rfl]
set_option maxHeartbeats 4000000 in
theorem lz_X.one (hσ : lr_S σ) {I : Nat → Nat → Int32} {N n : Nat} {A0 : la_A} {k d : Nat} (hok : ∀ k, k < N → lw_ok I n k) (hN6 : N ≤ 60) (hq18 : lw_op I k ≠ 18) (hq17 : lw_op I k ≠ 17) (hq16 : lw_op I k < 1600) : lz_X σ I N n A0 k (k + 1) d := by
  refine ⟨by omega, fun hb A dr s m hO hn hd hs => ?_⟩
  subst hn
  have hk := hok k (by omega)
  have p1 := lw_phi_s hq18
  have hq9 := lz_opI hk
  by_cases s3 : s = 300
  · subst s3
    obtain ⟨xc, xm⟩ := lz_X300 hσ (A0 := A0) (A := A) (b := k + 1) (dr := dr) (d := d) (m := m) hN6 (by omega) (by omega) hq18 hq9 hk.1
    refine ⟨A, dr, 300, m, true, 1, hO, rfl, hd, Nat.le_refl _, by decide, ⟨(fun z => by cases z), Or.inr rfl⟩, fun dd x3 c e w y1 y2 y3 y4 y5 hS => ?_, fun w g hg hS => ?_⟩
    · obtain ⟨r, w', z1, z2, z3, z4⟩ := xc dd x3 c e w y1 y2 y3 y4 y5 hS
      exact ⟨r, w', z1, z2, z3, (fun z => by cases z), fun _ => z4⟩
    · obtain ⟨w', z1, z2, z3, z4⟩ := xm w g hg hS
      exact ⟨g, w', z1, z2, fun j _ => z3 j, fun _ => rfl, (fun _ z => by cases z), (fun z => by cases z), fun _ f => by rw [Nat.sub_self]; exact z4 f⟩
  · have s3' : s < 300 := by omega
    have base : ∀ w, lz_MS I N A0 A dr s m 0 w → lt_gi w 234 (60 + 6 * k) = nI (lw_op I k) := fun w hS => by
      have := hS.2.2.2.2.2.2 k (by omega) 0 (by decide)
      rw [Nat.add_zero] at this; rw [this, hk.1]
    by_cases q19 : lw_op I k = 19
    · refine ⟨A, dr, s + 1, m, true, 0, hO, rfl, hd, by omega, by omega, ⟨(fun z => by cases z), Or.inl rfl⟩, fun dd x3 c e w y1 y2 y3 y4 y5 hS => ?_, fun w g hg hS => ?_⟩
      · obtain ⟨a1, a2, a3, a4, a5⟩ := hS
        have hF : lz_Fc w (lt_si (lt_si w 169 5 (nI (s + 1))) 169 4 1) := ((lz_Fc.refl w).si (by decide) (by decide)).si (by decide) (by decide)
        have hwd : lt_gi w 22 (lw_phi I k) = 23 := by
          have := (a5 k (by omega) hq18).1
          rw [q19] at this; exact this
        refine ⟨1, lt_si (lt_si w 169 5 (nI (s + 1))) 169 4 1, by omega, ⟨⟨(a1.1.out (by omega)).out (by omega), ?_, ?_⟩, lu_eq, ?_, ?_, lz_ciF a5 hF⟩, hF, (fun z => by cases z), fun _ f => ?_⟩
        · rw [lu_ne (by omega), lu_ne (by omega)]; exact a1.2.1
        · rw [lu_ne (by omega), lu_ne (by omega)]; exact a1.2.2
        · rw [lu_ne (by omega), lu_eq]
        · rw [lu_ne (by omega), lu_ne (by omega)]; exact a4
        · rw [lz_6 hσ (by omega) (by omega) y5 a2 a3 s3', hwd, if_neg (by decide)]
          have eg : f_X2_goStep σ 169 (nI (lw_phi I k)) (lt_si w 169 5 (nI (s + 1))) = some (lt_si (lt_si w 169 5 (nI (s + 1))) 169 4 1) := by
            unfold f_X2_goStep fb_X2_goStep_0
            rw [lq_r169_1 hσ, lq_r21_2 hσ, lq_l22 hσ, lu_ck (by omega) (by decide), nI_clamp (by omega), lu_ne (by omega), hwd, if_neg (by decide), if_neg (by decide), if_neg (by decide), if_neg (by decide), if_neg (by decide), if_neg (by decide)]
            rfl
          rw [eg, lu_bind]
          exact lz_6o lu_eq
      · have e0' := base w hS
        obtain ⟨a1, a2, a3, a4, a5, a6, a7⟩ := hS
        refine ⟨g, lt_si w 233 35 (nI (s + 1)), ⟨⟨a1.1.outA (by decide), (lu_ne (by omega)).trans a1.2.1, (lu_ne (by omega)).trans a1.2.2.1, (lu_ne (by omega)).trans a1.2.2.2.1, (lu_ne (by omega)).trans a1.2.2.2.2⟩, lu_eq, (lu_ne (by omega)).trans a3, (lu_ne (by omega)).trans a4, fun j hj => by rw [lu_ne (by omega)]; exact a5 j hj, (lu_ne (by omega)).trans a6, fun j hj i hi => (lu_ne (by omega)).trans (a7 j hj i hi)⟩, ⟨fun _ _ => rfl, fun a j _ z _ _ => lu_ne (by omega)⟩, fun j _ => lu_ne (by omega), fun _ => rfl, (fun _ z => by cases z), (fun z => by cases z), fun _ f => ?_⟩
        rw [lz_Pi hσ hg a6 hN6 (by omega) e0' hq18 hq9, lz_32 hσ a6 hN6 (by omega) e0' a2 hs hq9, if_neg s3, if_pos q19]
    · have hop : lz_op (lw_op I k) := by
        obtain ⟨-, hk⟩ := hk
        unfold lz_op
        rcases hk with h | ⟨h | h, -⟩ | h | h | h | h | h | h | ⟨⟨h | h | h, -⟩ | h, -⟩ <;> omega
      obtain ⟨o1, o2, o3⟩ := lz_do_ok hk hO hd hop
      refine ⟨(lz_do I k A dr).1, (lz_do I k A dr).2.1, s + 1, m + (if (lz_do I k A dr).2.2 = true then 0 else 1), false, 0, o1, o2, o3, by omega, by omega, ⟨fun _ => rfl, Or.inl rfl⟩, fun dd x3 c e w y1 y2 y3 y4 y5 hS => ?_, fun w g hg hS => ?_⟩
      · obtain ⟨a1, a2, a3, a4, a5⟩ := hS
        have hci := a5 k (by omega) hq18
        have hF1 : lz_Fc w (lt_si w 169 5 (nI (s + 1))) := (lz_Fc.refl w).si (by decide) (by decide)
        obtain ⟨w', b1, b2, b3, b4⟩ := lz_stepC hσ hk hop hO hd (s := lw_phi I k) (by omega) (lz_ciF a5 hF1 k (by omega) hq18) (w := lt_si w 169 5 (nI (s + 1))) (m := m) ⟨a1.1.out (by omega), (lu_ne (by omega)).trans a1.2.1, (lu_ne (by omega)).trans a1.2.2⟩
        have hwd := hci.1
        have n1 : ¬ (lt_gi w 22 (lw_phi I k) = 18 ∨ lt_gi w 22 (lw_phi I k) = 22) := by
          have : lt_gi w 22 (lw_phi I k) = lw_wd (lw_op I k) := hwd
          rw [this]
          unfold lz_op at hop
          rcases hop with q | q | q | q | q | q <;> (rw [q]; decide)
        refine ⟨1, w', by omega, ⟨b2, ?_, ?_, ?_, lz_ciF a5 (hF1.trans b3)⟩, hF1.trans b3, fun _ f => ?_, (fun z => by cases z)⟩
        · rw [b4 4 (by omega), lu_ne (by omega)]; exact a2
        · rw [b4 5 (by omega), lu_eq]
        · rw [b4 7 (by omega), lu_ne (by omega)]; exact a4
        · rw [lz_6 hσ (by omega) (by omega) y5 a2 a3 s3', if_neg n1, b1, lu_bind, p1]
      · have e0' := base w hS
        obtain ⟨a1, a2, a3, a4, a5, a6, a7⟩ := hS
        obtain ⟨w', b1, b2, b3⟩ := lz_stepM hσ (A0 := A0) hk hop hO hd (by omega) (w := lt_si w 233 35 (nI (s + 1))) (fun i hi => (lu_ne (by omega)).trans (a7 k (by omega) i hi)) ⟨a1.1.outA (by decide), (lu_ne (by omega)).trans a1.2.1, (lu_ne (by omega)).trans a1.2.2.1, (lu_ne (by omega)).trans a1.2.2.2.1, (lu_ne (by omega)).trans a1.2.2.2.2⟩
        obtain ⟨t1, t2, t3, t4, t5⟩ := b2
        have c : ∀ a j, ¬ (a = 234 ∧ j < 60 ∧ j ≠ 8 ∧ j ≠ 9) → ¬ (a = 233 ∧ (j = 34 ∨ j = 35)) → ¬ (a = 253 ∧ j ≤ 3) → lt_gi (lt_si w' 253 0 (lt_gi w 253 0 + (if (lz_do I k A dr).2.2 = true then 0 else 1))) a j = lt_gi w a j := fun a j z1 z2 z3 => by
          rw [lu_ne (by omega), b3.2 a j z1 (by omega) (by omega), lu_ne (by omega)]
        refine ⟨lt_fu, lt_si w' 253 0 (lt_gi w 253 0 + (if (lz_do I k A dr).2.2 = true then 0 else 1)), ⟨⟨t1.outA (by decide), (lu_ne (by omega)).trans t2, (lu_ne (Or.inr (by decide))).trans t3, (lu_ne (Or.inr (by decide))).trans t4, (lu_ne (Or.inr (by decide))).trans t5⟩, ?_, ?_, ?_, fun j hj => ?_, ?_, fun j hj i hi => ?_⟩, ⟨fun a j => b3.1 a j, fun a j z1 z2 z3 z4 => c a j z1 z2 (by omega)⟩, fun j _ => c _ _ (by omega) (by omega) (by omega), fun z => by omega, fun _ _ => by omega, fun _ f => ?_, (fun z => by cases z)⟩
        · rw [lu_ne (by omega), b3.2 _ _ (by omega) (by omega) (by omega), lu_eq]
        · rw [lu_eq, a3]
        · rw [c _ _ (by omega) (by omega) (by omega)]; exact a4
        · rw [c _ _ (by omega) (by omega) (by omega)]; exact a5 j hj
        · rw [c _ _ (by omega) (by omega) (by omega)]; exact a6
        · rw [c _ _ (by omega) (by omega) (by omega)]; exact a7 j hj i hi
        · have e0w : lt_gi (lt_si w' 253 0 (lt_gi w 253 0 + (if (lz_do I k A dr).2.2 = true then 0 else 1))) 234 (60 + 6 * k) = nI (lw_op I k) := by
            rw [c _ _ (by omega) (by omega) (by omega)]; exact e0'
          have ey : (if (if (lz_do I k A dr).2.2 = true then (1 : Int32) else 0) = 0 then (1 : Int32) else 0) = (if (lz_do I k A dr).2.2 = true then 0 else 1) := by
            cases (lz_do I k A dr).2.2 <;> rfl
          rw [show s + 1 - s = 1 by omega, lz_Pi hσ hg a6 hN6 (by omega) e0' hq18 hq9, lz_32 hσ a6 hN6 (by omega) e0' a2 hs hq9, if_neg s3, if_neg q19, b1, lu_bind]
          show fb_X12_lives_111 σ 233 _ (nI k) (nI (60 + 6 * k)) 253 0 (lt_gi w 253 0) (if (if (lz_do I k A dr).2.2 = true then (1 : Int32) else 0) = 0 then 1 else 0) w' = _
          rw [ey]
          unfold fb_X12_lives_111 fb_X12_lives_140 fb_X12_lives_174
          rw [lq_l253 hσ]
          show lt_ck (nI 0) 5 _ = _
          rw [lz_k5 (by decide), lu_let, lr_mS hσ, lz_k2560 (by omega), nI_clamp (by omega), lr_at hσ]
          show (if lt_gi (lt_si w' 253 0 (lt_gi w 253 0 + (if (lz_do I k A dr).2.2 = true then 0 else 1))) 234 (60 + 6 * k) = 17 then _ else _) = _
          rw [e0w, if_neg (show ¬ nI (lw_op I k) = 17 from fun z => hq17 ((nI_eq (b := 17) hq9 (by decide)).mp z)), lz_k2560 (by omega)]
          show (if lt_gi (lt_si w' 253 0 (lt_gi w 253 0 + (if (lz_do I k A dr).2.2 = true then 0 else 1))) 234 (60 + 6 * k) < 1600 then _ else _) = _
          rw [e0w, if_pos (show nI (lw_op I k) < 1600 from nI_lt (b := 1600) hq16 (by decide)), nI_1]
          rfl
end LI