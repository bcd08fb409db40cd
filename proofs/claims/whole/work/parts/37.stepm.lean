/-! THE WEEKS LIVED: a step without a block, the reference -/
theorem lz_r1 (x y z : Int32) : (x - z) + y = (x + y) - z := by grind
theorem lz_r2 (x c y : Int32) : (x - c) + y = x - (c - y) := by grind
theorem lz_r3 (x y z : Int32) : (x + y) + z = x + (y + z) := by grind
def lz_M (A0 A : la_A) (d : Nat) (w : lt_W) : Prop := lm_T w 234 0 A ∧ lt_gi w 233 34 = nI d ∧ lt_gi w 253 1 = A.1 6 - A0.1 6 ∧ lt_gi w 253 2 = A.1 7 - A0.1 7 ∧ lt_gi w 253 3 = lz_c A0 - lz_c A
def lz_Fm (w w' : lt_W) : Prop := (∀ a k, lt_gl w' a k = lt_gl w a k) ∧ ∀ a k, ¬ (a = 234 ∧ k < 60 ∧ k ≠ 8 ∧ k ≠ 9) → ¬ (a = 233 ∧ k = 34) → ¬ (a = 253 ∧ 1 ≤ k ∧ k ≤ 3) → lt_gi w' a k = lt_gi w a k
theorem lz_Fm.refl (w : lt_W) : lz_Fm w w := ⟨fun _ _ => rfl, fun _ _ _ _ _ => rfl⟩
theorem lz_Fm.trans {w w' w'' : lt_W} (h : lz_Fm w w') (h' : lz_Fm w' w'') : lz_Fm w w'' := ⟨fun a k => (h'.1 a k).trans (h.1 a k), fun a k z z2 z3 => (h'.2 a k z z2 z3).trans (h.2 a k z z2 z3)⟩
theorem lz_Fm.D {w w' : lt_W} (h : lm_D 234 w w') : lz_Fm w w' := ⟨h.1, fun a k z _ _ => h.2 a k (by omega)⟩
theorem lz_Fm.r {w w' : lt_W} {k : Nat} {v : Int32} (h : lz_Fm w w') (h1 : 1 ≤ k) (h3 : k ≤ 3) : lz_Fm w (lt_si w' 253 k v) := ⟨h.1, fun a j z z2 z3 => by rw [lu_ne (by omega)]; exact h.2 a j z z2 z3⟩
theorem lz_Fm.d {w w' : lt_W} {v : Int32} (h : lz_Fm w w') : lz_Fm w (lt_si w' 233 34 v) := ⟨h.1, fun a j z z2 z3 => by rw [lu_ne (by omega)]; exact h.2 a j z z2 z3⟩
theorem lz_Fm.t {w w' : lt_W} {k : Nat} {v : Int32} (h : lz_Fm w w') (h1 : k < 60) (h8 : k ≠ 8) (h9 : k ≠ 9) : lz_Fm w (lt_si w' 234 k v) := ⟨h.1, fun a j z z2 z3 => by rw [lu_ne (by omega)]; exact h.2 a j z z2 z3⟩
theorem lz_days_6 {A : la_A} (k : Nat) : (la_days A k).1 6 = A.1 6 + nI k := by
  induction k with
  | zero => exact (Int32.add_zero _).symm
  | succ k ih =>
    show (la_day (la_days A k)).1 6 = _
    rw [lz_day_6, ih, lz_r3, nI_1]
section LM
variable {σ : lt_S}
theorem lz_k5 {α : Type} {i : Nat} (h : i < 5) (y : Option α) : lt_ck (nI i) 5 y = y := lu_ck h (by decide)
set_option maxHeartbeats 4000000 in
theorem lz_daysM (hσ : lr_S σ) {A0 A : la_A} {d n : Nat} {w : lt_W} (hO : la_Ok A) (hn : n ≤ 20) (h : lz_M A0 A d w) : ∃ w', f_X12_daysBy σ 233 (nI n) w = some (if A.1 6 + nI n ≤ 9999 then 1 else 0, w') ∧ lz_M A0 (if A.1 6 + nI n ≤ 9999 then la_days A n else A) d w' ∧ lz_Fm w w' := by
  have h7 := hO.2.1
  unfold f_X12_daysBy fb_X12_daysBy_0
  rw [lr_mS hσ, lm_k6, lr_at hσ]
  show ∃ w', (if lt_gi w 234 6 + nI n ≤ 9999 then _ else _) = _ ∧ _
  have e6 : lt_gi w 234 6 = A.1 6 := by
    have := lm_hd (lr_mT hσ h.1) (k := 6) (by decide)
    rw [lr_at hσ] at this; exact this
  rw [e6]
  by_cases c : A.1 6 + nI n ≤ 9999
  · rw [if_pos c, if_pos c, if_pos c]
    have loop : ∀ r k f u, k + r = n → r < f → (lm_T u 234 0 (la_days A k) ∧ lt_gi u 233 34 = nI d ∧ lt_gi u 253 1 = A.1 6 - A0.1 6 ∧ lt_gi u 253 2 = (la_days A k).1 7 - A0.1 7 ∧ lt_gi u 253 3 = lz_c A0 - lz_c (la_days A k)) → lz_Fm w u → ∃ w', fb_X12_daysBy_19 σ 233 f (nI n) (nI k) u = some (1, w') ∧ lz_M A0 (la_days A n) d w' ∧ lz_Fm w w' := by
      intro r
      induction r with
      | zero =>
        intro k f u hk hf ⟨p1, p2, p3, p4, p5⟩ hF
        obtain ⟨f, rfl⟩ : ∃ g, f = g + 1 := ⟨f - 1, by omega⟩
        obtain rfl : k = n := by omega
        rw [fb_X12_daysBy_19, if_pos (nI_le (Nat.le_refl _) (by omega)), lq_r233_37 hσ, lq_l253 hσ]
        show ∃ w', lt_ck (nI 1) 5 (lt_ck (nI 1) 5 _) = _ ∧ _
        rw [lz_k5 (by decide), lz_k5 (by decide), lu_let]
        refine ⟨_, rfl, ⟨p1.outA (by decide), (lu_ne (by omega)).trans p2, ?_, (lu_ne (Or.inr (by decide))).trans p4, (lu_ne (Or.inr (by decide))).trans p5⟩, hF.r (by decide) (by decide)⟩
        show lt_gi (lt_si u 253 1 (lt_gi u 253 1 + nI k)) 253 1 = _
        rw [lu_eq, p3, lz_r1, lz_days_6]
      | succ r ih =>
        intro k f u hk hf ⟨p1, p2, p3, p4, p5⟩ hF
        obtain ⟨f, rfl⟩ : ∃ g, f = g + 1 := ⟨f - 1, by omega⟩
        have hOk := la_Ok_days hO k
        obtain ⟨v, e1, e2, e3⟩ := m_day hσ p1 hOk
        have hn' : la_n (la_days A k) = la_n A := la_n_days k
        rw [fb_X12_daysBy_19, if_neg (nI_ge (by omega) (by omega)), e1, lu_bind, lq_r233_37 hσ, lq_l253 hσ]
        have v2 : lt_gi v 253 2 = (la_days A k).1 7 - A0.1 7 := (e3.2 _ _ (by omega)).trans p4
        have v3 : lt_gi v 253 3 = lz_c A0 - lz_c (la_days A k) := (e3.2 _ _ (by omega)).trans p5
        have e7 := lz_day_7 (A := la_days A k) (by omega)
        have ec := lz_day_c (A := la_days A k)
        -- the end of a day
        have fin : ∀ y y', y = (if la_e (la_first (la_days A k)) = -1 then (0 : Int32) else 1) → y' = lz_y (la_days A k) → ∃ w', fb_X12_daysBy_73 σ 233 (fun x1 x2 w => fb_X12_daysBy_19 σ 233 f x1 x2 w) (nI n) (nI k) 253 3 (lt_gi (lt_si v 253 2 (lt_gi v 253 2 + y)) 253 3) y' (lt_si v 253 2 (lt_gi v 253 2 + y)) = some (1, w') ∧ lz_M A0 (la_days A n) d w' ∧ lz_Fm w w' := by
          intro y y' hy hy'
          unfold fb_X12_daysBy_73
          rw [lq_l253 hσ]
          show ∃ w', lt_ck (nI 3) 5 _ = _ ∧ _
          rw [lz_k5 (by decide), lu_let, nI_1]
          refine ih (k + 1) f _ (by omega) (by omega) ⟨(e2.outA (by decide)).outA (by decide), ?_, ?_, ?_, ?_⟩ (((hF.trans (lz_Fm.D e3)).r (by decide) (by decide)).r (by decide) (by decide))
          · rw [lu_ne (by omega), lu_ne (by omega), e3.2 _ _ (by omega)]; exact p2
          · rw [lu_ne (Or.inr (by decide)), lu_ne (Or.inr (by decide)), e3.2 _ _ (by omega)]; exact p3
          · rw [lu_ne (Or.inr (by decide)), lu_eq, v2, hy, lz_r1, ← e7]; rfl
          · show lt_gi (lt_si _ 253 3 _) 253 3 = _
            rw [lu_eq, lu_ne (Or.inr (by decide)), v3, hy', lz_r2, ← ec]; rfl
        have op46 : ∀ y, fb_X12_daysBy_46 σ 233 (fun x1 x2 w => fb_X12_daysBy_19 σ 233 f x1 x2 w) (nI n) (nI k) (la_e (la_first (la_days A k))) 253 2 (lt_gi v 253 2) y v = if la_e (la_first (la_days A k)) = -1 then fb_X12_daysBy_73 σ 233 (fun x1 x2 w => fb_X12_daysBy_19 σ 233 f x1 x2 w) (nI n) (nI k) 253 3 (lt_gi (lt_si v 253 2 (lt_gi v 253 2 + y)) 253 3) 0 (lt_si v 253 2 (lt_gi v 253 2 + y)) else Option.bind (f_X12_isHere σ 233 (la_e (la_first (la_days A k))) (lt_si v 253 2 (lt_gi v 253 2 + y))) (fun q3 => if q3 = 0 then fb_X12_daysBy_73 σ 233 (fun x1 x2 w => fb_X12_daysBy_19 σ 233 f x1 x2 w) (nI n) (nI k) 253 3 (lt_gi (lt_si v 253 2 (lt_gi v 253 2 + y)) 253 3) 1 (lt_si v 253 2 (lt_gi v 253 2 + y)) else fb_X12_daysBy_73 σ 233 (fun x1 x2 w => fb_X12_daysBy_19 σ 233 f x1 x2 w) (nI n) (nI k) 253 3 (lt_gi (lt_si v 253 2 (lt_gi v 253 2 + y)) 253 3) 0 (lt_si v 253 2 (lt_gi v 253 2 + y))) := by
          intro y
          unfold fb_X12_daysBy_46 fb_X12_daysBy_72
          rw [lq_l253 hσ, lq_r233_37 hσ, lq_l253 hσ]
          show lt_ck (nI 2) 5 _ = _
          rw [lz_k5 (by decide), lu_let]
          show lt_ck (nI 3) 5 _ = _
          rw [lz_k5 (by decide)]
          rfl
        show ∃ w', lt_ck (nI 2) 5 (if la_e (la_first (la_days A k)) = -1 then fb_X12_daysBy_46 σ 233 (fun x1 x2 w => fb_X12_daysBy_19 σ 233 f x1 x2 w) (nI n) (nI k) (la_e (la_first (la_days A k))) 253 2 (lt_gi v 253 2) 0 v else fb_X12_daysBy_46 σ 233 (fun x1 x2 w => fb_X12_daysBy_19 σ 233 f x1 x2 w) (nI n) (nI k) (la_e (la_first (la_days A k))) 253 2 (lt_gi v 253 2) 1 v) = _ ∧ _
        rw [lz_k5 (by decide), op46, op46]
        cases ef : la_first (la_days A k) with
        | none =>
          rw [ef] at fin
          rw [show la_e none = -1 from rfl, if_pos rfl, if_pos rfl]
          exact fin 0 0 (by rw [show la_e none = -1 from rfl, if_pos rfl]) (by unfold lz_y; rw [ef])
        | some j =>
          obtain ⟨q1, q2, q3⟩ := la_first_may (la_days A k) j ef
          have hne : ¬ la_e (some j) = -1 := lu_ne1 (show j < 2 ^ 31 by omega)
          rw [ef] at fin
          rw [if_neg hne, if_neg hne]
          have hd2 : la_n (la_day (la_days A k)) = la_n (la_days A k) := la_n_day
          have hw : lm_T (lt_si v 253 2 (lt_gi v 253 2 + 1)) 234 0 (la_day (la_days A k)) := e2.outA (by decide)
          have hh : la_here (la_day (la_days A k)) j = decide ((la_days A k).2 j 3 = 1) := by
            unfold la_day
            rw [la_eats_here, ef]
            exact la_cut_here q2
          show ∃ w', Option.bind (f_X12_isHere σ 233 (nI j) (lt_si v 253 2 (lt_gi v 253 2 + 1))) _ = _ ∧ _
          rw [lm_here (lr_mS hσ) (lr_mT hσ hw) (by omega), lu_bind, hh]
          by_cases c1 : (la_days A k).2 j 3 = 1
          · rw [show (if decide ((la_days A k).2 j 3 = 1) = true then (1 : Int32) else 0) = 1 by simp [c1], if_neg lu_10]
            exact fin 1 0 (by rw [if_neg hne]) (by unfold lz_y; rw [ef]; simp only []; rw [if_pos c1])
          · rw [show (if decide ((la_days A k).2 j 3 = 1) = true then (1 : Int32) else 0) = 0 by simp [c1], if_pos rfl]
            exact fin 1 1 (by rw [if_neg hne]) (by unfold lz_y; rw [ef]; simp only []; rw [if_neg c1])
    exact loop n 0 lt_fu w (by omega) (by unfold lt_fu; omega) h (lz_Fm.refl _)
  · rw [if_neg c, if_neg c, if_neg c]
    exact ⟨w, rfl, h, lz_Fm.refl _⟩

theorem lz_day1M (hσ : lr_S σ) {A0 A : la_A} {d : Nat} {w : lt_W} (hO : la_Ok A) (h : lz_M A0 A d w) : ∃ w', f_X12_daysBy σ 233 1 w = some (if A.1 6 + 1 ≤ 9999 then 1 else 0, w') ∧ lz_M A0 (if A.1 6 + 1 ≤ 9999 then la_day A else A) d w' ∧ lz_Fm w w' :=
  lz_daysM hσ (n := 1) hO (by decide) h
theorem lz_cutM (hσ : lr_S σ) {A0 A : la_A} {d j : Nat} {w : lt_W} (hO : la_Ok A) (hj : j < la_n A) (h : lz_M A0 A d w) : ∃ w', f_X12_cutsBy σ 233 (nI j) w = some (if la_here A j = true ∧ A.1 5 = 0 then 1 else 0, w') ∧ lz_M A0 (if la_here A j = true ∧ A.1 5 = 0 then la_cut A j else A) d w' ∧ lz_Fm w w' := by
  have h7 := hO.2.1
  have h' := h
  obtain ⟨p1, p2, p3, p4, p5⟩ := h'
  unfold f_X12_cutsBy fb_X12_cutsBy_0
  rw [lm_canCut (lr_mS hσ) (lr_mT hσ p1) hj, lu_bind]
  by_cases c : la_here A j = true ∧ A.1 5 = 0
  · rw [if_pos c, if_neg lu_10, if_pos c, lq_r233_37 hσ, lq_l253 hσ]
    show ∃ w', lt_ck (nI 2) 5 (lt_ck (nI 2) 5 _) = _ ∧ _
    rw [lz_k5 (by decide), lz_k5 (by decide), lu_let]
    have hm := lm_cuts (w := lt_si w 253 2 (lt_gi w 253 2 + 1)) (lr_mS hσ) (lr_mT hσ (p1.outA (by decide))) hj
    rw [lr_at hσ] at hm
    obtain ⟨v, e1, e2, e3⟩ := hm
    show ∃ w', lt_ck (nI 3) 5 (Option.bind (f_X12_cuts1 σ 233 (nI j) (lt_si w 253 2 (lt_gi w 253 2 + 1))) _) = _ ∧ _
    rw [lz_k5 (by decide), e1, lu_bind]
    show ∃ w', lt_ck (nI 3) 5 _ = _ ∧ _
    rw [lz_k5 (by decide), lu_let]
    refine ⟨_, rfl, ⟨e2.outA (by decide), ?_, ?_, ?_, ?_⟩, (((lz_Fm.refl w).r (by decide) (by decide)).trans (lz_Fm.D e3)).r (by decide) (by decide)⟩
    · rw [lu_ne (by omega), e3.2 _ _ (by omega), lu_ne (by omega)]; exact p2
    · rw [lu_ne (Or.inr (by decide)), e3.2 _ _ (by omega), lu_ne (Or.inr (by decide)), la_cut_6]; exact p3
    · rw [lu_ne (Or.inr (by decide)), e3.2 _ _ (by omega), lu_eq, p4, lz_r1, la_cut_7]
    · show lt_gi (lt_si _ 253 3 (lt_gi (lt_si w 253 2 (lt_gi w 253 2 + 1)) 253 3 + _)) 253 3 = _
      rw [lu_eq, lu_ne (Or.inr (by decide)), p5, lz_r2, lz_c_cut hj c.1]
  · rw [if_neg c, if_pos rfl, if_neg c]
    exact ⟨w, rfl, h, lz_Fm.refl _⟩
theorem lz_M.t {A0 A B : la_A} {d k : Nat} {v : Int32} {w : lt_W} (h : lz_M A0 A d w) (hB : lm_T (lt_si w 234 k v) 234 0 B) (h6 : B.1 6 = A.1 6) (h7 : B.1 7 = A.1 7) (hc : lz_c B = lz_c A) : lz_M A0 B d (lt_si w 234 k v) :=
  ⟨hB, (lu_ne (by omega)).trans h.2.1, by rw [lu_ne (by omega), h6]; exact h.2.2.1, by rw [lu_ne (by omega), h7]; exact h.2.2.2.1, by rw [lu_ne (by omega), hc]; exact h.2.2.2.2⟩
theorem lz_c_c {A : la_A} {g f : Nat} {v : Int32} (h : f ≠ 5) : lz_c (la_c A g f v) = lz_c A := by
  unfold lz_c
  rw [la_here_c h]; rfl
theorem lz_c_h {A : la_A} {k : Nat} {v : Int32} (h : 0 < k) : lz_c (la_h A k v) = lz_c A := by
  unfold lz_c
  rw [la_here_h, la_n_h h]
set_option maxHeartbeats 2000000 in
theorem lz_anyM (hσ : lr_S σ) {A0 A : la_A} {d : Nat} {w : lt_W} (hO : la_Ok A) (hd : d < 65536) (h : lz_M A0 A d w) : ∃ w', f_X12_doesAny σ 233 w = some (if (lz_any A d).2.2 = true then 1 else 0, w') ∧ lz_M A0 (lz_any A d).1 (lz_any A d).2.1 w' ∧ lz_Fm w w' := by
  have h7 := hO.2.1
  have h' := h
  obtain ⟨p1, p2, p3, p4, p5⟩ := h'
  have e0 := lm_n (lr_mT hσ p1)
  rw [lr_at hσ] at e0
  unfold f_X12_doesAny fb_X12_doesAny_0 lz_any
  rw [lr_mS hσ, lm_k0, lm_c0, lr_at hσ, e0]
  by_cases n0 : la_n A = 0
  · rw [if_pos (show nI (la_n A) = 0 by rw [n0]; rfl), if_pos n0]
    exact ⟨w, rfl, h, lz_Fm.refl _⟩
  · rw [if_neg (nI_ne0 (by omega) (by omega)), if_neg n0, lm_k0, lz_dropM hd p2 (by omega) (by omega), lu_bind]
    have d2 := lz_dropM (σ := σ) (d := lz_dr d) (x := 16) (w := lt_si w 233 34 (nI (lz_dr d))) (lz_dr_lt d) lu_eq (by decide) (by decide)
    have d2' : f_X12_draw σ 233 16 (lt_si w 233 34 (nI (lz_dr d))) = _ := d2
    show ∃ u, Option.bind (f_X12_draw σ 233 16 (lt_si w 233 34 (nI (lz_dr d)))) _ = _ ∧ _
    rw [d2', lu_bind]
    have hu : lz_M A0 A (lz_dr (lz_dr d)) (lt_si (lt_si w 233 34 (nI (lz_dr d))) 233 34 (nI (lz_dr (lz_dr d)))) := by
      refine ⟨(p1.outA (by decide)).outA (by decide), lu_eq, ?_, ?_, ?_⟩
      · rw [lu_ne (by omega), lu_ne (by omega)]; exact p3
      · rw [lu_ne (by omega), lu_ne (by omega)]; exact p4
      · rw [lu_ne (by omega), lu_ne (by omega)]; exact p5
    have hF : lz_Fm w (lt_si (lt_si w 233 34 (nI (lz_dr d))) 233 34 (nI (lz_dr (lz_dr d)))) := ((lz_Fm.refl w).d).d
    generalize lt_si (lt_si w 233 34 (nI (lz_dr d))) 233 34 (nI (lz_dr (lz_dr d))) = u at hu hF
    have hg : lz_dr d / 8 % la_n A < la_n A := Nat.mod_lt _ (by omega)
    generalize lz_dr d / 8 % la_n A = g at hg
    have e1 : lt_gi u 234 1 = A.1 1 := by
      have := lm_hd (lr_mT hσ hu.1) (k := 1) (by decide)
      rw [lr_at hσ] at this; exact this
    rw [lm_k1]
    show ∃ u', (if nI (lz_dr (lz_dr d) / 8 % 16) < lt_gi u 234 1 then _ else _) = _ ∧ _
    rw [e1]
    by_cases c : nI (lz_dr (lz_dr d) / 8 % 16) < A.1 1
    · rw [if_pos c, if_pos c]
      show ∃ u', Option.bind (f_X12_isHere σ 233 (nI g) u) _ = _ ∧ _
      rw [lm_here (lr_mS hσ) (lr_mT hσ hu.1) hg, lu_bind]
      by_cases ch : la_here A g = true
      · rw [if_pos ch, if_neg lu_10]
        show ∃ u', Option.bind (f_X12_guestOf σ 233 (nI g) 0 u) _ = _ ∧ _
        rw [lm_of (x := 0) (f := 0) (lr_mS hσ) (lr_mT hσ hu.1) hg rfl (by decide), lu_bind]
        by_cases c20 : A.2 g 0 = 20
        · rw [if_pos c20, if_neg (show ¬ (la_here A g = true ∧ ¬ A.2 g 0 = 20) from fun z => z.2 c20)]
          exact ⟨u, rfl, hu, hF⟩
        · rw [if_neg c20, if_pos (show la_here A g = true ∧ ¬ A.2 g 0 = 20 from ⟨ch, c20⟩)]
          have ea := lm_at (lr_mT hσ hu.1) hg (f := 0) (by decide)
          rw [lr_at hσ, Nat.add_zero] at ea
          show ∃ u', Option.bind (f_X12_guestRow (nI g)) _ = _ ∧ _
          rw [lm_row, lu_bind, lu_ck (by omega) (by decide), lu_ck (by omega) (by decide), lu_let, nI_clamp (by omega), ea]
          refine ⟨_, rfl, hu.t (hu.1.cell (by omega) (by decide)) rfl rfl (lz_c_c (by decide)), hF.t (by omega) (by omega) (by omega)⟩
      · rw [if_neg ch, if_pos rfl, if_neg (show ¬ (la_here A g = true ∧ ¬ A.2 g 0 = 20) from fun z => ch z.1)]
        exact ⟨u, rfl, hu, hF⟩
    · rw [if_neg c, if_neg c]
      obtain ⟨u', a1, a2, a3⟩ := lz_day1M hσ hO hu
      rw [a1, lu_bind]
      by_cases c6 : A.1 6 + 1 ≤ 9999
      · rw [if_pos c6] at a2
        rw [if_pos c6, if_pos c6]
        exact ⟨u', rfl, a2, hF.trans a3⟩
      · rw [if_neg c6] at a2
        rw [if_neg c6, if_neg c6]
        exact ⟨u', rfl, a2, hF.trans a3⟩
set_option maxHeartbeats 4000000 in
theorem lz_stepM (hσ : lr_S σ) {I : Nat → Nat → Int32} {k : Nat} {A0 A : la_A} {d : Nat} {w : lt_W} (hk : lw_ok I (la_n A) k) (hq : lz_op (lw_op I k)) (hO : la_Ok A) (hd : d < 65536) (h60 : k < 60) (hp : ∀ i, i < 6 → lt_gi w 234 (60 + 6 * k + i) = I k i) (h : lz_M A0 A d w) : ∃ w', f_X12_does σ 233 (nI (60 + 6 * k)) w = some (if (lz_do I k A d).2.2 = true then 1 else 0, w') ∧ lz_M A0 (lz_do I k A d).1 (lz_do I k A d).2.1 w' ∧ lz_Fm w w' := by
  have h' := h
  obtain ⟨p1, p2, p3, p4, p5⟩ := h'
  have h7 := hO.2.1
  obtain ⟨hk0, hk⟩ := hk
  unfold lz_op at hq
  have O : f_X12_does σ 233 (nI (60 + 6 * k)) w = (if I k 0 = 6 then Option.bind (f_X12_passes σ 233 (I k 1) (I k 2) w) (fun q5 => lt_bz q5.1 (some (q5.1, q5.2))) else if I k 0 = 11 then Option.bind (f_X12_daysBy σ 233 (I k 1) w) (fun q8 => lt_bz q8.1 (some (q8.1, q8.2))) else if I k 0 = 12 then Option.bind (f_X12_cutsBy σ 233 (I k 1) w) (fun q11 => lt_bz q11.1 (some (q11.1, q11.2))) else if I k 0 = 13 then Option.bind (f_X12_fedBy σ 233 (I k 1) w) (fun q14 => lt_bz q14.1 (some (q14.1, q14.2))) else if I k 0 = 14 then Option.bind (f_X12_bakes σ 233 (I k 1) w) (fun q17 => lt_bz q17.1 (some (q17.1, q17.2))) else if I k 0 = 15 then Option.bind (f_X12_doesAny σ 233 w) (fun q20 => lt_bz q20.1 (some (q20.1, q20.2))) else some (1, w)) := by
    unfold f_X12_does fb_X12_does_0
    rw [lr_mS hσ, lm_a1, lu_ck (by omega) (by decide), lu_let, lm_a2, lu_ck (by omega) (by decide), lu_ck (by omega) (by decide), lr_at hσ, nI_clamp (by omega), nI_clamp (by omega), nI_clamp (by omega), hp 1 (by decide), hp 2 (by decide)]
    have := hp 0 (by decide)
    rw [Nat.add_zero] at this
    rw [this]
  rw [O, hk0]
  clear O
  unfold lz_do
  rcases hk with ⟨q, j, j1, j20, ej⟩ | ⟨q | q, j, hj, ej⟩ | ⟨q, ⟨j, hj, ej⟩, ⟨t, ht, et⟩, hne⟩ | ⟨q, j, j1, j60, ej⟩ | q | q | ⟨q, -⟩ | ⟨q, -⟩ | ⟨⟨q, -⟩ | q, -⟩
  · rw [q, if_neg (show ¬ nI 11 = 6 by decide), if_pos (show nI 11 = 11 from rfl), if_neg (show ¬ (11 : Nat) = 6 by decide), if_pos (show (11 : Nat) = 11 from rfl), ej, nI_clamp (by omega)]
    obtain ⟨u, a1, a2, a3⟩ := lz_daysM hσ hO j20 h
    rw [a1, lu_bind]
    by_cases c6 : A.1 6 + nI j ≤ 9999
    · rw [if_pos c6] at a2
      rw [if_pos c6, if_pos c6]
      exact ⟨u, rfl, a2, a3⟩
    · rw [if_neg c6] at a2
      rw [if_neg c6, if_neg c6]
      exact ⟨u, rfl, a2, a3⟩
  · rw [q, if_neg (show ¬ nI 12 = 6 by decide), if_neg (show ¬ nI 12 = 11 by decide), if_pos (show nI 12 = 12 from rfl), if_neg (show ¬ (12 : Nat) = 6 by decide), if_neg (show ¬ (12 : Nat) = 11 by decide), if_pos (show (12 : Nat) = 12 from rfl), ej, nI_clamp (by omega)]
    obtain ⟨u, a1, a2, a3⟩ := lz_cutM hσ hO hj h
    rw [a1, lu_bind]
    by_cases c : la_here A j = true ∧ A.1 5 = 0
    · rw [if_pos c] at a2
      rw [if_pos c, if_pos c]
      exact ⟨u, rfl, a2, a3⟩
    · rw [if_neg c] at a2
      rw [if_neg c, if_neg c]
      exact ⟨u, rfl, a2, a3⟩
  · rw [q, if_neg (show ¬ nI 13 = 6 by decide), if_neg (show ¬ nI 13 = 11 by decide), if_neg (show ¬ nI 13 = 12 by decide), if_pos (show nI 13 = 13 from rfl), if_neg (show ¬ (13 : Nat) = 6 by decide), if_neg (show ¬ (13 : Nat) = 11 by decide), if_neg (show ¬ (13 : Nat) = 12 by decide), if_pos (show (13 : Nat) = 13 from rfl), ej, nI_clamp (by omega), lm_fedBy (lr_mS hσ) (lr_mT hσ p1) hj, lu_bind]
    by_cases c : la_here A j = true ∧ ¬ A.2 j 4 = 0
    · rw [if_pos c, if_pos c, lr_at hσ]
      exact ⟨_, rfl, h.t (p1.cell (by omega) (by decide)) rfl rfl (lz_c_c (by decide)), (lz_Fm.refl w).t (by omega) (by omega) (by omega)⟩
    · rw [if_neg c, if_neg c]
      exact ⟨w, rfl, h, lz_Fm.refl _⟩
  · rw [q, if_pos (show nI 6 = 6 from rfl), if_pos (show (6 : Nat) = 6 from rfl), ej, nI_clamp (by omega), lm_passes (lr_mS hσ) (lr_mT hσ p1) hj, lu_bind, lr_at hσ]
    have hu : lz_M A0 (la_c A j 6 (I k 2)) d (lt_si w 234 (10 + 7 * j + 6) (I k 2)) := h.t (p1.cell (by omega) (by decide)) rfl rfl (lz_c_c (by decide))
    by_cases c : A.2 j 6 = I k 2
    · rw [if_pos c, show decide (¬ A.2 j 6 = I k 2) = false by simp [c]]
      exact ⟨_, rfl, hu, (lz_Fm.refl w).t (by omega) (by omega) (by omega)⟩
    · rw [if_neg c, show decide (¬ A.2 j 6 = I k 2) = true by simp [c]]
      exact ⟨_, rfl, hu, (lz_Fm.refl w).t (by omega) (by omega) (by omega)⟩
  · rw [q, if_neg (show ¬ nI 14 = 6 by decide), if_neg (show ¬ nI 14 = 11 by decide), if_neg (show ¬ nI 14 = 12 by decide), if_neg (show ¬ nI 14 = 13 by decide), if_pos (show nI 14 = 14 from rfl), if_neg (show ¬ (14 : Nat) = 6 by decide), if_neg (show ¬ (14 : Nat) = 11 by decide), if_neg (show ¬ (14 : Nat) = 12 by decide), if_neg (show ¬ (14 : Nat) = 13 by decide), if_pos (show (14 : Nat) = 14 from rfl)]
    have e4 := lm_hd (lr_mT hσ p1) (k := 4) (by decide)
    rw [lr_at hσ] at e4
    have hu : lz_M A0 (la_h A 4 (I k 1)) d (lt_si w 234 4 (I k 1)) := h.t (p1.hd rfl (by decide) (by decide)) rfl rfl (lz_c_h (by decide))
    unfold f_X12_bakes fb_X12_bakes_0 fb_X12_bakes_15
    rw [lr_mS hσ, lm_k4, lm_k4, lm_k4, lm_c4, lr_at hσ, e4, lu_let]
    by_cases c : A.1 4 = I k 1
    · rw [if_pos c, show decide (¬ A.1 4 = I k 1) = false by simp [c]]
      exact ⟨_, rfl, hu, (lz_Fm.refl w).t (by decide) (by decide) (by decide)⟩
    · rw [if_neg c, show decide (¬ A.1 4 = I k 1) = true by simp [c]]
      exact ⟨_, rfl, hu, (lz_Fm.refl w).t (by decide) (by decide) (by decide)⟩
  · rw [q, if_neg (show ¬ nI 15 = 6 by decide), if_neg (show ¬ nI 15 = 11 by decide), if_neg (show ¬ nI 15 = 12 by decide), if_neg (show ¬ nI 15 = 13 by decide), if_neg (show ¬ nI 15 = 14 by decide), if_pos (show nI 15 = 15 from rfl), if_neg (show ¬ (15 : Nat) = 6 by decide), if_neg (show ¬ (15 : Nat) = 11 by decide), if_neg (show ¬ (15 : Nat) = 12 by decide), if_neg (show ¬ (15 : Nat) = 13 by decide), if_neg (show ¬ (15 : Nat) = 14 by decide)]
    obtain ⟨u, a1, a2, a3⟩ := lz_anyM hσ hO hd h
    rw [a1, lu_bind]
    refine ⟨u, ?_, a2, a3⟩
    cases (lz_any A d).2.2 <;> rfl
  all_goals omega
end LM