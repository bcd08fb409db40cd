/-! the last shape, the world behind both constructors -/
def ly_F : lt_S := ly_S 255 241
def ly_ok (a k : Nat) : Bool := (a == 128) || ly_p.any (fun q => q.1 == a && q.2 == k)
theorem ly_okE {a k : Nat} (h : ly_ok a k = true) : a = 128 ∨ (a, k) ∈ ly_p.take 241 := by
  unfold ly_ok at h
  rcases Bool.or_eq_true_iff.mp h with z | z
  · exact Or.inl (beq_iff_eq.mp z)
  · obtain ⟨q, hq, z⟩ := List.any_eq_true.mp z
    have z := Bool.and_eq_true_iff.mp z
    have e1 : q.1 = a := beq_iff_eq.mp z.1
    have e2 : q.2 = k := beq_iff_eq.mp z.2
    have ht : ly_p.take 241 = ly_p := List.take_of_length_le (by decide +kernel)
    rw [ht, ← e1, ← e2]
    exact Or.inr hq
theorem ly_rvB : (List.range 255).all (fun a => (List.range (lr_rf.getD a []).length).all (fun k => ly_ok a k || ((lr_rf.getD a []).getD k 0 == 0))) = true := by decide +kernel
theorem ly_rv241 : ∀ a, a < 255 → ∀ k, k < 41 → (a = 128 ∨ (a, k) ∈ ly_p.take 241) ∨ (lr_rf.getD a []).getD k 0 = 0 := fun a ha k _ => by
  by_cases hk : k < (lr_rf.getD a []).length
  · have h := List.all_eq_true.mp (List.all_eq_true.mp ly_rvB a (List.mem_range.mpr ha)) k (List.mem_range.mpr hk)
    rcases Bool.or_eq_true_iff.mp h with z | z
    · exact Or.inl (ly_okE z)
    · exact Or.inr (beq_iff_eq.mp z)
  · refine Or.inr ?_
    rw [List.getD_eq_getElem?_getD, List.getElem?_eq_none (by omega)]; rfl
theorem ly_FS : lr_S ly_F := fun a ha => ⟨ly_c ha, rfl, fun k hk => by
  rcases ly_rv241 a ha k hk with z | z
  · show (lt_rv (ly_S 255 241) a k).getD 0 = _
    rw [ly_rv1 z]; rfl
  · show (lt_rv (ly_S 255 241) a k).getD 0 = _
    rw [z]
    by_cases y : a = 128 ∨ (a, k) ∈ ly_p.take 241
    · rw [ly_rv1 y]; exact z
    · rw [ly_rv0 y]; rfl⟩
theorem ly_rt41 : ∀ c k, 41 ≤ k → lt_rt c k = 99 := fun c k hk => by
  have h : ∀ r ∈ lt_rtl, r.length ≤ 41 := by decide
  unfold lt_rt
  rw [List.getD_eq_getElem?_getD, List.getD_eq_getElem?_getD]
  cases e : lt_rtl[c]? with
  | none => rfl
  | some r =>
    rw [Option.getD_some, List.getElem?_eq_none (Nat.le_trans (h r (List.mem_of_getElem? e)) hk)]; rfl
theorem ly_W1B : (List.range 255).all (fun a => (List.range 41).all (fun k => (lt_rt (lr_cl.getD a 99) k == 99) || (ly_ok a k && (Nat.blt ((lr_rf.getD a []).getD k 0) 255 && (lr_cl.getD ((lr_rf.getD a []).getD k 0) 99 == lt_rt (lr_cl.getD a 99) k))))) = true := by decide +kernel
theorem ly_blt {a b : Nat} (h : Nat.blt a b = true) : a < b := Nat.le_of_ble_eq_true h
theorem ly_W1 (a : Nat) (ha : a < 255) (k : Nat) (hk : k < 41) (hn : lt_rt (lr_cl.getD a 99) k ≠ 99) : (a = 128 ∨ (a, k) ∈ ly_p.take 241) ∧ (lr_rf.getD a []).getD k 0 < 255 ∧ lr_cl.getD ((lr_rf.getD a []).getD k 0) 99 = lt_rt (lr_cl.getD a 99) k := by
  have h := List.all_eq_true.mp (List.all_eq_true.mp ly_W1B a (List.mem_range.mpr ha)) k (List.mem_range.mpr hk)
  rcases Bool.or_eq_true_iff.mp h with z | z
  · exact absurd (beq_iff_eq.mp z) hn
  · have z1 := Bool.and_eq_true_iff.mp z
    have z2 := Bool.and_eq_true_iff.mp z1.2
    exact ⟨ly_okE z1.1, ly_blt z2.1, beq_iff_eq.mp z2.2⟩
theorem ly_W2B : (List.range 255).all (fun a => (!(Nat.ble 54 (lr_cl.getD a 99)) || !(Nat.ble (lr_cl.getD a 99) 57)) || (List.range (lr_ln.getD a 0)).all (fun k => ly_ok a k && (Nat.blt ((lr_rf.getD a []).getD k 0) 255 && (lr_cl.getD ((lr_rf.getD a []).getD k 0) 99 == lt_et (lr_cl.getD a 99))))) = true := by decide +kernel
theorem ly_W2 (a : Nat) (ha : a < 255) (h1 : 54 ≤ lr_cl.getD a 99) (h2 : lr_cl.getD a 99 ≤ 57) : ∀ k, k < lr_ln.getD a 0 → (a = 128 ∨ (a, k) ∈ ly_p.take 241) ∧ (lr_rf.getD a []).getD k 0 < 255 ∧ lr_cl.getD ((lr_rf.getD a []).getD k 0) 99 = lt_et (lr_cl.getD a 99) := fun k hk => by
  have h := List.all_eq_true.mp ly_W2B a (List.mem_range.mpr ha)
  rw [Nat.ble_eq_true_of_le h1, Nat.ble_eq_true_of_le h2, Bool.not_true, Bool.or_false, Bool.false_or] at h
  have h := List.all_eq_true.mp h k (List.mem_range.mpr hk)
  have z1 := Bool.and_eq_true_iff.mp h
  have z2 := Bool.and_eq_true_iff.mp z1.2
  exact ⟨ly_okE z1.1, ly_blt z2.1, beq_iff_eq.mp z2.2⟩
theorem ly_FT : lt_Wt ly_F := by
  refine ⟨fun a k h => ?_, fun a k h1 h2 hk => ?_⟩
  · by_cases ha : a < 255
    · have hc : lt_c ly_F a = lr_cl.getD a 99 := ly_c ha
      rw [hc] at h
      by_cases hk : k < 41
      · obtain ⟨z1, z2, z3⟩ := ly_W1 a ha k hk h
        have hr : lt_rv ly_F a k = some ((lr_rf.getD a []).getD k 0) := ly_rv1 z1
        have hr' : lt_r ly_F a k = (lr_rf.getD a []).getD k 0 := by unfold lt_r; rw [hr]; rfl
        rw [hr', hc]
        exact ⟨hr, (ly_c z2).trans z3⟩
      · exact absurd (ly_rt41 _ k (by omega)) h
    · have hc : lt_c ly_F a = 99 := ly_c9 (by omega)
      rw [hc] at h
      exact absurd (show lt_rt 99 k = 99 from rfl) h
  · by_cases ha : a < 255
    · have hc : lt_c ly_F a = lr_cl.getD a 99 := ly_c ha
      rw [hc] at h1 h2
      obtain ⟨z1, z2, z3⟩ := ly_W2 a ha h1 h2 k hk
      have hr : lt_rv ly_F a k = some ((lr_rf.getD a []).getD k 0) := ly_rv1 z1
      have hr' : lt_r ly_F a k = (lr_rf.getD a []).getD k 0 := by unfold lt_r; rw [hr]; rfl
      rw [hr', hc]
      exact ⟨hr, (ly_c z2).trans z3⟩
    · have hc : lt_c ly_F a = 99 := ly_c9 (by omega)
      rw [hc] at h2
      exact absurd h2 (by decide)
/-- the world before: nothing stands -/
def ly_w0 : lt_W := (fun _ _ => 0, fun _ _ => 0)
theorem ly_w0z (N : Nat) : ly_z ly_w0 N := fun _ _ _ => ⟨rfl, rfl⟩
theorem lyw_5_ne {o a k : Nat} {w : lt_W} (h : a ≠ o) : lt_gi (lyw_5 o w) a k = lt_gi w a k := by
  unfold lyw_5
  simp only [lt_gi, lt_si, h, false_and, if_false]
theorem lyw_5_gl {o a k : Nat} {w : lt_W} : lt_gl (lyw_5 o w) a k = lt_gl w a k := rfl
theorem ly_X11w (w : lt_W) : wI_X11_0 w = wI_X11_0 w := rfl
/-- the class's world -/
theorem ly_u1 {a k : Nat} (h : a ∉ lr_tabs) (h10 : a ≠ 10) : lt_gi (wI_X11_0 ly_w0) a k = 0 := by
  have n : ∀ o, o ∈ lr_tabs → a ≠ o := fun o ho z => h (z ▸ ho)
  unfold wI_X11_0 wI_X5_216 wI_X5_199 wI_X5_182 wI_X2_169 wI_X5_170 wI_X1_150 wI_X5_160 wI_X5_151 wI_X4_117 wI_X5_118 wI_X3_59 wI_X5_108 wI_X5_99 wI_X5_90 wI_X5_81 wI_X5_72 wI_X5_63 wI_X0_49 wI_X5_50 wI_X6_29 wI_X5_30 wI_X5_12 wI_X7_10
  rw [lyw_5_ne (n 216 (by decide)), lyw_5_ne (n 199 (by decide)), lyw_5_ne (n 182 (by decide)), lyw_5_ne (n 170 (by decide)), lyw_5_ne (n 160 (by decide)), lyw_5_ne (n 151 (by decide)), lyw_5_ne (n 118 (by decide)), lyw_5_ne (n 108 (by decide)), lyw_5_ne (n 99 (by decide)), lyw_5_ne (n 90 (by decide)), lyw_5_ne (n 81 (by decide)), lyw_5_ne (n 72 (by decide)), lyw_5_ne (n 63 (by decide)), lyw_5_ne (n 50 (by decide)), lyw_5_ne (n 30 (by decide)), lyw_5_ne (n 12 (by decide))]
  show (if a = 10 ∧ k = 10 then (-1 : Int32) else if a = 10 ∧ k = 9 then -1 else 0) = 0
  rw [if_neg (fun z => h10 z.1), if_neg (fun z => h10 z.1)]
theorem ly_u10 {k : Nat} : lt_gi (wI_X11_0 ly_w0) 10 k = if k = 10 then -1 else if k = 9 then -1 else 0 := by
  unfold wI_X11_0 wI_X5_216 wI_X5_199 wI_X5_182 wI_X2_169 wI_X5_170 wI_X1_150 wI_X5_160 wI_X5_151 wI_X4_117 wI_X5_118 wI_X3_59 wI_X5_108 wI_X5_99 wI_X5_90 wI_X5_81 wI_X5_72 wI_X5_63 wI_X0_49 wI_X5_50 wI_X6_29 wI_X5_30 wI_X5_12 wI_X7_10
  rw [lyw_5_ne (show (10 : Nat) ≠ 216 by decide), lyw_5_ne (show (10 : Nat) ≠ 199 by decide), lyw_5_ne (show (10 : Nat) ≠ 182 by decide), lyw_5_ne (show (10 : Nat) ≠ 170 by decide), lyw_5_ne (show (10 : Nat) ≠ 160 by decide), lyw_5_ne (show (10 : Nat) ≠ 151 by decide), lyw_5_ne (show (10 : Nat) ≠ 118 by decide), lyw_5_ne (show (10 : Nat) ≠ 108 by decide), lyw_5_ne (show (10 : Nat) ≠ 99 by decide), lyw_5_ne (show (10 : Nat) ≠ 90 by decide), lyw_5_ne (show (10 : Nat) ≠ 81 by decide), lyw_5_ne (show (10 : Nat) ≠ 72 by decide), lyw_5_ne (show (10 : Nat) ≠ 63 by decide), lyw_5_ne (show (10 : Nat) ≠ 50 by decide), lyw_5_ne (show (10 : Nat) ≠ 30 by decide), lyw_5_ne (show (10 : Nat) ≠ 12 by decide)]
  show (if 10 = 10 ∧ k = 10 then (-1 : Int32) else if 10 = 10 ∧ k = 9 then -1 else 0) = _
  by_cases z : k = 10
  · rw [if_pos ⟨rfl, z⟩, if_pos z]
  · rw [if_neg (fun y => z y.2), if_neg z]
    by_cases x : k = 9
    · rw [if_pos ⟨rfl, x⟩, if_pos x]
    · rw [if_neg (fun y => x y.2), if_neg x]
theorem ly_u12 {k : Nat} : lt_gi (wI_X11_0 ly_w0) 12 k = lt_gi (lyw_5 12 ly_w0) 12 k := by
  unfold wI_X11_0 wI_X5_216 wI_X5_199 wI_X5_182 wI_X2_169 wI_X5_170 wI_X1_150 wI_X5_160 wI_X5_151 wI_X4_117 wI_X5_118 wI_X3_59 wI_X5_108 wI_X5_99 wI_X5_90 wI_X5_81 wI_X5_72 wI_X5_63 wI_X0_49 wI_X5_50 wI_X6_29 wI_X5_30 wI_X5_12 wI_X7_10
  rw [lyw_5_ne (show (12 : Nat) ≠ 216 by decide), lyw_5_ne (show (12 : Nat) ≠ 199 by decide), lyw_5_ne (show (12 : Nat) ≠ 182 by decide), lyw_5_ne (show (12 : Nat) ≠ 170 by decide), lyw_5_ne (show (12 : Nat) ≠ 160 by decide), lyw_5_ne (show (12 : Nat) ≠ 151 by decide), lyw_5_ne (show (12 : Nat) ≠ 118 by decide), lyw_5_ne (show (12 : Nat) ≠ 108 by decide), lyw_5_ne (show (12 : Nat) ≠ 99 by decide), lyw_5_ne (show (12 : Nat) ≠ 90 by decide), lyw_5_ne (show (12 : Nat) ≠ 81 by decide), lyw_5_ne (show (12 : Nat) ≠ 72 by decide), lyw_5_ne (show (12 : Nat) ≠ 63 by decide), lyw_5_ne (show (12 : Nat) ≠ 50 by decide), lyw_5_ne (show (12 : Nat) ≠ 30 by decide)]
  unfold lyw_5
  simp only [lt_gi, lt_si, true_and]
  have h10 : ¬ (12 = 10) := by decide
  repeat (first | rfl | (split; rfl))
theorem ly_ul {a k : Nat} : lt_gl (wI_X11_0 ly_w0) a k = if a = 0 ∧ k = 2 then 1 else 0 := rfl
theorem lc_clearA {w : lt_W} (o : Nat) (h : ∀ k, lt_gi w o k = lt_gi (lyw_5 o ly_w0) o k) : lc_T w o la_0 := by
  refine ⟨rfl, by decide, fun k hk => ?_, ?_, fun g hg => absurd hg (Nat.not_lt_zero _)⟩
  · rw [h k]
    unfold lyw_5 la_0
    simp only [lt_gi, lt_si, true_and]
    rcases (by omega : k = 0 ∨ k = 1 ∨ k = 2 ∨ k = 3 ∨ k = 4 ∨ k = 5 ∨ k = 6 ∨ k = 7) with rfl | rfl | rfl | rfl | rfl | rfl | rfl | rfl <;> rfl
  · rw [h 8]
    unfold lyw_5
    simp only [lt_gi, lt_si, true_and]
    rfl
theorem ly_v3 {u : lt_W} {k : Nat} : lt_gi (wI_X12_233 u) 233 k = if k = 17 then -1 else if k = 16 then -1 else lt_gi u 233 k := by
  unfold wI_X12_233
  have n : ¬ ((233 : Nat) = 237) := by decide
  simp only [lt_gi, lt_si, lt_sl, true_and, n, false_and, if_false]
theorem ly_v7 {u : lt_W} {i : Nat} (hi : i < 4) : lt_gi (wI_X12_233 u) 237 i = -1 := by
  unfold wI_X12_233
  rcases (by omega : i = 0 ∨ i = 1 ∨ i = 2 ∨ i = 3) with rfl | rfl | rfl | rfl <;> simp [lt_gi, lt_si, lt_sl]
/-- what holds behind both constructors -/
theorem ly_R {r : lt_W} (hp : ∀ k, k < 428 → lt_gi r 234 (0 + k) = tm_pv k) (hF : lm_F 234 0 (0 + 428) (wI_X12_233 (wI_X11_0 ly_w0)) r) : lr_R r := by
  have g : ∀ a k, a ≠ 233 → a ≠ 234 → a ≠ 237 → lt_gi r a k = lt_gi (wI_X11_0 ly_w0) a k := fun a k h1 h2 h3 => by
    rw [hF.2 a k (Or.inl h2)]
    unfold wI_X12_233
    simp only [lt_gi, lt_si, lt_sl, h1, h3, false_and, if_false]
  have g3 : ∀ k, lt_gi r 233 k = if k = 17 then -1 else if k = 16 then -1 else 0 := fun k => by
    rw [hF.2 233 k (Or.inl (by decide))]
    rw [ly_v3, ly_u1 (a := 233) (k := k) (by decide) (by decide)]
  have g7 : ∀ i, i < 4 → lt_gi r 237 i = -1 := fun i hi => by
    rw [hF.2 237 i (Or.inl (by decide))]
    exact ly_v7 hi
  have gl : ∀ a k, lt_gl r a k = if a = 233 ∧ k = 4 then 1 else if a = 0 ∧ k = 2 then 1 else 0 := fun a k => by
    rw [hF.1 a k]; rfl
  have g1 : ∀ a k, a ≠ 233 → a ≠ 234 → a ≠ 237 → a ∉ lr_tabs → a ≠ 10 → lt_gi r a k = 0 := fun a k h1 h2 h3 h4 h5 => (g a k h1 h2 h3).trans (ly_u1 h4 h5)
  refine ⟨(g1 0 0 (by decide) (by decide) (by decide) (by decide) (by decide)).trans ((g3 2).trans rfl).symm, la_0, ⟨⟨la_Ok_0, lc_clearA 12 fun k => (g 12 k (by decide) (by decide) (by decide)).trans ly_u12, tm_plainT hp⟩, ?_, ?_, ?_, ?_, ?_, ?_, ?_, ?_⟩, ?_⟩
  · intro i hi
    refine Or.inl ⟨g1 _ 0 (by omega) (by omega) (by omega) ?_ (by omega), g7 i hi⟩
    rcases (by omega : i = 0 ∨ i = 1 ∨ i = 2 ∨ i = 3) with rfl | rfl | rfl | rfl <;> decide
  · exact ⟨0, by decide, ((g 10 1 (by decide) (by decide) (by decide)).trans ly_u10).trans rfl, (g3 10).trans rfl, fun k hk => absurd hk (Nat.not_lt_zero _)⟩
  · exact ⟨((g 10 9 (by decide) (by decide) (by decide)).trans ly_u10).trans ((g3 16).trans rfl).symm, ((g 10 10 (by decide) (by decide) (by decide)).trans ly_u10).trans ((g3 17).trans rfl).symm⟩
  · exact fun g hg => absurd hg (Nat.not_lt_zero _)
  · exact Or.inl ⟨g1 21 0 (by decide) (by decide) (by decide) (by decide) (by decide), hp 8 (by decide)⟩
  · exact ⟨0, by decide, g1 0 18 (by decide) (by decide) (by decide) (by decide) (by decide), (g3 40).trans rfl, fun j hj => absurd hj (Nat.not_lt_zero _)⟩
  · exact Or.inl ⟨g1 0 15 (by decide) (by decide) (by decide) (by decide) (by decide), (g3 39).trans rfl⟩
  · exact fun k hk => ⟨0, by decide, by decide, g1 252 k (by decide) (by decide) (by decide) (by decide) (by decide)⟩
  · exact ⟨(gl 0 1).trans ((gl 233 3).trans rfl).symm, (gl 0 2).trans ((gl 233 4).trans rfl).symm⟩
/-- both constructors' outcome -/
theorem ly_made : ∃ r, f_X12_plain ly_F 233 0 (wI_X12_233 (wI_X11_0 ly_w0)) = some r ∧ lr_R r := by
  obtain ⟨r, h1, h2, h3⟩ := tm_plain ly_FS (b := 0) (by decide) (wI_X12_233 (wI_X11_0 ly_w0))
  exact ⟨r, h1, ly_R h2 h3⟩
