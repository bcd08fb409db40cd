/-! GAMES: what both play; the class -/
abbrev gm_S : Type := Option (Int32 × Nat)
def gm_o (a b : Nat) (A : la_A) : Int32 := (if la_here (la_days A 10) a = true then 0 else 1) - (if la_here (la_days A 10) b = true then 0 else 1)
def gm_up (k : Nat) (s : gm_S) (v : Int32) (i : Nat) : gm_S := match s with | none => some (v, i) | some q => if (if k % 2 = 0 then q.1 < v else v < q.1) then some (v, i) else some q
def gm_fold (f : Nat → gm_S → gm_S) : Nat → gm_S | 0 => none | i + 1 => f i (gm_fold f i)
def gm_v (s : gm_S) : Int32 := match s with | none => 0 | some q => q.1
def gm_t (a b k : Nat) : Nat := if k % 2 = 0 then a else b
def gm_val (a b : Nat) : Nat → la_A → Nat → Int32
  | 0, A, _ => gm_o a b A
  | m + 1, A, k => gm_v (gm_fold (fun i s => if i = la_n A then gm_up k s (gm_val a b m A (k + 1)) i else if (la_here A i && decide (i ≠ gm_t a b k)) = true then gm_up k s (gm_val a b m (la_c A i 6 (nI (gm_t a b k))) (k + 1)) i else s) (la_n A + 1))
/-- one deed more, m turns behind it -/
def gm_st (a b m : Nat) (A : la_A) (k : Nat) (i : Nat) (s : gm_S) : gm_S := if i = la_n A then gm_up k s (gm_val a b m A (k + 1)) i else if (la_here A i && decide (i ≠ gm_t a b k)) = true then gm_up k s (gm_val a b m (la_c A i 6 (nI (gm_t a b k))) (k + 1)) i else s
theorem gm_val_s (a b m : Nat) (A : la_A) (k : Nat) : gm_val a b (m + 1) A k = gm_v (gm_fold (gm_st a b m A k) (la_n A + 1)) := rfl
def gm_in (v : Int32) : Prop := v = -1 ∨ v = 0 ∨ v = 1
def gm_ok (s : gm_S) (n : Nat) : Prop := ∀ q, s = some q → gm_in q.1 ∧ q.2 ≤ n
theorem gm_o_in (a b : Nat) (A : la_A) : gm_in (gm_o a b A) := by
  unfold gm_o
  split <;> split
  · exact Or.inr (Or.inl rfl)
  · exact Or.inl rfl
  · exact Or.inr (Or.inr rfl)
  · exact Or.inr (Or.inl rfl)
theorem gm_up_ok {k n i : Nat} {s : gm_S} {v : Int32} (h : gm_ok s n) (hv : gm_in v) (hi : i ≤ n) : gm_ok (gm_up k s v i) n := by
  intro q hq
  unfold gm_up at hq
  cases s with
  | none => obtain rfl := Option.some.inj hq; exact ⟨hv, hi⟩
  | some p =>
    simp only [] at hq
    by_cases c : (if k % 2 = 0 then p.1 < v else v < p.1)
    · rw [if_pos c] at hq; obtain rfl := Option.some.inj hq; exact ⟨hv, hi⟩
    · rw [if_neg c] at hq; exact h q hq
theorem gm_fold_ok {f : Nat → gm_S → gm_S} {n : Nat} (h : ∀ i s, i ≤ n → gm_ok s n → gm_ok (f i s) n) : ∀ t, t ≤ n + 1 → gm_ok (gm_fold f t) n := by
  intro t
  induction t with
  | zero => intro _ q hq; cases hq
  | succ t ih => intro ht; exact h t _ (by omega) (ih (by omega))
theorem gm_val_in (a b : Nat) : ∀ m A k, gm_in (gm_val a b m A k) := by
  intro m
  induction m with
  | zero => intro A k; exact gm_o_in a b A
  | succ m ih =>
    intro A k
    rw [gm_val_s]
    have h := gm_fold_ok (f := gm_st a b m A k) (n := la_n A) (fun i s hi hs => by
      unfold gm_st
      split
      · exact gm_up_ok hs (ih _ _) hi
      · split
        · exact gm_up_ok hs (ih _ _) hi
        · exact hs) (la_n A + 1) (Nat.le_refl _)
    cases e : gm_fold (gm_st a b m A k) (la_n A + 1) with
    | none => exact Or.inr (Or.inl rfl)
    | some q => exact (h q e).1
theorem gm_st_ok {a b m : Nat} {A : la_A} {k i : Nat} {s : gm_S} (hs : gm_ok s (la_n A)) (hi : i ≤ la_n A) : gm_ok (gm_st a b m A k i s) (la_n A) := by
  unfold gm_st
  split
  · exact gm_up_ok hs (gm_val_in a b _ _ _) hi
  · split
    · exact gm_up_ok hs (gm_val_in a b _ _ _) hi
    · exact hs
theorem la_c_back {A : la_A} {i : Nat} {t : Int32} : la_c (la_c A i 6 t) i 6 (A.2 i 6) = A := by
  unfold la_c
  refine Prod.ext rfl (funext fun g => funext fun f => ?_)
  simp only []
  by_cases c : g = i ∧ f = 6
  · rw [if_pos c, c.1, c.2]
  · rw [if_neg c, if_neg c]
/-- the class's best so far, its move -/
def gm_bst (k : Nat) (s : gm_S) : Int32 := match s with | none => if k % 2 = 0 then -2 else 2 | some q => q.1
def gm_mv (n : Nat) (s : gm_S) : Int32 := match s with | none => -1 | some q => if q.2 < n then nI q.2 else -1
theorem gm_cmp0 {k : Nat} {s : gm_S} {v : Int32} {i n : Nat} (hs : gm_ok s n) (hv : gm_in v) (h : k % 2 = 0) : gm_up k s v i = if v ≤ gm_bst k s then s else some (v, i) := by
  unfold gm_up gm_bst
  cases s with
  | none =>
    simp only [h, if_true]
    rw [if_neg]
    rcases hv with rfl | rfl | rfl <;> decide
  | some q =>
    simp only [h, if_true]
    by_cases c : q.1 < v
    · rw [if_pos c, if_neg (Int32.not_le.mpr c)]
    · rw [if_neg c, if_pos (Int32.not_lt.mp c)]
theorem gm_cmp1 {k : Nat} {s : gm_S} {v : Int32} {i n : Nat} (hs : gm_ok s n) (hv : gm_in v) (h : ¬ k % 2 = 0) : gm_up k s v i = if gm_bst k s ≤ v then s else some (v, i) := by
  unfold gm_up gm_bst
  cases s with
  | none =>
    simp only [h, if_false]
    rw [if_neg]
    rcases hv with rfl | rfl | rfl <;> decide
  | some q =>
    simp only [h, if_false]
    by_cases c : v < q.1
    · rw [if_pos c, if_neg (Int32.not_le.mpr c)]
    · rw [if_neg c, if_pos (Int32.not_lt.mp c)]
section GC
variable {σ : lt_S}
theorem gc_out (hσ : lr_S σ) {w : lt_W} {A : la_A} {a b : Nat} (hA : lc_T w 151 A) (hO : la_Ok A) (ha : a < la_n A) (hb : b < la_n A) (e3 : lt_gi w 150 3 = nI a) (e4 : lt_gi w 150 4 = nI b) : ∃ w', f_X1_outcome σ 150 w = some (gm_o a b A, w') ∧ lu_Fg 160 169 w w' := by
  have hT := lr_tab hσ (o := 160) (by decide)
  obtain ⟨w1, a1, a2, a3⟩ := lc_copyT (A := A) hT (lr_tab hσ (o := 151) (by decide)) (by omega) hA
  obtain ⟨w2, b1, b2, b3⟩ := lc_passDays hT a2 hO (d := 10) (by decide)
  have b1' : f_X5_passDays σ 160 10 w1 = some w2 := b1
  have F : lu_Fg 160 169 w w2 := a3.trans b3.g
  have n10 : la_n (la_days A 10) = la_n A := la_n_days 10
  unfold f_X1_outcome fb_X1_outcome_0 fb_X1_outcome_39
  rw [lq_r150_2 hσ, lq_r150_1 hσ, a1, lu_bind, b1', lu_bind, (F 150 3 (by omega)).1, e3, (F 150 4 (by omega)).1, e4, lc_isThere b2 (by omega), lu_bind, lu_q, lc_isThere b2 (by omega), lu_bind, lu_bind, lu_q, lu_q]
  refine ⟨w2, ?_, F⟩
  unfold gm_o
  by_cases ca : la_here (la_days A 10) a = true
  · rw [if_pos ca, if_pos ca]
    by_cases cb : la_here (la_days A 10) b = true
    · rw [if_pos cb, if_pos cb]
    · rw [if_neg cb, if_neg cb]
  · rw [if_neg ca, if_neg ca]
    by_cases cb : la_here (la_days A 10) b = true
    · rw [if_pos cb, if_pos cb]
    · rw [if_neg cb, if_neg cb]
/-- what a turn leaves -/
def gc_F (w w' : lt_W) : Prop := (∀ j, (j = 3 ∨ j = 4 ∨ j = 5) → lt_gi w' 150 j = lt_gi w 150 j) ∧ lu_Fg 150 169 w w'
theorem gc_F.refl (w : lt_W) : gc_F w w := ⟨fun _ _ => rfl, lu_Fg.refl _ _ _⟩
theorem gc_F.trans {w w' w'' : lt_W} (h : gc_F w w') (h' : gc_F w' w'') : gc_F w w'' := ⟨fun j z => (h'.1 j z).trans (h.1 j z), h.2.trans h'.2⟩
set_option maxHeartbeats 8000000 in
theorem gc_best (hσ : lr_S σ) {a b T : Nat} (hT3 : T ≤ 3) : ∀ m k dd (A : la_A) w, k + m = T → m < dd → lc_T w 151 A → la_Ok A → a < la_n A → b < la_n A → a ≠ b → lt_gi w 150 3 = nI a → lt_gi w 150 4 = nI b → lt_gi w 150 5 = nI T → ∃ w', f_X1_bestFrom σ 150 dd (nI k) w = some (gm_val a b m A k, w') ∧ lc_T w' 151 A ∧ gc_F w w' ∧ (k = 0 → 0 < m → lt_gi w' 150 6 = gm_mv (la_n A) (gm_fold (gm_st a b (m - 1) A 0) (la_n A + 1))) := by
  intro m
  induction m with
  | zero =>
    intro k dd A w hk hdd hA hO ha hb hab e3 e4 e5
    obtain ⟨dd, rfl⟩ : ∃ g, dd = g + 1 := ⟨dd - 1, by omega⟩
    obtain ⟨w', a1, a2⟩ := gc_out hσ hA hO ha hb e3 e4
    rw [f_X1_bestFrom]
    unfold fb_X1_bestFrom_0
    rw [e5, if_neg (nI_nlt (by omega) (by omega)), a1, lu_bind]
    exact ⟨w', rfl, hA.fg a2 (by omega), ⟨fun j _ => (a2 _ _ (by omega)).1, a2.wide (by omega) (by omega)⟩, fun _ z => by omega⟩
  | succ m ih =>
    intro k dd A w hk hdd hA hO ha hb hab e3 e4 e5
    obtain ⟨dd, rfl⟩ : ∃ g, dd = g + 1 := ⟨dd - 1, by omega⟩
    have h7 := hA.2.1
    have hS := lr_tab hσ (o := 151) (by decide)
    have htn : gm_t a b k < la_n A := by unfold gm_t; split <;> assumption
    -- the end: nothing is done
    have idle : ∀ s u, gm_ok s (la_n A) → lc_T u 151 A → gc_F w u → ∃ w', Option.bind ((fun x1 w => f_X1_bestFrom σ 150 dd x1 w) (nI k + 1) u) (fun q2 => if (if k % 2 = 0 then (1 : Int32) else 0) = 0 then if gm_bst k s ≤ q2.1 then fb_X1_bestFrom_208 σ 150 (fun x1 w => f_X1_bestFrom σ 150 dd x1 w) (nI k) (gm_bst k s) (gm_mv (la_n A) s) q2.2 else fb_X1_bestFrom_201 σ 150 (fun x1 w => f_X1_bestFrom σ 150 dd x1 w) (nI k) q2.1 q2.2 else if q2.1 ≤ gm_bst k s then fb_X1_bestFrom_208 σ 150 (fun x1 w => f_X1_bestFrom σ 150 dd x1 w) (nI k) (gm_bst k s) (gm_mv (la_n A) s) q2.2 else fb_X1_bestFrom_201 σ 150 (fun x1 w => f_X1_bestFrom σ 150 dd x1 w) (nI k) q2.1 q2.2) = some (gm_v (gm_up k s (gm_val a b m A (k + 1)) (la_n A)), w') ∧ lc_T w' 151 A ∧ gc_F w w' ∧ (k = 0 → lt_gi w' 150 6 = gm_mv (la_n A) (gm_up k s (gm_val a b m A (k + 1)) (la_n A))) := by
      intro s u hs hu hF
      obtain ⟨u', a1, a2, a3, -⟩ := ih (k + 1) dd A u (by omega) (by omega) hu hO ha hb hab ((hF.1 3 (by omega)).trans e3) ((hF.1 4 (by omega)).trans e4) ((hF.1 5 (by omega)).trans e5)
      have hv := gm_val_in a b m A (k + 1)
      -- the end with a best, a move
      have fin : ∀ (s' : gm_S), s' ≠ none → ∃ w', fb_X1_bestFrom_208 σ 150 (fun x1 w => f_X1_bestFrom σ 150 dd x1 w) (nI k) (gm_bst k s') (gm_mv (la_n A) s') u' = some (gm_v s', w') ∧ lc_T w' 151 A ∧ gc_F w w' ∧ (k = 0 → lt_gi w' 150 6 = gm_mv (la_n A) s') := by
        intro s' hs'
        unfold fb_X1_bestFrom_208
        have eb : gm_bst k s' = gm_v s' := by cases s' with | none => exact absurd rfl hs' | some q => rfl
        rw [eb]
        by_cases k0 : k = 0
        · subst k0
          rw [if_pos (show nI 0 = 0 from rfl), lu_let]
          refine ⟨_, rfl, a2.out (by omega), hF.trans (a3.trans ⟨fun j z => lu_ne (Or.inr (by omega)), (lu_Fg.refl _ _ _).si (by decide) (by decide)⟩), fun _ => lu_eq⟩
        · rw [if_neg (nI_ne0 (by omega) (by omega))]
          exact ⟨u', rfl, a2, hF.trans a3, fun z => absurd z k0⟩
      have fin2 : ∃ w', fb_X1_bestFrom_201 σ 150 (fun x1 w => f_X1_bestFrom σ 150 dd x1 w) (nI k) (gm_val a b m A (k + 1)) u' = some (gm_val a b m A (k + 1), w') ∧ lc_T w' 151 A ∧ gc_F w w' ∧ (k = 0 → lt_gi w' 150 6 = -1) := by
        obtain ⟨w', z1, z2, z3, z4⟩ := fin (some (gm_val a b m A (k + 1), la_n A)) (by simp)
        have em : gm_mv (la_n A) (some (gm_val a b m A (k + 1), la_n A)) = -1 := by unfold gm_mv; simp
        rw [em] at z1 z4
        exact ⟨w', z1, z2, z3, z4⟩
      show ∃ w', Option.bind (f_X1_bestFrom σ 150 dd (nI k + 1) u) _ = _ ∧ _
      rw [nI_1, a1, lu_bind, lu_q]
      by_cases hk2 : k % 2 = 0
      · rw [if_pos hk2, gm_cmp0 hs hv hk2]
        show ∃ w', (if gm_val a b m A (k + 1) ≤ gm_bst k s then fb_X1_bestFrom_208 σ 150 (fun x1 w => f_X1_bestFrom σ 150 dd x1 w) (nI k) (gm_bst k s) (gm_mv (la_n A) s) u' else fb_X1_bestFrom_201 σ 150 (fun x1 w => f_X1_bestFrom σ 150 dd x1 w) (nI k) (gm_val a b m A (k + 1)) u') = _ ∧ _
        by_cases c : gm_val a b m A (k + 1) ≤ gm_bst k s
        · rw [if_pos c, if_pos c]
          refine fin s (fun z => ?_)
          subst z
          unfold gm_bst at c
          simp only [hk2, if_true] at c
          rcases hv with e | e | e <;> (rw [e] at c; exact absurd c (by decide))
        · rw [if_neg c, if_neg c]
          obtain ⟨w', z1, z2, z3, z4⟩ := fin2
          exact ⟨w', z1, z2, z3, fun z => (z4 z).trans (by unfold gm_mv; simp)⟩
      · rw [if_neg hk2, gm_cmp1 hs hv hk2]
        show ∃ w', (if gm_bst k s ≤ gm_val a b m A (k + 1) then fb_X1_bestFrom_208 σ 150 (fun x1 w => f_X1_bestFrom σ 150 dd x1 w) (nI k) (gm_bst k s) (gm_mv (la_n A) s) u' else fb_X1_bestFrom_201 σ 150 (fun x1 w => f_X1_bestFrom σ 150 dd x1 w) (nI k) (gm_val a b m A (k + 1)) u') = _ ∧ _
        by_cases c : gm_bst k s ≤ gm_val a b m A (k + 1)
        · rw [if_pos c, if_pos c]
          refine fin s (fun z => ?_)
          subst z
          unfold gm_bst at c
          simp only [hk2, if_false] at c
          rcases hv with e | e | e <;> (rw [e] at c; exact absurd c (by decide))
        · rw [if_neg c, if_neg c]
          obtain ⟨w', z1, z2, z3, z4⟩ := fin2
          exact ⟨w', z1, z2, z3, fun z => (z4 z).trans (by unfold gm_mv; simp)⟩
    -- the deeds
    have loop : ∀ r i f u, i + r = la_n A → r < f → lc_T u 151 A → gc_F w u → ∃ w', fb_X1_bestFrom_59 σ 150 (fun x1 w => f_X1_bestFrom σ 150 dd x1 w) f (nI k) (if k % 2 = 0 then 1 else 0) (nI (gm_t a b k)) (gm_bst k (gm_fold (gm_st a b m A k) i)) (gm_mv (la_n A) (gm_fold (gm_st a b m A k) i)) (nI i) u = some (gm_v (gm_fold (gm_st a b m A k) (la_n A + 1)), w') ∧ lc_T w' 151 A ∧ gc_F w w' ∧ (k = 0 → lt_gi w' 150 6 = gm_mv (la_n A) (gm_fold (gm_st a b m A k) (la_n A + 1))) := by
      intro r
      induction r with
      | zero =>
        intro i f u hi hf hu hF
        obtain ⟨f, rfl⟩ : ∃ g, f = g + 1 := ⟨f - 1, by omega⟩
        obtain rfl : i = la_n A := by omega
        rw [fb_X1_bestFrom_59, lq_r150_1 hσ, if_pos (lc_ge hu (by omega) (Nat.le_refl _))]
        have hs : gm_ok (gm_fold (gm_st a b m A k) (la_n A)) (la_n A) := gm_fold_ok (fun i s hi hs => gm_st_ok hs hi) _ (by omega)
        have e : gm_fold (gm_st a b m A k) (la_n A + 1) = gm_up k (gm_fold (gm_st a b m A k) (la_n A)) (gm_val a b m A (k + 1)) (la_n A) := by
          show gm_st a b m A k (la_n A) _ = _
          unfold gm_st
          rw [if_pos rfl]
        rw [e]
        exact idle _ u hs hu hF
      | succ r ihr =>
        intro i f u hi hf hu hF
        obtain ⟨f, rfl⟩ : ∃ g, f = g + 1 := ⟨f - 1, by omega⟩
        have hin : i < la_n A := by omega
        have hs : gm_ok (gm_fold (gm_st a b m A k) i) (la_n A) := gm_fold_ok (fun i s hi hs => gm_st_ok hs hi) _ (by omega)
        have hni : ¬ i = la_n A := by omega
        rw [fb_X1_bestFrom_59, lq_r150_1 hσ, if_neg (lc_lt hu hin)]
        by_cases ct : i = gm_t a b k
        · rw [if_pos (show nI i = nI (gm_t a b k) by rw [ct]), nI_1]
          have e : gm_fold (gm_st a b m A k) (i + 1) = gm_fold (gm_st a b m A k) i := by
            show gm_st a b m A k i _ = _
            unfold gm_st
            rw [if_neg hni, if_neg (by simp [ct])]
          have := ihr (i + 1) f u (by omega) (by omega) hu hF
          rw [e] at this; exact this
        · rw [if_neg (fun z => ct ((nI_eq (by omega) (by omega)).mp z)), lc_isThere hu hin, lu_bind, lu_q, nI_1]
          by_cases eh : la_here A i = true
          · rw [if_pos eh, hS.1.2.2.2.2.2.2.2.1, hS.2.2.2.2.2.2.2.1, lu_ck (by omega) (by decide), lu_let, lu_ck (by omega) (by decide), lu_let, nI_clamp (by omega), (hu.2.2.2.2 i hin).2.2.2.2.2]
            have hC : lc_T (lt_si u (151 + 7) i (nI (gm_t a b k))) 151 (la_c A i 6 (nI (gm_t a b k))) := hu.cell (Or.inr ⟨rfl, rfl⟩)
            have hOC : la_Ok (la_c A i 6 (nI (gm_t a b k))) := hO.c (Or.inr (Or.inr (Or.inr (Or.inr (Or.inr (Or.inr ⟨rfl, Or.inr ⟨gm_t a b k, htn, fun z => ct z.symm, rfl⟩⟩))))))
            have g3 : ∀ j, lt_gi (lt_si u (151 + 7) i (nI (gm_t a b k))) 150 j = lt_gi u 150 j := fun j => lu_ne (Or.inl (by decide))
            obtain ⟨u1, a1, a2, a3, -⟩ := ih (k + 1) dd (la_c A i 6 (nI (gm_t a b k))) _ (by omega) (by omega) hC hOC ha hb hab (by rw [g3]; exact (hF.1 3 (by omega)).trans e3) (by rw [g3]; exact (hF.1 4 (by omega)).trans e4) (by rw [g3]; exact (hF.1 5 (by omega)).trans e5)
            have hB : lc_T (lt_si u1 (151 + 7) i (A.2 i 6)) 151 A := by
              have := a2.cell (g := i) (f := 6) (a := 151 + 7) (v := A.2 i 6) (Or.inr ⟨rfl, rfl⟩)
              rwa [la_c_back] at this
            have hF2 : gc_F w (lt_si u1 (151 + 7) i (A.2 i 6)) := hF.trans ⟨fun j z => by rw [lu_ne (Or.inl (by decide)), a3.1 j z, g3], (((lu_Fg.refl 150 169 u).si (by decide) (by decide)).trans a3.2).si (by decide) (by decide)⟩
            have e : gm_fold (gm_st a b m A k) (i + 1) = gm_up k (gm_fold (gm_st a b m A k) i) (gm_val a b m (la_c A i 6 (nI (gm_t a b k))) (k + 1)) i := by
              show gm_st a b m A k i _ = _
              unfold gm_st
              rw [if_neg hni, if_pos (by simp [eh, ct])]
            have nx := ihr (i + 1) f (lt_si u1 (151 + 7) i (A.2 i 6)) (by omega) (by omega) hB hF2
            rw [e] at nx
            have hv := gm_val_in a b m (la_c A i 6 (nI (gm_t a b k))) (k + 1)
            show ∃ w', Option.bind (f_X1_bestFrom σ 150 dd (nI (k + 1)) (lt_si u (151 + 7) i (nI (gm_t a b k)))) _ = _ ∧ _
            rw [a1, lu_bind, lu_ck (by omega) (by decide), lu_let, lu_q]
            have ebm : ∀ v : Int32, gm_bst k (some (v, i)) = v ∧ gm_mv (la_n A) (some (v, i)) = nI i := fun v => ⟨rfl, by unfold gm_mv; simp [hin]⟩
            by_cases hk2 : k % 2 = 0
            · rw [gm_cmp0 hs hv hk2] at nx
              rw [if_pos hk2]
              show ∃ w', (if gm_val a b m (la_c A i 6 (nI (gm_t a b k))) (k + 1) ≤ gm_bst k (gm_fold (gm_st a b m A k) i) then _ else _) = _ ∧ _
              by_cases c : gm_val a b m (la_c A i 6 (nI (gm_t a b k))) (k + 1) ≤ gm_bst k (gm_fold (gm_st a b m A k) i)
              · rw [if_pos c] at nx ⊢
                simp only [nI_1]
                exact nx
              · rw [if_neg c] at nx ⊢
                rw [(ebm _).1, (ebm _).2] at nx
                simp only [nI_1]
                exact nx
            · rw [gm_cmp1 hs hv hk2] at nx
              rw [if_neg hk2]
              show ∃ w', (if gm_bst k (gm_fold (gm_st a b m A k) i) ≤ gm_val a b m (la_c A i 6 (nI (gm_t a b k))) (k + 1) then _ else _) = _ ∧ _
              by_cases c : gm_bst k (gm_fold (gm_st a b m A k) i) ≤ gm_val a b m (la_c A i 6 (nI (gm_t a b k))) (k + 1)
              · rw [if_pos c] at nx ⊢
                simp only [nI_1]
                exact nx
              · rw [if_neg c] at nx ⊢
                rw [(ebm _).1, (ebm _).2] at nx
                simp only [nI_1]
                exact nx
          · rw [if_neg eh]
            have e : gm_fold (gm_st a b m A k) (i + 1) = gm_fold (gm_st a b m A k) i := by
              show gm_st a b m A k i _ = _
              unfold gm_st
              rw [if_neg hni, if_neg (by simp [eh])]
            have := ihr (i + 1) f u (by omega) (by omega) hu hF
            rw [e] at this; rw [nI_1]; exact this
    obtain ⟨w', z1, z2, z3, z4⟩ := loop (la_n A) 0 lt_fu w (by omega) (by unfold lt_fu; omega) hA (gc_F.refl w)
    refine ⟨w', ?_, z2, z3, fun k0 _ => by subst k0; exact z4 rfl⟩
    rw [gm_val_s, ← z1, f_X1_bestFrom]
    unfold fb_X1_bestFrom_0 fb_X1_bestFrom_24 fb_X1_bestFrom_40
    have er : nI k - nI k / 2 * 2 = nI (k % 2) := pk_rem (d := 2) (by omega) (by decide) (by decide)
    rw [e5, if_pos (nI_lt (by omega) (by omega)), er, e3, e4]
    unfold gm_t
    by_cases hk2 : k % 2 = 0
    · rw [hk2, if_pos (show nI 0 = 0 from rfl), if_neg lu_10, if_neg lu_10, if_pos rfl, if_pos rfl]
      show _ = fb_X1_bestFrom_59 σ 150 _ lt_fu (nI k) 1 (nI a) (if k % 2 = 0 then -2 else 2) (-1) 0 w
      rw [if_pos hk2]
    · have : k % 2 = 1 := by omega
      rw [this, if_neg (show ¬ nI 1 = 0 by decide), if_pos rfl, if_pos rfl, if_neg (by decide), if_neg (by decide)]
      show _ = fb_X1_bestFrom_59 σ 150 _ lt_fu (nI k) 0 (nI b) (if k % 2 = 0 then -2 else 2) (-1) 0 w
      rw [if_neg hk2]
end GC