/-! THE CLASS'S TABLE: what changes it -/
theorem la_Ok.h {A : la_A} (h : la_Ok A) {k : Nat} {v : Int32} (hk : (k = 5 ∧ lu_R v 0 60) ∨ 6 ≤ k ∨ (k = 1 ∧ lu_R v 0 16) ∨ (k = 2 ∧ lu_R v 1 20) ∨ (k = 3 ∧ lu_R v 1 6) ∨ (k = 4 ∧ lu_R v 1 60)) : la_Ok (la_h A k v) := by
  obtain ⟨h0, h7, a1, a2, a3, a4, a5, hg⟩ := h
  have k0 : 0 < k := by omega
  have key : ∀ j, (la_h A k v).1 j = if j = k then v else A.1 j := fun _ => rfl
  have hR : ∀ j lo hi, lu_R (A.1 j) lo hi → (j = k → lu_R v lo hi) → lu_R ((la_h A k v).1 j) lo hi := by
    intro j lo hi h1 h2
    rw [key]
    by_cases e : j = k
    · rw [if_pos e]; exact h2 e
    · rw [if_neg e]; exact h1
  refine ⟨by rw [la_n_h k0, key, if_neg (by omega)]; exact h0, by rw [la_n_h k0]; exact h7, hR 1 _ _ a1 ?_, hR 2 _ _ a2 ?_, hR 3 _ _ a3 ?_, hR 4 _ _ a4 ?_, hR 5 _ _ a5 ?_, fun g hg' => ?_⟩
  · intro e; rcases hk with ⟨e2, _⟩ | e2 | ⟨e2, h⟩ | ⟨e2, _⟩ | ⟨e2, _⟩ | ⟨e2, _⟩ <;> first | exact h | omega
  · intro e; rcases hk with ⟨e2, _⟩ | e2 | ⟨e2, _⟩ | ⟨e2, h⟩ | ⟨e2, _⟩ | ⟨e2, _⟩ <;> first | exact h | omega
  · intro e; rcases hk with ⟨e2, _⟩ | e2 | ⟨e2, _⟩ | ⟨e2, _⟩ | ⟨e2, h⟩ | ⟨e2, _⟩ <;> first | exact h | omega
  · intro e; rcases hk with ⟨e2, _⟩ | e2 | ⟨e2, _⟩ | ⟨e2, _⟩ | ⟨e2, _⟩ | ⟨e2, h⟩ <;> first | exact h | omega
  · intro e; rcases hk with ⟨e2, h⟩ | e2 | ⟨e2, _⟩ | ⟨e2, _⟩ | ⟨e2, _⟩ | ⟨e2, _⟩ <;> first | exact h | omega
  · rw [la_n_h k0] at hg'
    obtain ⟨b0, b1, b2, b3, b4, b5, b6⟩ := hg g hg'
    refine ⟨b0, b1, b2, b3, b4, b5, ?_⟩
    unfold la_to
    rw [la_n_h k0]; exact b6
theorem la_Ok.c {A : la_A} (h : la_Ok A) {g f : Nat} {v : Int32} (hf : (f = 0 ∧ lu_R v 0 20) ∨ (f = 1 ∧ lu_R v 0 20) ∨ (f = 2 ∧ lu_R v 0 20) ∨ (f = 3 ∧ lu_R v 0 2) ∨ (f = 4 ∧ lu_R v 0 99) ∨ (f = 5 ∧ (v = 0 ∨ v = 1)) ∨ (f = 6 ∧ (v = -1 ∨ ∃ j, j < la_n A ∧ j ≠ g ∧ v = nI j))) : la_Ok (la_c A g f v) := by
  obtain ⟨h0, h7, a1, a2, a3, a4, a5, hg⟩ := h
  refine ⟨h0, h7, a1, a2, a3, a4, a5, fun i hi => ?_⟩
  obtain ⟨b0, b1, b2, b3, b4, b5, b6⟩ := hg i hi
  have key : ∀ b, (la_c A g f v).2 i b = if i = g ∧ b = f then v else A.2 i b := fun _ => rfl
  have hR : ∀ b lo hi, lu_R (A.2 i b) lo hi → (b = f → lu_R v lo hi) → lu_R ((la_c A g f v).2 i b) lo hi := by
    intro b lo hi h1 h2
    rw [key]
    by_cases e : i = g ∧ b = f
    · rw [if_pos e]; exact h2 e.2
    · rw [if_neg e]; exact h1
  refine ⟨hR 0 _ _ b0 ?_, hR 1 _ _ b1 ?_, hR 2 _ _ b2 ?_, hR 3 _ _ b3 ?_, hR 4 _ _ b4 ?_, ?_, ?_⟩
  · intro e; rcases hf with ⟨e2, h⟩ | ⟨e2, _⟩ | ⟨e2, _⟩ | ⟨e2, _⟩ | ⟨e2, _⟩ | ⟨e2, _⟩ | ⟨e2, _⟩ <;> first | exact h | omega
  · intro e; rcases hf with ⟨e2, _⟩ | ⟨e2, h⟩ | ⟨e2, _⟩ | ⟨e2, _⟩ | ⟨e2, _⟩ | ⟨e2, _⟩ | ⟨e2, _⟩ <;> first | exact h | omega
  · intro e; rcases hf with ⟨e2, _⟩ | ⟨e2, _⟩ | ⟨e2, h⟩ | ⟨e2, _⟩ | ⟨e2, _⟩ | ⟨e2, _⟩ | ⟨e2, _⟩ <;> first | exact h | omega
  · intro e; rcases hf with ⟨e2, _⟩ | ⟨e2, _⟩ | ⟨e2, _⟩ | ⟨e2, h⟩ | ⟨e2, _⟩ | ⟨e2, _⟩ | ⟨e2, _⟩ <;> first | exact h | omega
  · intro e; rcases hf with ⟨e2, _⟩ | ⟨e2, _⟩ | ⟨e2, _⟩ | ⟨e2, _⟩ | ⟨e2, h⟩ | ⟨e2, _⟩ | ⟨e2, _⟩ <;> first | exact h | omega
  · rw [key]
    by_cases e : i = g ∧ 5 = f
    · rw [if_pos e]
      rcases hf with ⟨e2, _⟩ | ⟨e2, _⟩ | ⟨e2, _⟩ | ⟨e2, _⟩ | ⟨e2, _⟩ | ⟨e2, h⟩ | ⟨e2, _⟩ <;> first | exact h | omega
    · rw [if_neg e]; exact b5
  · unfold la_to
    rw [key, la_n_c]
    by_cases e : i = g ∧ 6 = f
    · rw [if_pos e]
      rcases hf with ⟨e2, _⟩ | ⟨e2, _⟩ | ⟨e2, _⟩ | ⟨e2, _⟩ | ⟨e2, _⟩ | ⟨e2, _⟩ | ⟨e2, h⟩ <;> first | omega | (rw [e.1]; exact h)
    · rw [if_neg e]; exact b6
theorem lu_half {v : Int32} (h : lu_R v 1 60) : lu_R ((v + 1) / 2) 0 60 := by
  obtain ⟨k, h1, h2, rfl⟩ := h
  rw [nI_1, show (2 : Int32) = nI 2 from rfl, pk_div (by omega) (by decide) (by decide)]
  exact ⟨_, Nat.zero_le _, by omega, rfl⟩
theorem la_n_cut {A : la_A} {g : Nat} : la_n (la_cut A g) = la_n A := by
  unfold la_cut; simp only []; split <;> (rw [la_n_c, la_n_h (by decide), la_n_h (by decide)])
theorem la_Ok_cut {A : la_A} (h : la_Ok A) (g : Nat) (hg : g < la_n A) : la_Ok (la_cut A g) := by
  have h5 : lu_R (if A.2 g 3 = 2 then (A.1 4 + 1) / 2 else A.1 4) 0 60 := by
    split
    · exact lu_half h.2.2.2.2.2.1
    · exact h.2.2.2.2.2.1.wide (by decide) (by decide)
  unfold la_cut
  simp only []
  split
  · exact ((h.h (Or.inl ⟨rfl, h5⟩)).h (Or.inr (Or.inl (by decide)))).c (Or.inl ⟨rfl, lu_R.of (k := 0) (by decide) (by decide)⟩)
  · exact ((h.h (Or.inl ⟨rfl, h5⟩)).h (Or.inr (Or.inl (by decide)))).c (Or.inr (Or.inr (Or.inr (Or.inr (Or.inr (Or.inl ⟨rfl, Or.inl rfl⟩))))))
theorem la_n_eat {A : la_A} (k : Nat) : la_n (la_eat A k) = la_n A := by
  induction k with
  | zero => rfl
  | succ k ih =>
    rw [la_eat]; (try simp only [])
    split
    · split
      · rw [la_n_c, ih]
      · rw [la_n_c, la_n_h (by decide), ih]
    · exact ih
theorem la_Ok_eat {A : la_A} (h : la_Ok A) (k : Nat) (hk : k ≤ la_n A) : la_Ok (la_eat A k) := by
  induction k with
  | zero => exact h
  | succ k ih =>
    have ih := ih (by omega)
    rw [la_eat]; (try simp only [])
    split
    · split
      · obtain ⟨x, -, hx, e⟩ := (ih.2.2.2.2.2.2.2 k (by rw [la_n_eat]; omega)).2.2.2.2.1
        refine ih.c (Or.inr (Or.inr (Or.inr (Or.inr (Or.inl ⟨rfl, ?_⟩)))))
        rw [e, nI_1, show (99 : Int32) = nI 99 from rfl, lu_min (by decide) (by omega)]
        exact ⟨_, Nat.zero_le _, Nat.min_le_left _ _, rfl⟩
      · rename_i e5
        obtain ⟨x, -, hx, e⟩ := ih.2.2.2.2.2.2.1
        refine (ih.h (Or.inl ⟨rfl, ?_⟩)).c (Or.inr (Or.inr (Or.inr (Or.inr (Or.inl ⟨rfl, lu_R.of (k := 0) (by decide) (by decide)⟩)))))
        rw [e, lu_zle (by omega)] at e5
        rw [e, show x = x - 1 + 1 from by omega, nI_pred]
        exact ⟨_, Nat.zero_le _, by omega, rfl⟩
    · exact ih
theorem la_n_yearn {A : la_A} (k : Nat) : la_n (la_yearn A k) = la_n A := by
  induction k with
  | zero => rfl
  | succ k ih =>
    rw [la_yearn]
    split
    · rw [la_n_c, ih]
    · exact ih
/-- yearn touches wishes alone -/
theorem la_yearn_2 {A : la_A} (k g f : Nat) (h : f ≠ 0 ∨ k ≤ g) : (la_yearn A k).2 g f = A.2 g f := by
  induction k with
  | zero => rfl
  | succ k ih =>
    have ih := ih (by omega)
    rw [la_yearn]
    split
    · show (if g = k ∧ f = 0 then _ else (la_yearn A k).2 g f) = _
      rw [if_neg (by omega)]; exact ih
    · exact ih
theorem la_yearn_1 {A : la_A} (k : Nat) : (la_yearn A k).1 = A.1 := by
  induction k with
  | zero => rfl
  | succ k ih =>
    rw [la_yearn]
    split
    · exact ih
    · exact ih
theorem la_yearn_here {A : la_A} (k : Nat) : la_here (la_yearn A k) = la_here A := by
  funext g; unfold la_here; rw [la_yearn_2 k g 5 (Or.inl (by decide))]
theorem la_yearn_pass {A : la_A} (k t : Nat) : la_pass (la_yearn A k) t = la_pass A t := by
  funext g; unfold la_pass; rw [la_yearn_here, la_yearn_2 k g 6 (Or.inl (by decide))]
theorem la_more_R (A : la_A) (k : Nat) : lu_R (la_more A k) 0 2 := by
  unfold la_more
  split <;> split
  · exact ⟨0, by decide, by decide, rfl⟩
  · exact ⟨1, by decide, by decide, rfl⟩
  · exact ⟨1, by decide, by decide, rfl⟩
  · exact ⟨2, by decide, by decide, rfl⟩
theorem la_Ok_yearn {A : la_A} (h : la_Ok A) (k : Nat) (hk : k ≤ la_n A) : la_Ok (la_yearn A k) := by
  induction k with
  | zero => exact h
  | succ k ih =>
    have ih := ih (by omega)
    rw [la_yearn]
    split
    · obtain ⟨x, -, hx, e⟩ := (ih.2.2.2.2.2.2.2 k (by rw [la_n_yearn]; omega)).1
      obtain ⟨y, -, hy, e2⟩ := la_more_R A k
      refine ih.c (Or.inl ⟨rfl, ?_⟩)
      rw [e, e2, nI_add, show (20 : Int32) = nI 20 from rfl, lu_min (by decide) (by omega)]
      exact ⟨_, Nat.zero_le _, Nat.min_le_left _ _, rfl⟩
    · exact ih
theorem la_n_eats {A : la_A} : la_n (la_eats A) = la_n A := by
  unfold la_eats; simp only []; rw [la_n_h (by decide), la_n_yearn, la_n_eat]
theorem la_Ok_eats {A : la_A} (h : la_Ok A) : la_Ok (la_eats A) := by
  unfold la_eats
  exact (la_Ok_yearn (la_Ok_eat h _ (Nat.le_refl _)) _ (Nat.le_refl _)).h (Or.inr (Or.inl (by decide)))
theorem la_fc_spec {A : la_A} : ∀ k j, la_fc A k = some j → j < k ∧ la_here A j = true ∧ A.1 2 ≤ A.2 j 0 := by
  intro k
  induction k with
  | zero => intro j h; cases h
  | succ k ih =>
    intro j h
    rw [la_fc] at h
    cases e : la_fc A k with
    | none =>
      rw [e] at h
      simp only [] at h
      split at h
      · rename_i c
        obtain rfl := Option.some.inj h
        simp at c
        exact ⟨by omega, c.1, c.2⟩
      · cases h
    | some i =>
      rw [e] at h
      obtain ⟨a, b, c⟩ := ih i e
      simp only [] at h
      split at h
      · rename_i d
        obtain rfl := Option.some.inj h
        simp at d
        exact ⟨by omega, d.1, Int32.le_trans c (Int32.le_of_lt d.2)⟩
      · obtain rfl := Option.some.inj h
        exact ⟨by omega, b, c⟩
/-- one who may cut, or nobody -/
def la_may (A : la_A) (g : Option Nat) : Prop := ∀ j, g = some j → j < la_n A ∧ la_here A j = true ∧ A.1 5 = 0
theorem la_first_may (A : la_A) : la_may A (la_first A) := by
  intro j h
  unfold la_first at h
  split at h
  · rename_i c
    obtain ⟨a, b, -⟩ := la_fc_spec _ _ h
    exact ⟨a, b, c⟩
  · cases h
theorem la_n_cuts {A : la_A} {g : Option Nat} : la_n (la_cuts A g) = la_n A := by
  cases g with
  | none => rfl
  | some j => exact la_n_cut
theorem la_Ok_cuts {A : la_A} (h : la_Ok A) {g : Option Nat} (hg : la_may A g) : la_Ok (la_cuts A g) := by
  cases g with
  | none => exact h
  | some j => exact la_Ok_cut h j (hg j rfl).1
theorem la_n_day {A : la_A} : la_n (la_day A) = la_n A := by unfold la_day; rw [la_n_eats, la_n_cuts]
theorem la_Ok_day {A : la_A} (h : la_Ok A) : la_Ok (la_day A) := la_Ok_eats (la_Ok_cuts h (la_first_may A))
theorem la_n_days {A : la_A} (k : Nat) : la_n (la_days A k) = la_n A := by
  induction k with
  | zero => rfl
  | succ k ih => rw [la_days, la_n_day, ih]
theorem la_Ok_days {A : la_A} (h : la_Ok A) (k : Nat) : la_Ok (la_days A k) := by
  induction k with
  | zero => exact h
  | succ k ih => exact la_Ok_day ih
section LC2
variable {σ : lt_S} {o : Nat} {w : lt_W} {A : la_A}
def la_gr (A : la_A) (b : Option Nat) : Int32 := match b with | none => A.1 2 - 1 | some j => A.2 j 0
theorem lc_first (hS : lc_S σ o) (hA : lc_T w o A) (hO : la_Ok A) : f_X5_firstCutter σ o w = some (la_e (la_first A)) := by
  obtain ⟨⟨s0, s1, s2, s3, s4, s5, s6, s7, s8⟩, l1, l2, l3, l4, l5, l6, l7, l8⟩ := hS
  have h7 := hA.2.1
  unfold f_X5_firstCutter fb_X5_firstCutter_0 la_first
  rw [hA.2.2.1 5 (by decide), hA.2.2.1 2 (by decide)]
  by_cases e5 : A.1 5 = 0
  · rw [if_pos ((hO.2.2.2.2.2.2.1.le0 (by decide)).mpr e5), if_pos e5]
    refine lu_up (fun f k (x : Int32 × Int32) => fb_X5_firstCutter_20 σ o w f x.1 x.2 (nI k)) (la_n A) (fun k => (la_e (la_fc A k), la_gr A (la_fc A k))) _ (fun f k hk => ?_) (fun f => ?_) lt_fu 0 (by omega) (by unfold lt_fu; omega)
    · obtain ⟨a0, a1, a2, a3, a4, a5⟩ := hA.2.2.2.2 k hk
      show fb_X5_firstCutter_20 σ o w (f + 1) _ _ _ = fb_X5_firstCutter_20 σ o w f _ _ _
      rw [fb_X5_firstCutter_20, if_neg (lc_lt hA hk), lc_isThere hA hk, lu_bind, lu_q, s2, lu_ck (by omega) (by omega), lu_ck (by omega) (by omega), nI_clamp (by omega), a0, lu_let, nI_1]
      by_cases e : la_here A k = true
      · rw [if_pos e, la_fc]
        cases e1 : la_fc A k with
        | none =>
          obtain ⟨r, r1, r2, er⟩ := hO.2.2.2.1
          obtain ⟨x, x1, x2, ex⟩ := (hO.2.2.2.2.2.2.2 k hk).1
          have : A.2 k 0 ≤ la_gr A none ↔ ¬ A.1 2 ≤ A.2 k 0 := by
            unfold la_gr
            rw [er, ex, show r = r - 1 + 1 from by omega, nI_pred, nI_leI (by omega) (by omega), nI_leI (by omega) (by omega)]; omega
          by_cases c : A.1 2 ≤ A.2 k 0
          · rw [if_neg (fun z => (this.mp z) c)]; simp [e, c, la_e, la_gr]
          · rw [if_pos (this.mpr c)]; simp [e, c]
        | some j =>
          by_cases c : A.2 j 0 < A.2 k 0
          · rw [if_neg (show ¬ A.2 k 0 ≤ la_gr A (some j) from Int32.not_le.mpr c)]; simp [e, c, la_e, la_gr]
          · rw [if_pos (show A.2 k 0 ≤ la_gr A (some j) from Int32.not_lt.mp c)]; simp [e, c]
      · rw [if_neg e, la_fc]
        cases e1 : la_fc A k <;> simp [e]
    · show fb_X5_firstCutter_20 σ o w (f + 1) _ _ _ = _
      rw [fb_X5_firstCutter_20, if_pos (lc_ge hA (by omega) (Nat.le_refl _))]
  · rw [if_neg (fun z => e5 ((hO.2.2.2.2.2.2.1.le0 (by decide)).mp z)), if_neg e5]; rfl
theorem lc_cut43 (hS : lc_S σ o) (hA : lc_T w o A) {g : Nat} (hg : g < la_n A) : ∃ w', fb_X5_cutBy_43 σ o (nI g) o (if A.2 g 3 = 2 then (A.1 4 + 1) / 2 else A.1 4) w = some (1, w') ∧ lc_T w' o (la_cut A g) ∧ lu_Fr o (o + 9) w w' := by
  obtain ⟨⟨s0, s1, s2, s3, s4, s5, s6, s7, s8⟩, l1, l2, l3, l4, l5, l6, l7, l8⟩ := hS
  have h7 := hA.2.1
  have hF : lu_Fr o (o + 9) w w := lu_Fr.refl _ _ _
  have hA1 := hA.hd (k := 5) (v := if A.2 g 3 = 2 then (A.1 4 + 1) / 2 else A.1 4) (by decide) (by decide)
  have e7 := hA1.2.2.1 7 (by decide)
  have hA2 := hA1.hd (k := 7) (v := A.1 7 + 1) (by decide) (by decide)
  obtain ⟨a0, a1, a2, a3, a4, a5⟩ := hA2.2.2.2.2 g (by rw [la_n_h (by decide), la_n_h (by decide)]; exact hg)
  unfold fb_X5_cutBy_43 la_cut
  simp only []
  rw [lu_let, lu_let, e7, s5, s2, lu_ck (by omega) (by omega), lu_ck (by omega) (by omega), nI_clamp (by omega)]
  have e7' : (la_h A 5 (if A.2 g 3 = 2 then (A.1 4 + 1) / 2 else A.1 4)).1 7 = A.1 7 := rfl
  rw [e7', a3]
  have e3 : (la_h (la_h A 5 (if A.2 g 3 = 2 then (A.1 4 + 1) / 2 else A.1 4)) 7 (A.1 7 + 1)).2 g 3 = A.2 g 3 := rfl
  rw [e3]
  by_cases e : A.2 g 3 = 1
  · rw [if_pos e, if_pos e, lu_let]
    exact ⟨_, rfl, hA2.cell (Or.inl ⟨by decide, rfl⟩), ((hF.si (Nat.le_refl _) (by omega)).si (Nat.le_refl _) (by omega)).si (by omega) (by omega)⟩
  · rw [if_neg e, if_neg e, lu_let]
    refine ⟨_, rfl, hA2.there ?_, ((hF.si (Nat.le_refl _) (by omega)).si (Nat.le_refl _) (by omega)).si (by omega) (by omega)⟩
    rw [hA2.2.2.2.1, la_n_h (by decide), la_n_h (by decide), la_clr h7 hg]
    refine la_sb_congr fun i _ => ?_
    unfold la_here la_c la_h
    by_cases ei : i = g
    · simp [ei]
    · simp [ei]
theorem lc_cut (hS : lc_S σ o) (hA : lc_T w o A) {g : Nat} (hg : g < la_n A) (hh : la_here A g = true) (h5 : A.1 5 ≤ 0) : ∃ w', f_X5_cutBy σ o (nI g) w = some (1, w') ∧ lc_T w' o (la_cut A g) ∧ lu_Fr o (o + 9) w w' := by
  obtain ⟨w', e, h1, h2⟩ := lc_cut43 hS hA hg
  refine ⟨w', ?_, h1, h2⟩
  obtain ⟨⟨s0, s1, s2, s3, s4, s5, s6, s7, s8⟩, l1, l2, l3, l4, l5, l6, l7, l8⟩ := hS
  have h7 := hA.2.1
  obtain ⟨a0, a1, a2, a3, a4, a5⟩ := hA.2.2.2.2 g hg
  unfold f_X5_cutBy fb_X5_cutBy_0
  rw [lc_isThere hA hg, lu_bind, lu_q, if_pos hh, hA.2.2.1 5 (by decide), if_pos h5, s5, lu_ck (by omega) (by omega), nI_clamp (by omega), a3, hA.2.2.1 4 (by decide)]
  by_cases c : A.2 g 3 = 2
  · rw [if_pos c]; rw [if_pos c] at e; exact e
  · rw [if_neg c]; rw [if_neg c] at e; exact e
theorem lc_cutNo (hA : lc_T w o A) {x : Int32} (hx : x < 0 ∨ ∃ g, x = nI g ∧ g < 2 ^ 31 ∧ (la_n A ≤ g ∨ la_here A g = false ∨ ¬ A.1 5 ≤ 0)) : f_X5_cutBy σ o x w = some (0, w) := by
  unfold f_X5_cutBy fb_X5_cutBy_0
  rcases hx with h | ⟨g, rfl, h31, h⟩
  · rw [lc_isThere' hA (Or.inl h), lu_bind, if_pos rfl]
  · by_cases hg : g < la_n A
    · rw [lc_isThere hA hg, lu_bind, lu_q]
      by_cases hh : la_here A g = true
      · rw [if_pos hh, hA.2.2.1 5 (by decide), if_neg]
        rcases h with h | h | h
        · omega
        · rw [h] at hh; cases hh
        · exact h
      · rw [if_neg hh]
    · rw [lc_isThere' hA (Or.inr ⟨g, rfl, by omega, h31⟩), lu_bind, if_pos rfl]
theorem lc_eat (hS : lc_S σ o) (hA : lc_T w o A) : ∃ w', f_X5_eat σ o w = some w' ∧ lc_T w' o (la_eat A (la_n A)) ∧ lu_Fr o (o + 9) w w' := by
  obtain ⟨⟨s0, s1, s2, s3, s4, s5, s6, s7, s8⟩, l1, l2, l3, l4, l5, l6, l7, l8⟩ := hS
  have h7 := hA.2.1
  unfold f_X5_eat fb_X5_eat_0
  refine lu_upR (fun f k u => fb_X5_eat_2 σ o f (nI k) u) (la_n A) (fun k u => lc_T u o (la_eat A k) ∧ lu_Fr o (o + 9) w u) (fun u => lc_T u o (la_eat A (la_n A)) ∧ lu_Fr o (o + 9) w u) (fun f k u hk hI => ?_) (fun f u hI => ?_) lt_fu 0 w (by omega) (by unfold lt_fu; omega) ⟨hA, lu_Fr.refl _ _ _⟩
  · obtain ⟨hB, hF⟩ := hI
    have hn : k < la_n (la_eat A k) := by rw [la_n_eat]; exact hk
    obtain ⟨a0, a1, a2, a3, a4, a5⟩ := hB.2.2.2.2 k hn
    show ∃ b', fb_X5_eat_2 σ o (f + 1) (nI k) u = fb_X5_eat_2 σ o f (nI (k + 1)) b' ∧ _
    rw [fb_X5_eat_2, if_neg (lc_lt hB hn), lc_isThere hB hn, lu_bind, lu_q, s6, lu_ck (by omega) (by omega), lu_ck (by omega) (by omega), lu_let, lu_let, lu_ck (by omega) (by omega), lu_let, nI_clamp (by omega), a4, hB.2.2.1 5 (by decide), nI_1, la_eat]
    (try simp only [])
    by_cases e : la_here (la_eat A k) k = true
    · rw [if_pos e, if_pos e]
      by_cases e2 : (la_eat A k).1 5 ≤ 0
      · rw [if_pos e2, if_pos e2]
        exact ⟨_, rfl, hB.cell (Or.inl ⟨by decide, rfl⟩), hF.si (by omega) (by omega)⟩
      · rw [if_neg e2, if_neg e2]
        exact ⟨_, rfl, (hB.hd (by decide) (by decide)).cell (Or.inl ⟨by decide, rfl⟩), (hF.si (by omega) (by omega)).si (by omega) (by omega)⟩
    · rw [if_neg e, if_neg e]
      exact ⟨_, rfl, hB, hF⟩
  · obtain ⟨hB, hF⟩ := hI
    show ∃ r, fb_X5_eat_2 σ o (f + 1) _ u = _ ∧ _
    rw [fb_X5_eat_2, if_pos (lc_ge hB (by omega) (by rw [la_n_eat]; exact Nat.le_refl _))]
    exact ⟨_, rfl, hB, hF⟩
theorem lc_hasGuest (hA : lc_T w o A) {g : Nat} (h9 : g < 2 ^ 31) : f_X5_hasGuest σ o (nI g) w = some (if g < la_n A then 1 else 0) := by
  unfold f_X5_hasGuest fb_X5_hasGuest_0
  rw [if_neg (nI_pos h9)]
  by_cases e : g < la_n A
  · rw [if_neg (lc_lt hA e), if_pos e]
  · rw [if_pos (lc_ge hA h9 (by omega)), if_neg e]
theorem lc_hasGuest' {x : Int32} (h : x < 0) : f_X5_hasGuest σ o x w = some 0 := by
  unfold f_X5_hasGuest fb_X5_hasGuest_0
  rw [if_pos h]
theorem lc_yearn3 (hS : lc_S σ o) (hA : lc_T w o A) (hp : ∀ j, j < la_n A → lt_gi w (o + 8) j = nI (la_cnt (la_pass A j) (la_n A))) : ∃ w', fb_X5_yearn_77 σ o lt_fu 0 w = some w' ∧ lc_T w' o (la_yearn A (la_n A)) ∧ lu_Fr o (o + 9) w w' := by
  obtain ⟨⟨s0, s1, s2, s3, s4, s5, s6, s7, s8⟩, l1, l2, l3, l4, l5, l6, l7, l8⟩ := hS
  have h7 := hA.2.1
  refine lu_upR (fun f k u => fb_X5_yearn_77 σ o f (nI k) u) (la_n A) (fun k u => lc_T u o (la_yearn A k) ∧ lu_Fr o (o + 8) w u) (fun u => lc_T u o (la_yearn A (la_n A)) ∧ lu_Fr o (o + 9) w u) (fun f k u hk hI => ?_) (fun f u hI => ?_) lt_fu 0 w (by omega) (by unfold lt_fu; omega) ⟨hA, lu_Fr.refl _ _ _⟩
  · obtain ⟨hB, hF⟩ := hI
    have hn : k < la_n (la_yearn A k) := by rw [la_n_yearn]; exact hk
    obtain ⟨a0, a1, a2, a3, a4, a5⟩ := hB.2.2.2.2 k hn
    have ep : lt_gi u (o + 8) k = nI (la_cnt (la_pass A k) (la_n A)) := (hF.2 _ _ (by omega)).trans (hp k hk)
    have e3 : lt_gi u o 3 = A.1 3 := by rw [hB.2.2.1 3 (by decide), la_yearn_1]
    rw [la_yearn_2 k k 4 (Or.inl (by decide))] at a4
    show ∃ b', fb_X5_yearn_77 σ o (f + 1) (nI k) u = fb_X5_yearn_77 σ o f (nI (k + 1)) b' ∧ _
    rw [fb_X5_yearn_77, if_neg (lc_lt hB hn), lc_isThere hB hn, lu_bind, lu_q, s6, lu_ck (by omega) (by omega), nI_clamp (by omega), a4, nI_1, la_yearn, la_yearn_here]
    by_cases e : la_here A k = true
    · rw [if_pos e, if_pos e]
      have key : ∀ y0 y1 : Int32, fb_X5_yearn_125 σ o (fun x1 w => fb_X5_yearn_77 σ o f x1 w) (nI k) y0 y1 u = fb_X5_yearn_77 σ o f (nI (k + 1)) (lt_si u (o + 2) k (lt_min 20 ((la_yearn A k).2 k 0 + (y0 + y1)))) := by
        intro y0 y1
        unfold fb_X5_yearn_125
        rw [s2, lu_ck (by omega) (by omega), lu_ck (by omega) (by omega), nI_clamp (by omega), a0, lu_let, nI_1]
      have key2 : ∀ y0 : Int32, fb_X5_yearn_107 σ o (fun x1 w => fb_X5_yearn_77 σ o f x1 w) (nI k) y0 u = fb_X5_yearn_77 σ o f (nI (k + 1)) (lt_si u (o + 2) k (lt_min 20 ((la_yearn A k).2 k 0 + (y0 + if nI (la_cnt (la_pass A k) (la_n A)) < A.1 3 then 0 else 1)))) := by
        intro y0
        unfold fb_X5_yearn_107
        rw [s8, lu_ck (by omega) (by omega), nI_clamp (by omega), ep, e3]
        by_cases c : nI (la_cnt (la_pass A k) (la_n A)) < A.1 3
        · rw [if_pos c, key, if_pos c]
        · rw [if_neg c, key, if_neg c]
      refine ⟨lt_si u (o + 2) k (lt_min 20 ((la_yearn A k).2 k 0 + la_more A k)), ?_, hB.cell (Or.inl ⟨by decide, rfl⟩), hF.si (by omega) (by omega)⟩
      unfold la_more
      by_cases c : A.2 k 4 ≤ 0
      · rw [if_pos c, if_pos c, key2]
      · rw [if_neg c, if_neg c, key2]
    · rw [if_neg e, if_neg e]
      exact ⟨_, rfl, hB, hF⟩
  · obtain ⟨hB, hF⟩ := hI
    show ∃ r, fb_X5_yearn_77 σ o (f + 1) _ u = _ ∧ _
    rw [fb_X5_yearn_77, if_pos (lc_ge hB (by omega) (by rw [la_n_yearn]; exact Nat.le_refl _))]
    exact ⟨_, rfl, hB, hF.wide (Nat.le_refl _) (by omega)⟩
theorem lc_yearn2 (hS : lc_S σ o) (hA : lc_T w o A) (hO : la_Ok A) (hp : ∀ j, j < la_n A → lt_gi w (o + 8) j = 0) : ∃ w', fb_X5_yearn_25 σ o lt_fu 0 w = some w' ∧ lc_T w' o (la_yearn A (la_n A)) ∧ lu_Fr o (o + 9) w w' := by
  have hS' := hS
  obtain ⟨⟨s0, s1, s2, s3, s4, s5, s6, s7, s8⟩, l1, l2, l3, l4, l5, l6, l7, l8⟩ := hS
  have h7 := hA.2.1
  refine lu_upR (fun f k u => fb_X5_yearn_25 σ o f (nI k) u) (la_n A) (fun k u => (∀ j, j < la_n A → lt_gi u (o + 8) j = nI (la_cnt (la_pass A j) k)) ∧ lu_Fr (o + 8) (o + 9) w u) (fun u => lc_T u o (la_yearn A (la_n A)) ∧ lu_Fr o (o + 9) w u) (fun f k u hk hI => ?_) (fun f u hI => ?_) lt_fu 0 w (by omega) (by unfold lt_fu; omega) ⟨fun j hj => by rw [hp j hj]; rfl, lu_Fr.refl _ _ _⟩
  · obtain ⟨hP, hF⟩ := hI
    have hB : lc_T u o A := hA.fr hF (by omega)
    obtain ⟨a0, a1, a2, a3, a4, a5⟩ := hB.2.2.2.2 k hk
    show ∃ b', fb_X5_yearn_25 σ o (f + 1) (nI k) u = fb_X5_yearn_25 σ o f (nI (k + 1)) b' ∧ _
    rw [fb_X5_yearn_25, if_neg (lc_lt hB hk), lc_isThere hB hk, lu_bind, lu_q, s7, lu_ck (by omega) (by omega), nI_clamp (by omega), a5, nI_1]
    by_cases e : la_here A k = true
    · rw [if_pos e]
      rcases (hO.2.2.2.2.2.2.2 k hk).2.2.2.2.2.2 with et | ⟨j, hj, hjk, et⟩
      · rw [et, lc_hasGuest' (by decide), lu_bind, if_pos rfl]
        refine ⟨u, rfl, fun j hj => ?_, hF⟩
        rw [hP j hj, la_cnt, if_neg]
        simp only [la_pass, et, e, Bool.true_and, decide_eq_true_eq]
        exact lu_m1ne (by omega)
      · rw [et, lc_hasGuest hB (by omega), lu_bind, lu_q, if_pos hj, lu_ck (by omega) (by omega), s8, lu_ck (by omega) (by omega), lu_ck (by omega) (by omega), lu_let, nI_clamp (by omega), hP j hj, nI_1]
        refine ⟨_, rfl, fun i hi => ?_, hF.si (Nat.le_refl _) (by omega)⟩
        rw [lu_gisi, la_cnt]
        by_cases ei : i = j
        · rw [if_pos ⟨rfl, ei⟩, if_pos (by simp [la_pass, et, e, ei]), ei]
        · rw [if_neg (fun z => ei z.2), hP i hi, if_neg]
          simp only [la_pass, et, e, Bool.true_and, decide_eq_true_eq]
          rw [nI_eq (by omega) (by omega)]; omega
    · rw [if_neg e]
      refine ⟨u, rfl, fun j hj => ?_, hF⟩
      rw [hP j hj, la_cnt, if_neg (by simp [la_pass, e])]
  · obtain ⟨hP, hF⟩ := hI
    have hB : lc_T u o A := hA.fr hF (by omega)
    show ∃ r, fb_X5_yearn_25 σ o (f + 1) _ u = _ ∧ _
    rw [fb_X5_yearn_25, if_pos (lc_ge hB (by omega) (Nat.le_refl _))]
    obtain ⟨w', e1, e2, e3⟩ := lc_yearn3 hS' hB hP
    exact ⟨w', e1, e2, (hF.wide (by omega) (Nat.le_refl _)).trans e3⟩
theorem lc_yearn (hS : lc_S σ o) (hA : lc_T w o A) (hO : la_Ok A) : ∃ w', f_X5_yearn σ o w = some w' ∧ lc_T w' o (la_yearn A (la_n A)) ∧ lu_Fr o (o + 9) w w' := by
  have hS' := hS
  obtain ⟨⟨s0, s1, s2, s3, s4, s5, s6, s7, s8⟩, l1, l2, l3, l4, l5, l6, l7, l8⟩ := hS
  have h7 := hA.2.1
  unfold f_X5_yearn fb_X5_yearn_0
  refine lu_upR (fun f k u => fb_X5_yearn_2 σ o f (nI k) u) (la_n A) (fun k u => (∀ j, j < k → lt_gi u (o + 8) j = 0) ∧ lu_Fr (o + 8) (o + 9) w u) (fun u => lc_T u o (la_yearn A (la_n A)) ∧ lu_Fr o (o + 9) w u) (fun f k u hk hI => ?_) (fun f u hI => ?_) lt_fu 0 w (by omega) (by unfold lt_fu; omega) ⟨fun j hj => by omega, lu_Fr.refl _ _ _⟩
  · obtain ⟨hP, hF⟩ := hI
    have hB : lc_T u o A := hA.fr hF (by omega)
    show ∃ b', fb_X5_yearn_2 σ o (f + 1) (nI k) u = fb_X5_yearn_2 σ o f (nI (k + 1)) b' ∧ _
    rw [fb_X5_yearn_2, if_neg (lc_lt hB hk), s8, lu_ck (by omega) (by omega), nI_clamp (by omega), lu_let, nI_1]
    refine ⟨_, rfl, fun j hj => ?_, hF.si (Nat.le_refl _) (by omega)⟩
    rw [lu_gisi]
    by_cases e : j = k
    · rw [if_pos ⟨rfl, e⟩]
    · rw [if_neg (fun z => e z.2)]; exact hP j (by omega)
  · obtain ⟨hP, hF⟩ := hI
    have hB : lc_T u o A := hA.fr hF (by omega)
    show ∃ r, fb_X5_yearn_2 σ o (f + 1) _ u = _ ∧ _
    rw [fb_X5_yearn_2, if_pos (lc_ge hB (by omega) (Nat.le_refl _))]
    obtain ⟨w', e1, e2, e3⟩ := lc_yearn2 hS' hB hO hP
    exact ⟨w', e1, e2, (hF.wide (by omega) (Nat.le_refl _)).trans e3⟩
theorem lc_passDay (hS : lc_S σ o) (hA : lc_T w o A) (hO : la_Ok A) {g : Option Nat} (hg : la_may A g) : ∃ w', f_X5_passDay σ o (la_e g) w = some w' ∧ lc_T w' o (la_eats (la_cuts A g)) ∧ lu_Fr o (o + 9) w w' := by
  have h1 : ∃ r w1, f_X5_cutBy σ o (la_e g) w = some (r, w1) ∧ lc_T w1 o (la_cuts A g) ∧ lu_Fr o (o + 9) w w1 := by
    cases g with
    | none => exact ⟨0, w, lc_cutNo hA (Or.inl (by decide)), hA, lu_Fr.refl _ _ _⟩
    | some j =>
      obtain ⟨m1, m2, m3⟩ := hg j rfl
      obtain ⟨w1, e, a, b⟩ := lc_cut hS hA m1 m2 (by rw [m3]; decide)
      exact ⟨1, w1, e, a, b⟩
  obtain ⟨r, w1, e1, b1, c1⟩ := h1
  have hO1 := la_Ok_cuts hO hg
  obtain ⟨w2, e2, b2, c2⟩ := lc_eat hS b1
  obtain ⟨w3, e3, b3, c3⟩ := lc_yearn hS b2 (la_Ok_eat hO1 _ (Nat.le_refl _))
  unfold f_X5_passDay fb_X5_passDay_0
  rw [e1, lu_bind, e2, lu_bind, e3, lu_bind, lu_let, b3.2.2.1 6 (by decide)]
  exact ⟨_, rfl, b3.hd (by decide) (by decide), ((c1.trans c2).trans c3).si (Nat.le_refl _) (by omega)⟩
theorem lc_passDays (hS : lc_S σ o) (hA : lc_T w o A) (hO : la_Ok A) {d : Nat} (hd : d < 10000) : ∃ w', f_X5_passDays σ o (nI d) w = some w' ∧ lc_T w' o (la_days A d) ∧ lu_Fr o (o + 9) w w' := by
  unfold f_X5_passDays fb_X5_passDays_0
  refine lu_upR (fun f k u => fb_X5_passDays_2 σ o f (nI d) (nI k) u) d (fun k u => lc_T u o (la_days A k) ∧ lu_Fr o (o + 9) w u) (fun u => lc_T u o (la_days A d) ∧ lu_Fr o (o + 9) w u) (fun f k u hk hI => ?_) (fun f u hI => ?_) lt_fu 0 w (by omega) (by unfold lt_fu; omega) ⟨hA, lu_Fr.refl _ _ _⟩
  · obtain ⟨hB, hF⟩ := hI
    have hO1 := la_Ok_days hO k
    obtain ⟨w', e1, e2, e3⟩ := lc_passDay hS hB hO1 (la_first_may _)
    show ∃ b', fb_X5_passDays_2 σ o (f + 1) (nI d) (nI k) u = fb_X5_passDays_2 σ o f (nI d) (nI (k + 1)) b' ∧ _
    rw [fb_X5_passDays_2, if_neg (nI_ge hk (by omega)), lc_first hS hB hO1, lu_bind, e1, lu_bind, nI_1]
    exact ⟨_, rfl, e2, hF.trans e3⟩
  · obtain ⟨hB, hF⟩ := hI
    show ∃ r, fb_X5_passDays_2 σ o (f + 1) (nI d) _ u = _ ∧ _
    rw [fb_X5_passDays_2, if_pos (nI_le (Nat.le_refl _) (by omega))]
    exact ⟨_, rfl, hB, hF⟩
end LC2
