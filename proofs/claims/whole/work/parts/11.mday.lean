/-! THE REFERENCE'S TABLE: a slot of the array at (cell t), from b on -/
def lm_T (w : lt_W) (t b : Nat) (A : la_A) : Prop := A.1 0 = nI (la_n A) ∧ la_n A ≤ 7 ∧ (∀ k, k < 8 → lt_gi w t (b + k) = A.1 k) ∧ ∀ g, g < la_n A → ∀ f, f < 7 → lt_gi w t (b + 10 + 7 * g + f) = A.2 g f
def lm_S (σ : lt_S) (o : Nat) : Prop := lt_len σ (lt_r σ o 0) = 2560
/-- what a day leaves as it was: all but the table's own places of the slot 0 -/
def lm_D (t : Nat) (w w' : lt_W) : Prop := (∀ a k, lt_gl w' a k = lt_gl w a k) ∧ ∀ a k, (a ≠ t ∨ 60 ≤ k ∨ k = 8 ∨ k = 9) → lt_gi w' a k = lt_gi w a k
theorem lm_D.refl (t : Nat) (w : lt_W) : lm_D t w w := ⟨fun _ _ => rfl, fun _ _ _ => rfl⟩
theorem lm_D.trans {t : Nat} {w w' w'' : lt_W} (h : lm_D t w w') (h' : lm_D t w' w'') : lm_D t w w'' := ⟨fun a k => (h'.1 a k).trans (h.1 a k), fun a k z => (h'.2 a k z).trans (h.2 a k z)⟩
theorem lm_D.si {t k : Nat} {v : Int32} {w w' : lt_W} (h : lm_D t w w') (hk : k < 60) (h8 : k ≠ 8) (h9 : k ≠ 9) : lm_D t w (lt_si w' t k v) :=
  ⟨fun b j => h.1 b j, fun b j z => by rw [lu_ne (by omega)]; exact h.2 b j z⟩
/-- what a call leaves that works in at[lo .. hi) -/
def lm_F (t lo hi : Nat) (w w' : lt_W) : Prop := (∀ a k, lt_gl w' a k = lt_gl w a k) ∧ ∀ a k, (a ≠ t ∨ k < lo ∨ hi ≤ k) → lt_gi w' a k = lt_gi w a k
theorem lm_F.refl (t lo hi : Nat) (w : lt_W) : lm_F t lo hi w w := ⟨fun _ _ => rfl, fun _ _ _ => rfl⟩
theorem lm_F.trans {t lo hi : Nat} {w w' w'' : lt_W} (h : lm_F t lo hi w w') (h' : lm_F t lo hi w' w'') : lm_F t lo hi w w'' := ⟨fun a k => (h'.1 a k).trans (h.1 a k), fun a k z => (h'.2 a k z).trans (h.2 a k z)⟩
theorem lm_F.wide {t lo hi lo' hi' : Nat} {w w' : lt_W} (h : lm_F t lo hi w w') (h1 : lo' ≤ lo) (h2 : hi ≤ hi') : lm_F t lo' hi' w w' := ⟨h.1, fun a k z => h.2 a k (by omega)⟩
theorem lm_F.si {t lo hi k : Nat} {v : Int32} {w w' : lt_W} (h : lm_F t lo hi w w') (h1 : lo ≤ k) (h2 : k < hi) : lm_F t lo hi w (lt_si w' t k v) :=
  ⟨fun b j => h.1 b j, fun b j z => by rw [lu_ne (by omega)]; exact h.2 b j z⟩
theorem lm_T.congr {w w' : lt_W} {t b b' : Nat} {A : la_A} (h : lm_T w t b A) (e : ∀ k, k < 60 → k ≠ 8 → k ≠ 9 → lt_gi w' t (b' + k) = lt_gi w t (b + k)) : lm_T w' t b' A := by
  obtain ⟨h1, h2, h3, h4⟩ := h
  refine ⟨h1, h2, fun k hk => by rw [e k (by omega) (by omega) (by omega)]; exact h3 k hk, fun g hg f hf => ?_⟩
  have := e (10 + 7 * g + f) (by omega) (by omega) (by omega)
  rw [show b' + (10 + 7 * g + f) = b' + 10 + 7 * g + f from by omega, show b + (10 + 7 * g + f) = b + 10 + 7 * g + f from by omega] at this
  rw [this]; exact h4 g hg f hf
theorem lm_T.hd {w : lt_W} {t b i k : Nat} {v : Int32} {A : la_A} (h : lm_T w t b A) (hi : i = b + k) (h0 : 0 < k) (h8 : k < 8) : lm_T (lt_si w t i v) t b (la_h A k v) := by
  obtain ⟨h1, h2, h3, h4⟩ := h
  refine ⟨?_, by rw [la_n_h h0]; exact h2, fun j hj => ?_, fun g hg f hf => ?_⟩
  · rw [la_n_h h0]; show (if 0 = k then v else A.1 0) = _
    rw [if_neg (by omega)]; exact h1
  · rw [lu_gisi]; show _ = if j = k then v else A.1 j
    by_cases e : j = k
    · rw [if_pos ⟨rfl, by omega⟩, if_pos e]
    · rw [if_neg (fun z => e (by omega)), if_neg e]; exact h3 j hj
  · rw [la_n_h h0] at hg
    rw [lu_ne (Or.inr (by omega))]; exact h4 g hg f hf
theorem lm_T.cell {w : lt_W} {t b i g f : Nat} {v : Int32} {A : la_A} (h : lm_T w t b A) (hi : i = b + 10 + 7 * g + f) (hf : f < 7) : lm_T (lt_si w t i v) t b (la_c A g f v) := by
  obtain ⟨h1, h2, h3, h4⟩ := h
  refine ⟨h1, h2, fun j hj => ?_, fun g' hg' f' hf' => ?_⟩
  · rw [lu_ne (Or.inr (by omega))]; exact h3 j hj
  · rw [lu_gisi]; show _ = if g' = g ∧ f' = f then v else A.2 g' f'
    by_cases e : g' = g ∧ f' = f
    · rw [if_pos e, if_pos ⟨rfl, by omega⟩]
    · rw [if_neg e, if_neg (fun z => e (by omega))]; exact h4 g' hg' f' hf'
theorem lm_T.outA {w : lt_W} {t b a k : Nat} {v : Int32} {A : la_A} (h : lm_T w t b A) (d : a ≠ t) : lm_T (lt_si w a k v) t b A :=
  h.congr fun k _ _ _ => lu_ne (Or.inl (fun z => d z.symm))
theorem lm_T.outK {w : lt_W} {t b i : Nat} {v : Int32} {A : la_A} (h : lm_T w t b A) (d : i < b ∨ b + 60 ≤ i ∨ i = b + 8 ∨ i = b + 9) : lm_T (lt_si w t i v) t b A :=
  h.congr fun k _ _ _ => lu_ne (Or.inr (by omega))
theorem lm_T.F {w w' : lt_W} {t b lo hi : Nat} {A : la_A} (h : lm_T w t b A) (e : lm_F t lo hi w w') (d : b + 60 ≤ lo ∨ hi ≤ b) : lm_T w' t b A :=
  h.congr fun k _ _ _ => e.2 _ _ (by omega)
theorem lm_T.D {w w' : lt_W} {t b : Nat} {A : la_A} (h : lm_T w t b A) (e : lm_D t w w') (d : 60 ≤ b) : lm_T w' t b A :=
  h.congr fun k _ _ _ => e.2 _ _ (by omega)

theorem lm_k0 {α : Type} {y : Option α} : lt_ck 0 2560 y = y := lu_ck (i := 0) (by decide) (by decide)
theorem lm_c0 : (0 : Int32).toNatClampNeg = 0 := rfl
theorem lm_a0 (r : Nat) : nI r + 0 = nI (r + 0) := nI_add r 0
theorem lm_k1 {α : Type} {y : Option α} : lt_ck 1 2560 y = y := lu_ck (i := 1) (by decide) (by decide)
theorem lm_c1 : (1 : Int32).toNatClampNeg = 1 := rfl
theorem lm_a1 (r : Nat) : nI r + 1 = nI (r + 1) := nI_add r 1
theorem lm_k2 {α : Type} {y : Option α} : lt_ck 2 2560 y = y := lu_ck (i := 2) (by decide) (by decide)
theorem lm_c2 : (2 : Int32).toNatClampNeg = 2 := rfl
theorem lm_a2 (r : Nat) : nI r + 2 = nI (r + 2) := nI_add r 2
theorem lm_k3 {α : Type} {y : Option α} : lt_ck 3 2560 y = y := lu_ck (i := 3) (by decide) (by decide)
theorem lm_c3 : (3 : Int32).toNatClampNeg = 3 := rfl
theorem lm_a3 (r : Nat) : nI r + 3 = nI (r + 3) := nI_add r 3
theorem lm_k4 {α : Type} {y : Option α} : lt_ck 4 2560 y = y := lu_ck (i := 4) (by decide) (by decide)
theorem lm_c4 : (4 : Int32).toNatClampNeg = 4 := rfl
theorem lm_a4 (r : Nat) : nI r + 4 = nI (r + 4) := nI_add r 4
theorem lm_k5 {α : Type} {y : Option α} : lt_ck 5 2560 y = y := lu_ck (i := 5) (by decide) (by decide)
theorem lm_c5 : (5 : Int32).toNatClampNeg = 5 := rfl
theorem lm_a5 (r : Nat) : nI r + 5 = nI (r + 5) := nI_add r 5
theorem lm_k6 {α : Type} {y : Option α} : lt_ck 6 2560 y = y := lu_ck (i := 6) (by decide) (by decide)
theorem lm_c6 : (6 : Int32).toNatClampNeg = 6 := rfl
theorem lm_a6 (r : Nat) : nI r + 6 = nI (r + 6) := nI_add r 6
theorem lm_k7 {α : Type} {y : Option α} : lt_ck 7 2560 y = y := lu_ck (i := 7) (by decide) (by decide)
theorem lm_c7 : (7 : Int32).toNatClampNeg = 7 := rfl
theorem lm_a7 (r : Nat) : nI r + 7 = nI (r + 7) := nI_add r 7
theorem lm_k8 {α : Type} {y : Option α} : lt_ck 8 2560 y = y := lu_ck (i := 8) (by decide) (by decide)
theorem lm_c8 : (8 : Int32).toNatClampNeg = 8 := rfl
theorem lm_a8 (r : Nat) : nI r + 8 = nI (r + 8) := nI_add r 8
theorem lm_k9 {α : Type} {y : Option α} : lt_ck 9 2560 y = y := lu_ck (i := 9) (by decide) (by decide)
theorem lm_c9 : (9 : Int32).toNatClampNeg = 9 := rfl
theorem lm_a9 (r : Nat) : nI r + 9 = nI (r + 9) := nI_add r 9
theorem lm_k10 {α : Type} {y : Option α} : lt_ck 10 2560 y = y := lu_ck (i := 10) (by decide) (by decide)
theorem lm_c10 : (10 : Int32).toNatClampNeg = 10 := rfl
theorem lm_a10 (r : Nat) : nI r + 10 = nI (r + 10) := nI_add r 10
theorem lm_k11 {α : Type} {y : Option α} : lt_ck 11 2560 y = y := lu_ck (i := 11) (by decide) (by decide)
theorem lm_c11 : (11 : Int32).toNatClampNeg = 11 := rfl
theorem lm_a11 (r : Nat) : nI r + 11 = nI (r + 11) := nI_add r 11
theorem lm_k12 {α : Type} {y : Option α} : lt_ck 12 2560 y = y := lu_ck (i := 12) (by decide) (by decide)
theorem lm_c12 : (12 : Int32).toNatClampNeg = 12 := rfl
theorem lm_a12 (r : Nat) : nI r + 12 = nI (r + 12) := nI_add r 12
section LM
variable {σ : lt_S} {o : Nat} {w : lt_W} {A : la_A}
theorem lm_row (g : Nat) : f_X12_guestRow (nI g) = some (nI (10 + 7 * g)) := by
  unfold f_X12_guestRow fb_X12_guestRow_0
  rw [show (7 : Int32) = nI 7 from rfl, show (10 : Int32) = nI 10 from rfl, pk_mul, nI_add]
theorem lm_of (hS : lm_S σ o) (hA : lm_T w (lt_r σ o 0) 0 A) {g f : Nat} {x : Int32} (hg : g < la_n A) (hx : x = nI f) (hf : f < 7) : f_X12_guestOf σ o (nI g) x w = some (A.2 g f) := by
  have h7 := hA.2.1
  unfold f_X12_guestOf fb_X12_guestOf_0
  rw [lm_row, lu_bind, hS, hx, nI_add, lu_ck (by omega) (by decide), nI_clamp (by omega), show 10 + 7 * g + f = 0 + 10 + 7 * g + f from by omega, hA.2.2.2 g hg f hf]
theorem lm_here (hS : lm_S σ o) (hA : lm_T w (lt_r σ o 0) 0 A) {g : Nat} (hg : g < la_n A) : f_X12_isHere σ o (nI g) w = some (if la_here A g = true then 1 else 0) := by
  unfold f_X12_isHere fb_X12_isHere_0
  rw [lm_of (x := 5) (f := 5) hS hA hg rfl (by decide), lu_bind]
  by_cases e : A.2 g 5 = 1
  · rw [if_pos e, if_pos (by simp [la_here, e])]
  · rw [if_neg e, if_neg (by simp [la_here, e])]
theorem lm_hd (hA : lm_T w (lt_r σ o 0) 0 A) {k : Nat} (hk : k < 8) : lt_gi w (lt_r σ o 0) k = A.1 k := by
  have := hA.2.2.1 k hk
  rwa [Nat.zero_add] at this
theorem lm_n (hA : lm_T w (lt_r σ o 0) 0 A) : lt_gi w (lt_r σ o 0) 0 = nI (la_n A) := (lm_hd hA (by decide)).trans hA.1
theorem lm_lt (hA : lm_T w (lt_r σ o 0) 0 A) {g : Nat} (hg : g < la_n A) : ¬ lt_gi w (lt_r σ o 0) 0 ≤ nI g := by
  rw [lm_n hA]; exact nI_ge hg (by have := hA.2.1; omega)
theorem lm_ge (hA : lm_T w (lt_r σ o 0) 0 A) {g : Nat} (h9 : g < 2 ^ 31) (hg : la_n A ≤ g) : lt_gi w (lt_r σ o 0) 0 ≤ nI g := by
  rw [lm_n hA]; exact nI_le hg h9

theorem lm_areHere (hS : lm_S σ o) (hA : lm_T w (lt_r σ o 0) 0 A) : f_X12_areHere σ o w = some (la_sb (la_here A) (la_n A)) := by
  have h7 := hA.2.1
  unfold f_X12_areHere fb_X12_areHere_0
  refine lu_up (fun f k x => fb_X12_areHere_4 σ o w f x (nI k)) (la_n A) (fun k => la_sb (la_here A) k) _ (fun f k hk => ?_) (fun f => ?_) lt_fu 0 (by omega) (by unfold lt_fu; omega)
  · show fb_X12_areHere_4 σ o w (f + 1) _ _ = fb_X12_areHere_4 σ o w f _ _
    rw [fb_X12_areHere_4, hS, lm_k0, lm_c0, if_neg (lm_lt hA hk), lm_here hS hA hk, lu_bind, lu_q, lu_let, nI_1, Int32.or_zero, la_sb]
    by_cases e : la_here A k = true
    · rw [if_pos e, if_pos e]; rfl
    · rw [if_neg e, if_neg e]
  · show fb_X12_areHere_4 σ o w (f + 1) _ _ = _
    rw [fb_X12_areHere_4, hS, lm_k0, lm_c0, if_pos (lm_ge hA (by omega) (Nat.le_refl _))]
theorem lm_areHungry (hS : lm_S σ o) (hA : lm_T w (lt_r σ o 0) 0 A) : f_X12_areHungry σ o w = some (la_sb (la_hung A) (la_n A)) := by
  have h7 := hA.2.1
  unfold f_X12_areHungry fb_X12_areHungry_0
  refine lu_up (fun f k x => fb_X12_areHungry_4 σ o w f x (nI k)) (la_n A) (fun k => la_sb (la_hung A) k) _ (fun f k hk => ?_) (fun f => ?_) lt_fu 0 (by omega) (by unfold lt_fu; omega)
  · show fb_X12_areHungry_4 σ o w (f + 1) _ _ = fb_X12_areHungry_4 σ o w f _ _
    rw [fb_X12_areHungry_4, hS, lm_k0, lm_c0, if_neg (lm_lt hA hk), lm_here hS hA hk, lu_bind, lu_q, lm_of (x := 4) (f := 4) hS hA hk rfl (by decide), lu_bind, lu_let, nI_1, Int32.or_zero, la_sb]
    by_cases e : la_here A k = true
    · rw [if_pos e]
      by_cases e2 : A.2 k 4 ≤ 0
      · rw [if_pos e2, if_neg (by simp [la_hung, e, Int32.not_lt.mpr e2])]
      · rw [if_neg e2, if_pos (by simp [la_hung, e, Int32.not_le.mp e2])]; rfl
    · rw [if_neg e, if_neg (by simp [la_hung, e])]
  · show fb_X12_areHungry_4 σ o w (f + 1) _ _ = _
    rw [fb_X12_areHungry_4, hS, lm_k0, lm_c0, if_pos (lm_ge hA (by omega) (Nat.le_refl _))]
theorem lm_areStarved (hS : lm_S σ o) (hA : lm_T w (lt_r σ o 0) 0 A) : f_X12_areStarved σ o w = some (la_sb (la_starv A) (la_n A)) := by
  have h7 := hA.2.1
  unfold f_X12_areStarved fb_X12_areStarved_0
  refine lu_up (fun f k x => fb_X12_areStarved_4 σ o w f x (nI k)) (la_n A) (fun k => la_sb (la_starv A) k) _ (fun f k hk => ?_) (fun f => ?_) lt_fu 0 (by omega) (by unfold lt_fu; omega)
  · show fb_X12_areStarved_4 σ o w (f + 1) _ _ = fb_X12_areStarved_4 σ o w f _ _
    rw [fb_X12_areStarved_4, hS, lm_k0, lm_c0, if_neg (lm_lt hA hk), lm_here hS hA hk, lu_bind, lu_q, lm_of (x := 4) (f := 4) hS hA hk rfl (by decide), lu_bind, lm_of (x := 1) (f := 1) hS hA hk rfl (by decide), lu_bind, lu_let, nI_1, Int32.or_zero, la_sb]
    by_cases e : la_here A k = true
    · rw [if_pos e]
      by_cases e2 : A.2 k 4 ≤ A.2 k 1
      · rw [if_pos e2, if_neg (by simp [la_starv, e, Int32.not_lt.mpr e2])]
      · rw [if_neg e2, if_pos (by simp [la_starv, e, Int32.not_le.mp e2])]; rfl
    · rw [if_neg e, if_neg (by simp [la_starv, e])]
  · show fb_X12_areStarved_4 σ o w (f + 1) _ _ = _
    rw [fb_X12_areStarved_4, hS, lm_k0, lm_c0, if_pos (lm_ge hA (by omega) (Nat.le_refl _))]
theorem lm_passTo (hS : lm_S σ o) (hA : lm_T w (lt_r σ o 0) 0 A) (t : Nat) : f_X12_passTo σ o (nI t) w = some (la_sb (la_pass A t) (la_n A)) := by
  have h7 := hA.2.1
  unfold f_X12_passTo fb_X12_passTo_0
  refine lu_up (fun f k x => fb_X12_passTo_4 σ o w f (nI t) x (nI k)) (la_n A) (fun k => la_sb (la_pass A t) k) _ (fun f k hk => ?_) (fun f => ?_) lt_fu 0 (by omega) (by unfold lt_fu; omega)
  · show fb_X12_passTo_4 σ o w (f + 1) _ _ _ = fb_X12_passTo_4 σ o w f _ _ _
    rw [fb_X12_passTo_4, hS, lm_k0, lm_c0, if_neg (lm_lt hA hk), lm_here hS hA hk, lu_bind, lu_q, lm_of (x := 6) (f := 6) hS hA hk rfl (by decide), lu_bind, lu_let, nI_1, Int32.or_zero, la_sb]
    by_cases e : la_here A k = true
    · rw [if_pos e]
      by_cases e2 : A.2 k 6 = nI t
      · rw [if_pos e2, if_pos (by simp [la_pass, e, e2])]; rfl
      · rw [if_neg e2, if_neg (by simp [la_pass, e2])]
    · rw [if_neg e, if_neg (by simp [la_pass, e])]
  · show fb_X12_passTo_4 σ o w (f + 1) _ _ _ = _
    rw [fb_X12_passTo_4, hS, lm_k0, lm_c0, if_pos (lm_ge hA (by omega) (Nat.le_refl _))]
theorem lm_first (hS : lm_S σ o) (hA : lm_T w (lt_r σ o 0) 0 A) : f_X12_firstCutter σ o w = some (la_e (la_first A)) := by
  have h7 := hA.2.1
  unfold f_X12_firstCutter fb_X12_firstCutter_0 la_first
  by_cases e5 : A.1 5 = 0
  · rw [if_pos e5]
    refine lu_up (fun f k x => fb_X12_firstCutter_4 σ o w f x (nI k)) (la_n A) (fun k => la_e (la_fc A k)) _ (fun f k hk => ?_) (fun f => ?_) lt_fu 0 (by omega) (by unfold lt_fu; omega)
    · show fb_X12_firstCutter_4 σ o w (f + 1) _ _ = fb_X12_firstCutter_4 σ o w f _ _
      rw [fb_X12_firstCutter_4, hS, lm_k0, lm_c0, if_neg (lm_lt hA hk), lm_k5, lm_c5, lm_hd hA (by decide), if_pos e5, lm_here hS hA hk, lu_bind, lu_q, lm_of (x := 0) (f := 0) hS hA hk rfl (by decide), lu_bind, lm_k2, lm_c2, lm_hd hA (by decide), lu_bind, nI_1, la_fc]
      by_cases e : la_here A k = true
      · rw [if_pos e]
        cases e1 : la_fc A k with
        | none =>
          by_cases c : A.1 2 ≤ A.2 k 0
          · rw [if_pos c, if_pos (show la_e none = -1 from rfl)]; simp [e, c, la_e]
          · rw [if_neg c]; simp [e, c]
        | some j =>
          obtain ⟨j1, j2, j3⟩ := la_fc_spec _ _ e1
          show (if A.1 2 ≤ A.2 k 0 then if nI j = -1 then _ else Option.bind (f_X12_guestOf σ o (nI j) 0 w) _ else _) = _
          rw [if_neg (lu_ne1 (by omega)), lm_of (x := 0) (f := 0) hS hA (show j < la_n A by omega) rfl (by decide), lu_bind]
          by_cases c : A.2 j 0 < A.2 k 0
          · rw [if_pos (Int32.le_trans j3 (Int32.le_of_lt c)), if_neg (Int32.not_le.mpr c)]; simp [e, c, la_e]
          · rw [if_pos (Int32.not_lt.mp c)]; simp [e, c, la_e]
      · rw [if_neg e]
        cases e1 : la_fc A k <;> simp [e]
    · show fb_X12_firstCutter_4 σ o w (f + 1) _ _ = _
      rw [fb_X12_firstCutter_4, hS, lm_k0, lm_c0, if_pos (lm_ge hA (by omega) (Nat.le_refl _))]
  · rw [if_neg e5, show lt_fu = lt_fu - 1 + 1 from rfl, fb_X12_firstCutter_4, hS, lm_k0, lm_c0, lm_k5, lm_c5, lm_hd hA (by decide), lm_hd hA (by decide), if_neg e5]
    split <;> rfl
theorem lm_cuts (hS : lm_S σ o) (hA : lm_T w (lt_r σ o 0) 0 A) {g : Nat} (hg : g < la_n A) : ∃ w', f_X12_cuts1 σ o (nI g) w = some (if A.2 g 3 = 1 then 0 else 1, w') ∧ lm_T w' (lt_r σ o 0) 0 (la_cut A g) ∧ lm_D (lt_r σ o 0) w w' := by
  have h7 := hA.2.1
  have hD := lm_D.refl (lt_r σ o 0) w
  have e3 : lt_gi w (lt_r σ o 0) (10 + 7 * g + 3) = A.2 g 3 := by
    have := hA.2.2.2 g hg 3 (by decide)
    rwa [show 0 + 10 + 7 * g + 3 = 10 + 7 * g + 3 from by omega] at this
  have hA1 := hA.hd (i := 5) (k := 5) (v := if A.2 g 3 = 2 then (A.1 4 + 1) / 2 else A.1 4) rfl (by decide) (by decide)
  have hA2 := hA1.hd (i := 7) (k := 7) (v := A.1 7 + 1) rfl (by decide) (by decide)
  have key : ∀ v, v = (if A.2 g 3 = 2 then (A.1 4 + 1) / 2 else A.1 4) → ∃ w', fb_X12_cuts1_43 σ o (nI (10 + 7 * g)) (A.2 g 3) (lt_r σ o 0) 5 v w = some (if A.2 g 3 = 1 then 0 else 1, w') ∧ lm_T w' (lt_r σ o 0) 0 (la_cut A g) ∧ lm_D (lt_r σ o 0) w w' := by
    intro v hv
    unfold fb_X12_cuts1_43 la_cut
    simp only []
    rw [hS, lm_k5, lm_c5, lu_let, lm_k7, lm_k7, lm_c7, lu_let, lu_ne (Or.inr (by decide)), lm_hd hA (by decide), lm_a5, lu_ck (by omega) (by decide), lu_ck (by omega) (by decide), nI_clamp (by omega), nI_clamp (by omega), lu_let, lu_let, hv]
    by_cases c : A.2 g 3 = 1
    · rw [if_pos c, if_pos c, if_pos c]
      exact ⟨_, rfl, hA2.cell (by omega) (by decide), ((hD.si (by decide) (by decide) (by decide)).si (by decide) (by decide) (by decide)).si (by omega) (by omega) (by omega)⟩
    · rw [if_neg c, if_neg c, if_neg c]
      exact ⟨_, rfl, hA2.cell (by omega) (by decide), ((hD.si (by decide) (by decide) (by decide)).si (by decide) (by decide) (by decide)).si (by omega) (by omega) (by omega)⟩
  unfold f_X12_cuts1 fb_X12_cuts1_0
  rw [lm_row, lu_bind, hS, lm_a3, lu_ck (by omega) (by decide), nI_clamp (by omega), e3, lu_let, lm_k4, lm_c4, lm_hd hA (by decide)]
  by_cases c : A.2 g 3 = 2
  · rw [if_pos c]; exact key _ (by rw [if_pos c])
  · rw [if_neg c]; exact key _ (by rw [if_neg c])
theorem lm_at (hA : lm_T w (lt_r σ o 0) 0 A) {g f : Nat} (hg : g < la_n A) (hf : f < 7) : lt_gi w (lt_r σ o 0) (10 + 7 * g + f) = A.2 g f := by
  have := hA.2.2.2 g hg f hf
  rwa [show 0 + 10 + 7 * g + f = 10 + 7 * g + f from by omega] at this
theorem lm_eat (hS : lm_S σ o) {r : lt_W → Prop} (hA : lm_T w (lt_r σ o 0) 0 A) (hk : ∀ u, lm_T u (lt_r σ o 0) 0 (la_eat A (la_n A)) → lm_D (lt_r σ o 0) w u → ∃ w', fb_X12_eats_100 σ o lt_fu 0 u = some w' ∧ r w') : ∃ w', f_X12_eats σ o w = some w' ∧ r w' := by
  have h7 := hA.2.1
  unfold f_X12_eats fb_X12_eats_0
  refine lu_upR (fun f k u => fb_X12_eats_2 σ o f (nI k) u) (la_n A) (fun k u => lm_T u (lt_r σ o 0) 0 (la_eat A k) ∧ lm_D (lt_r σ o 0) w u) r (fun f k u hk hI => ?_) (fun f u hI => ?_) lt_fu 0 w (by omega) (by unfold lt_fu; omega) ⟨hA, lm_D.refl _ _⟩
  · obtain ⟨hB, hF⟩ := hI
    have hn : k < la_n (la_eat A k) := by rw [la_n_eat]; exact hk
    have a4 := lm_at hB hn (f := 4) (by decide)
    show ∃ b', fb_X12_eats_2 σ o (f + 1) (nI k) u = fb_X12_eats_2 σ o f (nI (k + 1)) b' ∧ _
    rw [fb_X12_eats_2, hS, lm_k0, lm_c0, if_neg (lm_lt hB hn), lm_here hS hB hn, lu_bind, lu_q, lm_row, lu_bind, lm_k5, lm_c5, lm_hd hB (by decide), nI_1, la_eat]
    (try simp only [])
    by_cases e : la_here (la_eat A k) k = true
    · rw [if_pos e, if_pos e]
      by_cases e2 : (la_eat A k).1 5 ≤ 0
      · rw [if_pos e2, if_pos e2]
        unfold fb_X12_eats_42
        rw [hS, lm_k5, if_pos rfl, lm_c5]
        unfold fb_X12_eats_59
        rw [hS, lm_k5, lu_let, if_pos rfl, lm_c5, lm_a4, lu_ck (by omega) (by decide), nI_clamp (by omega), lu_ne (Or.inr (by omega)), a4]
        unfold fb_X12_eats_91
        rw [hS, lu_ck (by omega) (by decide), lu_let, nI_clamp (by omega), nI_1]
        have hs : lt_si u (lt_r σ o 0) 5 (lt_gi u (lt_r σ o 0) 5 - 0) = u := by
          have : ∀ b j, (lt_si u (lt_r σ o 0) 5 (lt_gi u (lt_r σ o 0) 5 - 0)).1 b j = u.1 b j := by
            intro b j
            show (if b = lt_r σ o 0 ∧ j = 5 then _ else _) = _
            split
            · rename_i h; rw [h.1, h.2, Int32.sub_zero]; rfl
            · rfl
          exact Prod.ext (funext fun b => funext fun j => this b j) rfl
        rw [hs]
        exact ⟨_, rfl, hB.cell (by omega) (by decide), hF.si (by omega) (by omega) (by omega)⟩
      · rw [if_neg e2, if_neg e2]
        unfold fb_X12_eats_42
        rw [hS, lm_k5, if_neg (show ¬ (1 : Int32) = 0 by decide), lm_c5]
        unfold fb_X12_eats_59
        rw [hS, lm_k5, lu_let, if_neg (show ¬ (1 : Int32) = 0 by decide), lm_c5, lm_a4]
        unfold fb_X12_eats_91
        rw [hS, lu_ck (by omega) (by decide), lu_let, nI_clamp (by omega), nI_1, lm_hd hB (by decide)]
        exact ⟨_, rfl, (hB.hd rfl (by decide) (by decide)).cell (by omega) (by decide), (hF.si (by decide) (by decide) (by decide)).si (by omega) (by omega) (by omega)⟩
    · rw [if_neg e, if_neg e]
      exact ⟨_, rfl, hB, hF⟩
  · obtain ⟨hB, hF⟩ := hI
    show ∃ r, fb_X12_eats_2 σ o (f + 1) _ u = _ ∧ _
    rw [fb_X12_eats_2, hS, lm_k0, lm_c0, if_pos (lm_ge hB (by omega) (by rw [la_n_eat]; exact Nat.le_refl _))]
    exact hk u hB hF
theorem lm_yearn (hS : lm_S σ o) (hA : lm_T w (lt_r σ o 0) 0 A) (hO : la_Ok A) : ∃ w', fb_X12_eats_100 σ o lt_fu 0 w = some w' ∧ lm_T w' (lt_r σ o 0) 0 (la_h (la_yearn A (la_n A)) 6 ((la_yearn A (la_n A)).1 6 + 1)) ∧ lm_D (lt_r σ o 0) w w' := by
  have h7 := hA.2.1
  refine lu_upR (fun f k u => fb_X12_eats_100 σ o f (nI k) u) (la_n A) (fun k u => lm_T u (lt_r σ o 0) 0 (la_yearn A k) ∧ lm_D (lt_r σ o 0) w u) _ (fun f k u hk hI => ?_) (fun f u hI => ?_) lt_fu 0 w (by omega) (by unfold lt_fu; omega) ⟨hA, lm_D.refl _ _⟩
  · obtain ⟨hB, hF⟩ := hI
    have hn : k < la_n (la_yearn A k) := by rw [la_n_yearn]; exact hk
    have a4 := lm_at hB hn (f := 4) (by decide)
    have a0 := lm_at hB hn (f := 0) (by decide)
    have e3 : lt_gi u (lt_r σ o 0) 3 = A.1 3 := by rw [lm_hd hB (by decide), la_yearn_1]
    rw [la_yearn_2 k k 4 (Or.inl (by decide))] at a4
    show ∃ b', fb_X12_eats_100 σ o (f + 1) (nI k) u = fb_X12_eats_100 σ o f (nI (k + 1)) b' ∧ _
    rw [fb_X12_eats_100, hS, lm_k0, lm_c0, if_neg (lm_lt hB hn), lm_here hS hB hn, lu_bind, lu_q, lm_row, lu_bind, lm_a4, lu_ck (by omega) (by decide), nI_clamp (by omega), a4, nI_1, la_yearn, la_yearn_here]
    by_cases e : la_here A k = true
    · rw [if_pos e, if_pos e]
      have key : ∀ y0 y1 : Int32, fb_X12_eats_172 σ o (fun x1 w => fb_X12_eats_100 σ o f x1 w) (nI k) (nI (10 + 7 * k)) y0 y1 u = fb_X12_eats_100 σ o f (nI (k + 1)) (lt_si u (lt_r σ o 0) (10 + 7 * k) (lt_min 20 ((la_yearn A k).2 k 0 + (y0 + y1)))) := by
        intro y0 y1
        unfold fb_X12_eats_172
        rw [hS, lu_ck (by omega) (by decide), lu_ck (by omega) (by decide), nI_clamp (by omega), ← a0, lu_let, nI_1]; rfl
      have hset : (la_sb (la_pass A k) (la_n A)) &&& ((1 <<< (nI k &&& 31)) ^^^ (-1)) = la_sb (la_pass A k) (la_n A) := by
        rw [la_clr h7 hk]
        refine la_sb_congr fun i hi => ?_
        by_cases ei : i = k
        · rw [if_pos ei, ei]
          rcases (hO.2.2.2.2.2.2.2 k hk).2.2.2.2.2.2 with et | ⟨j, hj, hjk, et⟩
          · simp only [la_pass, et, Bool.false_eq, Bool.and_eq_false_imp, decide_eq_false_iff_not]
            exact fun _ => lu_m1ne (by omega)
          · simp only [la_pass, et, Bool.false_eq, Bool.and_eq_false_imp, decide_eq_false_iff_not]
            exact fun _ => by rw [nI_eq (by omega) (by omega)]; exact hjk
        · rw [if_neg ei]
      have key2 : ∀ y0 : Int32, fb_X12_eats_142 σ o (fun x1 w => fb_X12_eats_100 σ o f x1 w) (nI k) (nI (10 + 7 * k)) y0 u = fb_X12_eats_100 σ o f (nI (k + 1)) (lt_si u (lt_r σ o 0) (10 + 7 * k) (lt_min 20 ((la_yearn A k).2 k 0 + (y0 + if nI (la_cnt (la_pass A k) (la_n A)) < A.1 3 then 0 else 1)))) := by
        intro y0
        unfold fb_X12_eats_142
        rw [lm_passTo hS hB, lu_bind, la_yearn_pass, la_n_yearn, hset, (la_count h7).2, lu_bind, hS, lm_k3, lm_c3, e3]
        by_cases c : nI (la_cnt (la_pass A k) (la_n A)) < A.1 3
        · rw [if_pos c, key, if_pos c]
        · rw [if_neg c, key, if_neg c]
      refine ⟨lt_si u (lt_r σ o 0) (10 + 7 * k) (lt_min 20 ((la_yearn A k).2 k 0 + la_more A k)), ?_, hB.cell (by omega) (by decide), hF.si (by omega) (by omega) (by omega)⟩
      unfold la_more
      by_cases c : A.2 k 4 ≤ 0
      · rw [if_pos c, if_pos c, key2]
      · rw [if_neg c, if_neg c, key2]
    · rw [if_neg e, if_neg e]
      exact ⟨_, rfl, hB, hF⟩
  · obtain ⟨hB, hF⟩ := hI
    show ∃ r, fb_X12_eats_100 σ o (f + 1) _ u = _ ∧ _
    rw [fb_X12_eats_100, hS, lm_k0, lm_c0, if_pos (lm_ge hB (by omega) (by rw [la_n_yearn]; exact Nat.le_refl _)), lm_k6, lm_k6, lm_c6, lu_let, lm_hd hB (by decide)]
    exact ⟨_, rfl, hB.hd rfl (by decide) (by decide), hF.si (by decide) (by decide) (by decide)⟩
theorem lm_eats (hS : lm_S σ o) (hA : lm_T w (lt_r σ o 0) 0 A) (hO : la_Ok A) : ∃ w', f_X12_eats σ o w = some w' ∧ lm_T w' (lt_r σ o 0) 0 (la_eats A) ∧ lm_D (lt_r σ o 0) w w' := by
  refine lm_eat hS (r := fun w' => lm_T w' (lt_r σ o 0) 0 (la_eats A) ∧ lm_D (lt_r σ o 0) w w') hA fun u hB hF => ?_
  obtain ⟨w', e1, e2, e3⟩ := lm_yearn hS hB (la_Ok_eat hO _ (Nat.le_refl _))
  exact ⟨w', e1, e2, hF.trans e3⟩
theorem lm_dayGoes (hS : lm_S σ o) (hA : lm_T w (lt_r σ o 0) 0 A) (hO : la_Ok A) : ∃ w', f_X12_dayGoes σ o w = some (la_e (la_first A), w') ∧ lm_T w' (lt_r σ o 0) 0 (la_day A) ∧ lm_D (lt_r σ o 0) w w' := by
  have hm := la_first_may A
  have hO1 := la_Ok_cuts hO hm
  unfold f_X12_dayGoes fb_X12_dayGoes_0 fb_X12_dayGoes_16 la_day
  rw [lm_first hS hA, lu_bind]
  cases e : la_first A with
  | none =>
    rw [e] at hO1
    obtain ⟨w', e1, e2, e3⟩ := lm_eats hS hA hO1
    rw [if_pos (show la_e none = -1 from rfl), e1, lu_bind]
    exact ⟨w', rfl, e2, e3⟩
  | some j =>
    rw [e] at hO1
    have hj := (hm j e).1
    have h7 := hA.2.1
    obtain ⟨w1, d1, d2, d3⟩ := lm_cuts hS hA hj
    obtain ⟨w', e1, e2, e3⟩ := lm_eats hS d2 hO1
    rw [if_neg (show ¬ la_e (some j) = -1 from lu_ne1 (by omega)), show la_e (some j) = nI j from rfl, d1, lu_bind, e1, lu_bind]
    exact ⟨w', rfl, e2, d3.trans e3⟩
theorem lm_daysGo (hS : lm_S σ o) (hA : lm_T w (lt_r σ o 0) 0 A) (hO : la_Ok A) {d : Nat} (hd : d < 10000) : ∃ w', f_X12_daysGo σ o (nI d) w = some w' ∧ lm_T w' (lt_r σ o 0) 0 (la_days A d) ∧ lm_D (lt_r σ o 0) w w' := by
  unfold f_X12_daysGo fb_X12_daysGo_0
  refine lu_upR (fun f k u => fb_X12_daysGo_2 σ o f (nI d) (nI k) u) d (fun k u => lm_T u (lt_r σ o 0) 0 (la_days A k) ∧ lm_D (lt_r σ o 0) w u) _ (fun f k u hk hI => ?_) (fun f u hI => ?_) lt_fu 0 w (by omega) (by unfold lt_fu; omega) ⟨hA, lm_D.refl _ _⟩
  · obtain ⟨hB, hF⟩ := hI
    obtain ⟨w', e1, e2, e3⟩ := lm_dayGoes hS hB (la_Ok_days hO k)
    show ∃ b', fb_X12_daysGo_2 σ o (f + 1) (nI d) (nI k) u = fb_X12_daysGo_2 σ o f (nI d) (nI (k + 1)) b' ∧ _
    rw [fb_X12_daysGo_2, if_neg (nI_ge hk (by omega)), e1, lu_bind, nI_1]
    exact ⟨_, rfl, e2, hF.trans e3⟩
  · obtain ⟨hB, hF⟩ := hI
    show ∃ r, fb_X12_daysGo_2 σ o (f + 1) (nI d) _ u = _ ∧ _
    rw [fb_X12_daysGo_2, if_pos (nI_le (Nat.le_refl _) (by omega))]
    exact ⟨_, rfl, hB, hF⟩
/-- keeps: the 60 places of the slot 0 come to b on; brings: back -/
theorem lm_keeps (hS : lm_S σ o) {b : Nat} (hb : 60 ≤ b) (hb2 : b + 60 ≤ 2560) : ∃ w', f_X12_keeps σ o (nI b) w = some w' ∧ (∀ k, k < 60 → lt_gi w' (lt_r σ o 0) (b + k) = lt_gi w (lt_r σ o 0) k) ∧ lm_F (lt_r σ o 0) b (b + 60) w w' := by
  unfold f_X12_keeps fb_X12_keeps_0
  refine lu_upR (fun f k u => fb_X12_keeps_2 σ o f (nI b) (nI k) u) 60 (fun k u => (∀ j, j < k → lt_gi u (lt_r σ o 0) (b + j) = lt_gi w (lt_r σ o 0) j) ∧ lm_F (lt_r σ o 0) b (b + 60) w u) _ (fun f k u hk hI => ?_) (fun f u hI => ?_) lt_fu 0 w (by omega) (by unfold lt_fu; omega) ⟨fun j hj => by omega, lm_F.refl _ _ _ _⟩
  · obtain ⟨hP, hF⟩ := hI
    show ∃ b', fb_X12_keeps_2 σ o (f + 1) (nI b) (nI k) u = fb_X12_keeps_2 σ o f (nI b) (nI (k + 1)) b' ∧ _
    rw [fb_X12_keeps_2, if_neg (show ¬ (60 : Int32) ≤ nI k from nI_ge (b := 60) hk (by decide)), hS, lu_ck (by omega) (by decide), nI_add, lu_ck (by omega) (by decide), lu_let, nI_1, nI_clamp (by omega), nI_clamp (by omega)]
    refine ⟨_, rfl, fun j hj => ?_, hF.si (by omega) (by omega)⟩
    rw [lu_gisi]
    by_cases e : j = k
    · rw [if_pos ⟨rfl, by omega⟩, e]; exact hF.2 _ _ (by omega)
    · rw [if_neg (by omega)]; exact hP j (by omega)
  · show ∃ r, fb_X12_keeps_2 σ o (f + 1) (nI b) _ u = _ ∧ _
    rw [fb_X12_keeps_2, if_pos (show (60 : Int32) ≤ nI 60 from nI_le (a := 60) (by decide) (by decide))]
    exact ⟨_, rfl, hI⟩
theorem lm_brings (hS : lm_S σ o) {b : Nat} (hb : 60 ≤ b) (hb2 : b + 60 ≤ 2560) : ∃ w', f_X12_brings σ o (nI b) w = some w' ∧ (∀ k, k < 60 → lt_gi w' (lt_r σ o 0) k = lt_gi w (lt_r σ o 0) (b + k)) ∧ lm_F (lt_r σ o 0) 0 60 w w' := by
  unfold f_X12_brings fb_X12_brings_0
  refine lu_upR (fun f k u => fb_X12_brings_2 σ o f (nI b) (nI k) u) 60 (fun k u => (∀ j, j < k → lt_gi u (lt_r σ o 0) j = lt_gi w (lt_r σ o 0) (b + j)) ∧ lm_F (lt_r σ o 0) 0 60 w u) _ (fun f k u hk hI => ?_) (fun f u hI => ?_) lt_fu 0 w (by omega) (by unfold lt_fu; omega) ⟨fun j hj => by omega, lm_F.refl _ _ _ _⟩
  · obtain ⟨hP, hF⟩ := hI
    show ∃ b', fb_X12_brings_2 σ o (f + 1) (nI b) (nI k) u = fb_X12_brings_2 σ o f (nI b) (nI (k + 1)) b' ∧ _
    rw [fb_X12_brings_2, if_neg (show ¬ (60 : Int32) ≤ nI k from nI_ge (b := 60) hk (by decide)), hS, nI_add, lu_ck (by omega) (by decide), lu_ck (by omega) (by decide), lu_let, nI_1, nI_clamp (by omega), nI_clamp (by omega)]
    refine ⟨_, rfl, fun j hj => ?_, hF.si (by omega) (by omega)⟩
    rw [lu_gisi]
    by_cases e : j = k
    · rw [if_pos ⟨rfl, e⟩, e]; exact hF.2 _ _ (by omega)
    · rw [if_neg (by omega)]; exact hP j (by omega)
  · show ∃ r, fb_X12_brings_2 σ o (f + 1) (nI b) _ u = _ ∧ _
    rw [fb_X12_brings_2, if_pos (show (60 : Int32) ≤ nI 60 from nI_le (a := 60) (by decide) (by decide))]
    exact ⟨_, rfl, hI⟩
end LM
