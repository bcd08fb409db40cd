/-! THE TABLE, told once for both sides: header (guests, odds, resolve, press, loaf, slices, today, cuts) and, by guest, wish, bears, dear, kind, hunger, there (0, 1), to whom (-1: nobody) -/
abbrev la_A : Type := (Nat → Int32) × (Nat → Nat → Int32)
def la_n (A : la_A) : Nat := (A.1 0).toNatClampNeg
def la_h (A : la_A) (k : Nat) (v : Int32) : la_A := (fun j => if j = k then v else A.1 j, A.2)
def la_c (A : la_A) (g f : Nat) (v : Int32) : la_A := (A.1, fun a b => if a = g ∧ b = f then v else A.2 a b)
def la_here (A : la_A) (g : Nat) : Bool := decide (A.2 g 5 = 1)
def la_hung (A : la_A) (g : Nat) : Bool := la_here A g && decide (0 < A.2 g 4)
def la_starv (A : la_A) (g : Nat) : Bool := la_here A g && decide (A.2 g 1 < A.2 g 4)
def la_pass (A : la_A) (t : Nat) (g : Nat) : Bool := la_here A g && decide (A.2 g 6 = nI t)
def la_e (o : Option Nat) : Int32 := match o with | none => -1 | some j => nI j
def la_fc (A : la_A) : Nat → Option Nat
  | 0 => none
  | k + 1 => match la_fc A k with
    | none => if la_here A k && decide (A.1 2 ≤ A.2 k 0) then some k else none
    | some j => if la_here A k && decide (A.2 j 0 < A.2 k 0) then some k else some j
def la_first (A : la_A) : Option Nat := if A.1 5 = 0 then la_fc A (la_n A) else none
def la_cut (A : la_A) (g : Nat) : la_A :=
  let B := la_h (la_h A 5 (if A.2 g 3 = 2 then (A.1 4 + 1) / 2 else A.1 4)) 7 (A.1 7 + 1)
  if A.2 g 3 = 1 then la_c B g 0 0 else la_c B g 5 0
def la_eat (A : la_A) : Nat → la_A
  | 0 => A
  | k + 1 => let B := la_eat A k
    if la_here B k then (if B.1 5 ≤ 0 then la_c B k 4 (lt_min 99 (B.2 k 4 + 1)) else la_c (la_h B 5 (B.1 5 - 1)) k 4 0) else B
def la_more (A : la_A) (k : Nat) : Int32 := (if A.2 k 4 ≤ 0 then 0 else 1) + (if nI (la_cnt (la_pass A k) (la_n A)) < A.1 3 then 0 else 1)
def la_yearn (A : la_A) : Nat → la_A
  | 0 => A
  | k + 1 => if la_here A k then la_c (la_yearn A k) k 0 (lt_min 20 ((la_yearn A k).2 k 0 + la_more A k)) else la_yearn A k
/-- what follows the cut on a day -/
def la_eats (A : la_A) : la_A := let B := la_eat A (la_n A); let C := la_yearn B (la_n B); la_h C 6 (C.1 6 + 1)
def la_cuts (A : la_A) (g : Option Nat) : la_A := match g with | none => A | some j => la_cut A j
def la_day (A : la_A) : la_A := la_eats (la_cuts A (la_first A))
def la_days (A : la_A) : Nat → la_A | 0 => A | k + 1 => la_day (la_days A k)
/-- what is sound -/
def la_to (A : la_A) (g : Nat) : Prop := A.2 g 6 = -1 ∨ ∃ j, j < la_n A ∧ j ≠ g ∧ A.2 g 6 = nI j
def la_G (A : la_A) (g : Nat) : Prop := lu_R (A.2 g 0) 0 20 ∧ lu_R (A.2 g 1) 0 20 ∧ lu_R (A.2 g 2) 0 20 ∧ lu_R (A.2 g 3) 0 2 ∧ lu_R (A.2 g 4) 0 99 ∧ (A.2 g 5 = 0 ∨ A.2 g 5 = 1) ∧ la_to A g
def la_Ok (A : la_A) : Prop := A.1 0 = nI (la_n A) ∧ la_n A ≤ 7 ∧ lu_R (A.1 1) 0 16 ∧ lu_R (A.1 2) 1 20 ∧ lu_R (A.1 3) 1 6 ∧ lu_R (A.1 4) 1 60 ∧ lu_R (A.1 5) 0 60 ∧ ∀ g, g < la_n A → la_G A g
/-- the class's shape of a table's cells, and its picture -/
def lc_S (σ : lt_S) (o : Nat) : Prop := (lt_c σ o = 5 ∧ lt_r σ o 9 = o + 1 ∧ lt_r σ o 10 = o + 2 ∧ lt_r σ o 11 = o + 3 ∧ lt_r σ o 12 = o + 4 ∧ lt_r σ o 13 = o + 5 ∧ lt_r σ o 14 = o + 6 ∧ lt_r σ o 15 = o + 7 ∧ lt_r σ o 16 = o + 8) ∧ lt_len σ (o + 1) = 7 ∧ lt_len σ (o + 2) = 7 ∧ lt_len σ (o + 3) = 7 ∧ lt_len σ (o + 4) = 7 ∧ lt_len σ (o + 5) = 7 ∧ lt_len σ (o + 6) = 7 ∧ lt_len σ (o + 7) = 7 ∧ lt_len σ (o + 8) = 7
def lc_g (w : lt_W) (o : Nat) (A : la_A) (g : Nat) : Prop := lt_gi w (o + 2) g = A.2 g 0 ∧ lt_gi w (o + 3) g = A.2 g 1 ∧ lt_gi w (o + 4) g = A.2 g 2 ∧ lt_gi w (o + 5) g = A.2 g 3 ∧ lt_gi w (o + 6) g = A.2 g 4 ∧ lt_gi w (o + 7) g = A.2 g 6
def lc_T (w : lt_W) (o : Nat) (A : la_A) : Prop := A.1 0 = nI (la_n A) ∧ la_n A ≤ 7 ∧ (∀ k, k < 8 → lt_gi w o k = A.1 k) ∧ lt_gi w o 8 = la_sb (la_here A) (la_n A) ∧ ∀ g, g < la_n A → lc_g w o A g
theorem lc_T.congr {w w' : lt_W} {o : Nat} {A : la_A} (h : lc_T w o A) (e : ∀ a k, o ≤ a → a < o + 8 → lt_gi w' a k = lt_gi w a k) : lc_T w' o A := by
  obtain ⟨h1, h2, h3, h4, h5⟩ := h
  refine ⟨h1, h2, fun k hk => by rw [e o k (by omega) (by omega)]; exact h3 k hk, by rw [e o 8 (by omega) (by omega)]; exact h4, fun g hg => ?_⟩
  obtain ⟨a0, a1, a2, a3, a4, a5⟩ := h5 g hg
  refine ⟨?_, ?_, ?_, ?_, ?_, ?_⟩ <;> (rw [e _ _ (by omega) (by omega)]; assumption)
theorem lc_T.fr {w w' : lt_W} {o lo hi : Nat} {A : la_A} (h : lc_T w o A) (e : lu_Fr lo hi w w') (d : o + 8 ≤ lo ∨ hi ≤ o) : lc_T w' o A :=
  h.congr fun a k h1 h2 => e.2 a k (by omega)
theorem lc_T.out {w : lt_W} {o a k : Nat} {v : Int32} {A : la_A} (h : lc_T w o A) (d : a < o ∨ o + 8 ≤ a) : lc_T (lt_si w a k v) o A :=
  h.congr fun b j h1 h2 => lu_ne (Or.inl (by omega))
theorem la_n_h {A : la_A} {k : Nat} {v : Int32} (h : 0 < k) : la_n (la_h A k v) = la_n A := by
  unfold la_n la_h; simp; rw [if_neg (by omega)]
theorem la_n_c {A : la_A} {g f : Nat} {v : Int32} : la_n (la_c A g f v) = la_n A := rfl
theorem la_here_h {A : la_A} {k : Nat} {v : Int32} : la_here (la_h A k v) = la_here A := rfl
theorem la_here_c {A : la_A} {g f : Nat} {v : Int32} (h : f ≠ 5) : la_here (la_c A g f v) = la_here A := by
  funext i; unfold la_here la_c; simp [h.symm]
theorem lc_T.hd {w : lt_W} {o k : Nat} {v : Int32} {A : la_A} (h : lc_T w o A) (h0 : 0 < k) (h8 : k < 8) : lc_T (lt_si w o k v) o (la_h A k v) := by
  obtain ⟨h1, h2, h3, h4, h5⟩ := h
  refine ⟨?_, by rw [la_n_h h0]; exact h2, fun j hj => ?_, ?_, fun g hg => ?_⟩
  · rw [la_n_h h0]; show (if 0 = k then v else A.1 0) = _
    rw [if_neg (by omega)]; exact h1
  · rw [lu_gisi]; show _ = if j = k then v else A.1 j
    by_cases e : j = k
    · rw [if_pos ⟨rfl, e⟩, if_pos e]
    · rw [if_neg (fun z => e z.2), if_neg e]; exact h3 j hj
  · rw [lu_ne (Or.inr (by omega)), la_n_h h0, la_here_h]; exact h4
  · rw [la_n_h h0] at hg
    obtain ⟨a0, a1, a2, a3, a4, a5⟩ := h5 g hg
    refine ⟨?_, ?_, ?_, ?_, ?_, ?_⟩ <;> (rw [lu_ne (Or.inl (by omega))]; assumption)
/-- a number of a guest: f, its row's cell -/
theorem lc_T.cell {w : lt_W} {o g f a : Nat} {v : Int32} {A : la_A} (h : lc_T w o A) (hf : (f < 5 ∧ a = o + 2 + f) ∨ (f = 6 ∧ a = o + 7)) : lc_T (lt_si w a g v) o (la_c A g f v) := by
  obtain ⟨h1, h2, h3, h4, h5⟩ := h
  refine ⟨h1, h2, fun j hj => ?_, ?_, fun i hi => ?_⟩
  · rw [lu_ne (Or.inl (by omega))]; exact h3 j hj
  · rw [lu_ne (Or.inl (by omega)), la_here_c (by omega)]; exact h4
  · obtain ⟨a0, a1, a2, a3, a4, a5⟩ := h5 i hi
    have key : ∀ b q, lt_gi w b i = A.2 i q → ((q < 5 ∧ b = o + 2 + q) ∨ (q = 6 ∧ b = o + 7)) → lt_gi (lt_si w a g v) b i = (la_c A g f v).2 i q := by
      intro b q hb hq
      rw [lu_gisi]; show _ = if i = g ∧ q = f then v else A.2 i q
      by_cases e : i = g ∧ q = f
      · rw [if_pos e, if_pos ⟨by omega, e.1⟩]
      · rw [if_neg e, if_neg (fun z => e ⟨z.2, by omega⟩)]; exact hb
    exact ⟨key _ 0 a0 (by omega), key _ 1 a1 (by omega), key _ 2 a2 (by omega), key _ 3 a3 (by omega), key _ 4 a4 (by omega), key _ 6 a5 (by omega)⟩
theorem lc_T.there {w : lt_W} {o g : Nat} {v s : Int32} {A : la_A} (h : lc_T w o A) (hs : s = la_sb (la_here (la_c A g 5 v)) (la_n A)) : lc_T (lt_si w o 8 s) o (la_c A g 5 v) := by
  obtain ⟨h1, h2, h3, h4, h5⟩ := h
  refine ⟨h1, h2, fun j hj => ?_, ?_, fun i hi => ?_⟩
  · rw [lu_ne (Or.inr (by omega))]; exact h3 j hj
  · rw [lu_eq]; exact hs
  · obtain ⟨a0, a1, a2, a3, a4, a5⟩ := h5 i hi
    have key : ∀ b q, lt_gi w b i = A.2 i q → o < b → q ≠ 5 → lt_gi (lt_si w o 8 s) b i = (la_c A g 5 v).2 i q := by
      intro b q hb h6 hq
      rw [lu_ne (Or.inl (by omega))]; show _ = if i = g ∧ q = 5 then v else A.2 i q
      rw [if_neg (fun z => hq z.2)]; exact hb
    exact ⟨key _ 0 a0 (by omega) (by omega), key _ 1 a1 (by omega) (by omega), key _ 2 a2 (by omega) (by omega), key _ 3 a3 (by omega) (by omega), key _ 4 a4 (by omega) (by omega), key _ 6 a5 (by omega) (by omega)⟩
section LC
variable {σ : lt_S} {o : Nat} {w : lt_W} {A : la_A}
theorem lc_n (hA : lc_T w o A) : lt_gi w o 0 = nI (la_n A) := (hA.2.2.1 0 (by decide)).trans hA.1
theorem lc_lt (hA : lc_T w o A) {g : Nat} (hg : g < la_n A) : ¬ lt_gi w o 0 ≤ nI g := by
  rw [lc_n hA]; exact nI_ge hg (by have := hA.2.1; omega)
theorem lc_ge (hA : lc_T w o A) {g : Nat} (h9 : g < 2 ^ 31) (hg : la_n A ≤ g) : lt_gi w o 0 ≤ nI g := by
  rw [lc_n hA]; exact nI_le hg h9
theorem lc_isThere (hA : lc_T w o A) {g : Nat} (hg : g < la_n A) : f_X5_isThere σ o (nI g) w = some (if la_here A g = true then 1 else 0) := by
  have h7 := hA.2.1
  unfold f_X5_isThere fb_X5_isThere_0
  rw [if_neg (nI_pos (by omega)), if_neg (lc_lt hA hg), hA.2.2.2.1]
  by_cases e : la_here A g = true
  · rw [if_pos e, if_neg (fun z => by rw [(la_bit h7 hg).mp z] at e; cases e)]
  · rw [if_neg e, if_pos ((la_bit h7 hg).mpr (by simpa using e))]
theorem lc_isThere' (hA : lc_T w o A) {x : Int32} (hx : x < 0 ∨ ∃ g, x = nI g ∧ la_n A ≤ g ∧ g < 2 ^ 31) : f_X5_isThere σ o x w = some 0 := by
  unfold f_X5_isThere fb_X5_isThere_0
  rcases hx with h | ⟨g, rfl, h, h9⟩
  · rw [if_pos h]
  · rw [if_neg (nI_pos h9), if_pos (lc_ge hA h9 h)]
theorem lc_starved (hS : lc_S σ o) (hA : lc_T w o A) : f_X5_starvedSet σ o w = some (la_sb (la_starv A) (la_n A)) := by
  obtain ⟨⟨s0, s1, s2, s3, s4, s5, s6, s7, s8⟩, l1, l2, l3, l4, l5, l6, l7, l8⟩ := hS
  have h7 := hA.2.1
  unfold f_X5_starvedSet fb_X5_starvedSet_0
  refine lu_up (fun f k x => fb_X5_starvedSet_4 σ o w f x (nI k)) (la_n A) (fun k => la_sb (la_starv A) k) _ (fun f k hk => ?_) (fun f => ?_) lt_fu 0 (by omega) (by unfold lt_fu; omega)
  · obtain ⟨a0, a1, a2, a3, a4, a5⟩ := hA.2.2.2.2 k hk
    show fb_X5_starvedSet_4 σ o w (f + 1) _ _ = fb_X5_starvedSet_4 σ o w f _ _
    rw [fb_X5_starvedSet_4, if_neg (lc_lt hA hk), lc_isThere hA hk, lu_bind, lu_q, s6, s3, lu_ck (by omega) (by omega), lu_ck (by omega) (by omega), nI_clamp (by omega), a4, a1, lu_let, nI_1]
    by_cases e : la_here A k = true
    · rw [if_pos e]
      by_cases e2 : A.2 k 4 ≤ A.2 k 1
      · rw [if_pos e2, la_sb, if_neg (by simp [la_starv, e, Int32.not_lt.mpr e2])]
      · rw [if_neg e2, la_sb, if_pos (by simp [la_starv, e, Int32.not_le.mp e2])]; rfl
    · rw [if_neg e, la_sb, if_neg (by simp [la_starv, e])]
  · show fb_X5_starvedSet_4 σ o w (f + 1) _ _ = _
    rw [fb_X5_starvedSet_4, if_pos (lc_ge hA (by omega) (Nat.le_refl _))]
theorem lc_hungers (hS : lc_S σ o) (hA : lc_T w o A) {g : Nat} (hg : g < la_n A) : f_X5_hungers σ o (nI g) w = some (if la_hung A g = true then 1 else 0) := by
  obtain ⟨⟨s0, s1, s2, s3, s4, s5, s6, s7, s8⟩, l1, l2, l3, l4, l5, l6, l7, l8⟩ := hS
  have h7 := hA.2.1
  obtain ⟨a0, a1, a2, a3, a4, a5⟩ := hA.2.2.2.2 g hg
  unfold f_X5_hungers fb_X5_hungers_0
  rw [lc_isThere hA hg, lu_bind, lu_q, s6, lu_ck (by omega) (by omega), nI_clamp (by omega), a4]
  by_cases e : la_here A g = true
  · rw [if_pos e]
    by_cases e2 : A.2 g 4 ≤ 0
    · rw [if_pos e2, if_neg (by simp [la_hung, e, Int32.not_lt.mpr e2])]
    · rw [if_neg e2, if_pos (by simp [la_hung, e, Int32.not_le.mp e2])]
  · rw [if_neg e, if_neg (by simp [la_hung, e])]
theorem lc_hungry (hS : lc_S σ o) (hA : lc_T w o A) : f_X5_hungrySet σ o w = some (la_sb (la_hung A) (la_n A)) := by
  have h7 := hA.2.1
  unfold f_X5_hungrySet fb_X5_hungrySet_0
  refine lu_up (fun f k x => fb_X5_hungrySet_4 σ o w f x (nI k)) (la_n A) (fun k => la_sb (la_hung A) k) _ (fun f k hk => ?_) (fun f => ?_) lt_fu 0 (by omega) (by unfold lt_fu; omega)
  · show fb_X5_hungrySet_4 σ o w (f + 1) _ _ = fb_X5_hungrySet_4 σ o w f _ _
    rw [fb_X5_hungrySet_4, if_neg (lc_lt hA hk), lc_hungers hS hA hk, lu_bind, lu_q, lu_let, nI_1, la_sb]
    by_cases e : la_hung A k = true
    · rw [if_pos e, if_pos e]; rfl
    · rw [if_neg e, if_neg e]
  · show fb_X5_hungrySet_4 σ o w (f + 1) _ _ = _
    rw [fb_X5_hungrySet_4, if_pos (lc_ge hA (by omega) (Nat.le_refl _))]
theorem lc_passing (hS : lc_S σ o) (hA : lc_T w o A) (t : Nat) : f_X5_passingSet σ o (nI t) w = some (la_sb (la_pass A t) (la_n A)) := by
  obtain ⟨⟨s0, s1, s2, s3, s4, s5, s6, s7, s8⟩, l1, l2, l3, l4, l5, l6, l7, l8⟩ := hS
  have h7 := hA.2.1
  unfold f_X5_passingSet fb_X5_passingSet_0
  refine lu_up (fun f k x => fb_X5_passingSet_4 σ o w f (nI t) x (nI k)) (la_n A) (fun k => la_sb (la_pass A t) k) _ (fun f k hk => ?_) (fun f => ?_) lt_fu 0 (by omega) (by unfold lt_fu; omega)
  · obtain ⟨a0, a1, a2, a3, a4, a5⟩ := hA.2.2.2.2 k hk
    show fb_X5_passingSet_4 σ o w (f + 1) _ _ _ = fb_X5_passingSet_4 σ o w f _ _ _
    rw [fb_X5_passingSet_4, if_neg (lc_lt hA hk), lc_isThere hA hk, lu_bind, lu_q, s7, lu_ck (by omega) (by omega), nI_clamp (by omega), a5, lu_let, nI_1, la_sb]
    by_cases e : la_here A k = true
    · rw [if_pos e]
      by_cases e2 : A.2 k 6 = nI t
      · rw [if_pos e2, if_pos (by simp [la_pass, e, e2])]; rfl
      · rw [if_neg e2, if_neg (by simp [la_pass, e2])]
    · rw [if_neg e, if_neg (by simp [la_pass, e])]
  · show fb_X5_passingSet_4 σ o w (f + 1) _ _ _ = _
    rw [fb_X5_passingSet_4, if_pos (lc_ge hA (by omega) (Nat.le_refl _))]
theorem lc_countThere (hA : lc_T w o A) : f_X5_countThere σ o w = some (nI (la_cnt (la_here A) (la_n A))) := by
  unfold f_X5_countThere fb_X5_countThere_0
  rw [hA.2.2.2.1, (la_count hA.2.1).1, lu_bind]
end LC
