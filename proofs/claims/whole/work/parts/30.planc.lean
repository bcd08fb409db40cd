/-! PLANS: what both search; the class -/
abbrev lp_B : Type := Option (Nat × (Nat → Int32))
def lp_pr (b : lp_B) (d : Nat) : Bool := match b with | none => false | some q => decide (q.1 ≤ d)
def la_cd (t : Nat) : Option Nat := match t with | 0 => none | i + 1 => some i
def lp_fold (f : Option Nat → lp_B → lp_B) : Nat → lp_B → lp_B
  | 0, b => b
  | t + 1, b => f (la_cd t) (lp_fold f t b)
def lp_can (A : la_A) (c : Option Nat) : Bool := match c with | none => true | some i => la_here A i && decide (A.1 5 = 0)
def lp_d (A : la_A) (c : Option Nat) : Nat := match c with | none => 0 | some i => if A.2 i 3 = 1 then 0 else (A.2 i 2).toNatClampNeg
def lp_up (row : Nat → Int32) (k : Nat) (v : Int32) : Nat → Int32 := fun j => if j = k then v else row j
def lp_C (A : la_A) (c : Option Nat) : la_A := la_eats (la_cuts A c)
def lp_g : Nat → la_A → Nat → (Nat → Int32) → Nat → lp_B → lp_B
  | 0, _, d, row, _, _ => some (d, row)
  | m + 1, A, d, row, k, b => lp_fold (fun c b => if (lp_can A c && decide (la_st (lp_C A c) = 0) && !lp_pr b (d + lp_d A c)) = true then lp_g m (lp_C A c) (d + lp_d A c) (lp_up row k (la_e c)) (k + 1) b else b) (la_n A + 1) b
def lp_st (m : Nat) (A : la_A) (d : Nat) (row : Nat → Int32) (k : Nat) (c : Option Nat) (b : lp_B) : lp_B := if (lp_can A c && decide (la_st (lp_C A c) = 0) && !lp_pr b (d + lp_d A c)) = true then lp_g m (lp_C A c) (d + lp_d A c) (lp_up row k (la_e c)) (k + 1) b else b
theorem lp_g_s (m : Nat) (A : la_A) (d : Nat) (row : Nat → Int32) (k : Nat) (b : lp_B) : lp_g (m + 1) A d row k b = lp_fold (lp_st m A d row k) (la_n A + 1) b := rfl
theorem lp_st_no {m : Nat} {A : la_A} {d : Nat} {row : Nat → Int32} {k : Nat} {c : Option Nat} {b : lp_B} (h : lp_can A c = false) : lp_st m A d row k c b = b := by
  unfold lp_st; rw [if_neg (by simp [h])]
def lp_v (b : lp_B) : Int32 := match b with | none => -1 | some q => nI q.1
theorem lp_d20 {A : la_A} (hO : la_Ok A) {c : Option Nat} (hc : ∀ i, c = some i → i < la_n A) : lp_d A c ≤ 20 ∧ ∀ i, c = some i → A.2 i 2 = nI (A.2 i 2).toNatClampNeg := by
  cases c with
  | none => exact ⟨Nat.zero_le _, fun i h => by cases h⟩
  | some i =>
    obtain ⟨k, -, hk, e⟩ := (hO.2.2.2.2.2.2.2 i (hc i rfl)).2.2.1
    have : (A.2 i 2).toNatClampNeg = k := by rw [e, nI_clamp (by omega)]
    refine ⟨?_, fun j hj => ?_⟩
    · unfold lp_d; simp only []; split
      · exact Nat.zero_le _
      · omega
    · obtain rfl := Option.some.inj hj; rw [this]; exact e
theorem lp_may {A : la_A} {c : Option Nat} (h : lp_can A c = true) (hc : ∀ i, c = some i → i < la_n A) : la_may A c := by
  intro j e
  subst e
  simp [lp_can] at h
  exact ⟨hc j rfl, h.1, h.2⟩
theorem la_eat_2 {A : la_A} (k g f : Nat) (h : f ≠ 4) : (la_eat A k).2 g f = A.2 g f := by
  induction k with
  | zero => rfl
  | succ k ih =>
    rw [la_eat]; (try simp only [])
    split
    · split
      · show (if g = k ∧ f = 4 then _ else (la_eat A k).2 g f) = _
        rw [if_neg (fun z => h z.2)]; exact ih
      · show (if g = k ∧ f = 4 then _ else (la_eat A k).2 g f) = _
        rw [if_neg (fun z => h z.2)]; exact ih
    · exact ih
theorem la_eats_2 {A : la_A} (g f : Nat) (h : f ≠ 4) (h0 : f ≠ 0) : (la_eats A).2 g f = A.2 g f := by
  unfold la_eats
  show (la_yearn (la_eat A (la_n A)) (la_n (la_eat A (la_n A)))).2 g f = _
  rw [la_yearn_2 _ _ _ (Or.inl h0), la_eat_2 _ _ _ h]
theorem la_eats_here {A : la_A} : la_here (la_eats A) = la_here A := by
  funext g; unfold la_here; rw [la_eats_2 g 5 (by decide) (by decide)]
theorem la_cut_2 {A : la_A} {j g f : Nat} (h : f ≠ 0) (h5 : f ≠ 5) : (la_cut A j).2 g f = A.2 g f := by
  unfold la_cut; (try simp only [])
  split
  · show (if g = j ∧ f = 0 then _ else A.2 g f) = _
    rw [if_neg (fun z => h z.2)]
  · show (if g = j ∧ f = 5 then _ else A.2 g f) = _
    rw [if_neg (fun z => h5 z.2)]
/-- who cuts is there behind it just if he stays -/
theorem la_cut_here {A : la_A} {j : Nat} (hh : la_here A j = true) : la_here (la_cut A j) j = decide (A.2 j 3 = 1) := by
  unfold la_cut; (try simp only [])
  by_cases c : A.2 j 3 = 1
  · rw [if_pos c, decide_eq_true c, la_here_c (by decide)]; exact hh
  · rw [if_neg c, decide_eq_false c]; simp [la_here, la_c]
theorem lp_n {A : la_A} {c : Option Nat} : la_n (lp_C A c) = la_n A := by unfold lp_C; rw [la_n_eats, la_n_cuts]
theorem lp_O {A : la_A} (hO : la_Ok A) {c : Option Nat} (h : la_may A c) : la_Ok (lp_C A c) := la_Ok_eats (la_Ok_cuts hO h)
section PL
variable {σ : lt_S}
theorem lq_60 (hσ : lr_S σ) {k : Nat} (hk : k < 6) : lt_r σ 60 k = 63 + 9 * k ∧ lc_S σ (63 + 9 * k) := by
  have : k = 0 ∨ k = 1 ∨ k = 2 ∨ k = 3 ∨ k = 4 ∨ k = 5 := by omega
  rcases this with rfl | rfl | rfl | rfl | rfl | rfl
  · exact ⟨hσ.r 60 0 (by decide) (by decide), lr_tab hσ (by decide)⟩
  · exact ⟨hσ.r 60 1 (by decide) (by decide), lr_tab hσ (by decide)⟩
  · exact ⟨hσ.r 60 2 (by decide) (by decide), lr_tab hσ (by decide)⟩
  · exact ⟨hσ.r 60 3 (by decide) (by decide), lr_tab hσ (by decide)⟩
  · exact ⟨hσ.r 60 4 (by decide) (by decide), lr_tab hσ (by decide)⟩
  · exact ⟨hσ.r 60 5 (by decide) (by decide), lr_tab hσ (by decide)⟩
/-- the best so far, as the class has it -/
def lp_bc (w : lt_W) (D : Nat) (b : lp_B) : Prop := lt_gi w 59 4 = lp_v b ∧ ∀ q, b = some q → ∀ j, j < D → lt_gi w 62 j = q.2 j
def lp_ok (b : lp_B) : Prop := ∀ q, b = some q → q.1 < 2 ^ 30
/-- what a search from the day k on leaves -/
def lp_Fc (k : Nat) (w w' : lt_W) : Prop := (∀ a j, (a < 59 ∨ 117 ≤ a ∨ a = 60 ∨ (63 ≤ a ∧ a < 63 + 9 * (k + 1))) → lt_gi w' a j = lt_gi w a j ∧ lt_gl w' a j = lt_gl w a j) ∧ ∀ j, j < k → lt_gi w' 61 j = lt_gi w 61 j
theorem lp_Fc.refl (k : Nat) (w : lt_W) : lp_Fc k w w := ⟨fun _ _ _ => ⟨rfl, rfl⟩, fun _ _ => rfl⟩
theorem lp_Fc.trans {k : Nat} {w w' w'' : lt_W} (h : lp_Fc k w w') (h' : lp_Fc k w' w'') : lp_Fc k w w'' := ⟨fun a j z => ⟨(h'.1 a j z).1.trans (h.1 a j z).1, (h'.1 a j z).2.trans (h.1 a j z).2⟩, fun j z => (h'.2 j z).trans (h.2 j z)⟩
theorem lp_Fc.down {k : Nat} {w w' : lt_W} (h : lp_Fc (k + 1) w w') : lp_Fc k w w' := ⟨fun a j z => h.1 a j (by omega), fun j z => h.2 j (by omega)⟩
set_option maxHeartbeats 8000000 in
theorem lp_c (hσ : lr_S σ) {D n : Nat} (hD : D ≤ 5) : ∀ m k dd (A : la_A) d row b w, k + m = D → m < dd → d ≤ 20 * k → lc_T w (63 + 9 * k) A → la_Ok A → la_n A = n → lt_gi w 12 0 = nI n → (∀ j, j < k → lt_gi w 61 j = row j) → lp_ok b → lp_bc w D b → ∃ w', f_X3_search σ 59 dd (nI k) (nI D) (nI d) w = some w' ∧ lp_bc w' D (if lp_pr b d = true then b else lp_g m A d row k b) ∧ lp_ok (if lp_pr b d = true then b else lp_g m A d row k b) ∧ lp_Fc k w w' := by
  intro m
  induction m with
  | zero =>
    intro k dd A d row b w hk hdd hd hA hO hn h12 hrow hb hB
    obtain ⟨dd, rfl⟩ : ∃ g, dd = g + 1 := ⟨dd - 1, by omega⟩
    have body : ∃ w', fb_X3_search_17 σ 59 (fun x1 x2 x3 w => f_X3_search σ 59 dd x1 x2 x3 w) (nI k) (nI D) (nI d) w = some w' ∧ lp_bc w' D (some (d, row)) ∧ lp_Fc k w w' := by
      unfold fb_X3_search_17
      rw [if_neg (nI_nlt (by omega) (by omega)), lu_let, lq_r59_2 hσ, lq_r59_3 hσ, lq_l61 hσ, lq_l62 hσ]
      refine ⟨lt_ci (lt_si w 59 4 (nI d)) 61 62 0 0 5, rfl, ⟨?_, fun q hq j hj => ?_⟩, fun a j z => ⟨?_, rfl⟩, fun j z => ?_⟩
      · rw [lu_ciO (Or.inl (by decide)), lu_eq]; rfl
      · obtain rfl := Option.some.inj hq
        rw [lu_ciI (by omega), lu_ne (Or.inl (by decide))]; exact hrow j (by omega)
      · rw [lu_ciO (by omega), lu_ne (by omega)]
      · rw [lu_ciO (Or.inl (by decide)), lu_ne (Or.inl (by decide))]
    rw [f_X3_search]
    unfold fb_X3_search_0
    rw [hB.1]
    cases b with
    | none =>
      rw [if_pos (show lp_v none = -1 from rfl)]
      obtain ⟨w', a1, a2, a3⟩ := body
      exact ⟨w', a1, by simpa [lp_pr, lp_g] using a2, by simp [lp_pr, lp_g, lp_ok]; omega, a3⟩
    | some q =>
      have hq := hb q rfl
      rw [if_neg (show ¬ lp_v (some q) = -1 from lu_ne1 (by omega))]
      by_cases c : q.1 ≤ d
      · rw [if_neg (show ¬ nI d < lp_v (some q) from nI_nlt c (by omega)), if_pos (by simp [lp_pr, c])]
        exact ⟨w, rfl, hB, hb, lp_Fc.refl _ _⟩
      · rw [if_pos (show nI d < lp_v (some q) from nI_lt (by omega) (by omega)), if_neg (by simp [lp_pr, c])]
        obtain ⟨w', a1, a2, a3⟩ := body
        exact ⟨w', a1, a2, fun q' hq' => by obtain rfl := Option.some.inj hq'; show d < _; omega, a3⟩
  | succ m ih =>
    intro k dd A d row b w hk hdd hd hA hO hn h12 hrow hb hB
    obtain ⟨dd, rfl⟩ : ∃ g, dd = g + 1 := ⟨dd - 1, by omega⟩
    obtain ⟨rk, sk⟩ := lq_60 hσ (k := k) (by omega)
    obtain ⟨rk1, sk1⟩ := lq_60 hσ (k := k + 1) (by omega)
    have h7 := hA.2.1
    have hA0 := hA
    -- one try
    have tr : ∀ (c : Option Nat) b u, (∀ i, c = some i → i < la_n A) → lp_can A c = true → lp_Fc k w u → lp_ok b → lp_bc u D b → ∃ u', f_X3_tryCutter σ 59 (fun x1 x2 x3 w => f_X3_search σ 59 dd x1 x2 x3 w) (nI k) (nI D) (nI d) (la_e c) u = some u' ∧ lp_bc u' D (lp_st m A d row k c b) ∧ lp_ok (lp_st m A d row k c b) ∧ lp_Fc k w u' := by
      intro c b u hc hcan hF hb hB
      unfold lp_st
      have hAu : lc_T u (63 + 9 * k) A := hA.congr fun a j z1 z2 => (hF.1 a j (by omega)).1
      have hm := lp_may hcan hc
      obtain ⟨u1, a1, a2, a3⟩ := lc_copyT (A := A) sk1 sk (by omega) hAu
      obtain ⟨u2, b1, b2, b3⟩ := lc_passDay sk1 a2 hO hm
      have est := lc_starved sk1 b2
      obtain ⟨d20, dear⟩ := lp_d20 hO hc
      have F12 : lu_Fg (63 + 9 * (k + 1)) (63 + 9 * (k + 1) + 9) u u2 := a3.trans b3.g
      have F2 : lp_Fc k w u2 := hF.trans ⟨fun a j z => F12 a j (by omega), fun j z => (F12 61 j (by omega)).1⟩
      have hB2 : lp_bc u2 D b := ⟨(F12 _ _ (by omega)).1.trans hB.1, fun q hq j hj => (F12 _ _ (by omega)).1.trans (hB.2 q hq j hj)⟩
      unfold f_X3_tryCutter fb_X3_tryCutter_0
      rw [lq_r59_1 hσ, nI_1, lq_l60 hσ, lu_ck (by omega) (by decide), lu_ck (by omega) (by decide), nI_clamp (by omega), nI_clamp (by omega), rk, rk1, a1, lu_bind, b1, lu_bind, est, lu_bind, hcan]
      show ∃ u', (if la_st (lp_C A c) = 0 then _ else _) = _ ∧ _
      by_cases e : la_st (lp_C A c) = 0
      · rw [if_pos e, lq_r59_2 hσ, lq_l61 hσ, lu_ck (by omega) (by decide), lu_let, decide_eq_true e]
        have hC : lc_T (lt_si u2 61 k (la_e c)) (63 + 9 * (k + 1)) (lp_C A c) := b2.out (by omega)
        have F3 : lp_Fc k w (lt_si u2 61 k (la_e c)) := F2.trans ⟨fun a j z => ⟨lu_ne (Or.inl (by omega)), rfl⟩, fun j z => lu_ne (Or.inr (by omega))⟩
        have hB3 : lp_bc (lt_si u2 61 k (la_e c)) D b := ⟨(lu_ne (Or.inl (by decide))).trans hB2.1, fun q hq j hj => (lu_ne (Or.inl (by decide))).trans (hB2.2 q hq j hj)⟩
        -- go on from the child
        have go : ∃ u', Option.bind (f_X3_search σ 59 dd (nI (k + 1)) (nI D) (nI (d + lp_d A c)) (lt_si u2 61 k (la_e c))) (fun q1 => some q1) = some u' ∧ lp_bc u' D (if (true && true && !lp_pr b (d + lp_d A c)) = true then lp_g m (lp_C A c) (d + lp_d A c) (lp_up row k (la_e c)) (k + 1) b else b) ∧ lp_ok (if (true && true && !lp_pr b (d + lp_d A c)) = true then lp_g m (lp_C A c) (d + lp_d A c) (lp_up row k (la_e c)) (k + 1) b else b) ∧ lp_Fc k w u' := by
          obtain ⟨u', g1, g2, g3, g4⟩ := ih (k + 1) dd (lp_C A c) (d + lp_d A c) (lp_up row k (la_e c)) b (lt_si u2 61 k (la_e c)) (by omega) (by omega) (by omega) hC (lp_O hO hm) (lp_n.trans hn) ((F3.1 _ _ (by omega)).1.trans h12) (fun j hj => by
            unfold lp_up
            by_cases ej : j = k
            · rw [if_pos ej, ej, lu_eq]
            · rw [if_neg ej, F3.2 j (by omega)]; exact hrow j (by omega)) hb hB3
          refine ⟨u', by rw [lu_bs]; exact g1, ?_, ?_, F3.trans g4.down⟩
          · cases hp : lp_pr b (d + lp_d A c) <;> (rw [hp] at g2; exact g2)
          · cases hp : lp_pr b (d + lp_d A c) <;> (rw [hp] at g3; exact g3)
        unfold fb_X3_tryCutter_69 fb_X3_tryCutter_70 fb_X3_tryCutter_96
        rw [nI_1]
        cases c with
        | none =>
          have hz : f_X5_hasGuest σ (63 + 9 * (k + 1)) (la_e none) (lt_si u2 61 k (la_e none)) = some 0 := lc_hasGuest' (show la_e none < 0 by decide)
          rw [hz, lu_bind, if_pos rfl, if_pos rfl]
          exact go
        | some i =>
          have hi := hc i rfl
          have hi' : i < la_n (lp_C A (some i)) := by rw [lp_n]; exact hi
          have hh : la_here A i = true := (hm i rfl).2.1
          have ehere : la_here (lp_C A (some i)) i = decide (A.2 i 3 = 1) := by
            show la_here (la_eats (la_cut A i)) i = _
            rw [la_eats_here, la_cut_here hh]
          have ed : lt_gi (lt_si u2 61 k (nI i)) (63 + 9 * (k + 1) + 4) i = A.2 i 2 := by
            rw [lu_ne (Or.inl (by omega)), (b2.2.2.2.2 i hi').2.2.1]
            show (la_eats (la_cut A i)).2 i 2 = _
            rw [la_eats_2 i 2 (by decide) (by decide), la_cut_2 (by decide) (by decide)]
          simp only [show la_e (some i) = nI i from rfl] at hC go ⊢
          rw [lq_hg_y hC hi', lu_bind, if_neg lu_10, lc_isThere hC hi', lu_bind, lu_q, ehere]
          by_cases k1 : A.2 i 3 = 1
          · rw [decide_eq_true k1, if_pos rfl, if_pos trivial]
            have : lp_d A (some i) = 0 := by unfold lp_d; simp only []; rw [if_pos k1]
            rw [this] at go ⊢
            exact go
          · rw [decide_eq_false k1, if_neg (by decide), if_neg lu_10, sk1.1.2.2.2.2.1, sk1.2.2.2.2.1, lu_ck (by omega) (by decide), nI_clamp (by omega), ed, dear i rfl, nI_add]
            have : lp_d A (some i) = (A.2 i 2).toNatClampNeg := by unfold lp_d; simp only []; rw [if_neg k1]
            rw [this] at go ⊢
            exact go
      · rw [if_neg e, decide_eq_false e]
        refine ⟨u2, rfl, ?_, ?_, F2⟩
        · rw [if_neg (by simp)]; exact hB2
        · rw [if_neg (by simp)]; exact hb
    -- all tries
    have body : ∃ w', fb_X3_search_17 σ 59 (fun x1 x2 x3 w => f_X3_search σ 59 dd x1 x2 x3 w) (nI k) (nI D) (nI d) w = some w' ∧ lp_bc w' D (lp_fold (lp_st m A d row k) (la_n A + 1) b) ∧ lp_ok (lp_fold (lp_st m A d row k) (la_n A + 1) b) ∧ lp_Fc k w w' := by
      unfold fb_X3_search_17
      rw [if_pos (nI_lt (by omega) (by omega))]
      obtain ⟨u0, t1, t2, t3, t4⟩ := tr none b w (fun i h => by cases h) rfl (lp_Fc.refl _ _) hb hB
      have t1' : f_X3_tryCutter σ 59 (fun x1 x2 x3 w => f_X3_search σ 59 dd x1 x2 x3 w) (nI k) (nI D) (nI d) (-1) w = some u0 := t1
      rw [t1', lu_bind]
      clear t1 t1' hrow hA ih
      have loop : ∀ r i f u, i + r = la_n A → r < f → lp_bc u D (lp_fold (lp_st m A d row k) (i + 1) b) → lp_ok (lp_fold (lp_st m A d row k) (i + 1) b) → lp_Fc k w u → ∃ w', fb_X3_search_53 σ 59 (fun x1 x2 x3 w => f_X3_search σ 59 dd x1 x2 x3 w) f (nI k) (nI D) (nI d) (nI i) u = some w' ∧ lp_bc w' D (lp_fold (lp_st m A d row k) (la_n A + 1) b) ∧ lp_ok (lp_fold (lp_st m A d row k) (la_n A + 1) b) ∧ lp_Fc k w w' := by
        intro r
        induction r with
        | zero =>
          intro i f u hi hf x1 x2 x3
          obtain ⟨f, rfl⟩ : ∃ g, f = g + 1 := ⟨f - 1, by omega⟩
          obtain rfl : i = la_n A := by omega
          have h12u : lt_gi u 12 0 = nI (la_n A) := by rw [(x3.1 _ _ (by omega)).1, h12, hn]
          rw [fb_X3_search_53, lq_r59_0 hσ, h12u, if_pos (nI_le (Nat.le_refl _) (by omega))]
          exact ⟨u, rfl, x1, x2, x3⟩
        | succ r ihr =>
          intro i f u hi hf x1 x2 x3
          obtain ⟨f, rfl⟩ : ∃ g, f = g + 1 := ⟨f - 1, by omega⟩
          have hAu : lc_T u (63 + 9 * k) A := hA0.congr fun a j z1 z2 => (x3.1 a j (by omega)).1
          have h12u : lt_gi u 12 0 = nI (la_n A) := by rw [(x3.1 _ _ (by omega)).1, h12, hn]
          rw [fb_X3_search_53, lq_r59_0 hσ, h12u, if_neg (nI_ge (by omega) (by omega)), lq_r59_1 hσ, lq_l60 hσ, lu_ck (by omega) (by decide), lu_ck (by omega) (by decide), nI_clamp (by omega), rk, hAu.2.2.1 5 (by decide), lc_isThere hAu (by omega), lu_bind, lu_q, nI_1]
          by_cases e5 : A.1 5 = 0
          · rw [if_pos e5]
            by_cases eh : la_here A i = true
            · rw [if_pos eh]
              obtain ⟨u', g1, g2, g3, g4⟩ := tr (some i) (lp_fold (lp_st m A d row k) (i + 1) b) u (fun j hj => by obtain rfl := Option.some.inj hj; omega) (by simp [lp_can, eh, e5]) x3 x2 x1
              have g1' : f_X3_tryCutter σ 59 (fun x1 x2 x3 w => f_X3_search σ 59 dd x1 x2 x3 w) (nI k) (nI D) (nI d) (nI i) u = some u' := g1
              rw [g1', lu_bind]
              exact ihr (i + 1) f u' (by omega) (by omega) g2 g3 g4
            · rw [if_neg eh]
              have e : lp_fold (lp_st m A d row k) (i + 1 + 1) b = lp_fold (lp_st m A d row k) (i + 1) b := lp_st_no (c := some i) (by simp [lp_can, eh])
              exact ihr (i + 1) f u (by omega) (by omega) (by rw [e]; exact x1) (by rw [e]; exact x2) x3
          · rw [if_neg e5]
            have hall : ∀ e, lp_fold (lp_st m A d row k) (i + e + 1) b = lp_fold (lp_st m A d row k) (i + 1) b := by
              intro e
              induction e with
              | zero => rfl
              | succ e ihe => exact (lp_st_no (c := some (i + e)) (by simp [lp_can, e5])).trans ihe
            have hl := hall (la_n A - i)
            rw [show i + (la_n A - i) + 1 = la_n A + 1 from by omega] at hl
            exact ⟨u, rfl, by rw [hl]; exact x1, by rw [hl]; exact x2, x3⟩
      exact loop (la_n A) 0 lt_fu u0 (by omega) (by unfold lt_fu; omega) t2 t3 t4
    rw [f_X3_search]
    unfold fb_X3_search_0
    rw [hB.1, lp_g_s]
    obtain ⟨w', a1, a2, a3, a4⟩ := body
    cases b with
    | none =>
      rw [if_pos (show lp_v none = -1 from rfl), if_neg (show ¬ lp_pr none d = true by simp [lp_pr])]
      exact ⟨w', a1, a2, a3, a4⟩
    | some q =>
      have hq := hb q rfl
      rw [if_neg (show ¬ lp_v (some q) = -1 from lu_ne1 (by omega))]
      by_cases c : q.1 ≤ d
      · rw [if_neg (show ¬ nI d < lp_v (some q) from nI_nlt c (by omega)), if_pos (by simp [lp_pr, c])]
        exact ⟨w, rfl, hB, hb, lp_Fc.refl _ _⟩
      · rw [if_pos (show nI d < lp_v (some q) from nI_lt (by omega) (by omega)), if_neg (by simp [lp_pr, c])]
        exact ⟨w', a1, a2, a3, a4⟩
end PL