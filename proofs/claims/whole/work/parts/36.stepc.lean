/-! THE WEEKS LIVED: a step without a block, both sides -/
theorem la_c_same {A : la_A} {g f : Nat} : la_c A g f (A.2 g f) = A := by
  unfold la_c
  refine Prod.ext rfl (funext fun a => funext fun b => ?_)
  simp only []
  by_cases c : a = g ∧ b = f
  · rw [if_pos c, c.1, c.2]
  · rw [if_neg c]
theorem la_Ok_c0 {A : la_A} (hO : la_Ok A) {g : Nat} (hg : g < la_n A) (h : ¬ A.2 g 0 = 20) : lu_R (A.2 g 0 + 1) 0 20 := by
  obtain ⟨v, v0, v20, ev⟩ := (hO.2.2.2.2.2.2.2 g hg).1
  have : v ≠ 20 := fun z => h (by rw [ev, z]; rfl)
  exact ⟨v + 1, by omega, by omega, by rw [ev, nI_1]⟩
theorem lz_any_ok {A : la_A} {d : Nat} (hO : la_Ok A) (hd : d < 65536) : la_Ok (lz_any A d).1 ∧ la_n (lz_any A d).1 = la_n A ∧ (lz_any A d).2.1 < 65536 := by
  unfold lz_any
  have h2 := lz_dr_lt (lz_dr d)
  by_cases n0 : la_n A = 0
  · rw [if_pos n0]; exact ⟨hO, rfl, hd⟩
  · rw [if_neg n0]
    have hg : lz_dr d / 8 % la_n A < la_n A := Nat.mod_lt _ (by omega)
    split
    · split
      · rename_i z
        exact ⟨hO.c (Or.inl ⟨rfl, la_Ok_c0 hO hg z.2⟩), rfl, h2⟩
      · exact ⟨hO, rfl, h2⟩
    · split
      · exact ⟨la_Ok_day hO, la_n_day, h2⟩
      · exact ⟨hO, rfl, h2⟩
def lz_op (q : Nat) : Prop := q = 6 ∨ q = 11 ∨ q = 12 ∨ q = 13 ∨ q = 14 ∨ q = 15
theorem lz_do_ok {I : Nat → Nat → Int32} {k : Nat} {A : la_A} {d : Nat} (hk : lw_ok I (la_n A) k) (hO : la_Ok A) (hd : d < 65536) (hq : lz_op (lw_op I k)) : la_Ok (lz_do I k A d).1 ∧ la_n (lz_do I k A d).1 = la_n A ∧ (lz_do I k A d).2.1 < 65536 := by
  obtain ⟨-, hk⟩ := hk
  unfold lz_op at hq
  unfold lz_do
  rcases hk with ⟨q, j, j1, j20, ej⟩ | ⟨q | q, j, hj, ej⟩ | ⟨q, ⟨j, hj, ej⟩, ⟨t, ht, et⟩, hne⟩ | ⟨q, j, j1, j60, ej⟩ | q | q | ⟨q, -⟩ | ⟨q, -⟩ | ⟨⟨q, -⟩ | q, -⟩
  · rw [q, if_neg (by decide), if_pos rfl]
    split
    · exact ⟨la_Ok_days hO _, la_n_days _, hd⟩
    · exact ⟨hO, rfl, hd⟩
  · rw [q, if_neg (by decide), if_neg (by decide), if_pos rfl, ej, nI_clamp (by have := hO.2.1; omega)]
    split
    · exact ⟨la_Ok_cut hO j hj, la_n_cut, hd⟩
    · exact ⟨hO, rfl, hd⟩
  · rw [q, if_neg (by decide), if_neg (by decide), if_neg (by decide), if_pos rfl]
    split
    · exact ⟨hO.c (Or.inr (Or.inr (Or.inr (Or.inr (Or.inl ⟨rfl, 0, by decide, by decide, rfl⟩))))), rfl, hd⟩
    · exact ⟨hO, rfl, hd⟩
  · rw [q, if_pos rfl]
    have h7 := hO.2.1
    refine ⟨hO.c (Or.inr (Or.inr (Or.inr (Or.inr (Or.inr (Or.inr ⟨rfl, Or.inr ⟨t, ht, fun z => hne ?_, et⟩⟩)))))), rfl, hd⟩
    rw [ej, nI_clamp (by omega)] at z
    rw [ej, et, z]
  · rw [q, if_neg (by decide), if_neg (by decide), if_neg (by decide), if_neg (by decide), if_pos rfl]
    exact ⟨hO.h (Or.inr (Or.inr (Or.inr (Or.inr (Or.inr ⟨rfl, j, j1, j60, ej⟩))))), la_n_h (by decide), hd⟩
  · rw [q, if_neg (by decide), if_neg (by decide), if_neg (by decide), if_neg (by decide), if_neg (by decide)]
    exact lz_any_ok hO hd
  all_goals omega
section LS
variable {σ : lt_S}
set_option maxHeartbeats 4000000 in
theorem lz_stepC (hσ : lr_S σ) {I : Nat → Nat → Int32} {k s : Nat} {A : la_A} {d : Nat} {m : Int32} {w : lt_W} (hk : lw_ok I (la_n A) k) (hq : lz_op (lw_op I k)) (hO : la_Ok A) (hd : d < 65536) (hs : s < 30) (hc : lw_ci w 21 I k s) (h : lz_C w A d m) : ∃ w', f_X2_goStep σ 169 (nI s) w = some w' ∧ lz_C w' (lz_do I k A d).1 (lz_do I k A d).2.1 (m + (if (lz_do I k A d).2.2 = true then 0 else 1)) ∧ lz_Fc w w' ∧ lz_K w w' := by
  have h' := h
  obtain ⟨h1, h2, h3⟩ := h'
  have h7 := hO.2.1
  have hN := lr_nowS hσ
  obtain ⟨⟨-, s0, s1, s2, s3, s4, s5, s6, s7⟩, l1, l2, l3, l4, l5, l6, l7, l8⟩ := hN
  obtain ⟨c1, c2, c3, c4, -⟩ := hc
  obtain ⟨-, hk⟩ := hk
  unfold lz_op at hq
  have op : ∀ x, lt_gi w (21 + 1) s = x → f_X2_goStep σ 169 (nI s) w = (if x = 12 then lt_ck (nI s) (lt_len σ (lt_r σ (lt_r σ 169 1) 4)) (lt_ck (nI s) (lt_len σ (lt_r σ (lt_r σ 169 1) 5)) (Option.bind (f_X2_goButter σ 169 (lt_gi w (lt_r σ (lt_r σ 169 1) 4) s) (lt_gi w (lt_r σ (lt_r σ 169 1) 5) s) w) (fun q7 => fb_X2_goStep_208 σ 169 q7.1 q7.2))) else if x = 13 then lt_ck (nI s) (lt_len σ (lt_r σ (lt_r σ 169 1) 7)) (Option.bind (f_X5_mayPass σ (lt_r σ 169 0) (lt_gi w (lt_r σ (lt_r σ 169 1) 7) s) w) (fun q12 => if q12 = 0 then fb_X2_goStep_208 σ 169 q12 w else lt_ck (nI s) (lt_len σ (lt_r σ (lt_r σ 169 1) 7)) (Option.bind (f_X5_passDays σ (lt_r σ 169 0) (lt_gi w (lt_r σ (lt_r σ 169 1) 7) s) w) (fun q16 => fb_X2_goStep_208 σ 169 q12 q16)))) else if x = 14 then lt_ck (nI s) (lt_len σ (lt_r σ (lt_r σ 169 1) 4)) (Option.bind (f_X5_cutBy σ (lt_r σ 169 0) (lt_gi w (lt_r σ (lt_r σ 169 1) 4) s) w) (fun q21 => fb_X2_goStep_208 σ 169 q21.1 q21.2)) else if x = 15 then lt_ck (nI s) (lt_len σ (lt_r σ (lt_r σ 169 1) 4)) (Option.bind (f_X2_goSoup σ 169 (lt_gi w (lt_r σ (lt_r σ 169 1) 4) s) w) (fun q25 => fb_X2_goStep_208 σ 169 q25.1 q25.2)) else if x = 16 then lt_ck (nI s) (lt_len σ (lt_r σ (lt_r σ 169 1) 7)) (if (lt_gi w (lt_r σ 169 0) 4) = (lt_gi w (lt_r σ (lt_r σ 169 1) 7) s) then fb_X2_goStep_175 σ 169 (nI s) 0 w else fb_X2_goStep_175 σ 169 (nI s) 1 w) else if x = 17 then Option.bind (f_X2_goAny σ 169 w) (fun q31 => fb_X2_goStep_208 σ 169 q31.1 q31.2) else lt_let (lt_si w 169 4 1) (fun w33 => fb_X2_goStep_208 σ 169 1 w33)) := by
    intro x hx
    subst hx
    unfold f_X2_goStep fb_X2_goStep_0
    rw [lq_r169_1 hσ, lq_r21_2 hσ, lq_l22 hσ, lu_ck hs (by decide), nI_clamp (by omega)]
  have O := op _ c1
  clear op
  rw [lq_r169_1 hσ, lq_r169_0 hσ, lq_r21_4 hσ, lq_r21_5 hσ, lq_r21_7 hσ, lq_l24 hσ, lq_l25 hσ, lq_l27 hσ] at O
  rw [O]
  clear O
  unfold lz_do
  rcases hk with ⟨q, j, j1, j20, ej⟩ | ⟨q | q, j, hj, ej⟩ | ⟨q, ⟨j, hj, ej⟩, ⟨t, ht, et⟩, hne⟩ | ⟨q, j, j1, j60, ej⟩ | q | q | ⟨q, -⟩ | ⟨q, -⟩ | ⟨⟨q, -⟩ | q, -⟩
  · have cm : lt_gi w 27 s = nI j := (c2 (Or.inl q)).trans ej
    rw [q, show lw_wd 11 = 13 from rfl, if_neg (by decide), if_pos rfl, lu_ck hs (by decide), cm, if_neg (by decide), if_pos rfl, ej]
    unfold f_X5_mayPass fb_X5_mayPass_0
    rw [h1.2.2.1 6 (by decide), nI_clamp (by omega)]
    by_cases c6 : A.1 6 + nI j ≤ 9999
    · rw [if_neg (Int32.not_lt.mpr c6), if_pos c6, lu_bind, if_neg lu_10, lu_ck hs (by decide)]
      obtain ⟨u, e1, e2, e3⟩ := lc_passDays (lr_nowS hσ) h1 hO (d := j) (by omega)
      rw [e1, lu_bind]
      exact lz_208' true rfl ⟨e2, (e3.2 _ _ (by omega)).trans h2, (e3.2 _ _ (by omega)).trans h3⟩ (lz_Fc.t e3) (fun k z => e3.2 _ _ (by omega))
    · rw [if_pos (Int32.not_le.mp c6), if_neg c6, lu_bind, if_pos rfl]
      exact lz_208 false h
  · have cm : lt_gi w 24 s = nI j := (c3 (Or.inl q)).trans ej
    rw [q, show lw_wd 12 = 14 from rfl, if_neg (by decide), if_neg (by decide), if_pos rfl, lu_ck hs (by decide), cm, if_neg (by decide), if_neg (by decide), if_pos rfl, ej, nI_clamp (by omega)]
    have h5 := hO.2.2.2.2.2.2.1.le0 (by decide)
    by_cases c : la_here A j = true ∧ A.1 5 = 0
    · rw [if_pos c]
      obtain ⟨u, e1, e2, e3⟩ := lc_cut (lr_nowS hσ) h1 hj c.1 (h5.mpr c.2)
      rw [e1, lu_bind]
      exact lz_208' true rfl ⟨e2, (e3.2 _ _ (by omega)).trans h2, (e3.2 _ _ (by omega)).trans h3⟩ (lz_Fc.t e3) (fun k z => e3.2 _ _ (by omega))
    · rw [if_neg c, lc_cutNo h1 (Or.inr ⟨j, rfl, by omega, ?_⟩), lu_bind]
      · exact lz_208 false h
      · by_cases z : la_here A j = true
        · exact Or.inr (Or.inr fun y => c ⟨z, h5.mp y⟩)
        · exact Or.inr (Or.inl (by simpa using z))
  · have cm : lt_gi w 24 s = nI j := (c3 (Or.inr (Or.inl q))).trans ej
    rw [q, show lw_wd 13 = 15 from rfl, if_neg (by decide), if_neg (by decide), if_neg (by decide), if_pos rfl, lu_ck hs (by decide), cm, if_neg (by decide), if_neg (by decide), if_neg (by decide), if_pos rfl, ej, nI_clamp (by omega)]
    unfold f_X2_goSoup fb_X2_goSoup_0
    rw [lq_r169_0 hσ, lc_hungers (lr_nowS hσ) h1 hj, lu_bind, s5, l6]
    have h4 : 0 < A.2 j 4 ↔ ¬ A.2 j 4 = 0 := by
      obtain ⟨v, -, v99, ev⟩ := (hO.2.2.2.2.2.2.2 j hj).2.2.2.2.1
      rw [ev]
      constructor
      · intro z y; rw [y] at z; exact absurd z (by decide)
      · intro z
        have : v ≠ 0 := fun y => z (by rw [y]; rfl)
        exact nI_lt (a := 0) (by omega) (by omega)
    by_cases c : la_here A j = true ∧ ¬ A.2 j 4 = 0
    · have ch : la_hung A j = true := by unfold la_hung; rw [c.1, Bool.true_and, decide_eq_true_eq]; exact h4.mpr c.2
      rw [if_pos ch, if_neg lu_10, if_pos c, lu_ck (show j < 7 by omega) (by decide), lu_let, nI_clamp (by omega), lu_bind]
      exact lz_208' true rfl ⟨h1.cell (Or.inl ⟨by decide, rfl⟩), (lu_ne (by omega)).trans h2, (lu_ne (by omega)).trans h3⟩ ((lz_Fc.refl w).ti (by decide) (by decide)) (fun k z => lu_ne (by omega))
    · have ch : ¬ la_hung A j = true := by
        intro z; unfold la_hung at z; rw [Bool.and_eq_true, decide_eq_true_eq] at z; exact c ⟨z.1, h4.mp z.2⟩
      rw [if_neg ch, if_pos rfl, if_neg c, lu_bind]
      exact lz_208 false h
  · have cm : lt_gi w 24 s = nI j := (c3 (Or.inr (Or.inr q))).trans ej
    have cn : lt_gi w 25 s = I k 2 := c4 q
    rw [q, show lw_wd 6 = 12 from rfl, if_pos rfl, lu_ck hs (by decide), lu_ck hs (by decide), cm, cn, if_pos rfl, ej, nI_clamp (by omega)]
    unfold f_X2_goButter fb_X2_goButter_0
    rw [lq_r169_0 hσ, lq_hg_y h1 hj, lu_bind, if_neg lu_10, s6, l7, lu_ck (show j < 7 by omega) (by decide), nI_clamp (by omega), (h1.2.2.2.2 j hj).2.2.2.2.2]
    by_cases c : A.2 j 6 = I k 2
    · rw [if_pos c, lu_bind]
      have ed : decide (¬ A.2 j 6 = I k 2) = false := by simp [c]
      rw [ed, ← c, la_c_same]
      exact lz_208 false h
    · rw [if_neg c, lu_ck (show j < 7 by omega) (by decide), lu_let, lu_bind]
      have ed : decide (¬ A.2 j 6 = I k 2) = true := by simp [c]
      rw [ed]
      exact lz_208' true rfl ⟨h1.cell (Or.inr ⟨rfl, rfl⟩), (lu_ne (by omega)).trans h2, (lu_ne (by omega)).trans h3⟩ ((lz_Fc.refl w).ti (by decide) (by decide)) (fun k z => lu_ne (by omega))
  · have cm : lt_gi w 27 s = I k 1 := c2 (Or.inr (Or.inl q))
    rw [q, show lw_wd 14 = 16 from rfl, if_neg (by decide), if_neg (by decide), if_neg (by decide), if_neg (by decide), if_pos rfl, lu_ck hs (by decide), cm, if_neg (show ¬ (14 : Nat) = 6 by decide), if_neg (show ¬ (14 : Nat) = 11 by decide), if_neg (show ¬ (14 : Nat) = 12 by decide), if_neg (show ¬ (14 : Nat) = 13 by decide), if_pos (show (14 : Nat) = 14 from rfl), h1.2.2.1 4 (by decide)]
    have ep : ∀ y, fb_X2_goStep_175 σ 169 (nI s) y w = fb_X2_goStep_208 σ 169 y (lt_si w 12 4 (I k 1)) := fun y => by
      unfold fb_X2_goStep_175
      rw [lq_r169_1 hσ, lq_r169_0 hσ, lq_r21_7 hσ, lq_l27 hσ, lu_ck hs (by decide), lu_let, nI_clamp (by omega), cm]
    have hu : lz_C (lt_si w 12 4 (I k 1)) (la_h A 4 (I k 1)) d m := ⟨h1.hd (by decide) (by decide), (lu_ne (by omega)).trans h2, (lu_ne (by omega)).trans h3⟩
    by_cases c : A.1 4 = I k 1
    · have ed : decide (¬ A.1 4 = I k 1) = false := by simp [c]
      rw [if_pos c, ep, ed]
      exact lz_208' false rfl hu ((lz_Fc.refl w).ti (by decide) (by decide)) (fun k z => lu_ne (by omega))
    · have ed : decide (¬ A.1 4 = I k 1) = true := by simp [c]
      rw [if_neg c, ep, ed]
      exact lz_208' true rfl hu ((lz_Fc.refl w).ti (by decide) (by decide)) (fun k z => lu_ne (by omega))
  · rw [q, show lw_wd 15 = 17 from rfl, if_neg (by decide), if_neg (by decide), if_neg (by decide), if_neg (by decide), if_neg (by decide), if_pos rfl, if_neg (by decide), if_neg (by decide), if_neg (by decide), if_neg (by decide), if_neg (by decide)]
    obtain ⟨u, e1, e2, e3, e4⟩ := lz_anyC hσ hO hd h
    rw [e1, lu_bind]
    exact lz_208' _ rfl e2 e3 e4
  all_goals omega
end LS