/-! THE WEEKS' TEXT: a step but an end -/
def tw_I (I : Nat → Nat → Int32) (N d : Nat) (st : Nat → Nat) (n : Nat) (wc wm : lt_W) : Prop := tw_B I N d st n wc wm ∧ (lt_gi wc 40 1 = nI (lw_phi I N) ∧ lt_gi wc 39 4 = nI d) ∧ (lt_gi wm 234 1720 = nI N ∧ lt_gi wm 233 22 = nI d ∧ lt_gi wm 233 23 = nI (lw_phi I N))
def tw_Q (w w0 : lt_W) (T : Nat → Nat) (L p n : Nat) (wc wm : lt_W) : Prop := ∃ p' I N d st, p < p' ∧ tk_S w w0 T L p' wc wm ∧ tw_I I N d st n wc wm
theorem tw_B.F {I : Nat → Nat → Int32} {N d n : Nat} {st : Nat → Nat} {wc wm wc' wm' : lt_W} (h : tw_B I N d st n wc wm) (h1 : tx_Fk wc wc') (h2 : tx_Fm wm wm') : tw_B I N d st n wc' wm' :=
  h.c (fun a s _ _ _ => h1.1 _ _ (by omega)) (fun i _ => h1.1 _ _ (by omega)) (fun k _ => h2.1 _ _ (by omega)) (fun i _ => h2.1 _ _ (by omega))
/-- behind the order, the reference -/
def tw_k (σ : lt_S) (q N : Nat) (x4 : Int32) : Int32 × lt_W → Option (Int32 × lt_W) := fun q4 => if q4.1 = 0 then some (0, q4.2) else if x4 = 0 then fb_X12_weekStep_240 σ 233 (nI q) (nI N) (nI (1772 + 6 * N)) q4.2 else lt_ck (lt_gi q4.2 233 22) 3 (lt_let (lt_si q4.2 241 (lt_gi q4.2 233 22).toNatClampNeg (nI N)) (fun w6 => lt_let (lt_si w6 233 22 ((lt_gi w6 233 22) + 1)) (fun w7 => fb_X12_weekStep_240 σ 233 (nI q) (nI N) (nI (1772 + 6 * N)) w7)))
section TWS
variable {σ : lt_S} {w w0 wc wm : lt_W} {T : Nat → Nat} {L p n N d : Nat} {I : Nat → Nat → Int32} {st : Nat → Nat}
def tm_z (r N : Nat) (u : lt_W) : lt_W := lt_si (lt_si (lt_si (lt_si (lt_si (lt_si u 234 (r + 1) 0) 234 (r + 2) 0) 234 (r + 3) 0) 234 (r + 4) 0) 234 (r + 5) 0) 234 1720 (nI (N + 1))
theorem tm_165 (hσ : lr_S σ) {q : Nat} {x4 : Int32} {u : lt_W} (hN : N < 60) (h0 : lt_gi u 234 1720 = nI N) : fb_X12_weekStep_165 σ 233 lt_fu (nI q) (nI N) (nI (1772 + 6 * N)) x4 1 u = Option.bind (f_X12_ahead σ 233 (tm_z (1772 + 6 * N) N u)) (fun q3 => Option.bind (f_X12_weekOrder σ 233 (nI q) (nI (1772 + 6 * N)) q3) (tw_k σ q N x4)) := by
  have l21 : lt_r σ 233 21 = 241 := lq_r233_21 hσ
  obtain ⟨f, hf⟩ : ∃ f, lt_fu = f + 1 + 1 + 1 + 1 + 1 + 1 := ⟨lt_fu - 6, by unfold lt_fu; omega⟩
  have st : ∀ (j : Nat) (v : lt_W) (g : Nat), j < 6 → fb_X12_weekStep_165 σ 233 (g + 1) (nI q) (nI N) (nI (1772 + 6 * N)) x4 (nI j) v = fb_X12_weekStep_165 σ 233 g (nI q) (nI N) (nI (1772 + 6 * N)) x4 (nI (j + 1)) (lt_si v 234 (1772 + 6 * N + j) 0) := fun j v g hj => by
    rw [fb_X12_weekStep_165, if_neg (show ¬ (6 : Int32) ≤ nI j from nI_ge (b := 6) hj (by decide)), lr_at hσ, lq_l234 hσ, nI_add, lu_ck (by omega) (by decide), lu_let, nI_clamp (by omega), nI_1]
  have e12 : ∀ {α : Type} (y : Option α), lt_ck 1720 2560 y = y := fun y => lu_ck (i := 1720) (by decide) (by decide)
  rw [hf, show (1 : Int32) = nI 1 from rfl, st 1 _ _ (by decide), st 2 _ _ (by decide), st 3 _ _ (by decide), st 4 _ _ (by decide), st 5 _ _ (by decide), fb_X12_weekStep_165, if_pos (show (6 : Int32) ≤ nI (5 + 1) by decide), lr_at hσ, lq_l234 hσ, e12, e12, lu_let, show (1720 : Int32).toNatClampNeg = 1720 from rfl]
  rw [lu_ne (by omega), lu_ne (by omega), lu_ne (by omega), lu_ne (by omega), lu_ne (by omega), h0, nI_1, l21, lq_l241 hσ]
  rfl
theorem tw_beg (hσ : lr_S σ) (h : tk_S w w0 T L p wc wm) (hI : tw_I I N d st n wc wm) (K q : Nat) (op : Bool) (hK : tx_K T L p = K) (hK9 : K < 99) (hq : q ≠ 18) (hq2 : q < 100) : (∃ x y, fb_X10_beginStep_54 σ 39 (nI K) (if op = true then 1 else 0) wc = some (0, x) ∧ fb_X12_weekStep_93 σ 233 (nI q) (nI N) (nI (1772 + 6 * N)) (if op = true then 1 else 0) wm = some (0, y) ∧ tk_E w w0 x y) ∨ (lw_phi I N < 30 ∧ (op = true → d < 3) ∧ ∃ x y, fb_X10_beginStep_54 σ 39 (nI K) (if op = true then 1 else 0) wc = some (1, x) ∧ fb_X12_weekStep_93 σ 233 (nI q) (nI N) (nI (1772 + 6 * N)) (if op = true then 1 else 0) wm = Option.bind (f_X12_weekOrder σ 233 (nI q) (nI (1772 + 6 * N)) y) (tw_k σ q N (if op = true then 1 else 0)) ∧ tk_S w w0 T L (tx_N T L p) x y ∧ tw_B I N d st n x y ∧ (lt_gi x 40 1 = nI (lw_phi I N + 1) ∧ lt_gi x 39 4 = nI (if op = true then d + 1 else d)) ∧ (lt_gi y 234 1720 = nI (N + 1) ∧ lt_gi y 233 22 = nI d ∧ lt_gi y 233 23 = nI (lw_phi I N + 1)) ∧ lt_gi x 41 (lw_phi I N) = nI K ∧ (op = true → lt_gi x 48 d = nI (lw_phi I N)) ∧ lt_gi y 234 (1772 + 6 * N) = nI q ∧ lt_gi y 234 (1772 + 6 * N + 4) = 0) := by
  obtain ⟨⟨r0, r1, r2, r3⟩, ⟨a2, a3, a4, a5, a6, a7, a8⟩, l1, l2, l3, l4, l5, l6, l7, l8⟩ := lr_39 hσ
  obtain ⟨hB, ⟨c1, c2⟩, c3, c4, c5⟩ := hI
  obtain ⟨⟨b1, b2, b3⟩, -⟩ := id hB
  have nq : ¬ nI q = 18 := fun z => hq ((nI_eq (b := 18) (by omega) (by decide)).mp z)
  unfold fb_X10_beginStep_54 fb_X12_weekStep_93
  rw [r0, r2, c1, c2, if_neg nq, c5]
  by_cases h30 : lw_phi I N < 30
  · rw [if_pos (show nI (lw_phi I N) < 30 from nI_lt (b := 30) h30 (by decide)), if_neg (show ¬ nI (lw_phi I N) = 30 from fun z => by have := (nI_eq (b := 30) (by omega) (by decide)).mp z; omega)]
    have e15 : ∀ x4 : Int32, fb_X12_weekStep_135 σ 233 (nI q) (nI N) (nI (1772 + 6 * N)) x4 wm = Option.bind (f_X12_ahead σ 233 (tm_z (1772 + 6 * N) N (lt_si (lt_si wm 233 23 (nI (lw_phi I N + 1))) 234 (1772 + 6 * N) (nI q)))) (fun q3 => Option.bind (f_X12_weekOrder σ 233 (nI q) (nI (1772 + 6 * N)) q3) (tw_k σ q N x4)) := fun x4 => by
      unfold fb_X12_weekStep_135 fb_X12_weekStep_151
      rw [if_neg nq, c5, nI_1, lu_let, lr_at hσ, lq_l234 hσ, lu_ck (by omega) (by decide), lu_let, nI_clamp (by omega), tm_165 hσ (by omega) ((lu_ne (by omega)).trans ((lu_ne (by omega)).trans c3))]
    have hSm : tk_S w w0 T L p wc (tm_z (1772 + 6 * N) N (lt_si (lt_si wm 233 23 (nI (lw_phi I N + 1))) 234 (1772 + 6 * N) (nI q))) := by
      unfold tm_z
      exact (((((((h.mi (by omega)).mi (by omega)).mi (by omega)).mi (by omega)).mi (by omega)).mi (by omega)).mi (by omega)).mi (by omega)
    have hm : ∀ a k, ¬ (a = 233 ∧ k = 23) → ¬ (a = 234 ∧ (k = 1720 ∨ (1772 + 6 * N ≤ k ∧ k < 1772 + 6 * N + 6))) → lt_gi (tm_z (1772 + 6 * N) N (lt_si (lt_si wm 233 23 (nI (lw_phi I N + 1))) 234 (1772 + 6 * N) (nI q))) a k = lt_gi wm a k := fun a k z1 z2 => by
      unfold tm_z
      simp (disch := omega) only [lu_ne]
    have m20 : lt_gi (tm_z (1772 + 6 * N) N (lt_si (lt_si wm 233 23 (nI (lw_phi I N + 1))) 234 (1772 + 6 * N) (nI q))) 234 1720 = nI (N + 1) := lu_eq
    have m23 : lt_gi (tm_z (1772 + 6 * N) N (lt_si (lt_si wm 233 23 (nI (lw_phi I N + 1))) 234 (1772 + 6 * N) (nI q))) 233 23 = nI (lw_phi I N + 1) := by
      unfold tm_z
      simp (disch := omega) only [lu_ne, lu_eq]
    have mr : lt_gi (tm_z (1772 + 6 * N) N (lt_si (lt_si wm 233 23 (nI (lw_phi I N + 1))) 234 (1772 + 6 * N) (nI q))) 234 (1772 + 6 * N) = nI q := by
      unfold tm_z
      simp (disch := omega) only [lu_ne, lu_eq]
    have mr4 : lt_gi (tm_z (1772 + 6 * N) N (lt_si (lt_si wm 233 23 (nI (lw_phi I N + 1))) 234 (1772 + 6 * N) (nI q))) 234 (1772 + 6 * N + 4) = 0 := by
      unfold tm_z
      simp (disch := omega) only [lu_ne, lu_eq]
    have e128 : ∀ v : lt_W, lt_gi v 40 1 = nI (lw_phi I N) → fb_X10_beginStep_128 σ 39 (nI K) v = Option.bind (f_X7_advance σ 10 (lt_si (lt_si v 41 (lw_phi I N) (nI K)) 40 1 (nI (lw_phi I N + 1)))) (fun q8 => some (1, q8)) := fun v hv => by
      unfold fb_X10_beginStep_128
      rw [r0, r2, a2, l1, hv, lu_ck h30 (by decide), lu_let, lu_let, lu_ne (by omega), hv, nI_1, nI_clamp (by omega)]
    cases op with
    | false =>
      rw [if_neg (show ¬ (false = true) by decide), if_pos rfl]
      unfold fb_X10_beginStep_98 fb_X12_weekStep_115
      rw [if_pos rfl, if_pos rfl, e128 wc c1, e15]
      obtain ⟨x, y, d1, d2, d3, d4, d5⟩ := tp_adv hσ ((hSm.ci (b := 41) (k := lw_phi I N) (v := nI K) (by omega)).ci (b := 40) (k := 1) (v := nI (lw_phi I N + 1)) (by omega)) (by omega)
      rw [d1, d2, lu_bind, lu_bind]
      refine Or.inr ⟨h30, (fun z => by cases z), x, y, rfl, rfl, d3, (hB.c (fun a s k1 k2 k3 => ?_) (fun i hi => ?_) (fun k hk => ?_) (fun i hi => ?_)), ⟨?_, ?_⟩, ⟨?_, ?_, ?_⟩, ?_, (fun z => by cases z), ?_, ?_⟩
      · rw [d4.1 _ _ (by omega), lu_ne (by omega), lu_ne (by omega)]
      · rw [d4.1 _ _ (by omega), lu_ne (by omega), lu_ne (by omega)]
      · rw [d5.1 _ _ (by omega), hm _ _ (by omega) (by omega)]
      · rw [d5.1 _ _ (by omega), hm _ _ (by omega) (by omega)]
      · rw [d4.1 _ _ (by omega), lu_eq]
      · rw [d4.1 _ _ (by omega), lu_ne (by omega), lu_ne (by omega)]; exact c2
      · rw [d5.1 _ _ (by omega)]; exact m20
      · rw [d5.1 _ _ (by omega), hm _ _ (by omega) (by omega)]; exact c4
      · rw [d5.1 _ _ (by omega)]; exact m23
      · rw [d4.1 _ _ (by omega), lu_ne (by omega), lu_eq]
      · rw [d5.1 _ _ (by omega)]; exact mr
      · rw [d5.1 _ _ (by omega)]; exact mr4
    | true =>
      rw [if_pos rfl, if_neg lu_10]
      unfold fb_X12_weekStep_115
      rw [if_neg lu_10, c4]
      by_cases h3 : d < 3
      · rw [if_pos (show nI d < 3 from nI_lt (b := 3) h3 (by decide)), if_neg (show ¬ nI d = 3 from fun z => by have := (nI_eq (b := 3) (by omega) (by decide)).mp z; omega)]
        unfold fb_X10_beginStep_98
        rw [if_neg lu_10, r2, r3, l8, c2, c1, lu_ck h3 (by decide), lu_let, lu_let, lu_ne (by omega), c2, nI_1, nI_clamp (by omega), e128 _ ((lu_ne (by omega)).trans ((lu_ne (by omega)).trans c1)), e15]
        obtain ⟨x, y, d1, d2, d3, d4, d5⟩ := tp_adv hσ ((((hSm.ci (b := 48) (k := d) (v := nI (lw_phi I N)) (by omega)).ci (b := 39) (k := 4) (v := nI (d + 1)) (by omega)).ci (b := 41) (k := lw_phi I N) (v := nI K) (by omega)).ci (b := 40) (k := 1) (v := nI (lw_phi I N + 1)) (by omega)) (by omega)
        rw [d1, d2, lu_bind, lu_bind]
        refine Or.inr ⟨h30, fun _ => h3, x, y, rfl, rfl, d3, (hB.c (fun a s k1 k2 k3 => ?_) (fun i hi => ?_) (fun k hk => ?_) (fun i hi => ?_)), ⟨?_, ?_⟩, ⟨?_, ?_, ?_⟩, ?_, fun _ => ?_, ?_, ?_⟩
        · rw [d4.1 _ _ (by omega), lu_ne (by omega), lu_ne (by omega), lu_ne (by omega), lu_ne (by omega)]
        · rw [d4.1 _ _ (by omega), lu_ne (by omega), lu_ne (by omega), lu_ne (by omega), lu_ne (by omega)]
        · rw [d5.1 _ _ (by omega), hm _ _ (by omega) (by omega)]
        · rw [d5.1 _ _ (by omega), hm _ _ (by omega) (by omega)]
        · rw [d4.1 _ _ (by omega), lu_eq]
        · rw [d4.1 _ _ (by omega), lu_ne (by omega), lu_ne (by omega), lu_eq, if_pos rfl]
        · rw [d5.1 _ _ (by omega)]; exact m20
        · rw [d5.1 _ _ (by omega), hm _ _ (by omega) (by omega)]; exact c4
        · rw [d5.1 _ _ (by omega)]; exact m23
        · rw [d4.1 _ _ (by omega), lu_ne (by omega), lu_eq]
        · rw [d4.1 _ _ (by omega), lu_ne (by omega), lu_ne (by omega), lu_ne (by omega), lu_eq]
        · rw [d5.1 _ _ (by omega)]; exact mr
        · rw [d5.1 _ _ (by omega)]; exact mr4
      · have e3 : d = 3 := by omega
        subst e3
        rw [if_neg (show ¬ nI 3 < 3 by decide), if_pos (show nI 3 = 3 from rfl)]
        obtain ⟨x, y, e1, e2, e3⟩ := tp_f (σ := σ) h 7 (by decide) (by decide)
        rw [show f_X7_refuse σ 10 7 wc = _ from e1, show f_X12_fails σ 233 7 wm = _ from e2]
        exact Or.inl ⟨x, y, rfl, rfl, e3⟩
  · have e30 : lw_phi I N = 30 := by omega
    rw [e30, if_neg (show ¬ nI 30 < 30 by decide), if_pos (show nI 30 = 30 from rfl)]
    obtain ⟨x, y, e1, e2, e3⟩ := tp_f (σ := σ) h 6 (by decide) (by decide)
    rw [show f_X7_refuse σ 10 6 wc = _ from e1, show f_X12_fails σ 233 6 wm = _ from e2]
    exact Or.inl ⟨x, y, rfl, rfl, e3⟩
end TWS