/-! THE WEEKS' TEXT: any step -/
section TWX
variable {σ : lt_S} {w w0 wc wm : lt_W} {T : Nat → Nat} {L p n N d : Nat} {I : Nat → Nat → Int32} {st : Nat → Nat}
/-- what the class does with a step but an end -/
def tw_cs (σ : lt_S) (wc : lt_W) : Option (Int32 × lt_W) := Option.bind (f_X10_beginStep σ 39 (lt_gi wc 10 5) wc) (fun q5 => if q5.1 = 0 then some (0, q5.2) else Option.bind (f_X10_takeRest σ 39 (lt_gi wc 40 1) q5.2) (fun q6 => if q6.1 = 0 then some (0, q6.2) else Option.bind (f_X7_take σ 10 59 q6.2) (fun q8 => if q8.1 = 0 then some (0, q8.2) else some (1, q8.2))))
theorem tw_297 (hσ : lr_S σ) (h : tk_S w w0 T L p wc wm) : tk_O (tp_1 w w0 T L p wc wm) (tk_E w w0) (Option.bind (f_X7_take σ 10 59 wc) (fun q8 => if q8.1 = 0 then some (0, q8.2) else some (1, q8.2))) (fb_X12_weekStep_297 σ 233 wm) := by
  unfold fb_X12_weekStep_297
  rcases tp_sign hσ h 59 (by decide) (by decide) with ⟨x, y, f1, f2, f3⟩ | ⟨x, y, f1, f2, f3⟩
  · rw [show f_X7_take σ 10 59 wc = _ from f1, show f_X12_wantSign σ 233 59 wm = _ from f2]
    exact Or.inl ⟨x, y, rfl, rfl, f3⟩
  · rw [show f_X7_take σ 10 59 wc = _ from f1, show f_X12_wantSign σ 233 59 wm = _ from f2]
    exact Or.inr ⟨x, y, rfl, rfl, f3⟩
theorem tw_step (hσ : lr_S σ) (h : tk_S w w0 T L p wc wm) (hI : tw_I I N d st n wc wm) (K q : Nat) (op : Bool) (hK : tx_K T L p = K) (hK0 : K ≠ 0) (hK9 : K < 99) (hq : q ≠ 18) (hq2 : q < 100) (hA : f_X10_beginStep σ 39 (nI K) wc = fb_X10_beginStep_54 σ 39 (nI K) (if op = true then 1 else 0) wc) (hB : f_X12_weekStep σ 233 wm = fb_X12_weekStep_93 σ 233 (nI q) (nI N) (nI (1772 + 6 * N)) (if op = true then 1 else 0) wm) (hord : ∀ x y p', tk_S w w0 T L p' x y → lw_phi I N < 30 → N < 60 → lt_gi x 41 (lw_phi I N) = nI K → lt_gi y 234 (1772 + 6 * N) = nI q → lt_gi y 234 (1772 + 6 * N + 4) = 0 → tk_O (tw_O w w0 T L p' I N (lw_phi I N) n op x y) (tk_E w w0) (f_X10_takeRest σ 39 (nI (lw_phi I N)) x) (f_X12_weekOrder σ 233 (nI q) (nI (1772 + 6 * N)) y)) : tk_O (tw_Q w w0 T L p n) (tk_E w w0) (tw_cs σ wc) (f_X12_weekStep σ 233 wm) := by
  have kc : lt_gi wc 10 5 = nI K := (tp_kind h hK9).mpr hK
  unfold tw_cs
  rw [kc, hA, hB, hI.2.1.1]
  have hgt := tp_gt h (by omega)
  rcases tw_beg hσ h hI K q op hK hK9 hq hq2 with ⟨x, y, e1, e2, e3⟩ | ⟨h30, hd, x, y, e1, e2, e3, e4, ⟨e5, e6⟩, ⟨e7, e8, e9⟩, e10, e11, e12, e13⟩
  · rw [e1, e2]; exact Or.inl ⟨x, y, rfl, rfl, e3⟩
  · have hN : N < 60 := by have := e4.1; omega
    rw [e1, e2, lu_bind, if_neg lu_10]
    refine (hord x y _ e3 h30 hN e10 e12 e13).bind (fun x2 y2 hP => ?_) (fun _ _ => ⟨if_pos rfl, if_pos rfl⟩)
    obtain ⟨p2, p3, g1, g2, g3, r1, r2, r3, r4⟩ := hP
    dsimp only
    unfold tw_k
    dsimp only
    rw [if_neg lu_10, if_neg lu_10]
    have hB2 : tw_B I N d st n x2 y2 := e4.c (fun a s k1 k2 k3 => g2 _ _ (by omega) (by omega)) (fun i hi => g2 _ _ (by omega) (by omega)) (fun k hk => g3 _ _ (by omega) (by omega)) (fun i hi => g3 _ _ (by omega) (by omega))
    have c1 : lt_gi x2 40 1 = nI (lw_phi I N + 1) := (g2 _ _ (by omega) (by omega)).trans e5
    have c2 : lt_gi x2 39 4 = nI (if op = true then d + 1 else d) := (g2 _ _ (by omega) (by omega)).trans e6
    have c3 : lt_gi y2 234 1720 = nI (N + 1) := (g3 _ _ (by omega) (by omega)).trans e7
    have c4 : lt_gi y2 233 22 = nI d := (g3 _ _ (by omega) (by omega)).trans e8
    have c5 : lt_gi y2 233 23 = nI (lw_phi I N + 1) := (g3 _ _ (by omega) (by omega)).trans e9
    have eph : lw_phi (tw_up I N (tw_R y2 (1772 + 6 * N))) (N + 1) = lw_phi I N + 1 := by rw [tw_phn r3, tw_up_phi (Nat.le_refl _)]
    have nq : ¬ nI q = 18 := fun z => hq ((nI_eq (b := 18) (by omega) (by decide)).mp z)
    cases op with
    | false =>
      rw [if_neg (show ¬ (false = true) by decide), if_pos rfl]
      unfold fb_X12_weekStep_240
      rw [if_neg nq]
      have hB3 := hB2.plain (R := tw_R y2 (1772 + 6 * N)) h30 (fun i _ => rfl) r3 (fun z => by have := r4.mp z; cases this) r1 r2
      refine (tw_297 hσ g1).mono fun x3 y3 hP => ⟨_, _, _, _, _, ?_, hP.1, hB3.F hP.2.1 hP.2.2, ⟨?_, ?_⟩, ?_, ?_, ?_⟩
      · have := tp_ge g1; omega
      · rw [hP.2.1.1 _ _ (by omega), eph]; exact c1
      · rw [hP.2.1.1 _ _ (by omega)]; exact c2
      · rw [hP.2.2.1 _ _ (by omega)]; exact c3
      · rw [hP.2.2.1 _ _ (by omega)]; exact c4
      · rw [hP.2.2.1 _ _ (by omega), eph]; exact c5
    | true =>
      have h3 := hd rfl
      have s48 : lt_gi x2 48 d = nI (lw_phi I N) := (g2 _ _ (by omega) (by omega)).trans (e11 rfl)
      rw [if_pos rfl, if_neg lu_10, c4, lu_ck h3 (by decide), lu_let, lu_let, lu_ne (by omega), c4, nI_1, nI_clamp (by omega)]
      unfold fb_X12_weekStep_240
      rw [if_neg nq]
      have hB3 : tw_B I N d st n x2 (lt_si (lt_si y2 241 d (nI N)) 233 22 (nI (d + 1))) := hB2.c (fun _ _ _ _ _ => rfl) (fun _ _ => rfl) (fun k hk => by rw [lu_ne (by omega), lu_ne (by omega)]) (fun i hi => by rw [lu_ne (by omega), lu_ne (by omega)])
      have eR : tw_R (lt_si (lt_si y2 241 d (nI N)) 233 22 (nI (d + 1))) (1772 + 6 * N) = tw_R y2 (1772 + 6 * N) := funext fun i => by
        unfold tw_R; rw [lu_ne (by omega), lu_ne (by omega)]
      have hB4 := hB3.opn (R := tw_R y2 (1772 + 6 * N)) h30 h3 (fun i _ => congrFun eR i) r3 (r4.mpr rfl) r1 r2 (by rw [lu_ne (by omega), lu_eq]) s48
      have g1' : tk_S w w0 T L p2 x2 (lt_si (lt_si y2 241 d (nI N)) 233 22 (nI (d + 1))) := (g1.mi (by omega)).mi (by omega)
      refine (tw_297 hσ g1').mono fun x3 y3 hP => ⟨_, _, _, _, _, ?_, hP.1, hB4.F hP.2.1 hP.2.2, ⟨?_, ?_⟩, ?_, ?_, ?_⟩
      · have := tp_ge g1; omega
      · rw [hP.2.1.1 _ _ (by omega), eph]; exact c1
      · rw [hP.2.1.1 _ _ (by omega)]; exact c2
      · rw [hP.2.2.1 _ _ (by omega), lu_ne (by omega), lu_ne (by omega)]; exact c3
      · rw [hP.2.2.1 _ _ (by omega), lu_eq]
      · rw [hP.2.2.1 _ _ (by omega), lu_ne (by omega), lu_ne (by omega), eph]; exact c5
theorem tw_a13 : f_X10_beginStep σ 39 (nI 13) wc = fb_X10_beginStep_54 σ 39 (nI 13) (if false = true then 1 else 0) wc := by
    unfold f_X10_beginStep fb_X10_beginStep_0
    rw [if_neg (show ¬ nI 13 = 18 by decide), if_neg (show ¬ nI 13 = 22 by decide)]
    unfold fb_X10_beginStep_17
    rw [if_pos rfl, if_neg (show ¬ nI 13 = 23 by decide), if_neg (show ¬ nI 13 = 12 by decide), show f_X11_within (nI 13) 13 17 = some 1 by decide, lu_bind, if_neg lu_10]; rfl
theorem tw_b13 (hσ : lr_S σ) (h : tk_S w w0 T L p wc wm) (hN : lt_gi wm 234 1720 = nI N) (hK : tx_K T L p = 13) : f_X12_weekStep σ 233 wm = fb_X12_weekStep_93 σ 233 (nI 11) (nI N) (nI (1772 + 6 * N)) (if false = true then 1 else 0) wm := by
  have e12 : ∀ {α : Type} (y : Option α), lt_ck 1720 2560 y = y := fun y => lu_ck (i := 1720) (by decide) (by decide)
  have er : (1772 : Int32) + 6 * nI N = nI (1772 + 6 * N) := by rw [show (6 : Int32) = nI 6 from rfl, pk_mul, show (1772 : Int32) = nI 1772 from rfl, nI_add]
  unfold f_X12_weekStep fb_X12_weekStep_0 fb_X12_weekStep_42
  rw [tx_inM hσ h.2.1, lu_bind, if_pos (show 1 ≤ tx_K T L p ∧ tx_K T L p ≤ 23 by omega), hK, show nI (tx_m 13) = nI 11 from rfl, lr_at hσ, lq_l234 hσ, e12, show (1720 : Int32).toNatClampNeg = 1720 from rfl, hN, lu_let, er, if_neg (show ¬ nI 11 = 16 by decide), if_neg (show ¬ nI 11 = 17 by decide), if_neg (show ¬ nI 11 = 6 by decide), if_neg (show ¬ nI 11 < 11 by decide), if_neg (show ¬ 19 < nI 11 by decide)]
  unfold fb_X12_weekStep_67
  rw [if_neg lu_10, if_neg (show ¬ nI 11 = 18 by decide)]
  rfl
theorem tw_a14 : f_X10_beginStep σ 39 (nI 14) wc = fb_X10_beginStep_54 σ 39 (nI 14) (if false = true then 1 else 0) wc := by
    unfold f_X10_beginStep fb_X10_beginStep_0
    rw [if_neg (show ¬ nI 14 = 18 by decide), if_neg (show ¬ nI 14 = 22 by decide)]
    unfold fb_X10_beginStep_17
    rw [if_pos rfl, if_neg (show ¬ nI 14 = 23 by decide), if_neg (show ¬ nI 14 = 12 by decide), show f_X11_within (nI 14) 13 17 = some 1 by decide, lu_bind, if_neg lu_10]; rfl
theorem tw_b14 (hσ : lr_S σ) (h : tk_S w w0 T L p wc wm) (hN : lt_gi wm 234 1720 = nI N) (hK : tx_K T L p = 14) : f_X12_weekStep σ 233 wm = fb_X12_weekStep_93 σ 233 (nI 12) (nI N) (nI (1772 + 6 * N)) (if false = true then 1 else 0) wm := by
  have e12 : ∀ {α : Type} (y : Option α), lt_ck 1720 2560 y = y := fun y => lu_ck (i := 1720) (by decide) (by decide)
  have er : (1772 : Int32) + 6 * nI N = nI (1772 + 6 * N) := by rw [show (6 : Int32) = nI 6 from rfl, pk_mul, show (1772 : Int32) = nI 1772 from rfl, nI_add]
  unfold f_X12_weekStep fb_X12_weekStep_0 fb_X12_weekStep_42
  rw [tx_inM hσ h.2.1, lu_bind, if_pos (show 1 ≤ tx_K T L p ∧ tx_K T L p ≤ 23 by omega), hK, show nI (tx_m 14) = nI 12 from rfl, lr_at hσ, lq_l234 hσ, e12, show (1720 : Int32).toNatClampNeg = 1720 from rfl, hN, lu_let, er, if_neg (show ¬ nI 12 = 16 by decide), if_neg (show ¬ nI 12 = 17 by decide), if_neg (show ¬ nI 12 = 6 by decide), if_neg (show ¬ nI 12 < 11 by decide), if_neg (show ¬ 19 < nI 12 by decide)]
  unfold fb_X12_weekStep_67
  rw [if_neg lu_10, if_neg (show ¬ nI 12 = 18 by decide)]
  rfl
theorem tw_a15 : f_X10_beginStep σ 39 (nI 15) wc = fb_X10_beginStep_54 σ 39 (nI 15) (if false = true then 1 else 0) wc := by
    unfold f_X10_beginStep fb_X10_beginStep_0
    rw [if_neg (show ¬ nI 15 = 18 by decide), if_neg (show ¬ nI 15 = 22 by decide)]
    unfold fb_X10_beginStep_17
    rw [if_pos rfl, if_neg (show ¬ nI 15 = 23 by decide), if_neg (show ¬ nI 15 = 12 by decide), show f_X11_within (nI 15) 13 17 = some 1 by decide, lu_bind, if_neg lu_10]; rfl
theorem tw_b15 (hσ : lr_S σ) (h : tk_S w w0 T L p wc wm) (hN : lt_gi wm 234 1720 = nI N) (hK : tx_K T L p = 15) : f_X12_weekStep σ 233 wm = fb_X12_weekStep_93 σ 233 (nI 13) (nI N) (nI (1772 + 6 * N)) (if false = true then 1 else 0) wm := by
  have e12 : ∀ {α : Type} (y : Option α), lt_ck 1720 2560 y = y := fun y => lu_ck (i := 1720) (by decide) (by decide)
  have er : (1772 : Int32) + 6 * nI N = nI (1772 + 6 * N) := by rw [show (6 : Int32) = nI 6 from rfl, pk_mul, show (1772 : Int32) = nI 1772 from rfl, nI_add]
  unfold f_X12_weekStep fb_X12_weekStep_0 fb_X12_weekStep_42
  rw [tx_inM hσ h.2.1, lu_bind, if_pos (show 1 ≤ tx_K T L p ∧ tx_K T L p ≤ 23 by omega), hK, show nI (tx_m 15) = nI 13 from rfl, lr_at hσ, lq_l234 hσ, e12, show (1720 : Int32).toNatClampNeg = 1720 from rfl, hN, lu_let, er, if_neg (show ¬ nI 13 = 16 by decide), if_neg (show ¬ nI 13 = 17 by decide), if_neg (show ¬ nI 13 = 6 by decide), if_neg (show ¬ nI 13 < 11 by decide), if_neg (show ¬ 19 < nI 13 by decide)]
  unfold fb_X12_weekStep_67
  rw [if_neg lu_10, if_neg (show ¬ nI 13 = 18 by decide)]
  rfl
theorem tw_a16 : f_X10_beginStep σ 39 (nI 16) wc = fb_X10_beginStep_54 σ 39 (nI 16) (if false = true then 1 else 0) wc := by
    unfold f_X10_beginStep fb_X10_beginStep_0
    rw [if_neg (show ¬ nI 16 = 18 by decide), if_neg (show ¬ nI 16 = 22 by decide)]
    unfold fb_X10_beginStep_17
    rw [if_pos rfl, if_neg (show ¬ nI 16 = 23 by decide), if_neg (show ¬ nI 16 = 12 by decide), show f_X11_within (nI 16) 13 17 = some 1 by decide, lu_bind, if_neg lu_10]; rfl
theorem tw_b16 (hσ : lr_S σ) (h : tk_S w w0 T L p wc wm) (hN : lt_gi wm 234 1720 = nI N) (hK : tx_K T L p = 16) : f_X12_weekStep σ 233 wm = fb_X12_weekStep_93 σ 233 (nI 14) (nI N) (nI (1772 + 6 * N)) (if false = true then 1 else 0) wm := by
  have e12 : ∀ {α : Type} (y : Option α), lt_ck 1720 2560 y = y := fun y => lu_ck (i := 1720) (by decide) (by decide)
  have er : (1772 : Int32) + 6 * nI N = nI (1772 + 6 * N) := by rw [show (6 : Int32) = nI 6 from rfl, pk_mul, show (1772 : Int32) = nI 1772 from rfl, nI_add]
  unfold f_X12_weekStep fb_X12_weekStep_0 fb_X12_weekStep_42
  rw [tx_inM hσ h.2.1, lu_bind, if_pos (show 1 ≤ tx_K T L p ∧ tx_K T L p ≤ 23 by omega), hK, show nI (tx_m 16) = nI 14 from rfl, lr_at hσ, lq_l234 hσ, e12, show (1720 : Int32).toNatClampNeg = 1720 from rfl, hN, lu_let, er, if_neg (show ¬ nI 14 = 16 by decide), if_neg (show ¬ nI 14 = 17 by decide), if_neg (show ¬ nI 14 = 6 by decide), if_neg (show ¬ nI 14 < 11 by decide), if_neg (show ¬ 19 < nI 14 by decide)]
  unfold fb_X12_weekStep_67
  rw [if_neg lu_10, if_neg (show ¬ nI 14 = 18 by decide)]
  rfl
theorem tw_a17 : f_X10_beginStep σ 39 (nI 17) wc = fb_X10_beginStep_54 σ 39 (nI 17) (if false = true then 1 else 0) wc := by
    unfold f_X10_beginStep fb_X10_beginStep_0
    rw [if_neg (show ¬ nI 17 = 18 by decide), if_neg (show ¬ nI 17 = 22 by decide)]
    unfold fb_X10_beginStep_17
    rw [if_pos rfl, if_neg (show ¬ nI 17 = 23 by decide), if_neg (show ¬ nI 17 = 12 by decide), show f_X11_within (nI 17) 13 17 = some 1 by decide, lu_bind, if_neg lu_10]; rfl
theorem tw_b17 (hσ : lr_S σ) (h : tk_S w w0 T L p wc wm) (hN : lt_gi wm 234 1720 = nI N) (hK : tx_K T L p = 17) : f_X12_weekStep σ 233 wm = fb_X12_weekStep_93 σ 233 (nI 15) (nI N) (nI (1772 + 6 * N)) (if false = true then 1 else 0) wm := by
  have e12 : ∀ {α : Type} (y : Option α), lt_ck 1720 2560 y = y := fun y => lu_ck (i := 1720) (by decide) (by decide)
  have er : (1772 : Int32) + 6 * nI N = nI (1772 + 6 * N) := by rw [show (6 : Int32) = nI 6 from rfl, pk_mul, show (1772 : Int32) = nI 1772 from rfl, nI_add]
  unfold f_X12_weekStep fb_X12_weekStep_0 fb_X12_weekStep_42
  rw [tx_inM hσ h.2.1, lu_bind, if_pos (show 1 ≤ tx_K T L p ∧ tx_K T L p ≤ 23 by omega), hK, show nI (tx_m 17) = nI 15 from rfl, lr_at hσ, lq_l234 hσ, e12, show (1720 : Int32).toNatClampNeg = 1720 from rfl, hN, lu_let, er, if_neg (show ¬ nI 15 = 16 by decide), if_neg (show ¬ nI 15 = 17 by decide), if_neg (show ¬ nI 15 = 6 by decide), if_neg (show ¬ nI 15 < 11 by decide), if_neg (show ¬ 19 < nI 15 by decide)]
  unfold fb_X12_weekStep_67
  rw [if_neg lu_10, if_neg (show ¬ nI 15 = 18 by decide)]
  rfl
theorem tw_a18 : f_X10_beginStep σ 39 (nI 18) wc = fb_X10_beginStep_54 σ 39 (nI 18) (if true = true then 1 else 0) wc := by
    unfold f_X10_beginStep fb_X10_beginStep_0
    rw [if_pos (show nI 18 = 18 from rfl)]
    unfold fb_X10_beginStep_17
    rw [if_neg lu_10]; rfl
theorem tw_b18 (hσ : lr_S σ) (h : tk_S w w0 T L p wc wm) (hN : lt_gi wm 234 1720 = nI N) (hK : tx_K T L p = 18) : f_X12_weekStep σ 233 wm = fb_X12_weekStep_93 σ 233 (nI 16) (nI N) (nI (1772 + 6 * N)) (if true = true then 1 else 0) wm := by
  have e12 : ∀ {α : Type} (y : Option α), lt_ck 1720 2560 y = y := fun y => lu_ck (i := 1720) (by decide) (by decide)
  have er : (1772 : Int32) + 6 * nI N = nI (1772 + 6 * N) := by rw [show (6 : Int32) = nI 6 from rfl, pk_mul, show (1772 : Int32) = nI 1772 from rfl, nI_add]
  unfold f_X12_weekStep fb_X12_weekStep_0 fb_X12_weekStep_42
  rw [tx_inM hσ h.2.1, lu_bind, if_pos (show 1 ≤ tx_K T L p ∧ tx_K T L p ≤ 23 by omega), hK, show nI (tx_m 18) = nI 16 from rfl, lr_at hσ, lq_l234 hσ, e12, show (1720 : Int32).toNatClampNeg = 1720 from rfl, hN, lu_let, er, if_pos (show nI 16 = 16 from rfl), if_neg (show ¬ nI 16 = 6 by decide), if_neg (show ¬ nI 16 < 11 by decide), if_neg (show ¬ 19 < nI 16 by decide)]
  unfold fb_X12_weekStep_67
  rw [if_neg lu_10, if_neg (show ¬ nI 16 = 18 by decide)]
  rfl
theorem tw_a22 : f_X10_beginStep σ 39 (nI 22) wc = fb_X10_beginStep_54 σ 39 (nI 22) (if true = true then 1 else 0) wc := by
    unfold f_X10_beginStep fb_X10_beginStep_0
    rw [if_neg (show ¬ nI 22 = 18 by decide), if_pos (show nI 22 = 22 from rfl)]
    unfold fb_X10_beginStep_17
    rw [if_neg lu_10]; rfl
theorem tw_b22 (hσ : lr_S σ) (h : tk_S w w0 T L p wc wm) (hN : lt_gi wm 234 1720 = nI N) (hK : tx_K T L p = 22) : f_X12_weekStep σ 233 wm = fb_X12_weekStep_93 σ 233 (nI 17) (nI N) (nI (1772 + 6 * N)) (if true = true then 1 else 0) wm := by
  have e12 : ∀ {α : Type} (y : Option α), lt_ck 1720 2560 y = y := fun y => lu_ck (i := 1720) (by decide) (by decide)
  have er : (1772 : Int32) + 6 * nI N = nI (1772 + 6 * N) := by rw [show (6 : Int32) = nI 6 from rfl, pk_mul, show (1772 : Int32) = nI 1772 from rfl, nI_add]
  unfold f_X12_weekStep fb_X12_weekStep_0 fb_X12_weekStep_42
  rw [tx_inM hσ h.2.1, lu_bind, if_pos (show 1 ≤ tx_K T L p ∧ tx_K T L p ≤ 23 by omega), hK, show nI (tx_m 22) = nI 17 from rfl, lr_at hσ, lq_l234 hσ, e12, show (1720 : Int32).toNatClampNeg = 1720 from rfl, hN, lu_let, er, if_neg (show ¬ nI 17 = 16 by decide), if_pos (show nI 17 = 17 from rfl), if_neg (show ¬ nI 17 = 6 by decide), if_neg (show ¬ nI 17 < 11 by decide), if_neg (show ¬ 19 < nI 17 by decide)]
  unfold fb_X12_weekStep_67
  rw [if_neg lu_10, if_neg (show ¬ nI 17 = 18 by decide)]
  rfl
theorem tw_a23 : f_X10_beginStep σ 39 (nI 23) wc = fb_X10_beginStep_54 σ 39 (nI 23) (if false = true then 1 else 0) wc := by
    unfold f_X10_beginStep fb_X10_beginStep_0
    rw [if_neg (show ¬ nI 23 = 18 by decide), if_neg (show ¬ nI 23 = 22 by decide)]
    unfold fb_X10_beginStep_17
    rw [if_pos rfl, if_pos (show nI 23 = 23 from rfl)]; rfl
theorem tw_b23 (hσ : lr_S σ) (h : tk_S w w0 T L p wc wm) (hN : lt_gi wm 234 1720 = nI N) (hK : tx_K T L p = 23) : f_X12_weekStep σ 233 wm = fb_X12_weekStep_93 σ 233 (nI 19) (nI N) (nI (1772 + 6 * N)) (if false = true then 1 else 0) wm := by
  have e12 : ∀ {α : Type} (y : Option α), lt_ck 1720 2560 y = y := fun y => lu_ck (i := 1720) (by decide) (by decide)
  have er : (1772 : Int32) + 6 * nI N = nI (1772 + 6 * N) := by rw [show (6 : Int32) = nI 6 from rfl, pk_mul, show (1772 : Int32) = nI 1772 from rfl, nI_add]
  unfold f_X12_weekStep fb_X12_weekStep_0 fb_X12_weekStep_42
  rw [tx_inM hσ h.2.1, lu_bind, if_pos (show 1 ≤ tx_K T L p ∧ tx_K T L p ≤ 23 by omega), hK, show nI (tx_m 23) = nI 19 from rfl, lr_at hσ, lq_l234 hσ, e12, show (1720 : Int32).toNatClampNeg = 1720 from rfl, hN, lu_let, er, if_neg (show ¬ nI 19 = 16 by decide), if_neg (show ¬ nI 19 = 17 by decide), if_neg (show ¬ nI 19 = 6 by decide), if_neg (show ¬ nI 19 < 11 by decide), if_neg (show ¬ 19 < nI 19 by decide)]
  unfold fb_X12_weekStep_67
  rw [if_neg lu_10, if_neg (show ¬ nI 19 = 18 by decide)]
  rfl
theorem tw_a12 : f_X10_beginStep σ 39 (nI 12) wc = fb_X10_beginStep_54 σ 39 (nI 12) (if false = true then 1 else 0) wc := by
    unfold f_X10_beginStep fb_X10_beginStep_0
    rw [if_neg (show ¬ nI 12 = 18 by decide), if_neg (show ¬ nI 12 = 22 by decide)]
    unfold fb_X10_beginStep_17
    rw [if_pos rfl, if_neg (show ¬ nI 12 = 23 by decide), if_pos (show nI 12 = 12 from rfl)]; rfl
theorem tw_b12 (hσ : lr_S σ) (h : tk_S w w0 T L p wc wm) (hN : lt_gi wm 234 1720 = nI N) (hK : tx_K T L p = 12) : f_X12_weekStep σ 233 wm = fb_X12_weekStep_93 σ 233 (nI 6) (nI N) (nI (1772 + 6 * N)) (if false = true then 1 else 0) wm := by
  have e12 : ∀ {α : Type} (y : Option α), lt_ck 1720 2560 y = y := fun y => lu_ck (i := 1720) (by decide) (by decide)
  have er : (1772 : Int32) + 6 * nI N = nI (1772 + 6 * N) := by rw [show (6 : Int32) = nI 6 from rfl, pk_mul, show (1772 : Int32) = nI 1772 from rfl, nI_add]
  unfold f_X12_weekStep fb_X12_weekStep_0 fb_X12_weekStep_42
  rw [tx_inM hσ h.2.1, lu_bind, if_pos (show 1 ≤ tx_K T L p ∧ tx_K T L p ≤ 23 by omega), hK, show nI (tx_m 12) = nI 6 from rfl, lr_at hσ, lq_l234 hσ, e12, show (1720 : Int32).toNatClampNeg = 1720 from rfl, hN, lu_let, er, if_neg (show ¬ nI 6 = 16 by decide), if_neg (show ¬ nI 6 = 17 by decide), if_pos (show nI 6 = 6 from rfl)]
  unfold fb_X12_weekStep_67
  rw [if_neg lu_10, if_neg (show ¬ nI 6 = 18 by decide)]
  rfl
/-- no step begins so -/
theorem tw_bad (hσ : lr_S σ) (h : tk_S w w0 T L p wc wm) (hN : lt_gi wm 234 1720 = nI N) (hK : ∀ c, (12 ≤ c ∧ c ≤ 18) ∨ c = 22 ∨ c = 23 ∨ c = 11 → tx_K T L p ≠ c) : tk_O (tw_Q w w0 T L p n) (tk_E w w0) (tw_cs σ wc) (f_X12_weekStep σ 233 wm) := by
  obtain ⟨⟨r0, r1, r2, r3⟩, -, -⟩ := lr_39 hσ
  have e12 : ∀ {α : Type} (y : Option α), lt_ck 1720 2560 y = y := fun y => lu_ck (i := 1720) (by decide) (by decide)
  have hKr := tx_K_r T h.1.2.1
  have kn : ∀ c, (12 ≤ c ∧ c ≤ 18) ∨ c = 22 ∨ c = 23 ∨ c = 11 → ¬ lt_gi wc 10 5 = nI c := fun c hc z => hK c hc ((tp_kind h (by omega)).mp z)
  have hw : ¬ lq_b (lt_gi wc 10 5) 13 17 := by
    rw [h.1.2.2.2.1]
    unfold tx_ck lq_b
    by_cases z : tx_K T L p = 99
    · rw [if_pos z]; decide
    · rw [if_neg z]
      rintro ⟨z1, z2⟩
      have z1 := (nI_leI (by omega) (by omega)).mp z1
      have z2 := (nI_leI (by omega) (by omega)).mp z2
      exact hK (tx_K T L p) (by omega) rfl
  have eC : f_X10_beginStep σ 39 (lt_gi wc 10 5) wc = Option.bind (f_X7_refuse σ 10 2 wc) (fun q3 => lt_bz q3.1 (some (q3.1, q3.2))) := by
    unfold f_X10_beginStep fb_X10_beginStep_0
    rw [if_neg (show ¬ lt_gi wc 10 5 = 18 from kn 18 (by omega)), if_neg (show ¬ lt_gi wc 10 5 = 22 from kn 22 (by omega))]
    unfold fb_X10_beginStep_17
    rw [if_pos rfl, if_neg (show ¬ lt_gi wc 10 5 = 23 from kn 23 (by omega)), if_neg (show ¬ lt_gi wc 10 5 = 12 from kn 12 (by omega)), lq_within_n (lo := 13) (hi := 17) 13 17 rfl rfl hw, lu_bind, if_pos rfl, r0]
  have eM : f_X12_weekStep σ 233 wm = Option.bind (f_X12_fails σ 233 2 wm) (fun q1 => lt_bz q1.1 (some (q1.1, q1.2))) := by
    obtain ⟨v, v1, v2, v3⟩ := tp_words hσ h
    have hv : ¬ v = 16 ∧ ¬ v = 17 ∧ ¬ v = 6 ∧ (v < 11 ∨ (¬ v < 11 ∧ 19 < v)) := by
      rcases v3 with v3 | ⟨v3, v4, v5⟩
      · rw [v3]; decide
      · rw [v3]
        have key : ∀ x : Fin 24, 1 ≤ x.1 → ¬ ((12 ≤ x.1 ∧ x.1 ≤ 18) ∨ x.1 = 22 ∨ x.1 = 23 ∨ x.1 = 11) → ¬ nI (tx_m x.1) = 16 ∧ ¬ nI (tx_m x.1) = 17 ∧ ¬ nI (tx_m x.1) = 6 ∧ (nI (tx_m x.1) < 11 ∨ (¬ nI (tx_m x.1) < 11 ∧ 19 < nI (tx_m x.1))) := by decide +kernel
        exact key ⟨tx_K T L p, by omega⟩ v4 (fun z => hK _ z rfl)
    unfold f_X12_weekStep fb_X12_weekStep_0 fb_X12_weekStep_42
    rw [v1, lu_bind, lr_at hσ, lq_l234 hσ, e12, show (1720 : Int32).toNatClampNeg = 1720 from rfl, hN, lu_let, if_neg hv.1, if_neg hv.2.1, if_neg hv.2.2.1]
    rcases hv.2.2.2 with z | ⟨z1, z2⟩
    · rw [if_pos z]; rfl
    · rw [if_neg z1, if_pos z2]; rfl
  obtain ⟨x, y, e1, e2, e3⟩ := tp_f (σ := σ) h 2 (by decide) (by decide)
  unfold tw_cs
  rw [eC, eM, show f_X7_refuse σ 10 2 wc = _ from e1, show f_X12_fails σ 233 2 wm = _ from e2]
  exact Or.inl ⟨x, y, rfl, rfl, e3⟩
end TWX