/-! THE TABLE'S TEXT: a guest -/
theorem tk_S.cC {w w0 wc wm wc' : lt_W} {T : Nat → Nat} {L p : Nat} (h : tk_S w w0 T L p wc wm) (e1 : ∀ a k, (a < 30 ∨ 38 ≤ a) → lt_gi wc' a k = lt_gi wc a k) (e2 : ∀ a k, a ≠ 31 → lt_gl wc' a k = lt_gl wc a k) : tk_S w w0 T L p wc' wm :=
  ⟨h.1.congr (fun _ _ _ => e1 _ _ (by omega)) (fun _ => e1 _ _ (by omega)) (e2 _ _ (by omega)), h.2.1, ⟨(e1 _ _ (by omega)).trans h.2.2.1.1, (e1 _ _ (by omega)).trans h.2.2.1.2⟩, h.2.2.2.1, h.2.2.2.2.1.trans ⟨fun a k z y => e1 a k (by omega), fun a k z y => e2 a k (by omega)⟩, h.2.2.2.2.2⟩
theorem lm_T.cn {w w' : lt_W} {b : Nat} {A : la_A} (h : lm_T w 234 b A) (e : ∀ k, k < 10 + 7 * la_n A → k ≠ 8 → k ≠ 9 → lt_gi w' 234 (b + k) = lt_gi w 234 (b + k)) : lm_T w' 234 b A :=
  ⟨h.1, h.2.1, fun k hk => (e k (by omega) (by omega) (by omega)).trans (h.2.2.1 k hk), fun g hg f hf => by
    have := e (10 + 7 * g + f) (by omega) (by omega) (by omega)
    rw [show b + 10 + 7 * g + f = b + (10 + 7 * g + f) by omega, this, show b + (10 + 7 * g + f) = b + 10 + 7 * g + f by omega]
    exact h.2.2.2 g hg f hf⟩
/-- a guest being told: the class's table has him, the reference's not yet; j of his numbers stand -/
def tt_M (A B : la_A) (t : Nat → Bool) (j : Nat) (d : Int32) (wc wm : lt_W) : Prop := (la_Ok A ∧ la_n A < 7) ∧ (la_Ok B ∧ la_n B = la_n A + 1) ∧ ((∀ k, B.1 k = (la_sit A).1 k) ∧ (∀ g f, g ≠ la_n A → B.2 g f = A.2 g f) ∧ (∀ f, 4 ≤ f → B.2 (la_n A) f = (la_sit A).2 (la_n A) f) ∧ B.2 (la_n A) 3 = d) ∧ lc_T wc 30 B ∧ lm_T wm 234 1712 A ∧ (∀ i, i < j → lt_gi wm 234 (1712 + (10 + 7 * la_n A) + i) = B.2 (la_n A) i) ∧ tt_N wc wm (la_n A + 1) ∧ tt_B t wc wm
theorem tt_M.F {wc wm wc' wm' : lt_W} {A B : la_A} {t : Nat → Bool} {j : Nat} {d : Int32} (h : tt_M A B t j d wc wm) (h1 : tx_Fk wc wc') (h2 : tx_Fm wm wm') : tt_M A B t j d wc' wm' :=
  ⟨h.1, h.2.1, h.2.2.1, h.2.2.2.1.Fk h1, h.2.2.2.2.1.Fm h2, fun i hi => (h2.1 _ _ (by omega)).trans (h.2.2.2.2.2.1 i hi), h.2.2.2.2.2.2.1.F h1 h2, h.2.2.2.2.2.2.2.F h1 h2⟩
theorem tt_M.num {wc wm wc1 wm1 : lt_W} {A B : la_A} {t : Nat → Bool} {j to : Nat} {d v : Int32} (h : tt_M A B t j d wc wm) (hj : j < 3) (hto : to = 1712 + (10 + 7 * la_n A) + j) (hv : lu_R v 0 20) (h1 : tx_Fk (lt_si wc 10 8 v) wc1) (h2 : tx_Fm (lt_si wm 234 to v) wm1) : tt_M A (la_c B (la_n A) j v) t (j + 1) d (lt_si wc1 (32 + j) (la_n A) v) wm1 := by
  obtain ⟨⟨a1, a2⟩, ⟨b1, b2⟩, ⟨c1, c2, c3, c4⟩, d1, d2, d3, d4, d5, d6, d7⟩ := h
  subst hto
  have hjv : (j = 0 ∧ lu_R v 0 20) ∨ (j = 1 ∧ lu_R v 0 20) ∨ (j = 2 ∧ lu_R v 0 20) ∨ (j = 3 ∧ lu_R v 0 2) ∨ (j = 4 ∧ lu_R v 0 99) ∨ (j = 5 ∧ (v = 0 ∨ v = 1)) ∨ (j = 6 ∧ (v = -1 ∨ ∃ i, i < la_n B ∧ i ≠ la_n A ∧ v = nI i)) := by
    rcases (show j = 0 ∨ j = 1 ∨ j = 2 by omega) with z | z | z
    · exact Or.inl ⟨z, hv⟩
    · exact Or.inr (Or.inl ⟨z, hv⟩)
    · exact Or.inr (Or.inr (Or.inl ⟨z, hv⟩))
  refine ⟨⟨a1, a2⟩, ⟨b1.c hjv, b2⟩, ⟨c1, fun g f hg => ?_, fun f hf => ?_, ?_⟩, ?_, ?_, fun i hi => ?_, ?_, ?_, ?_, ?_⟩
  · show (if g = la_n A ∧ f = j then v else B.2 g f) = _
    rw [if_neg (fun z => hg z.1)]; exact c2 g f hg
  · show (if la_n A = la_n A ∧ f = j then v else B.2 (la_n A) f) = _
    rw [if_neg (fun z => by omega)]; exact c3 f hf
  · show (if la_n A = la_n A ∧ 3 = j then v else B.2 (la_n A) 3) = _
    rw [if_neg (fun z => by omega)]; exact c4
  · exact ((d1.out (by omega)).Fk h1).cell (Or.inl ⟨by omega, by omega⟩)
  · exact (d2.cn fun k k1 k2 k3 => lu_ne (by omega)).Fm h2
  · rw [h2.1 _ _ (by omega)]
    show _ = if la_n A = la_n A ∧ i = j then v else B.2 (la_n A) i
    by_cases e : i = j
    · rw [if_pos ⟨rfl, e⟩, e, lu_eq]
    · rw [if_neg (fun z => e z.2), lu_ne (by omega)]; exact d3 i (by omega)
  · intro g hg
    rw [h2.2]
    show lr_nm1 (lt_gl wc1 31 g) _
    rw [h1.2 _ _ (by omega)]; exact d4 g hg
  · rw [lu_ne (by omega), h1.1 _ _ (by omega), lu_ne (by omega)]; exact d5
  · rw [h2.1 _ _ (by omega), lu_ne (by omega)]; exact d6
  · rw [h2.1 _ _ (by omega), lu_ne (by omega)]; exact d7
theorem tt_M.kind {wc wm : lt_W} {A B : la_A} {t : Nat → Bool} {d e : Int32} (h : tt_M A B t 3 d wc wm) (he : lu_R e 0 2) : tt_M A (la_c B (la_n A) 3 e) t 3 e (lt_si wc 35 (la_n A) e) wm := by
  obtain ⟨⟨a1, a2⟩, ⟨b1, b2⟩, ⟨c1, c2, c3, c4⟩, d1, d2, d3, d4, d5, d6, d7⟩ := h
  refine ⟨⟨a1, a2⟩, ⟨b1.c (Or.inr (Or.inr (Or.inr (Or.inl ⟨rfl, he⟩)))), b2⟩, ⟨c1, fun g f hg => ?_, fun f hf => ?_, ?_⟩, ?_, d2, fun i hi => ?_, d4, ?_, d6, d7⟩
  · show (if g = la_n A ∧ f = 3 then e else B.2 g f) = _
    rw [if_neg (fun z => hg z.1)]; exact c2 g f hg
  · show (if la_n A = la_n A ∧ f = 3 then e else B.2 (la_n A) f) = _
    rw [if_neg (fun z => by omega)]; exact c3 f hf
  · show (if la_n A = la_n A ∧ 3 = 3 then e else B.2 (la_n A) 3) = _
    rw [if_pos ⟨rfl, rfl⟩]
  · exact d1.cell (Or.inl ⟨by omega, by omega⟩)
  · show _ = if la_n A = la_n A ∧ i = 3 then e else B.2 (la_n A) i
    rw [if_neg (fun z => by omega)]; exact d3 i hi
  · rw [lu_ne (by omega)]; exact d5
/-- the reference's table has him now -/
def tt_u (R n : Nat) (d : Int32) (u : lt_W) : lt_W := lt_si (lt_si (lt_si (lt_si (lt_si u 234 (R + 3) d) 234 (R + 4) 0) 234 (R + 5) 1) 234 (R + 6) (-1)) 234 1712 (nI (n + 1))
theorem tt_M.fin {wc wm : lt_W} {A B : la_A} {t : Nat → Bool} {d : Int32} (h : tt_M A B t 3 d wc wm) : tt_D B t wc (tt_u (1712 + (10 + 7 * la_n A)) (la_n A) d wm) := by
  obtain ⟨⟨a1, a2⟩, ⟨b1, b2⟩, ⟨c1, c2, c3, c4⟩, d1, d2, d3, d4, d5, d6, d7⟩ := h
  have e4 : B.2 (la_n A) 4 = 0 := (c3 4 (by decide)).trans la_sit_g
  have e5 : B.2 (la_n A) 5 = 1 := (c3 5 (by decide)).trans la_sit_g
  have e6 : B.2 (la_n A) 6 = -1 := (c3 6 (by decide)).trans la_sit_g
  refine ⟨b1, d1, ⟨?_, ?_, fun k hk => ?_, fun g hg f hf => ?_⟩, ?_, d5, ?_, ?_⟩
  · rw [b2, c1]; rfl
  · omega
  · rw [c1]; unfold tt_u
    by_cases e : k = 0
    · rw [e]; exact lu_eq
    · rw [la_sit_h e]
      simp (disch := omega) only [lu_ne]
      exact d2.2.2.1 k hk
  · rw [b2] at hg
    unfold tt_u
    by_cases e : g = la_n A
    · subst e
      rcases (show f < 3 ∨ f = 3 ∨ f = 4 ∨ f = 5 ∨ f = 6 by omega) with z | z | z | z | z
      · have := d3 f z
        rw [← this, show 1712 + 10 + 7 * la_n A + f = 1712 + (10 + 7 * la_n A) + f by omega]
        simp (disch := omega) only [lu_ne]
      · subst z
        rw [c4, show 1712 + 10 + 7 * la_n A + 3 = 1712 + (10 + 7 * la_n A) + 3 by omega]
        rw [lu_ne (by omega), lu_ne (by omega), lu_ne (by omega), lu_ne (by omega), lu_eq]
      · subst z
        rw [e4, show 1712 + 10 + 7 * la_n A + 4 = 1712 + (10 + 7 * la_n A) + 4 by omega]
        rw [lu_ne (by omega), lu_ne (by omega), lu_ne (by omega), lu_eq]
      · subst z
        rw [e5, show 1712 + 10 + 7 * la_n A + 5 = 1712 + (10 + 7 * la_n A) + 5 by omega]
        rw [lu_ne (by omega), lu_ne (by omega), lu_eq]
      · subst z
        rw [e6, show 1712 + 10 + 7 * la_n A + 6 = 1712 + (10 + 7 * la_n A) + 6 by omega]
        rw [lu_ne (by omega), lu_eq]
    · rw [c2 g f e]
      simp (disch := omega) only [lu_ne]
      exact d2.2.2.2 g (by omega) f hf
  · rw [b2]; exact d4
  · unfold tt_u
    simp (disch := omega) only [lu_ne]
    exact d6
  · unfold tt_u
    simp (disch := omega) only [lu_ne]
    exact d7
theorem tk_S.u {w w0 wc wm : lt_W} {T : Nat → Nat} {L p n : Nat} {d : Int32} (h : tk_S w w0 T L p wc wm) (hn : n < 7) : tk_S w w0 T L p wc (tt_u (1712 + (10 + 7 * n)) n d wm) := by
  unfold tt_u
  exact ((((h.mi (by omega)).mi (by omega)).mi (by omega)).mi (by omega)).mi (by omega)
section TU
variable {σ : lt_S} {w w0 wc wm : lt_W} {T : Nat → Nat} {L p : Nat} {A : la_A} {t : Nat → Bool}
theorem tt_192 (hσ : lr_S σ) {n : Nat} (hn : n < 7) {u : lt_W} {d : Int32} (h0 : lt_gi u 234 1712 = nI n) : fb_X12_aGuest_192 σ 233 (nI (1712 + (10 + 7 * n))) 234 (nI (1712 + (10 + 7 * n) + 3)) d u = some (1, tt_u (1712 + (10 + 7 * n)) n d u) := by
  unfold fb_X12_aGuest_192
  rw [lr_at hσ, lq_l234 hσ, lm_a4, lm_a5, lm_a6, lu_ck (by omega) (by decide), lu_let, lu_ck (by omega) (by decide), lu_let, lu_ck (by omega) (by decide), lu_let, lu_ck (by omega) (by decide), lu_let]
  have e : ∀ {α : Type} (y : Option α), lt_ck 1712 2560 y = y := fun y => lu_ck (i := 1712) (by decide) (by decide)
  rw [e, e, lu_let, show (1712 : Int32).toNatClampNeg = 1712 from rfl, nI_clamp (by omega), nI_clamp (by omega), nI_clamp (by omega), nI_clamp (by omega)]
  rw [lu_ne (by omega), lu_ne (by omega), lu_ne (by omega), lu_ne (by omega), h0, nI_1]
  rfl
theorem tp_isThere (hσ : lr_S σ) (h : tk_S w w0 T L p wc wm) (c : Nat) (h1 : 1 ≤ c) (h2 : c ≤ 23) : f_X12_isThere σ 233 (nI (tx_m c)) wm = if tx_K T L p = c then Option.bind (f_X12_ahead σ 233 wm) (fun q2 => some (1, q2)) else some (0, wm) := by
  obtain ⟨v, v1, v2, v3⟩ := tp_words hσ h
  unfold f_X12_isThere fb_X12_isThere_0
  rw [v1, lu_bind]
  by_cases k : tx_K T L p = c
  · rw [if_pos ((v2 c h1 h2).mpr k), if_pos k]
  · rw [if_neg (fun z => k ((v2 c h1 h2).mp z)), if_neg k]
def tt_Q1 (w w0 : lt_W) (T : Nat → Nat) (L p : Nat) (t : Nat → Bool) (wc wm : lt_W) : Prop := ∃ p' B, p < p' ∧ tk_S w w0 T L p' wc wm ∧ tt_D B t wc wm
/-- what comes behind his numbers -/
theorem tt_kinds (hσ : lr_S σ) {q : Nat} {B : la_A} (hq : q < p) (h : tk_S w w0 T L p wc wm) (hM : tt_M A B t 3 0 wc wm) : tk_O2 (tt_Q1 w w0 T L q t) (tk_E w w0) (fun u => fb_X6_takeGuest_286 σ 29 u) (if lt_gi wc 10 5 = 10 then fb_X6_takeGuest_253 σ 29 (nI (la_n A)) wc else if lt_gi wc 10 5 = 11 then fb_X6_takeGuest_253 σ 29 (nI (la_n A)) wc else fb_X6_takeGuest_286 σ 29 wc) (Option.bind (f_X12_isThere σ 233 10 wm) (fun q18 => if q18.1 = 0 then Option.bind (f_X12_isThere σ 233 18 q18.2) (fun q19 => if q19.1 = 0 then fb_X12_aGuest_192 σ 233 (nI (1712 + (10 + 7 * la_n A))) 234 (nI (1712 + (10 + 7 * la_n A) + 3)) 0 q19.2 else fb_X12_aGuest_192 σ 233 (nI (1712 + (10 + 7 * la_n A))) 234 (nI (1712 + (10 + 7 * la_n A) + 3)) 2 q19.2) else fb_X12_aGuest_192 σ 233 (nI (1712 + (10 + 7 * la_n A))) 234 (nI (1712 + (10 + 7 * la_n A) + 3)) 1 q18.2)) := by
  have hn := hM.1.2
  have g0 : ∀ {B' : la_A} {d : Int32} {wc' wm' : lt_W}, tt_M A B' t 3 d wc' wm' → lt_gi wm' 234 1712 = nI (la_n A) := fun h => by
    have := h.2.2.2.2.1.2.2.1 0 (by decide)
    rw [← h.2.2.2.2.1.1, ← this]
  have r29 : lt_r σ 29 0 = 10 := hσ.r 29 0 (by decide) (by decide)
  have r291 : lt_r σ 29 1 = 30 := hσ.r 29 1 (by decide) (by decide)
  have r3013 : lt_r σ 30 13 = 35 := hσ.r 30 13 (by decide) (by decide)
  have l35 : lt_len σ 35 = 7 := hσ.l 35 (by decide)
  have word : ∀ (c : Nat) (d : Int32), lu_R d 0 2 → tx_K T L p = c → c ≠ 99 → ∃ wc' wm', fb_X6_takeGuest_278 σ 29 35 (nI (la_n A)) d wc = fb_X6_takeGuest_286 σ 29 wc' ∧ f_X12_ahead σ 233 wm = some wm' ∧ tk_S w w0 T L (tx_N T L p) wc' wm' ∧ tt_M A (la_c B (la_n A) 3 d) t 3 d wc' wm' := fun c d hd hK hc => by
    obtain ⟨wc', wm', a1, b1, a2, a3, a4⟩ := tp_adv hσ (h.ci (b := 35) (k := la_n A) (v := d) (by omega)) (by omega)
    refine ⟨wc', wm', ?_, b1, a2, (hM.kind hd).F a3 a4⟩
    unfold fb_X6_takeGuest_278
    rw [l35, lu_ck hn (by decide), lu_let, nI_clamp (by omega), r29, a1, lu_bind]
  rw [show f_X12_isThere σ 233 10 wm = _ from tp_isThere hσ h 10 (by decide) (by decide)]
  have p10 := tp_kind h (c := 10) (by decide)
  have p11 := tp_kind h (c := 11) (by decide)
  have hge := tp_ge h
  by_cases k10 : tx_K T L p = 10
  · obtain ⟨wc', wm', a1, b1, a2, a3⟩ := word 10 1 ⟨1, by decide, by decide, rfl⟩ k10 (by decide)
    have e10 : lt_gi wc 10 5 = 10 := p10.mpr k10
    unfold fb_X6_takeGuest_253
    rw [if_pos e10, if_pos k10, r29, if_pos e10, r291, r3013, b1, lu_bind, lu_bind, if_neg lu_10, a1, tt_192 hσ hn (g0 a3)]
    exact Or.inr ⟨wc', _, rfl, rfl, _, _, by omega, a2.u hn, a3.fin⟩
  · have n10 : ¬ lt_gi wc 10 5 = 10 := fun z => k10 (p10.mp z)
    rw [if_neg n10, if_neg k10, lu_bind, if_pos rfl, show f_X12_isThere σ 233 18 wm = _ from tp_isThere hσ h 11 (by decide) (by decide)]
    by_cases k11 : tx_K T L p = 11
    · obtain ⟨wc', wm', a1, b1, a2, a3⟩ := word 11 2 ⟨2, by decide, by decide, rfl⟩ k11 (by decide)
      have e11 : lt_gi wc 10 5 = 11 := p11.mpr k11
      unfold fb_X6_takeGuest_253
      rw [if_pos e11, if_pos k11, r29, if_neg n10, r291, r3013, b1, lu_bind, lu_bind, if_neg lu_10, a1, tt_192 hσ hn (g0 a3)]
      exact Or.inr ⟨wc', _, rfl, rfl, _, _, by omega, a2.u hn, a3.fin⟩
    · have n11 : ¬ lt_gi wc 10 5 = 11 := fun z => k11 (p11.mp z)
      rw [if_neg n11, if_neg k11, lu_bind, if_pos rfl, tt_192 hσ hn (g0 hM)]
      exact Or.inr ⟨wc, _, rfl, rfl, _, _, hq, h.u hn, hM.fin⟩
end TU