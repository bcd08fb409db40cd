/-! THE TEXTS: both readers, a token at a time: both refuse alike, or both go on -/
def tx_Gc (w w' : lt_W) : Prop := (∀ a k, ¬ (a = 10 ∧ 3 ≤ k ∧ k ≤ 10) → ¬ (29 ≤ a ∧ a ≤ 48) → lt_gi w' a k = lt_gi w a k) ∧ ∀ a k, ¬ (a = 10 ∧ k = 6) → ¬ (29 ≤ a ∧ a ≤ 48) → lt_gl w' a k = lt_gl w a k
theorem tx_Gc.refl (w : lt_W) : tx_Gc w w := ⟨fun _ _ _ _ => rfl, fun _ _ _ _ => rfl⟩
theorem tx_Gc.trans {w w' w'' : lt_W} (h : tx_Gc w w') (h' : tx_Gc w' w'') : tx_Gc w w'' := ⟨fun a k z y => (h'.1 a k z y).trans (h.1 a k z y), fun a k z y => (h'.2 a k z y).trans (h.2 a k z y)⟩
theorem tx_Gc.i {w w' : lt_W} {b k : Nat} {v : Int32} (h : tx_Gc w w') (h3 : (b = 10 ∧ 3 ≤ k ∧ k ≤ 10) ∨ (29 ≤ b ∧ b ≤ 48)) : tx_Gc w (lt_si w' b k v) := ⟨fun a j z y => by rw [lu_ne (by omega)]; exact h.1 a j z y, h.2⟩
theorem tx_Fk.G {w w' : lt_W} (h : tx_Fk w w') : tx_Gc w w' := ⟨fun a k z _ => h.1 a k (by omega), fun a k z _ => h.2 a k z⟩
def tx_gm (a k : Nat) : Prop := (a = 233 ∧ ((12 ≤ k ∧ k ≤ 15) ∨ k = 17 ∨ k = 18 ∨ k = 20 ∨ k = 22 ∨ k = 23)) ∨ a = 241 ∨ (a = 234 ∧ 1712 ≤ k ∧ k < 2140)
def tx_Gm (w w' : lt_W) : Prop := (∀ a k, ¬ tx_gm a k → lt_gi w' a k = lt_gi w a k) ∧ ∀ a k, ¬ (a = 235 ∧ 28 ≤ k ∧ k < 35) → lt_gl w' a k = lt_gl w a k
theorem tx_Gm.refl (w : lt_W) : tx_Gm w w := ⟨fun _ _ _ => rfl, fun _ _ _ => rfl⟩
theorem tx_Gm.trans {w w' w'' : lt_W} (h : tx_Gm w w') (h' : tx_Gm w' w'') : tx_Gm w w'' := ⟨fun a k z => (h'.1 a k z).trans (h.1 a k z), fun a k z => (h'.2 a k z).trans (h.2 a k z)⟩
theorem tx_Gm.i {w w' : lt_W} {b k : Nat} {v : Int32} (h : tx_Gm w w') (h3 : tx_gm b k) : tx_Gm w (lt_si w' b k v) := ⟨fun a j z => by rw [lu_ne (by by_cases e : a = b; exact Or.inr (fun e2 => z (by rw [e, e2]; exact h3)); exact Or.inl e)]; exact h.1 a j z, h.2⟩
theorem tx_Gm.l {w w' : lt_W} {k : Nat} {v : Int64} (h : tx_Gm w w') (h1 : 28 ≤ k) (h2 : k < 35) : tx_Gm w (lt_sl w' 235 k v) := ⟨h.1, fun a j z => by rw [lu_glsl, if_neg (by omega)]; exact h.2 a j z⟩
theorem tx_Fm.G {w w' : lt_W} (h : tx_Fm w w') : tx_Gm w w' := ⟨fun a k z => h.1 a k (by unfold tx_gm at z; omega), fun a k _ => h.2 a k⟩
/-- both go on: at a token -/
def tk_S (w w0 : lt_W) (T : Nat → Nat) (L p : Nat) (wc wm : lt_W) : Prop := tx_Ct wc T L p ∧ tx_Mt wm T L p ∧ (lt_gi wc 10 9 = 0 ∧ lt_gi wc 10 10 = -1) ∧ (lt_gi wm 233 18 = 0 ∧ lt_gi wm 233 17 = -1) ∧ tx_Gc w wc ∧ tx_Gm w0 wm
/-- both have refused -/
def tk_E (w w0 wc wm : lt_W) : Prop := (∃ f, 1 ≤ f ∧ f ≤ 7 ∧ lt_gi wc 10 9 = nI f ∧ lt_gi wm 233 18 = nI f) ∧ lt_gi wc 10 10 = lt_gi wm 233 17 ∧ tx_Gc w wc ∧ tx_Gm w0 wm
def tk_O (P E : lt_W → lt_W → Prop) (fc fm : Option (Int32 × lt_W)) : Prop := (∃ wc wm, fc = some (0, wc) ∧ fm = some (0, wm) ∧ E wc wm) ∨ (∃ wc wm, fc = some (1, wc) ∧ fm = some (1, wm) ∧ P wc wm)
theorem tk_O.bind {P Q E : lt_W → lt_W → Prop} {fc fm : Option (Int32 × lt_W)} {kc km : Int32 × lt_W → Option (Int32 × lt_W)} (h : tk_O P E fc fm) (h1 : ∀ wc wm, P wc wm → tk_O Q E (kc (1, wc)) (km (1, wm))) (h0 : ∀ wc wm, kc (0, wc) = some (0, wc) ∧ km (0, wm) = some (0, wm)) : tk_O Q E (Option.bind fc kc) (Option.bind fm km) := by
  rcases h with ⟨wc, wm, e1, e2, e3⟩ | ⟨wc, wm, e1, e2, e3⟩
  · rw [e1, e2]; exact Or.inl ⟨wc, wm, (h0 wc wm).1, (h0 wc wm).2, e3⟩
  · rw [e1, e2]; exact h1 wc wm e3
theorem tk_O.mono {P Q E : lt_W → lt_W → Prop} {fc fm : Option (Int32 × lt_W)} (h : tk_O P E fc fm) (h1 : ∀ wc wm, P wc wm → Q wc wm) : tk_O Q E fc fm := by
  rcases h with h | ⟨wc, wm, e1, e2, e3⟩
  · exact Or.inl h
  · exact Or.inr ⟨wc, wm, e1, e2, h1 _ _ e3⟩
theorem tx_Ct.congr {w w' : lt_W} {T : Nat → Nat} {L p : Nat} (h : tx_Ct w T L p) (e1 : ∀ k, 2 ≤ k → k ≤ 7 → lt_gi w' 10 k = lt_gi w 10 k) (e2 : ∀ k, lt_gi w' 11 k = lt_gi w 11 k) (e3 : lt_gl w' 10 6 = lt_gl w 10 6) : tx_Ct w' T L p := by
  obtain ⟨⟨a1, a2, a3⟩, a4, a5, a6, a7, a8, a9⟩ := h
  exact ⟨⟨a1, (e1 2 (by decide) (by decide)).trans a2, fun k hk => ⟨(a3 k hk).1, (e2 k).trans (a3 k hk).2⟩⟩, a4, (e1 4 (by decide) (by decide)).trans a5, (e1 5 (by decide) (by decide)).trans a6, fun z => (e1 3 (by decide) (by decide)).trans (a7 z), fun y z => e3.trans (a8 y z), fun z => (e1 7 (by decide) (by decide)).trans (a9 z)⟩
theorem tx_Mt.congr {w w' : lt_W} {T : Nat → Nat} {L p : Nat} (h : tx_Mt w T L p) (e1 : ∀ k, 11 ≤ k → k ≤ 15 → lt_gi w' 233 k = lt_gi w 233 k) (e2 : ∀ k, lt_gi w' 240 k = lt_gi w 240 k) : tx_Mt w' T L p := by
  obtain ⟨⟨a1, a2, a3⟩, a4, a5, a6, a7, a8, a9⟩ := h
  exact ⟨⟨a1, (e1 11 (by decide) (by decide)).trans a2, fun k hk => ⟨(a3 k hk).1, by rw [e2 k]; exact (a3 k hk).2⟩⟩, a4, (e1 13 (by decide) (by decide)).trans a5, (e1 12 (by decide) (by decide)).trans a6, fun z => (e1 14 (by decide) (by decide)).trans (a7 z), fun z => (e1 15 (by decide) (by decide)).trans (a8 z), fun y z => (e1 15 (by decide) (by decide)).trans (a9 y z)⟩
/-- a write of a draft -/
theorem tk_S.ci {w w0 wc wm : lt_W} {T : Nat → Nat} {L p b k : Nat} {v : Int32} (h : tk_S w w0 T L p wc wm) (hb : 29 ≤ b ∧ b ≤ 48) : tk_S w w0 T L p (lt_si wc b k v) wm :=
  ⟨h.1.congr (fun _ _ _ => lu_ne (by omega)) (fun _ => lu_ne (by omega)) rfl, h.2.1, ⟨(lu_ne (by omega)).trans h.2.2.1.1, (lu_ne (by omega)).trans h.2.2.1.2⟩, h.2.2.2.1, h.2.2.2.2.1.i (Or.inr hb), h.2.2.2.2.2⟩
theorem tk_S.mi {w w0 wc wm : lt_W} {T : Nat → Nat} {L p b k : Nat} {v : Int32} (h : tk_S w w0 T L p wc wm) (hb : b = 241 ∨ (b = 234 ∧ 1712 ≤ k ∧ k < 2140) ∨ (b = 233 ∧ (k = 20 ∨ k = 22 ∨ k = 23))) : tk_S w w0 T L p wc (lt_si wm b k v) :=
  ⟨h.1, h.2.1.congr (fun _ _ _ => lu_ne (by omega)) (fun _ => lu_ne (by omega)), h.2.2.1, ⟨(lu_ne (by omega)).trans h.2.2.2.1.1, (lu_ne (by omega)).trans h.2.2.2.1.2⟩, h.2.2.2.2.1, h.2.2.2.2.2.i (by unfold tx_gm; omega)⟩
theorem tk_S.ml {w w0 wc wm : lt_W} {T : Nat → Nat} {L p k : Nat} {v : Int64} (h : tk_S w w0 T L p wc wm) (h1 : 28 ≤ k) (h2 : k < 35) : tk_S w w0 T L p wc (lt_sl wm 235 k v) :=
  ⟨h.1, h.2.1.congr (fun _ _ _ => rfl) (fun _ => rfl), h.2.2.1, h.2.2.2.1, h.2.2.2.2.1, h.2.2.2.2.2.l h1 h2⟩
section TP
variable {σ : lt_S} {w w0 wc wm : lt_W} {T : Nat → Nat} {L p : Nat}
/-- past a token -/
theorem tp_adv (hσ : lr_S σ) (h : tk_S w w0 T L p wc wm) (hK : tx_K T L p ≠ 99) : ∃ wc' wm', f_X7_advance σ 10 wc = some wc' ∧ f_X12_ahead σ 233 wm = some wm' ∧ tk_S w w0 T L (tx_N T L p) wc' wm' ∧ tx_Fk wc wc' ∧ tx_Fm wm wm' := by
  obtain ⟨hC, hM, ⟨f1, f2⟩, ⟨f3, f4⟩, g1, g2⟩ := h
  have hN := (tx_N_gt T hC.2.1).2.2.1
  obtain ⟨wc', a1, a2, a3⟩ := tx_advC hσ hC.1 hN (hC.2.2.2.2.1 hK)
  obtain ⟨wm', b1, b2, b3⟩ := tx_advM hσ hM.1 hN (hM.2.2.2.2.1 hK)
  exact ⟨wc', wm', a1, b1, ⟨a2, b2, ⟨(a3.1 _ _ (by omega)).trans f1, (a3.1 _ _ (by omega)).trans f2⟩, ⟨(b3.1 _ _ (by omega)).trans f3, (b3.1 _ _ (by omega)).trans f4⟩, g1.trans a3.G, g2.trans b3.G⟩, a3, b3⟩
theorem tp_adv1 (hσ : lr_S σ) (h : tk_S w w0 T L p wc wm) (hK : tx_K T L p ≠ 99) : tk_O (fun wc' wm' => tk_S w w0 T L (tx_N T L p) wc' wm' ∧ tx_Fk wc wc' ∧ tx_Fm wm wm') (tk_E w w0) (Option.bind (f_X7_advance σ 10 wc) (fun q1 => some (1, q1))) (Option.bind (f_X12_ahead σ 233 wm) (fun q2 => some (1, q2))) := by
  obtain ⟨wc', wm', a1, b1, a2⟩ := tp_adv hσ h hK
  rw [a1, b1]
  exact Or.inr ⟨wc', wm', rfl, rfl, a2⟩
/-- both refuse -/
theorem tp_fail {P : lt_W → lt_W → Prop} (h : tk_S w w0 T L p wc wm) (x : Nat) (h1 : 1 ≤ x) (h7 : x ≤ 7) : tk_O P (tk_E w w0) (f_X7_refuse σ 10 (nI x) wc) (f_X12_fails σ 233 (nI x) wm) := by
  obtain ⟨hC, hM, ⟨f1, f2⟩, ⟨f3, f4⟩, g1, g2⟩ := h
  have key : ∀ y : Nat, 1 ≤ y → y ≤ 7 → f_X7_refuse σ 10 (nI x) wc = fb_X7_refuse_14 σ 10 (nI y) wc → f_X12_fails σ 233 (nI x) wm = fb_X12_fails_21 σ 233 (nI y) wm → tk_O P (tk_E w w0) (f_X7_refuse σ 10 (nI x) wc) (f_X12_fails σ 233 (nI x) wm) := fun y y1 y7 e1 e2 => by
    refine Or.inl ⟨_, _, e1, e2, ⟨⟨y, y1, y7, ?_, ?_⟩, ?_, ?_, ?_⟩⟩
    · rw [lu_ne (by omega), lu_eq]
    · rw [lu_ne (by omega), lu_eq]
    · rw [lu_eq, lu_eq, lu_ne (by omega), lu_ne (by omega), hC.2.2.1, hM.2.2.1]
    · exact (g1.i (Or.inl ⟨rfl, by omega, by omega⟩)).i (Or.inl ⟨rfl, by omega, by omega⟩)
    · exact (g2.i (by unfold tx_gm; omega)).i (by unfold tx_gm; omega)
  have hKr := tx_K_r T hC.2.1
  by_cases c : tx_K T L p = 99
  · refine key 1 (by omega) (by omega) ?_ ?_
    · unfold f_X7_refuse fb_X7_refuse_0
      rw [if_pos (show lt_gi wc 10 5 = -1 by rw [hC.2.2.2.1]; exact if_pos c)]; rfl
    · unfold f_X12_fails fb_X12_fails_0
      rw [if_pos f3, if_pos (show lt_gi wm 233 12 = 1 by rw [hM.2.2.2.1]; unfold tx_mk; rw [if_neg (by omega), if_pos c])]; rfl
  · refine key x h1 h7 ?_ ?_
    · unfold f_X7_refuse fb_X7_refuse_0
      rw [if_neg (show ¬ lt_gi wc 10 5 = -1 by rw [hC.2.2.2.1]; unfold tx_ck; rw [if_neg c]; exact lu_ne1 (by omega))]
    · unfold f_X12_fails fb_X12_fails_0
      rw [if_pos f3, if_neg (show ¬ lt_gi wm 233 12 = 1 by
        rw [hM.2.2.2.1]; unfold tx_mk
        by_cases z0 : tx_K T L p = 0
        · rw [if_pos z0]; decide
        · rw [if_neg z0, if_neg c]
          by_cases z5 : tx_K T L p ≤ 25
          · rw [if_pos z5]; decide
          · rw [if_neg z5]
            by_cases z6 : tx_K T L p = 26
            · rw [if_pos z6]; decide
            · rw [if_neg z6]; decide)]
theorem tk_O.bz {P E : lt_W → lt_W → Prop} {fc fm : Option (Int32 × lt_W)} (h : tk_O P E fc fm) : tk_O P E (Option.bind fc (fun q => lt_bz q.1 (some (q.1, q.2)))) (Option.bind fm (fun q => lt_bz q.1 (some (q.1, q.2)))) := by
  rcases h with ⟨wc, wm, e1, e2, e3⟩ | ⟨wc, wm, e1, e2, e3⟩
  · rw [e1, e2]; exact Or.inl ⟨wc, wm, rfl, rfl, e3⟩
  · rw [e1, e2]; exact Or.inr ⟨wc, wm, rfl, rfl, e3⟩
theorem tp_failz {P : lt_W → lt_W → Prop} (h : tk_S w w0 T L p wc wm) (x : Nat) (h1 : 1 ≤ x) (h7 : x ≤ 7) : tk_O P (tk_E w w0) (Option.bind (f_X7_refuse σ 10 (nI x) wc) (fun q => lt_bz q.1 (some (q.1, q.2)))) (Option.bind (f_X12_fails σ 233 (nI x) wm) (fun q => lt_bz q.1 (some (q.1, q.2)))) := (tp_fail h x h1 h7).bz
def tp_1 (w w0 : lt_W) (T : Nat → Nat) (L p : Nat) (wc wm wc' wm' : lt_W) : Prop := tk_S w w0 T L (tx_N T L p) wc' wm' ∧ tx_Fk wc wc' ∧ tx_Fm wm wm'
/-- the class's kind is a told one -/
theorem tp_kind (h : tk_S w w0 T L p wc wm) {c : Nat} (hc : c < 99) : lt_gi wc 10 5 = nI c ↔ tx_K T L p = c := by
  have hKr := tx_K_r T h.1.2.1
  rw [h.1.2.2.2.1]; unfold tx_ck
  by_cases z : tx_K T L p = 99
  · rw [if_pos z]
    exact ⟨fun e => absurd e (lu_m1ne (by omega)), fun e => by omega⟩
  · rw [if_neg z]; exact nI_eq (by omega) (by omega)
theorem tp_sign (hσ : lr_S σ) (h : tk_S w w0 T L p wc wm) (c : Nat) (h1 : 59 ≤ c) (h2 : c ≤ 62) : tk_O (tp_1 w w0 T L p wc wm) (tk_E w w0) (f_X7_take σ 10 (nI c) wc) (f_X12_wantSign σ 233 (nI c) wm) := by
  unfold f_X7_take fb_X7_take_0 f_X12_wantSign fb_X12_wantSign_0
  rw [tx_isSg h.2.1 h1 h2, lu_bind]
  by_cases k : tx_K T L p = c
  · rw [if_pos ((tp_kind h (by omega)).mpr k), if_pos k, if_neg lu_10]
    exact tp_adv1 hσ h (by omega)
  · rw [if_neg (fun z => k ((tp_kind h (by omega)).mp z)), if_neg k, if_pos rfl]
    exact tp_failz h 2 (by decide) (by decide)
theorem tx_m_inj {a b : Nat} (ha : 1 ≤ a ∧ a ≤ 23) (hb : 1 ≤ b ∧ b ≤ 23) (h : tx_m a = tx_m b) : a = b := by
  have key : ∀ x y : Fin 24, 1 ≤ x.1 → 1 ≤ y.1 → tx_m x.1 = tx_m y.1 → x.1 = y.1 := by decide +kernel
  exact key ⟨a, by omega⟩ ⟨b, by omega⟩ ha.1 hb.1 h
theorem tx_m_lt {a : Nat} (ha : 1 ≤ a ∧ a ≤ 23) : tx_m a < 23 := by
  have key : ∀ x : Fin 24, 1 ≤ x.1 → tx_m x.1 < 23 := by decide +kernel
  exact key ⟨a, by omega⟩ ha.1
/-- the reference's word is a told one -/
theorem tp_words (hσ : lr_S σ) (h : tk_S w w0 T L p wc wm) : ∃ v, f_X12_inWords σ 233 wm = some v ∧ (∀ c, 1 ≤ c → c ≤ 23 → (v = nI (tx_m c) ↔ tx_K T L p = c)) ∧ (v = -1 ∨ (v = nI (tx_m (tx_K T L p)) ∧ 1 ≤ tx_K T L p ∧ tx_K T L p ≤ 23)) := by
  refine ⟨_, tx_inM hσ h.2.1, fun c h1 h2 => ?_, ?_⟩
  · have hc := tx_m_lt ⟨h1, h2⟩
    by_cases k : 1 ≤ tx_K T L p ∧ tx_K T L p ≤ 23
    · rw [if_pos k]
      have hk := tx_m_lt k
      exact ⟨fun e => tx_m_inj k ⟨h1, h2⟩ ((nI_eq (by omega) (by omega)).mp e), fun e => by rw [e]⟩
    · rw [if_neg k]
      exact ⟨fun e => absurd e (lu_m1ne (by omega)), fun e => by omega⟩
  · by_cases k : 1 ≤ tx_K T L p ∧ tx_K T L p ≤ 23
    · rw [if_pos k]; exact Or.inr ⟨rfl, k⟩
    · rw [if_neg k]; exact Or.inl rfl
theorem tp_word (hσ : lr_S σ) (h : tk_S w w0 T L p wc wm) (c : Nat) (h1 : 1 ≤ c) (h2 : c ≤ 23) : tk_O (tp_1 w w0 T L p wc wm) (tk_E w w0) (f_X7_take σ 10 (nI c) wc) (f_X12_wantWord σ 233 (nI (tx_m c)) wm) := by
  obtain ⟨v, v1, v2, v3⟩ := tp_words hσ h
  unfold f_X7_take fb_X7_take_0 f_X12_wantWord fb_X12_wantWord_0
  rw [v1, lu_bind]
  by_cases k : tx_K T L p = c
  · rw [if_pos ((tp_kind h (by omega)).mpr k), if_pos ((v2 c h1 h2).mpr k)]
    exact tp_adv1 hσ h (by omega)
  · rw [if_neg (fun z => k ((tp_kind h (by omega)).mp z)), if_neg (fun z => k ((v2 c h1 h2).mp z))]
    exact tp_failz h 2 (by decide) (by decide)
/-- a number: taken, at its place -/
def tp_2 (w w0 : lt_W) (T : Nat → Nat) (L p : Nat) (wc wm : lt_W) (to a b : Nat) (wc' wm' : lt_W) : Prop := tk_S w w0 T L (tx_N T L p) wc' wm' ∧ tx_Fk (lt_si wc 10 8 (nI (tx_V T L p))) wc' ∧ tx_Fm (lt_si wm 234 to (nI (tx_V T L p))) wm' ∧ lt_gi wc' 10 8 = nI (tx_V T L p) ∧ a ≤ tx_V T L p ∧ tx_V T L p ≤ b
theorem tx_V_lt (T : Nat → Nat) {L p : Nat} (hp : p ≤ L) (hK : tx_K T L p = 26) : tx_V T L p < 10000 := by
  have hF := (tx_end_spec (tx_isB T) hp).2.1
  obtain ⟨s1, s2, s3, s4⟩ := tx_end_spec (tx_isD T) (show tx_F T L p ≤ L from hF)
  have hd : tx_d T L p - tx_F T L p ≤ 4 := by
    have h24 := tx_find_24 (tx_w T L p)
    rcases tx_cases T hp with ⟨a, b, c⟩ | ⟨a, b, c, d⟩ | ⟨a, b, b2, c, d⟩ | ⟨a, b, b2, b3, c, d⟩ | ⟨a, b, b2, b3, c, d⟩
    · omega
    · rw [c] at hK; split at hK <;> omega
    · rw [c] at hK
      by_cases z : tx_d T L p - tx_F T L p ≤ 4
      · exact z
      · rw [if_neg z] at hK; omega
    · rw [c] at hK; unfold tx_sg at b3; omega
    · omega
  have := tx_nu_lt (T := T) (p := tx_F T L p) (tx_d T L p - tx_F T L p) (fun k k1 k2 => by
    have := s3 k k1 (by have e : tx_d T L p = tx_end (tx_isD T) L (tx_F T L p) := rfl; omega)
    unfold tx_isD at this
    exact (of_decide_eq_true this).2)
  have p1 : 10 ^ (tx_d T L p - tx_F T L p) ≤ 10 ^ 4 := Nat.pow_le_pow_right (by decide) hd
  have p4 : (10 : Nat) ^ 4 = 10000 := by decide
  unfold tx_V; omega
theorem tp_num (hσ : lr_S σ) (h : tk_S w w0 T L p wc wm) (to a b : Nat) (h1 : 1712 ≤ to) (h2 : to < 2140) (ha : a < 100) (hb : b < 100) : tk_O (tp_2 w w0 T L p wc wm to a b) (tk_E w w0) (f_X7_takeNumber σ 10 (nI a) (nI b) wc) (f_X12_number σ 233 (nI to) (nI a) (nI b) wm) := by
  unfold f_X7_takeNumber fb_X7_takeNumber_0 f_X12_number fb_X12_number_0
  have hKr := tx_K_r T h.1.2.1
  by_cases k : tx_K T L p = 26
  · have hV := tx_V_lt T h.1.2.1 k
    have m12 : lt_gi wm 233 12 = 3 := by
      rw [h.2.1.2.2.2.1]; unfold tx_mk; rw [if_neg (by omega), if_neg (by omega), if_neg (by omega), if_pos k]
    have v1 : lt_gi wc 10 7 = nI (tx_V T L p) := h.1.2.2.2.2.2.2 k
    have v2 : lt_gi wm 233 15 = nI (tx_V T L p) := h.2.1.2.2.2.2.2.1 k
    rw [if_pos (show lt_gi wc 10 5 = 26 from (tp_kind h (c := 26) (by decide)).mpr k), if_pos m12, v1, v2, lr_at hσ, lq_l234 hσ]
    by_cases c1 : tx_V T L p < a
    · rw [if_pos (nI_lt c1 (by omega)), if_pos (nI_lt c1 (by omega))]
      exact tp_failz h 4 (by decide) (by decide)
    · rw [if_neg (nI_nlt (by omega) (by omega)), if_neg (nI_nlt (by omega) (by omega))]
      by_cases c2 : tx_V T L p ≤ b
      · rw [if_pos (nI_le c2 (by omega)), if_pos (nI_le c2 (by omega)), lu_let, lu_ck (by omega) (by decide), lu_let, nI_clamp (by omega)]
        have hS : tk_S w w0 T L p (lt_si wc 10 8 (nI (tx_V T L p))) (lt_si wm 234 to (nI (tx_V T L p))) := by
          have hS1 := h.mi (b := 234) (k := to) (v := nI (tx_V T L p)) (by omega)
          exact ⟨hS1.1.congr (fun _ _ _ => lu_ne (by omega)) (fun _ => lu_ne (by omega)) rfl, hS1.2.1, ⟨(lu_ne (by omega)).trans hS1.2.2.1.1, (lu_ne (by omega)).trans hS1.2.2.1.2⟩, hS1.2.2.2.1, hS1.2.2.2.2.1.i (Or.inl ⟨rfl, by omega, by omega⟩), hS1.2.2.2.2.2⟩
        obtain ⟨hC, hM, ⟨f1, f2⟩, ⟨f3, f4⟩, g1, g2⟩ := hS
        have hN := (tx_N_gt T hC.2.1).2.2.1
        obtain ⟨wc', a1, a2, a3⟩ := tx_advC hσ hC.1 hN (hC.2.2.2.2.1 (by omega))
        obtain ⟨wm', b1, b2, b3⟩ := tx_advM hσ hM.1 hN (hM.2.2.2.2.1 (by omega))
        rw [a1, b1]
        exact Or.inr ⟨wc', wm', rfl, rfl, ⟨a2, b2, ⟨(a3.1 _ _ (by omega)).trans f1, (a3.1 _ _ (by omega)).trans f2⟩, ⟨(b3.1 _ _ (by omega)).trans f3, (b3.1 _ _ (by omega)).trans f4⟩, g1.trans a3.G, g2.trans b3.G⟩, a3, b3, (a3.1 10 8 (by omega)).trans lu_eq, by omega, c2⟩
      · rw [if_neg (nI_ge (by omega) (by omega)), if_neg (nI_ge (by omega) (by omega))]
        exact tp_failz h 4 (by decide) (by decide)
  · rw [if_neg (show ¬ lt_gi wc 10 5 = 26 from fun z => k ((tp_kind h (c := 26) (by decide)).mp z)), if_neg (show ¬ lt_gi wm 233 12 = 3 by
      rw [h.2.1.2.2.2.1]; unfold tx_mk
      by_cases z0 : tx_K T L p = 0
      · rw [if_pos z0]; decide
      · rw [if_neg z0]
        by_cases z9 : tx_K T L p = 99
        · rw [if_pos z9]; decide
        · rw [if_neg z9]
          by_cases z5 : tx_K T L p ≤ 25
          · rw [if_pos z5]; decide
          · rw [if_neg z5, if_neg k]; decide)]
    exact tp_failz h 2 (by decide) (by decide)
end TP