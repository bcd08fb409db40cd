/-! GAMES: the reference's machine -/
def gp_st (u : lt_W) (L : Nat) (s : gm_S) : Prop := match s with | none => lt_gi u 251 L = -1 | some q => lt_gi u 251 L = nI q.2 ∧ lt_gi u 250 L = q.1
/-- what a level leaves -/
def gp_F (L : Nat) (w w' : lt_W) : Prop := (∀ a k, lt_gl w' a k = lt_gl w a k) ∧ ∀ a k, ((a ≠ 234 ∧ a ≠ 242 ∧ a ≠ 250 ∧ a ≠ 251) ∨ (a = 234 ∧ 60 ≤ k ∧ k < 2260 + 60 * L) ∨ ((a = 242 ∨ a = 250 ∨ a = 251) ∧ k < L)) → lt_gi w' a k = lt_gi w a k
theorem gp_F.refl (L : Nat) (w : lt_W) : gp_F L w w := ⟨fun _ _ => rfl, fun _ _ _ => rfl⟩
theorem gp_F.trans {L : Nat} {w w' w'' : lt_W} (h : gp_F L w w') (h' : gp_F L w' w'') : gp_F L w w'' := ⟨fun a k => (h'.1 a k).trans (h.1 a k), fun a k z => (h'.2 a k z).trans (h.2 a k z)⟩
theorem gp_F.down {L : Nat} {w w' : lt_W} (h : gp_F (L + 1) w w') : gp_F L w w' := ⟨h.1, fun a k z => h.2 a k (by omega)⟩
theorem gp_F.D {L : Nat} {w w' : lt_W} (h : lm_D 234 w w') : gp_F L w w' := ⟨h.1, fun a k z => h.2 a k (by omega)⟩
theorem gp_st.congr {u u' : lt_W} {L : Nat} {s : gm_S} (h : gp_st u L s) (e1 : lt_gi u' 251 L = lt_gi u 251 L) (e2 : lt_gi u' 250 L = lt_gi u 250 L) : gp_st u' L s := by
  cases s with
  | none => exact e1.trans h
  | some q => exact ⟨e1.trans h.1, e2.trans h.2⟩
/-- a level, ahead of its try t -/
def gp_S (L : Nat) (A : la_A) (t : Nat) (s : gm_S) (u : lt_W) : Prop := lm_T u 234 (2200 + 60 * L) A ∧ lt_gi u 242 L = nI t - 1 ∧ gp_st u L s
def gp_N : Nat → Nat | 0 => 0 | m + 1 => 8 * (2 + gp_N m)
def gp_go (a b : Nat) (A : la_A) (L t : Nat) : Bool := decide (t = la_n A) || (la_here A t && decide (t ≠ gm_t a b L))
def gp_A (a b : Nat) (A : la_A) (L t : Nat) : la_A := if t = la_n A then A else la_c A t 6 (nI (gm_t a b L))
theorem gp_gm {a b m : Nat} {A : la_A} {L t : Nat} {s : gm_S} : gm_st a b m A L t s = if gp_go a b A L t = true then gm_up L s (gm_val a b m (gp_A a b A L t) (L + 1)) t else s := by
  unfold gm_st gp_go gp_A
  by_cases c : t = la_n A
  · rw [if_pos c, if_pos (by simp [c]), if_pos c]
  · rw [if_neg c, if_neg c, decide_eq_false c, Bool.false_or]
theorem gp_ne {a b m : Nat} {A : la_A} {L : Nat} : gm_fold (gm_st a b m A L) (la_n A + 1) ≠ none := by
  show gm_st a b m A L (la_n A) (gm_fold (gm_st a b m A L) (la_n A)) ≠ none
  have key : ∀ (s : gm_S) v i, gm_up L s v i ≠ none := by
    intro s v i
    unfold gm_up
    cases s with
    | none => exact fun z => by cases z
    | some q =>
      simp only []
      by_cases c : (if L % 2 = 0 then q.1 < v else v < q.1)
      · rw [if_pos c]; exact fun z => by cases z
      · rw [if_neg c]; exact fun z => by cases z
  unfold gm_st
  rw [if_pos rfl]
  exact key _ _ _
theorem gp_An {a b : Nat} {A : la_A} {L t : Nat} : la_n (gp_A a b A L t) = la_n A := by
  unfold gp_A
  split <;> rfl
theorem gp_AO {a b : Nat} {A : la_A} {L t : Nat} (hO : la_Ok A) (ht : t ≤ la_n A) (ha : a < la_n A) (hb : b < la_n A) (hg : gp_go a b A L t = true) : la_Ok (gp_A a b A L t) := by
  unfold gp_A
  by_cases c : t = la_n A
  · rw [if_pos c]; exact hO
  · rw [if_neg c]
    unfold gp_go at hg
    rw [decide_eq_false c, Bool.false_or, Bool.and_eq_true, decide_eq_true_eq] at hg
    have htn : gm_t a b L < la_n A := by unfold gm_t; split <;> assumption
    exact hO.c (Or.inr (Or.inr (Or.inr (Or.inr (Or.inr (Or.inr ⟨rfl, Or.inr ⟨gm_t a b L, htn, fun z => hg.2 z.symm, rfl⟩⟩))))))
section GP
variable {σ : lt_S}
theorem gp_settle (hσ : lr_S σ) {L t : Nat} {v : Int32} {s : gm_S} {u : lt_W} (hL : L < 4) (h2 : lt_gi u 242 L = nI t) (hs : gp_st u L s) (hn : ∀ q, s = some q → q.2 ≤ 7) : ∃ u', f_X12_settles σ 233 (nI L) v u = some u' ∧ gp_st u' L (gm_up L s v t) ∧ (∀ a k, ((a ≠ 250 ∧ a ≠ 251) ∨ k ≠ L) → lt_gi u' a k = lt_gi u a k) ∧ ∀ a k, lt_gl u' a k = lt_gl u a k := by
  have h50 : fb_X12_settles_50 σ 233 (nI L) v u = some (lt_si (lt_si u 250 L v) 251 L (nI t)) := by
    unfold fb_X12_settles_50
    rw [lq_r233_32 hσ, lq_l250 hσ, lu_ck (by omega) (by decide), lu_let, lq_r233_24 hσ, lq_l242 hσ, lu_ck (by omega) (by decide), lq_r233_33 hσ, lq_l251 hσ, lu_ck (by omega) (by decide), lu_let, nI_clamp (by omega), lu_ne (Or.inl (by decide)), h2]
  have y50 : ∃ u', fb_X12_settles_50 σ 233 (nI L) v u = some u' ∧ gp_st u' L (some (v, t)) ∧ (∀ a k, ((a ≠ 250 ∧ a ≠ 251) ∨ k ≠ L) → lt_gi u' a k = lt_gi u a k) ∧ ∀ a k, lt_gl u' a k = lt_gl u a k := by
    refine ⟨_, h50, ⟨lu_eq, ?_⟩, fun a k z => ?_, fun _ _ => rfl⟩
    · rw [lu_ne (Or.inl (by decide)), lu_eq]
    · rw [lu_ne (by omega), lu_ne (by omega)]
  have er : nI L - nI L / 2 * 2 = nI (L % 2) := pk_rem (d := 2) (by omega) (by decide) (by decide)
  unfold f_X12_settles fb_X12_settles_0 fb_X12_settles_15
  rw [lq_r233_33 hσ, lq_l251 hσ, lu_ck (by omega) (by decide), nI_clamp (by omega), er, lq_r233_32 hσ, lq_l250 hσ, lu_ck (by omega) (by decide), lu_ck (by omega) (by decide)]
  cases s with
  | none =>
    rw [if_pos (show lt_gi u 251 L = -1 from hs), if_neg lu_10]
    exact y50
  | some q =>
    have hq := hn q rfl
    rw [if_neg (show ¬ lt_gi u 251 L = -1 by rw [hs.1]; exact lu_ne1 (by omega)), if_pos rfl, hs.2]
    unfold gm_up
    simp only []
    by_cases k2 : L % 2 = 0
    · rw [k2, if_pos (show nI 0 = 0 from rfl)]
      simp only [if_true]
      by_cases c : q.1 < v
      · rw [if_pos c, if_pos c]; exact y50
      · rw [if_neg c, if_neg c]; exact ⟨u, rfl, hs, fun _ _ _ => rfl, fun _ _ => rfl⟩
    · have : L % 2 = 1 := by omega
      rw [this, if_neg (show ¬ nI 1 = 0 by decide)]
      simp only [show ¬ (1 = 0) from by decide, if_false]
      by_cases c : v < q.1
      · rw [if_pos c, if_pos c]; exact y50
      · rw [if_neg c, if_neg c]; exact ⟨u, rfl, hs, fun _ _ _ => rfl, fun _ _ => rfl⟩
theorem gp_comes (hσ : lr_S σ) {a b : Nat} {A : la_A} {u : lt_W} (hA : lm_T u 234 0 A) (hO : la_Ok A) (ha : a < la_n A) (hb : b < la_n A) : ∃ u', f_X12_comesTo σ 233 (nI a) (nI b) u = some (gm_o a b A, u') ∧ lm_D 234 u u' := by
  have h := lm_daysGo (lr_mS hσ) (lr_mT hσ hA) hO (d := 10) (by decide)
  rw [lr_at hσ] at h
  obtain ⟨u', e1, e2, e3⟩ := h
  have n10 : la_n (la_days A 10) = la_n A := la_n_days 10
  refine ⟨u', ?_, e3⟩
  unfold f_X12_comesTo fb_X12_comesTo_0 fb_X12_comesTo_19
  have e1' : f_X12_daysGo σ 233 10 u = some u' := e1
  rw [e1', lu_bind, lm_here (lr_mS hσ) (lr_mT hσ e2) (by omega), lu_bind, lm_here (lr_mS hσ) (lr_mT hσ e2) (by omega), lu_bind, lu_bind]
  unfold gm_o
  by_cases ca : la_here (la_days A 10) a = true
  · rw [if_pos ca, if_pos ca, if_neg lu_10]
    by_cases cb : la_here (la_days A 10) b = true
    · rw [if_pos cb, if_pos cb, if_neg lu_10]
    · rw [if_neg cb, if_neg cb, if_pos rfl]
  · rw [if_neg ca, if_neg ca, if_pos rfl]
    by_cases cb : la_here (la_days A 10) b = true
    · rw [if_pos cb, if_pos cb, if_neg lu_10]
    · rw [if_neg cb, if_neg cb, if_pos rfl]
set_option maxHeartbeats 2000000 in
/-- one try, up to where the machine goes on -/
theorem gp_try (hσ : lr_S σ) {a b T L t : Nat} {A : la_A} {s : gm_S} {u : lt_W} (hT : T ≤ 3) (hLT : L < T) (hS : gp_S L A t s u) (ht : t ≤ la_n A) (ha : a < la_n A) (hb : b < la_n A) : ∃ u', (∀ g, fb_X12_playing_8 σ 233 (g + 1) (nI a) (nI b) (nI T) (nI L) u = if gp_go a b A L t = true then fb_X12_playing_134 σ 233 (fun x1 x2 x3 x4 w => fb_X12_playing_8 σ 233 g x1 x2 x3 x4 w) (nI a) (nI b) (nI T) (nI L) u' else fb_X12_playing_8 σ 233 g (nI a) (nI b) (nI T) (nI L) u') ∧ (gp_go a b A L t = true → lm_T u' 234 0 (gp_A a b A L t)) ∧ gp_S L A (t + 1) s u' ∧ gp_F L u u' := by
  obtain ⟨p1, p2, p3⟩ := hS
  have h7 := p1.2.1
  obtain ⟨v, b1, b2, b3⟩ := m_brings hσ (b := 2200 + 60 * L) (by omega) (by omega) u
  have hAv : lm_T v 234 0 A := p1.congr fun k hk _ _ => by rw [Nat.zero_add]; exact b2 k hk
  have hz : nI t - 1 + 1 = nI t := Int32.sub_add_cancel _ _
  have v242 : lt_gi v 242 L = nI t - 1 := (b3.2 _ _ (by omega)).trans p2
  let v1 := lt_si v 242 L (nI t)
  have hA1 : lm_T v1 234 0 A := hAv.outA (by decide)
  have n1 : lt_gi v1 234 0 = nI (la_n A) := by
    have := lm_n (lr_mT hσ hA1)
    rw [lr_at hσ] at this; exact this
  have F1 : gp_F L u v1 := ⟨b3.1, fun a k z => by
    show lt_gi (lt_si v 242 L (nI t)) a k = _
    rw [lu_ne (by omega)]; exact b3.2 a k (by omega)⟩
  have hSt : ∀ u', gp_F L v1 u' → lt_gi u' 242 L = nI t → lt_gi u' 251 L = lt_gi v1 251 L → lt_gi u' 250 L = lt_gi v1 250 L → gp_S L A (t + 1) s u' := by
    intro u' hF e242 e251 e250
    have F := F1.trans hF
    refine ⟨p1.congr fun k hk _ _ => F.2 _ _ (by omega), by rw [e242, nI_pred], p3.congr (e251.trans ?_) (e250.trans ?_)⟩
    · show lt_gi (lt_si v 242 L (nI t)) 251 L = _
      rw [lu_ne (Or.inl (by decide))]; exact b3.2 _ _ (by omega)
    · show lt_gi (lt_si v 242 L (nI t)) 250 L = _
      rw [lu_ne (Or.inl (by decide))]; exact b3.2 _ _ (by omega)
  have er : nI L - nI L / 2 * 2 = nI (L % 2) := pk_rem (d := 2) (by omega) (by decide) (by decide)
  have open1 : ∀ g, fb_X12_playing_8 σ 233 (g + 1) (nI a) (nI b) (nI T) (nI L) u = fb_X12_playing_53 σ 233 (fun x1 x2 x3 x4 w => fb_X12_playing_8 σ 233 g x1 x2 x3 x4 w) (nI a) (nI b) (nI T) (nI L) (nI t) (nI (gm_t a b L)) v1 := by
    intro g
    rw [fb_X12_playing_8, if_neg (show ¬ nI T ≤ 0 from nI_ge (a := 0) (by omega) (by omega)), lp_level, lu_bind, b1, lu_bind, lq_r233_24 hσ, lq_l242 hσ, lu_ck (by omega) (by decide), lu_ck (by omega) (by decide), lu_let, nI_clamp (by omega), v242, hz, lu_ck (by omega) (by decide), lu_eq, lu_let, er]
    unfold gm_t
    by_cases k2 : L % 2 = 0
    · rw [k2, if_pos (show nI 0 = 0 from rfl), if_pos rfl]
    · have : L % 2 = 1 := by omega
      rw [this, if_neg (show ¬ nI 1 = 0 by decide), if_neg (by decide)]
  have open2 : ∀ K, fb_X12_playing_53 σ 233 K (nI a) (nI b) (nI T) (nI L) (nI t) (nI (gm_t a b L)) v1 = if t = la_n A then fb_X12_playing_134 σ 233 K (nI a) (nI b) (nI T) (nI L) v1 else Option.bind (f_X12_isHere σ 233 (nI t) v1) (fun q3 => if q3 = 0 then K (nI a) (nI b) (nI T) (nI L) v1 else if nI t = nI (gm_t a b L) then K (nI a) (nI b) (nI T) (nI L) v1 else Option.bind (f_X12_passes σ 233 (nI t) (nI (gm_t a b L)) v1) (fun q4 => fb_X12_playing_134 σ 233 K (nI a) (nI b) (nI T) (nI L) q4.2)) := by
    intro K
    unfold fb_X12_playing_53
    rw [lr_mS hσ, lm_k0, lm_c0, lr_at hσ, n1, if_pos (nI_le ht (by omega))]
    by_cases c : t = la_n A
    · rw [if_pos c, if_pos (nI_le (by omega) (by omega)), lm_k0]
    · rw [if_neg c, if_neg (nI_ge (by omega) (by omega)), lm_k0]
  by_cases c : t = la_n A
  · have hg : gp_go a b A L t = true := by unfold gp_go; simp [c]
    have hA' : gp_A a b A L t = A := by unfold gp_A; rw [if_pos c]
    refine ⟨v1, fun g => ?_, fun _ => by rw [hA']; exact hA1, hSt v1 (gp_F.refl _ _) lu_eq rfl rfl, F1⟩
    rw [open1, open2, if_pos c, if_pos hg]
  · have hi : t < la_n A := by omega
    have htn : gm_t a b L < la_n A := by unfold gm_t; split <;> assumption
    have hgo : gp_go a b A L t = (la_here A t && decide (t ≠ gm_t a b L)) := by unfold gp_go; rw [decide_eq_false c, Bool.false_or]
    have hA' : gp_A a b A L t = la_c A t 6 (nI (gm_t a b L)) := by unfold gp_A; rw [if_neg c]
    rw [hgo, hA']
    by_cases ch : la_here A t = true
    · by_cases ct : t = gm_t a b L
      · have hf : (la_here A t && decide (t ≠ gm_t a b L)) = false := by simp [ct]
        rw [hf]
        refine ⟨v1, fun g => ?_, (fun z => by cases z), hSt v1 (gp_F.refl _ _) lu_eq rfl rfl, F1⟩
        rw [open1, open2, if_neg c, lm_here (lr_mS hσ) (lr_mT hσ hA1) hi, lu_bind, if_pos ch, if_neg lu_10, if_pos (by rw [ct]), if_neg (by decide)]
      · have hf : (la_here A t && decide (t ≠ gm_t a b L)) = true := by simp [ct, ch]
        rw [hf]
        have hF2 : gp_F L v1 (lt_si v1 234 (10 + 7 * t + 6) (nI (gm_t a b L))) := ⟨fun _ _ => rfl, fun a k z => lu_ne (by omega)⟩
        refine ⟨lt_si v1 234 (10 + 7 * t + 6) (nI (gm_t a b L)), fun g => ?_, fun _ => hA1.cell (by omega) (by decide), hSt _ hF2 ?_ (lu_ne (Or.inl (by decide))) (lu_ne (Or.inl (by decide))), F1.trans hF2⟩
        · rw [open1, open2, if_neg c, lm_here (lr_mS hσ) (lr_mT hσ hA1) hi, lu_bind, if_pos ch, if_neg lu_10, if_neg (fun z => ct ((nI_eq (by omega) (by omega)).mp z)), lm_passes (lr_mS hσ) (lr_mT hσ hA1) hi, lu_bind, lr_at hσ, if_pos rfl]
        · rw [lu_ne (Or.inl (by decide))]; exact lu_eq
    · have hf : (la_here A t && decide (t ≠ gm_t a b L)) = false := by simp [ch]
      rw [hf]
      refine ⟨v1, fun g => ?_, (fun z => by cases z), hSt v1 (gp_F.refl _ _) lu_eq rfl rfl, F1⟩
      rw [open1, open2, if_neg c, lm_here (lr_mS hσ) (lr_mT hσ hA1) hi, lu_bind, if_neg ch, if_pos rfl, if_neg (by decide)]
theorem gp_lv (hσ : lr_S σ) {a b T L m X : Nat} {A : la_A} (h7 : la_n A ≤ 7) (one : ∀ t s u, t ≤ la_n A → gm_ok s (la_n A) → gp_S L A t s u → ∃ r u', r ≤ 2 + X ∧ (∀ f, fb_X12_playing_8 σ 233 (f + r) (nI a) (nI b) (nI T) (nI L) u = fb_X12_playing_8 σ 233 f (nI a) (nI b) (nI T) (nI L) u') ∧ gp_S L A (t + 1) (gm_st a b m A L t s) u' ∧ gp_F L u u') (w : lt_W) (hS : gp_S L A 0 none w) : ∃ r w', r ≤ 8 * (2 + X) ∧ (∀ f, fb_X12_playing_8 σ 233 (f + r) (nI a) (nI b) (nI T) (nI L) w = fb_X12_playing_8 σ 233 f (nI a) (nI b) (nI T) (nI L) w') ∧ gp_S L A (la_n A + 1) (gm_fold (gm_st a b m A L) (la_n A + 1)) w' ∧ gp_F L w w' := by
  have loop : ∀ t, t ≤ la_n A + 1 → ∃ r w', r ≤ t * (2 + X) ∧ (∀ f, fb_X12_playing_8 σ 233 (f + r) (nI a) (nI b) (nI T) (nI L) w = fb_X12_playing_8 σ 233 f (nI a) (nI b) (nI T) (nI L) w') ∧ gp_S L A t (gm_fold (gm_st a b m A L) t) w' ∧ gp_F L w w' := by
    intro t
    induction t with
    | zero => intro _; exact ⟨0, w, by omega, fun f => rfl, hS, gp_F.refl _ _⟩
    | succ t ih =>
      intro ht
      obtain ⟨r1, u1, c1, c2, c3, c4⟩ := ih (by omega)
      obtain ⟨r2, u2, d1, d2, d3, d4⟩ := one t _ u1 (by omega) (gm_fold_ok (fun i s hi hs => gm_st_ok hs hi) _ (by omega)) c3
      refine ⟨r2 + r1, u2, by rw [Nat.succ_mul]; omega, fun f => ?_, d3, c4.trans d4⟩
      rw [← Nat.add_assoc, c2]; exact d2 f
  obtain ⟨r, w', e1, e2⟩ := loop (la_n A + 1) (Nat.le_refl _)
  have : (la_n A + 1) * (2 + X) ≤ 8 * (2 + X) := Nat.mul_le_mul_right _ (by omega)
  exact ⟨r, w', by omega, e2⟩
theorem gp_begin (hσ : lr_S σ) {L : Nat} {A : la_A} {u : lt_W} (hL : L < 3) (hA : lm_T u 234 0 A) : ∃ u', f_X12_beginsAt σ 233 (nI L) u = some u' ∧ gp_S L A 0 none u' ∧ (∀ k, k < 60 → lt_gi u' 234 (2200 + 60 * L + k) = lt_gi u 234 k) ∧ (∀ a k, ((a ≠ 234 ∧ a ≠ 242 ∧ a ≠ 251) ∨ (a = 234 ∧ k < 2200 + 60 * L) ∨ ((a = 242 ∨ a = 251) ∧ k ≠ L)) → lt_gi u' a k = lt_gi u a k) ∧ ∀ a k, lt_gl u' a k = lt_gl u a k := by
  obtain ⟨v, k1, k2, k3⟩ := m_keeps hσ (b := 2200 + 60 * L) (by omega) (by omega) u
  refine ⟨lt_si (lt_si v 242 L (-1)) 251 L (-1), ?_, ⟨hA.congr fun k hk _ _ => ?_, ?_, lu_eq⟩, fun k hk => ?_, fun a k z => ?_, k3.1⟩
  · unfold f_X12_beginsAt fb_X12_beginsAt_0
    rw [lp_level, lu_bind, k1, lu_bind, lq_r233_24 hσ, lq_l242 hσ, lu_ck (by omega) (by decide), lu_let, lq_r233_33 hσ, lq_l251 hσ, lu_ck (by omega) (by decide), lu_let, nI_clamp (by omega)]
  · rw [lu_ne (Or.inl (by decide)), lu_ne (Or.inl (by decide)), k2 k hk, Nat.zero_add]
  · rw [lu_ne (Or.inl (by decide)), lu_eq]; rfl
  · rw [lu_ne (Or.inl (by decide)), lu_ne (Or.inl (by decide)), k2 k hk]
  · rw [lu_ne (by omega), lu_ne (by omega), k3.2 a k (by omega)]
set_option maxHeartbeats 4000000 in
theorem gp_m (hσ : lr_S σ) {a b T : Nat} (hT : T ≤ 3) : ∀ m L (A : la_A) w, L + m + 1 = T → la_Ok A → a < la_n A → b < la_n A → gp_S L A 0 none w → ∃ r w', r ≤ gp_N (m + 1) ∧ (∀ f, fb_X12_playing_8 σ 233 (f + r) (nI a) (nI b) (nI T) (nI L) w = fb_X12_playing_8 σ 233 f (nI a) (nI b) (nI T) (nI L) w') ∧ gp_S L A (la_n A + 1) (gm_fold (gm_st a b m A L) (la_n A + 1)) w' ∧ gp_F L w w' := by
  intro m
  induction m with
  | zero =>
    intro L A w hL hO ha hb hS
    have h7 := hS.1.2.1
    refine gp_lv hσ (X := gp_N 0) h7 (fun t s u ht hs hS => ?_) w hS
    obtain ⟨u1, a1, a2, a3, a4⟩ := gp_try hσ hT (by omega) hS ht ha hb
    rw [gp_gm]
    by_cases c : gp_go a b A L t = true
    · simp only [if_pos c] at a1 ⊢
      obtain ⟨u2, b1, b2⟩ := gp_comes hσ (a2 c) (gp_AO hO ht ha hb c) (by rw [gp_An]; exact ha) (by rw [gp_An]; exact hb)
      obtain ⟨p1, p2, p3⟩ := a3
      have F2 := gp_F.D (L := L) b2
      obtain ⟨u3, d1, d2, d3, d4⟩ := gp_settle hσ (L := L) (t := t) (v := gm_o a b (gp_A a b A L t)) (s := s) (u := u2) (by omega) (by rw [b2.2 _ _ (by omega), p2, nI_pred]) (p3.congr (b2.2 _ _ (by omega)) (b2.2 _ _ (by omega))) (fun q hq => by have := (hs q hq).2; omega)
      have F3 : gp_F L u2 u3 := ⟨d4, fun a k z => d3 a k (by omega)⟩
      refine ⟨1, u3, by omega, fun f => ?_, ⟨p1.congr fun k hk _ _ => (F2.trans F3).2 _ _ (by omega), by rw [d3 _ _ (by omega), b2.2 _ _ (by omega)]; exact p2, d2⟩, a4.trans (F2.trans F3)⟩
      rw [a1 f]
      unfold fb_X12_playing_134
      rw [nI_1, if_pos (show nI (L + 1) = nI T by congr 1), b1, lu_bind, d1, lu_bind]
    · simp only [if_neg c] at a1 ⊢
      exact ⟨1, u1, by omega, a1, a3, a4⟩
  | succ m ih =>
    intro L A w hL hO ha hb hS
    have h7 := hS.1.2.1
    refine gp_lv hσ (X := gp_N (m + 1)) h7 (fun t s u ht hs hS => ?_) w hS
    obtain ⟨u1, a1, a2, a3, a4⟩ := gp_try hσ hT (by omega) hS ht ha hb
    rw [gp_gm]
    by_cases c : gp_go a b A L t = true
    · simp only [if_pos c] at a1 ⊢
      have hAn : la_n (gp_A a b A L t) = la_n A := gp_An
      obtain ⟨p1, p2, p3⟩ := a3
      obtain ⟨u2, b1, b2, -, b3, b4⟩ := gp_begin hσ (L := L + 1) (by omega) (a2 c)
      have F2 : gp_F L u1 u2 := ⟨b4, fun a k z => b3 a k (by omega)⟩
      obtain ⟨r, u3, e1, e2, e3, e4⟩ := ih (L + 1) (gp_A a b A L t) u2 (by omega) (gp_AO hO ht ha hb c) (by rw [hAn]; exact ha) (by rw [hAn]; exact hb) b2
      rw [hAn] at e3
      have F3 := e4.down
      -- the child's end
      obtain ⟨q1, q2, q3⟩ := e3
      obtain ⟨v, k1, k2, k3⟩ := m_brings hσ (b := 2200 + 60 * (L + 1)) (by omega) (by omega) u3
      have hAv : lm_T v 234 0 (gp_A a b A L t) := q1.congr fun k hk _ _ => by rw [Nat.zero_add]; exact k2 k hk
      have hz : nI (la_n A + 1) - 1 + 1 = nI (la_n A + 1) := Int32.sub_add_cancel _ _
      have v242 : lt_gi v 242 (L + 1) = nI (la_n A + 1) - 1 := (k3.2 _ _ (by omega)).trans q2
      let v1 := lt_si v 242 (L + 1) (nI (la_n A + 1))
      have n1 : lt_gi v1 234 0 = nI (la_n A) := by
        have := lm_n (lr_mT hσ (hAv.outA (a := 242) (k := L + 1) (v := nI (la_n A + 1)) (by decide)))
        rw [lr_at hσ, hAn] at this; exact this
      have F4 : gp_F L u3 v1 := ⟨k3.1, fun a k z => by
        show lt_gi (lt_si v 242 (L + 1) (nI (la_n A + 1))) a k = _
        rw [lu_ne (by omega)]; exact k3.2 a k (by omega)⟩
      have gv : lt_gi v1 250 (L + 1) = gm_val a b (m + 1) (gp_A a b A L t) (L + 1) := by
        have : lt_gi v1 250 (L + 1) = lt_gi u3 250 (L + 1) := by
          show lt_gi (lt_si v 242 (L + 1) (nI (la_n A + 1))) 250 (L + 1) = _
          rw [lu_ne (Or.inl (by decide))]; exact k3.2 _ _ (by omega)
        have hne : gm_fold (gm_st a b m (gp_A a b A L t) (L + 1)) (la_n A + 1) ≠ none := by rw [← hAn]; exact gp_ne
        rw [this, gm_val_s, hAn]
        cases e : gm_fold (gm_st a b m (gp_A a b A L t) (L + 1)) (la_n A + 1) with
        | none => exact absurd e hne
        | some q => rw [e] at q3; exact q3.2
      have h242 : lt_gi v1 242 L = nI (t + 1) - 1 := by
        have : lt_gi v1 242 L = lt_gi u3 242 L := by
          show lt_gi (lt_si v 242 (L + 1) (nI (la_n A + 1))) 242 L = _
          rw [lu_ne (Or.inr (by omega))]; exact k3.2 _ _ (by omega)
        rw [this, e4.2 _ _ (by omega), b3 _ _ (by omega)]; exact p2
      have h251 : ∀ z, (z = 250 ∨ z = 251) → lt_gi v1 z L = lt_gi u1 z L := by
        intro z hz
        have : lt_gi v1 z L = lt_gi u3 z L := by
          show lt_gi (lt_si v 242 (L + 1) (nI (la_n A + 1))) z L = _
          rw [lu_ne (Or.inl (by omega))]; exact k3.2 _ _ (by omega)
        rw [this, e4.2 _ _ (by omega), b3 _ _ (by omega)]
      obtain ⟨u5, d1, d2, d3, d4⟩ := gp_settle hσ (L := L) (t := t) (v := gm_val a b (m + 1) (gp_A a b A L t) (L + 1)) (s := s) (u := v1) (by omega) (by rw [h242, nI_pred]) (p3.congr (h251 _ (Or.inr rfl)) (h251 _ (Or.inl rfl))) (fun q hq => by have := (hs q hq).2; omega)
      have F5 : gp_F L v1 u5 := ⟨d4, fun a k z => d3 a k (by omega)⟩
      have F := F2.trans (F3.trans (F4.trans F5))
      refine ⟨1 + r + 1, u5, by omega, fun f => ?_, ⟨p1.congr fun k hk _ _ => F.2 _ _ (by omega), by rw [d3 _ _ (by omega)]; exact h242, d2⟩, a4.trans F⟩
      have er : nI (L + 1) - nI (L + 1) / 2 * 2 = nI ((L + 1) % 2) := pk_rem (d := 2) (by omega) (by decide) (by decide)
      rw [show f + (1 + r + 1) = f + 1 + r + 1 by omega, a1 (f + 1 + r)]
      unfold fb_X12_playing_134
      rw [nI_1, if_neg (show ¬ nI (L + 1) = nI T from fun z => by have := (nI_eq (by omega) (by omega)).mp z; omega), b1, lu_bind]
      show fb_X12_playing_8 σ 233 (f + 1 + r) (nI a) (nI b) (nI T) (nI (L + 1)) u2 = _
      rw [e2 (f + 1), fb_X12_playing_8, if_neg (show ¬ nI T ≤ 0 from nI_ge (a := 0) (by omega) (by omega)), lp_level, lu_bind, k1, lu_bind, lq_r233_24 hσ, lq_l242 hσ, lu_ck (by omega) (by decide), lu_ck (by omega) (by decide), lu_let, nI_clamp (by omega), v242, hz, lu_ck (by omega) (by decide), lu_eq, lu_let]
      have ex : ∀ y, fb_X12_playing_53 σ 233 (fun x1 x2 x3 x4 w => fb_X12_playing_8 σ 233 f x1 x2 x3 x4 w) (nI a) (nI b) (nI T) (nI (L + 1)) (nI (la_n A + 1)) y v1 = fb_X12_playing_8 σ 233 f (nI a) (nI b) (nI T) (nI L) u5 := by
        intro y
        unfold fb_X12_playing_53
        rw [lr_mS hσ, lm_k0, lm_c0, lr_at hσ, n1, if_neg (nI_ge (by omega) (by omega)), if_neg (nI_ne0 (by omega) (by omega)), pk_m1, nI_1, lq_r233_32 hσ, lq_l250 hσ, lu_ck (by omega) (by decide), nI_clamp (by omega), gv, d1, lu_bind]
      have exa := ex (nI a)
      have exb := ex (nI b)
      split
      · exact exa
      · exact exb
    · simp only [if_neg c] at a1 ⊢
      exact ⟨1, u1, by omega, a1, a3, a4⟩
theorem gp_k4 (x : Option (Int32 × lt_W)) : lt_ck 0 4 x = x := lu_ck (i := 0) (by decide) (by decide)
set_option maxHeartbeats 2000000 in
/-- the whole of it, the reference -/
theorem gp_all (hσ : lr_S σ) {a b T : Nat} (hT : T ≤ 3) {A : la_A} {w : lt_W} (hA : lm_T w 234 0 A) (hO : la_Ok A) (ha : a < la_n A) (hb : b < la_n A) : ∃ w', f_X12_playing σ 233 (nI a) (nI b) (nI T) w = some (gm_val a b T A 0, w') ∧ (0 < T → gp_st w' 0 (gm_fold (gm_st a b (T - 1) A 0) (la_n A + 1))) ∧ (∀ a k, lt_gl w' a k = lt_gl w a k) ∧ ∀ a k, ((a ≠ 234 ∧ a ≠ 242 ∧ a ≠ 250 ∧ a ≠ 251) ∨ (a = 234 ∧ k < 2200)) → lt_gi w' a k = lt_gi w a k := by
  obtain ⟨v, c1, c2, c3, c4, c5⟩ := gp_begin hσ (L := 0) (by decide) hA
  have hl : f_X12_levelAt 0 = some (nI 2200) := lp_level 0
  have c1' : f_X12_beginsAt σ 233 0 w = some v := c1
  have h7 := hA.2.1
  unfold f_X12_playing fb_X12_playing_0
  rw [c1', lu_bind]
  cases T with
  | zero =>
    have hAv : lm_T v 234 0 A := hA.congr fun k hk _ _ => c4 _ _ (by omega)
    obtain ⟨u, d1, d2⟩ := gp_comes hσ hAv hO ha hb
    obtain ⟨w2, b1, b2, b3⟩ := m_brings hσ (b := 2200) (by decide) (by decide) (lt_si u 250 0 (gm_o a b A))
    refine ⟨w2, ?_, fun z => absurd z (by decide), fun a k => ?_, fun a k z => ?_⟩
    · rw [show lt_fu = lt_fu - 1 + 1 from by unfold lt_fu; omega, fb_X12_playing_8, if_pos (show nI 0 ≤ (0 : Int32) by decide)]
      unfold fb_X12_playing_169 fb_X12_playing_185
      rw [if_pos (show nI 0 = 0 from rfl), d1, lu_bind, lq_r233_32 hσ, lq_l250 hσ, gp_k4, lu_let, hl, lu_bind, lm_c0, b1, lu_bind, gp_k4, b3.2 _ _ (by omega), lu_eq]
      rfl
    · rw [b3.1]; show lt_gl u a k = _; rw [d2.1, c5]
    · by_cases c : a = 234 ∧ k < 60
      · rw [c.1, b2 k c.2, lu_ne (Or.inl (by decide)), d2.2 _ _ (by omega)]
        have := c3 k c.2
        rw [Nat.mul_zero, Nat.add_zero] at this; exact this
      · rw [b3.2 a k (by omega), lu_ne (Or.inl (by omega)), d2.2 a k (by omega), c4 a k (by omega)]
  | succ m =>
    obtain ⟨r, w1, e1, e2, e3, e4⟩ := gp_m hσ hT m 0 A v (by omega) hO ha hb c2
    obtain ⟨p1, p2, p3⟩ := e3
    obtain ⟨x1, b1, b2, b3⟩ := m_brings hσ (b := 2200) (by decide) (by decide) w1
    have hAv : lm_T x1 234 0 A := p1.congr fun k hk _ _ => by rw [Nat.zero_add, Nat.mul_zero, Nat.add_zero]; exact b2 k hk
    have hz : nI (la_n A + 1) - 1 + 1 = nI (la_n A + 1) := Int32.sub_add_cancel _ _
    let v1 := lt_si x1 242 0 (nI (la_n A + 1))
    have v242 : lt_gi x1 242 0 = nI (la_n A + 1) - 1 := (b3.2 _ _ (by omega)).trans p2
    have n1 : lt_gi v1 234 0 = nI (la_n A) := by
      have := lm_n (lr_mT hσ (hAv.outA (a := 242) (k := 0) (v := nI (la_n A + 1)) (by decide)))
      rw [lr_at hσ] at this; exact this
    obtain ⟨w2, f1, f2, f3⟩ := m_brings hσ (b := 2200) (by decide) (by decide) v1
    have s250 : ∀ z, (z = 250 ∨ z = 251) → lt_gi w2 z 0 = lt_gi w1 z 0 := by
      intro z hz
      rw [f3.2 _ _ (by omega)]
      show lt_gi (lt_si x1 242 0 (nI (la_n A + 1))) z 0 = _
      rw [lu_ne (Or.inl (by omega))]; exact b3.2 _ _ (by omega)
    have p3' : gp_st w2 0 (gm_fold (gm_st a b m A 0) (la_n A + 1)) := p3.congr (s250 _ (Or.inr rfl)) (s250 _ (Or.inl rfl))
    have gv : lt_gi w2 250 0 = gm_val a b (m + 1) A 0 := by
      rw [gm_val_s]
      cases e : gm_fold (gm_st a b m A 0) (la_n A + 1) with
      | none => exact absurd e gp_ne
      | some q => rw [e] at p3'; exact p3'.2
    have hr : r ≤ 2000 := by
      have hm : m = 0 ∨ m = 1 ∨ m = 2 := by omega
      have : gp_N (m + 1) ≤ 2000 := by rcases hm with rfl | rfl | rfl <;> decide
      omega
    refine ⟨w2, ?_, fun _ => p3', fun a k => ?_, fun a k z => ?_⟩
    · have h := e2 (lt_fu - r)
      rw [show lt_fu - r + r = lt_fu from by unfold lt_fu; omega] at h
      have h' : fb_X12_playing_8 σ 233 lt_fu (nI a) (nI b) (nI (m + 1)) 0 v = _ := h
      rw [h', show lt_fu - r = lt_fu - r - 1 + 1 from by unfold lt_fu; omega, fb_X12_playing_8, if_neg (show ¬ nI (m + 1) ≤ 0 from nI_ge (a := 0) (by omega) (by omega)), lp_level, lu_bind, b1, lu_bind, lq_r233_24 hσ, lq_l242 hσ, lu_ck (by omega) (by decide), lu_ck (by omega) (by decide), lu_let, nI_clamp (by omega), v242, hz, lu_ck (by omega) (by decide), lu_eq, lu_let]
      have ex : ∀ y, fb_X12_playing_53 σ 233 (fun x1 x2 x3 x4 w => fb_X12_playing_8 σ 233 (lt_fu - r - 1) x1 x2 x3 x4 w) (nI a) (nI b) (nI (m + 1)) (nI 0) (nI (la_n A + 1)) y v1 = some (gm_val a b (m + 1) A 0, w2) := by
        intro y
        unfold fb_X12_playing_53 fb_X12_playing_169 fb_X12_playing_185
        rw [lr_mS hσ, lm_k0, lm_c0, lr_at hσ, n1, if_neg (nI_ge (by omega) (by omega)), if_pos (show nI 0 = 0 from rfl), if_neg (nI_ne0 (by omega) (by omega)), hl, lu_bind, f1, lu_bind, lq_r233_32 hσ, lq_l250 hσ, gp_k4, gv]
      have exa := ex (nI a)
      have exb := ex (nI b)
      split
      · exact exa
      · exact exb
    · rw [f3.1]; show lt_gl x1 a k = _; rw [b3.1, e4.1, c5]
    · by_cases c : a = 234 ∧ k < 60
      · rw [c.1, f2 k c.2]
        show lt_gi (lt_si x1 242 0 (nI (la_n A + 1))) 234 (2200 + k) = _
        rw [lu_ne (Or.inl (by decide)), b3.2 _ _ (by omega), e4.2 _ _ (by omega)]
        have := c3 k c.2
        rw [Nat.mul_zero, Nat.add_zero] at this; exact this
      · rw [f3.2 a k (by omega)]
        show lt_gi (lt_si x1 242 0 (nI (la_n A + 1))) a k = _
        rw [lu_ne (by omega), b3.2 a k (by omega), e4.2 a k (by omega), c4 a k (by omega)]
theorem gp_Q {w w' : lt_W} (h1 : ∀ a k, lt_gl w' a k = lt_gl w a k) (h2 : ∀ a k, ((a ≠ 234 ∧ a ≠ 242 ∧ a ≠ 250 ∧ a ≠ 251) ∨ (a = 234 ∧ k < 2200)) → lt_gi w' a k = lt_gi w a k) : lr_Q w w' :=
  ⟨⟨fun a k z => h2 a k (by unfold lr_px at z; omega), fun a k _ => h1 a k⟩, fun a k z => h2 a k (by unfold lr_pt at z; omega)⟩
/-- the whole of it, the class -/
theorem gp_c (hσ : lr_S σ) {a b T : Nat} (hT : T ≤ 3) {A : la_A} {w : lt_W} (hA : lc_T w 12 A) (hO : la_Ok A) (ha : a < la_n A) (hb : b < la_n A) (hab : a ≠ b) : ∃ w', f_X1_outcomeOf σ 150 (nI a) (nI b) (nI T) w = some (gm_val a b T A 0, w') ∧ (0 < T → lt_gi w' 150 6 = gm_mv (la_n A) (gm_fold (gm_st a b (T - 1) A 0) (la_n A + 1))) ∧ lu_Fg 150 169 w w' := by
  obtain ⟨w1, a1, a2, a3⟩ := lc_copyT (w := lt_si (lt_si (lt_si (lt_si w 150 3 (nI a)) 150 4 (nI b)) 150 5 (nI T)) 150 6 (-1)) (A := A) (lr_tab hσ (o := 151) (by decide)) (lr_nowS hσ) (by omega) ((((hA.out (by omega)).out (by omega)).out (by omega)).out (by omega))
  obtain ⟨w', b1, b2, b3, b4⟩ := gc_best hσ hT T 0 8 A w1 (by omega) (by omega) a2 hO ha hb hab
    (by rw [(a3 150 3 (by omega)).1, lu_ne (Or.inr (by decide)), lu_ne (Or.inr (by decide)), lu_ne (Or.inr (by decide)), lu_eq])
    (by rw [(a3 150 4 (by omega)).1, lu_ne (Or.inr (by decide)), lu_ne (Or.inr (by decide)), lu_eq])
    (by rw [(a3 150 5 (by omega)).1, lu_ne (Or.inr (by decide)), lu_eq])
  refine ⟨w', ?_, fun z => b4 rfl z, ?_⟩
  · have hmin : lt_min (nI T) 3 = nI T := by
      rw [show (3 : Int32) = nI 3 from rfl, lu_min (by omega) (by decide), Nat.min_eq_left hT]
    have b1' : f_X1_bestFrom σ 150 8 0 w1 = _ := b1
    unfold f_X1_outcomeOf fb_X1_outcomeOf_0
    rw [lu_let, lu_let, hmin, lu_let, lu_let, lq_r150_1 hσ, lq_r150_0 hσ, a1, lu_bind, b1', lu_bind]
  · refine lu_Fg.trans ?_ b3.2
    exact (((((lu_Fg.refl 150 169 w).si (by decide) (by decide)).si (by decide) (by decide)).si (by decide) (by decide)).si (by decide) (by decide)).trans (a3.wide (by omega) (by omega))
theorem op_game (hσ : lr_S σ) {w : lt_W} {A : la_A} (h : lr_0 w A) (x y z : Int32) : lr_ok (f_X11_game σ 0 x y z) (f_X12_game σ 233 x y z) w := by
  rcases lq_two (lr_mS hσ) (lr_now hσ) h.c (h.m hσ) x y with ⟨e1, e2⟩ | ⟨i, j, hi, hj, hij, rfl, rfl, e1, e2⟩
  · refine op_refuse h (r := -1) (st := 1) ?_ (fun w1 h1 => ?_)
    · unfold f_X11_game fb_X11_game_0
      rw [e1, lu_bind, if_pos rfl]; rfl
    · have two : f_X12_areTwo σ 233 x y w1 = some 0 := by
        rcases lq_two (lr_mS hσ) (lr_now hσ) h.c (h1.m hσ) x y with ⟨-, e3⟩ | ⟨_, _, _, _, _, _, _, e3, _⟩
        · exact e3
        · rw [e1] at e3; cases e3
      unfold f_X12_game fb_X12_game_0
      rw [two, lu_bind, if_pos rfl]; rfl
  · have two : ∀ w1, lr_0 w1 A → f_X12_areTwo σ 233 (nI i) (nI j) w1 = some 1 := fun w1 h1 => by
      rcases lq_two (lr_mS hσ) (lr_now hσ) h.c (h1.m hσ) (nI i) (nI j) with ⟨e3, -⟩ | ⟨_, _, _, _, _, _, _, _, e3⟩
      · rw [e1] at e3; cases e3
      · exact e3
    by_cases c : lq_b z 0 3
    · obtain ⟨T, -, hT, rfl⟩ := c.R (by decide) (by decide)
      refine lr_ok.q h (r := gm_val i j T A 0) (st := 0) ?_ (fun w1 h1 => ?_)
      · obtain ⟨w', a1, a2, a3⟩ := gp_c hσ hT h.c h.O hi hj hij
        refine lr_cq.of (w' := w') ?_ (lr_Q.ofFg a3 (by decide) (by decide))
        unfold f_X11_game fb_X11_game_0
        rw [e1, lu_bind, if_neg lu_10, lq_within_y (lo := 0) (hi := 3) 0 3 rfl rfl c, lu_bind, if_neg lu_10, lq_r0_12 hσ, a1, lu_bind]; rfl
      · obtain ⟨w', a1, a2, a3, a4⟩ := gp_all hσ hT (lr_mT' hσ (h1.m hσ)) h1.O hi hj
        refine lr_mq.of (w' := w') ?_ (gp_Q a3 a4) (a4 _ _ (by omega))
        unfold f_X12_game fb_X12_game_0
        rw [two w1 h1, lu_bind, if_neg lu_10, lq_from_y (lo := 0) (hi := 3) 0 3 rfl rfl (by decide) (by decide) c, lu_bind, if_neg lu_10, a1, lu_bind]; rfl
    · refine op_refuse h (r := -1) (st := 1) ?_ (fun w1 h1 => ?_)
      · unfold f_X11_game fb_X11_game_0
        rw [e1, lu_bind, if_neg lu_10, lq_within_n (lo := 0) (hi := 3) 0 3 rfl rfl c, lu_bind, if_pos rfl]; rfl
      · unfold f_X12_game fb_X12_game_0
        rw [two w1 h1, lu_bind, if_neg lu_10, lq_from_n (lo := 0) (hi := 3) 0 3 rfl rfl (by decide) (by decide) c, lu_bind, if_pos rfl]; rfl
theorem op_moveOf (hσ : lr_S σ) {w : lt_W} {A : la_A} (h : lr_0 w A) (x y z : Int32) : lr_ok (f_X11_moveOf σ 0 x y z) (f_X12_moveOf σ 233 x y z) w := by
  rcases lq_two (lr_mS hσ) (lr_now hσ) h.c (h.m hσ) x y with ⟨e1, e2⟩ | ⟨i, j, hi, hj, hij, rfl, rfl, e1, e2⟩
  · refine op_refuse h (r := -1) (st := 1) ?_ (fun w1 h1 => ?_)
    · unfold f_X11_moveOf fb_X11_moveOf_0
      rw [e1, lu_bind, if_pos rfl]; rfl
    · have two : f_X12_areTwo σ 233 x y w1 = some 0 := by
        rcases lq_two (lr_mS hσ) (lr_now hσ) h.c (h1.m hσ) x y with ⟨-, e3⟩ | ⟨_, _, _, _, _, _, _, e3, _⟩
        · exact e3
        · rw [e1] at e3; cases e3
      unfold f_X12_moveOf fb_X12_moveOf_0
      rw [two, lu_bind, if_pos rfl]; rfl
  · have two : ∀ w1, lr_0 w1 A → f_X12_areTwo σ 233 (nI i) (nI j) w1 = some 1 := fun w1 h1 => by
      rcases lq_two (lr_mS hσ) (lr_now hσ) h.c (h1.m hσ) (nI i) (nI j) with ⟨e3, -⟩ | ⟨_, _, _, _, _, _, _, _, e3⟩
      · rw [e1] at e3; cases e3
      · exact e3
    by_cases c : lq_b z 1 3
    · obtain ⟨T, hT1, hT, rfl⟩ := c.R (by decide) (by decide)
      have h7 := h.c.2.1
      have hok : gm_ok (gm_fold (gm_st i j (T - 1) A 0) (la_n A + 1)) (la_n A) := gm_fold_ok (fun i s hi hs => gm_st_ok hs hi) _ (Nat.le_refl _)
      refine lr_ok.q h (r := gm_mv (la_n A) (gm_fold (gm_st i j (T - 1) A 0) (la_n A + 1))) (st := if gm_mv (la_n A) (gm_fold (gm_st i j (T - 1) A 0) (la_n A + 1)) = -1 then 6 else 0) ?_ (fun w1 h1 => ?_)
      · obtain ⟨w', a1, a2, a3⟩ := gp_c hσ hT h.c h.O hi hj hij
        refine lr_cq.gia (σ := σ) (w' := w') ?_ (lr_Q.ofFg a3 (by decide) (by decide))
        unfold f_X11_moveOf fb_X11_moveOf_0
        rw [e1, lu_bind, if_neg lu_10, lq_within_y (lo := 1) (hi := 3) 1 3 rfl rfl c, lu_bind, if_neg lu_10, lq_r0_12 hσ, a1, lu_bind, a2 (by omega)]
      · obtain ⟨w', a1, a2, a3, a4⟩ := gp_all hσ hT (lr_mT' hσ (h1.m hσ)) h1.O hi hj
        have n1 : lt_gi w' 234 0 = nI (la_n A) := by
          rw [a4 _ _ (by omega)]
          have := lm_n (h1.m hσ)
          rw [lr_at hσ] at this; exact this
        have a2' := a2 (by omega)
        refine lr_mq.of (w' := w') ?_ (gp_Q a3 a4) (a4 _ _ (by omega))
        unfold f_X12_moveOf fb_X12_moveOf_0
        rw [two w1 h1, lu_bind, if_neg lu_10, lq_from_y (lo := 1) (hi := 3) 1 3 rfl rfl (by decide) (by decide) c, lu_bind, if_neg lu_10, a1, lu_bind, lq_r233_33 hσ, lq_l251 hσ, gp_k4, lr_mS hσ, lm_k0, gp_k4, lm_c0, lr_at hσ, n1]
        cases e : gm_fold (gm_st i j (T - 1) A 0) (la_n A + 1) with
        | none => exact absurd e gp_ne
        | some q =>
          rw [e] at a2' hok
          have hq := (hok q rfl).2
          rw [a2'.1]
          by_cases cq : q.2 < la_n A
          · have em : gm_mv (la_n A) (some q) = nI q.2 := by unfold gm_mv; simp only []; rw [if_pos cq]
            simp only [em, if_neg (show ¬ nI q.2 = nI (la_n A) from fun z => by have := (nI_eq (by omega) (by omega)).mp z; omega), if_neg (show ¬ nI q.2 = -1 from lu_ne1 (by omega))]; rfl
          · have em : gm_mv (la_n A) (some q) = -1 := by unfold gm_mv; simp only []; rw [if_neg cq]
            have e2 : nI q.2 = nI (la_n A) := by rw [show q.2 = la_n A by omega]
            simp only [em, if_pos e2, if_true]; rfl
    · refine op_refuse h (r := -1) (st := 1) ?_ (fun w1 h1 => ?_)
      · unfold f_X11_moveOf fb_X11_moveOf_0
        rw [e1, lu_bind, if_neg lu_10, lq_within_n (lo := 1) (hi := 3) 1 3 rfl rfl c, lu_bind, if_pos rfl]; rfl
      · unfold f_X12_moveOf fb_X12_moveOf_0
        rw [two w1 h1, lu_bind, if_neg lu_10, lq_from_n (lo := 1) (hi := 3) 1 3 rfl rfl (by decide) (by decide) c, lu_bind, if_pos rfl]; rfl
end GP