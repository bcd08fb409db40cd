/-! TRAYS: write, read, pour, copies -/
theorem lr_tr1.congr {w w' : lt_W} {j : Nat} (h : lr_tr1 w j) (e1 : ∀ k, lt_gi w' (2 + 2 * j) k = lt_gi w (2 + 2 * j) k) (e2 : lt_gi w' 237 j = lt_gi w 237 j) (e3 : lt_gi w' 236 j = lt_gi w 236 j) (e4 : ∀ k, k < 60 → lt_gl w' (3 + 2 * j) k = lt_gl w (3 + 2 * j) k) (e5 : ∀ k, k < 60 → lt_gl w' 238 (60 * j + k) = lt_gl w 238 (60 * j + k)) : lr_tr1 w' j := by
  unfold lr_tr1 at h ⊢
  rw [e1, e1, e1, e2, e3]
  rcases h with q | ⟨q, m', s', q1, q2, q3, q4, q5, q6, q7⟩
  · exact Or.inl q
  · exact Or.inr ⟨q, m', s', q1, q2, q3, q4, q5, q6, fun k hk => by rw [e4 k (by omega), e5 k (by omega)]; exact q7 k hk⟩
section TR2
variable {σ : lt_S}
/-- a laid tray at both sides -/
def lt_laid (w : lt_W) (i m s : Nat) : Prop := m ≤ 60 ∧ s ≤ 3 ∧ lt_gi w (2 + 2 * i) 0 = 1 ∧ lt_gi w (2 + 2 * i) 2 = nI m ∧ lt_gi w 237 i = nI m ∧ lt_gi w (2 + 2 * i) 1 = nI s ∧ lt_gi w 236 i = nI s ∧ ∀ k, k < m → lt_gl w (3 + 2 * i) k = lt_gl w 238 (60 * i + k)
theorem lt_laid_or {w : lt_W} {A : la_A} (h : lr_0 w A) {i : Nat} (hi : i < 4) : (lt_gi w (2 + 2 * i) 0 = 0 ∧ lt_gi w 237 i = -1) ∨ ∃ m s, lt_laid w i m s := by
  rcases h.1.2.1 i hi with q | ⟨q, m, s, q1, q2, q3, q4, q5, q6, q7⟩
  · exact Or.inl q
  · exact Or.inr ⟨m, s, q1, q2, q, q3, q4, q5, q6, q7⟩
/-- both refuse a place alike -/
theorem lt_codes (hσ : lr_S σ) {w : lt_W} {A : la_A} (h : lr_0 w A) (x p : Int32) : (∃ c : Int32, (c = 1 ∨ c = 2 ∨ c = 3) ∧ f_X11_trayFails σ 0 x p 1 w = some c ∧ ∀ w1, lr_Q w w1 → f_X12_wrongPlace σ 233 x p w1 = some c) ∨ (∃ i m s q, i < 4 ∧ x = nI i ∧ p = nI q ∧ q < m ∧ lt_laid w i m s ∧ f_X11_trayFails σ 0 x p 1 w = some 0 ∧ ∀ w1, (∀ a k, a = 237 → lt_gi w1 a k = lt_gi w a k) → f_X12_wrongPlace σ 233 x p w1 = some 0) := by
  rcases lt_ix4 (x := x) with hx | ⟨i, hi, rfl⟩
  · exact Or.inl ⟨1, Or.inl rfl, lt_tfN hx _ _, fun w1 _ => lt_wpN hx _⟩
  rcases lt_laid_or h hi with ⟨q1, q2⟩ | ⟨m, s, hL⟩
  · refine Or.inl ⟨2, Or.inr (Or.inl rfl), ?_, fun w1 hq => ?_⟩
    · rw [lt_tf hσ hi, if_pos q1]
    · rw [lt_wp hσ hi, if_pos]
      rw [hq.1.1 _ _ (by unfold lr_px; omega)]; exact q2
  · obtain ⟨m60, s3, l0, l2, r2, l1, r1, ln⟩ := hL
    have n0 : ¬ lt_gi w (2 + 2 * i) 0 = 0 := by rw [l0]; decide
    have n1 : ¬ lt_gi w 237 i = -1 := by rw [r2]; exact lu_ne1 (by omega)
    by_cases c0 : p < 0
    · refine Or.inl ⟨3, Or.inr (Or.inr rfl), ?_, fun w1 hq => ?_⟩
      · rw [lt_tf hσ hi, if_neg n0, lt_hasN c0]; rfl
      · rw [lt_wp hσ hi, hq.1.1 237 i (by unfold lr_px; omega), if_neg n1, if_pos c0]
    · obtain ⟨q, hq, rfl⟩ := nI_of c0
      have hh := lt_has (σ := σ) (o := 2 + 2 * i) (w := w) m60 l2 hq (c := 1) (by decide)
      by_cases c1 : q < m
      · refine Or.inr ⟨i, m, s, q, hi, rfl, rfl, c1, ⟨m60, s3, l0, l2, r2, l1, r1, ln⟩, ?_, fun w1 hq1 => ?_⟩
        · rw [lt_tf hσ hi, if_neg n0, show (1 : Int32) = nI 1 from rfl, hh, lu_bind, lu_q, if_pos (by omega)]
        · rw [lt_wp hσ hi, hq1 237 i rfl, if_neg n1, if_neg c0, r2, if_pos (nI_lt c1 (by omega))]
      · refine Or.inl ⟨3, Or.inr (Or.inr rfl), ?_, fun w1 hq1 => ?_⟩
        · rw [lt_tf hσ hi, if_neg n0, show (1 : Int32) = nI 1 from rfl, hh, lu_bind, lu_q, if_neg (by omega)]
        · rw [lt_wp hσ hi, hq1.1.1 237 i (by unfold lr_px; omega), if_neg n1, if_neg c0, r2, if_neg (nI_nlt (by omega) (by omega))]
theorem op_refuse2 {fc fm : lt_W → Option (Int32 × lt_W)} {w : lt_W} {A : la_A} (h : lr_0 w A) {r st : Int32} (hc : fc w = some (r, lt_si w 0 0 st)) (hm : ∀ w1, lr_0 w1 A → lr_Q w w1 → fm w1 = some (r, lt_si w1 233 2 st)) : lr_ok fc fm w :=
  lr_ok.q2 h (lr_cq.of0 hc) fun w1 h1 hq => lr_mq.of0 (hm w1 h1 hq)
theorem op_write (hσ : lr_S σ) {w : lt_W} {A : la_A} (h : lr_0 w A) (x p : Int32) (v : Int64) : lr_ok (f_X11_write σ 0 x p v) (f_X12_write σ 233 x p v) w := by
  rcases lt_codes hσ h x p with ⟨c, hc, e1, e2⟩ | ⟨i, m, s, q, hi, rfl, rfl, hq, hL, e1, e2⟩
  · have c0 : ¬ c = 0 := by rcases hc with rfl | rfl | rfl <;> decide
    refine op_refuse2 h (r := 0) (st := c) ?_ (fun w1 h1 hQ => ?_)
    · unfold f_X11_write fb_X11_write_0
      rw [e1, lu_bind, if_neg c0]; rfl
    · unfold f_X12_write fb_X12_write_0 fb_X12_write_34
      rw [e2 w1 hQ, lu_bind, if_neg c0, lq_is c0]; rfl
  · obtain ⟨m60, s3, l0, l2, r2, l1, r1, ln⟩ := hL
    obtain ⟨t1, t2, t3⟩ := lt_trR hσ hi
    refine lr_ok.tr (wa := lt_sl w (3 + 2 * i) q (lt_shr v s)) (r := 1) (st := 0) h ?_ (fun a k z => ⟨rfl, by rw [lu_glsl, if_neg (by omega)]⟩) (fun w1 h1 => ⟨lt_sl w1 238 (60 * i + q) (lt_shr v s), ?_, ⟨fun _ _ _ _ => rfl, fun a k z => by rw [lu_glsl, if_neg (fun y => z y.1)]⟩, fun j hj => ?_⟩)
    · unfold f_X11_write fb_X11_write_0
      rw [e1, lu_bind, if_pos rfl, lq_r0_3 hσ, lq_l1 hσ, lu_ck hi (by decide), nI_clamp (by omega), t1, lt_put hσ hi m60 s3 l2 l1 hq, lu_bind]; rfl
    · unfold f_X12_write fb_X12_write_0 fb_X12_write_34
      rw [e2 w1 (fun a k z => by rw [(h1 a k (by omega)).1]; rfl), lu_bind, if_pos rfl, lq_r233_5 hσ, lq_l236 hσ, lu_ck hi (by decide), nI_clamp (by omega), (h1 236 i (by omega)).1, lu_gisl, r1, lt_shrunk s3, lu_bind, lq_r233_7 hσ, lq_l238 hσ, show (60 : Int32) = nI 60 from rfl, pk_mul, nI_add, lu_ck (by omega) (by decide), lu_let, nI_clamp (by omega)]; rfl
    · have old := h.1.2.1 j hj
      by_cases e : j = i
      · subst e
        refine Or.inr ⟨?_, m, s, m60, s3, ?_, ?_, ?_, ?_, fun k hk => ?_⟩
        · rw [lu_gisl, (h1 _ _ (by omega)).1]; exact l0
        · rw [lu_gisl, (h1 _ _ (by omega)).1]; exact l2
        · rw [lu_gisl, (h1 _ _ (by omega)).1]; exact r2
        · rw [lu_gisl, (h1 _ _ (by omega)).1]; exact l1
        · rw [lu_gisl, (h1 _ _ (by omega)).1]; exact r1
        · rw [lu_glsl, if_neg (by omega), (h1 _ _ (by omega)).2, lu_glsl, lu_glsl, (h1 _ _ (by omega)).2, lu_glsl]
          by_cases ek : k = q
          · rw [if_pos ⟨rfl, ek⟩, if_pos ⟨rfl, by omega⟩]
          · rw [if_neg (by omega), if_neg (by omega), if_neg (by omega)]; exact ln k hk
      · refine old.congr (fun k => ?_) ?_ ?_ (fun k hk => ?_) (fun k hk => ?_)
        · rw [lu_gisl, (h1 _ _ (by omega)).1]; rfl
        · rw [lu_gisl, (h1 _ _ (by omega)).1]; rfl
        · rw [lu_gisl, (h1 _ _ (by omega)).1]; rfl
        · rw [lu_glsl, if_neg (by omega), (h1 _ _ (by omega)).2, lu_glsl, if_neg (by omega)]
        · rw [lu_glsl, if_neg (by omega), (h1 _ _ (by omega)).2, lu_glsl, if_neg (by omega)]
/-- read(): a long -/
def lr_okL (fc fm : lt_W → Option (Int64 × lt_W)) (w : lt_W) : Prop := ∃ r w1 w2, fc w = some (r, w1) ∧ fm w1 = some (r, w2) ∧ lr_R w2
theorem op_read (hσ : lr_S σ) {w : lt_W} {A : la_A} (h : lr_0 w A) (x p : Int32) : lr_okL (f_X11_read σ 0 x p) (f_X12_read σ 233 x p) w := by
  have fin : ∀ c : Int32, lr_R (lt_si (lt_si w 0 0 c) 233 2 c) := fun c => by
    refine ⟨?_, A, (h.congr ((lr_Q.refl w).si lr_px00 lr_pt00)).congr ((lr_Q.refl _).si lr_px2 lr_pt2)⟩
    rw [lu_eq, lu_ne (Or.inl (by decide)), lu_eq]
  rcases lt_codes hσ h x p with ⟨c, hc, e1, e2⟩ | ⟨i, m, s, q, hi, rfl, rfl, hq, hL, e1, e2⟩
  · have c0 : ¬ c = 0 := by rcases hc with rfl | rfl | rfl <;> decide
    have c1 : ¬ c ≤ 0 := by rcases hc with rfl | rfl | rfl <;> decide
    refine ⟨-1, lt_si w 0 0 c, lt_si (lt_si w 0 0 c) 233 2 c, ?_, ?_, fin c⟩
    · unfold f_X11_read fb_X11_read_0
      rw [e1, lu_bind, if_neg c0]; rfl
    · unfold f_X12_read fb_X12_read_0
      rw [e2 _ ((lr_Q.refl w).si lr_px00 lr_pt00), lu_bind, lu_let, lu_eq, if_neg c1]
  · obtain ⟨m60, s3, l0, l2, r2, l1, r1, ln⟩ := hL
    obtain ⟨t1, t2, t3⟩ := lt_trR hσ hi
    refine ⟨lt_gl w (3 + 2 * i) q, lt_si w 0 0 0, lt_si (lt_si w 0 0 0) 233 2 0, ?_, ?_, fin 0⟩
    · unfold f_X11_read fb_X11_read_0
      rw [e1, lu_bind, if_pos rfl, lu_let, lq_r0_3 hσ, lq_l1 hσ, lu_ck hi (by decide), nI_clamp (by omega), t1, t2, t3, lu_ck (by omega) (by decide), nI_clamp (by omega)]; rfl
    · unfold f_X12_read fb_X12_read_0
      rw [e2 (lt_si w 0 0 0) (fun a k z => lu_ne (Or.inl (by omega))), lu_bind, lu_let, lu_eq, if_pos (by decide), lq_r233_7 hσ, lq_l238 hσ, show (60 : Int32) = nI 60 from rfl, pk_mul, nI_add, lu_ck (by omega) (by decide), nI_clamp (by omega), ln q hq]; rfl
/-- copyWishes() -/
theorem lt_cw (hσ : lr_S σ) {w : lt_W} {A : la_A} (hA : lc_T w 12 A) {i m s : Nat} (hi : i < 4) (hL : lt_laid w i m s) (hn : la_n A ≤ m) : ∃ wa, fb_X11_copyWishes_26 σ 0 lt_fu (nI i) 0 w = some (nI (la_n A), lt_si wa 0 0 0) ∧ (∀ a k, lt_gi wa a k = lt_gi w a k) ∧ (∀ a k, a ≠ 3 + 2 * i → lt_gl wa a k = lt_gl w a k) ∧ (∀ k, k < la_n A → lt_gl wa (3 + 2 * i) k = lt_shr (A.2 k 0).toInt64 s) ∧ ∀ k, la_n A ≤ k → lt_gl wa (3 + 2 * i) k = lt_gl w (3 + 2 * i) k := by
  obtain ⟨m60, s3, l0, l2, r2, l1, r1, ln⟩ := hL
  obtain ⟨t1, t2, t3⟩ := lt_trR hσ hi
  obtain ⟨⟨s0, s1, s2, s3', s4, s5, s6, s7, s8⟩, n1, n2, n3, n4, n5, n6, n7, n8⟩ := lr_nowS hσ
  have h7 := hA.2.1
  have := lu_upR (fun f k u => fb_X11_copyWishes_26 σ 0 f (nI i) (nI k) u) (la_n A) (fun k u => (∀ a k, lt_gi u a k = lt_gi w a k) ∧ (∀ a k, a ≠ 3 + 2 * i → lt_gl u a k = lt_gl w a k) ∧ (∀ j, j < k → lt_gl u (3 + 2 * i) j = lt_shr (A.2 j 0).toInt64 s) ∧ ∀ j, k ≤ j → lt_gl u (3 + 2 * i) j = lt_gl w (3 + 2 * i) j) (fun r => ∃ wa, r = (nI (la_n A), lt_si wa 0 0 0) ∧ (∀ a k, lt_gi wa a k = lt_gi w a k) ∧ (∀ a k, a ≠ 3 + 2 * i → lt_gl wa a k = lt_gl w a k) ∧ (∀ k, k < la_n A → lt_gl wa (3 + 2 * i) k = lt_shr (A.2 k 0).toInt64 s) ∧ ∀ k, la_n A ≤ k → lt_gl wa (3 + 2 * i) k = lt_gl w (3 + 2 * i) k) (fun f k u hk hI => ?_) (fun f u hI => ?_) lt_fu 0 w (by omega) (by unfold lt_fu; omega) ⟨fun _ _ => rfl, fun _ _ _ => rfl, fun j hj => by omega, fun _ _ => rfl⟩
  · obtain ⟨r, e1, wa, e2, e3⟩ := this
    exact ⟨wa, by rw [← e2]; exact e1, e3⟩
  · obtain ⟨x1, x2, x3, x4⟩ := hI
    obtain ⟨a0, -⟩ := hA.2.2.2.2 k hk
    show ∃ b', fb_X11_copyWishes_26 σ 0 (f + 1) _ (nI k) u = fb_X11_copyWishes_26 σ 0 f _ (nI (k + 1)) b' ∧ _
    rw [fb_X11_copyWishes_26, lr_now hσ, x1, if_neg (lc_lt hA hk), lq_r0_3 hσ, lq_l1 hσ, lu_ck hi (by decide), s2, lu_ck (by omega) (by omega), nI_clamp (by omega), nI_clamp (by omega), t1, x1, a0, lt_put hσ hi m60 s3 (by rw [x1]; exact l2) (by rw [x1]; exact l1) (by omega), lu_bind, nI_1]
    refine ⟨_, rfl, x1, fun a j z => by rw [lu_glsl, if_neg (fun y => z y.1)]; exact x2 a j z, fun j hj => ?_, fun j hj => ?_⟩
    · rw [lu_glsl]
      by_cases e : j = k
      · rw [if_pos ⟨rfl, e⟩, e]
      · rw [if_neg (fun y => e y.2)]; exact x3 j (by omega)
    · rw [lu_glsl, if_neg (by omega)]; exact x4 j (by omega)
  · obtain ⟨x1, x2, x3, x4⟩ := hI
    show ∃ r, fb_X11_copyWishes_26 σ 0 (f + 1) _ _ u = _ ∧ _
    rw [fb_X11_copyWishes_26, lr_now hσ, x1, if_pos (lc_ge hA (by omega) (Nat.le_refl _)), lc_n hA]
    exact ⟨_, rfl, u, rfl, x1, x2, x3, x4⟩
theorem lt_cwm (hσ : lr_S σ) {w : lt_W} {A : la_A} (hA : lm_T w (lt_r σ 233 0) 0 A) {i m s : Nat} (hi : i < 4) (m60 : m ≤ 60) (s3 : s ≤ 3) (r1 : lt_gi w 236 i = nI s) (hn : la_n A ≤ m) : ∃ wb, fb_X12_copyWishes_52 σ 233 lt_fu (nI i) 0 w = some (nI (la_n A), lt_si wb 233 2 0) ∧ (∀ a k, lt_gi wb a k = lt_gi w a k) ∧ (∀ a k, a ≠ 238 → lt_gl wb a k = lt_gl w a k) ∧ (∀ k, k < la_n A → lt_gl wb 238 (60 * i + k) = lt_shr (A.2 k 0).toInt64 s) ∧ ∀ k, (k < 60 * i ∨ 60 * i + la_n A ≤ k) → lt_gl wb 238 k = lt_gl w 238 k := by
  have hS := lr_mS hσ
  have h7 := hA.2.1
  have := lu_upR (fun f k u => fb_X12_copyWishes_52 σ 233 f (nI i) (nI k) u) (la_n A) (fun k u => (∀ a k, lt_gi u a k = lt_gi w a k) ∧ (∀ a k, a ≠ 238 → lt_gl u a k = lt_gl w a k) ∧ (∀ j, j < k → lt_gl u 238 (60 * i + j) = lt_shr (A.2 j 0).toInt64 s) ∧ ∀ j, (j < 60 * i ∨ 60 * i + k ≤ j) → lt_gl u 238 j = lt_gl w 238 j) (fun r => ∃ wa, r = (nI (la_n A), lt_si wa 233 2 0) ∧ (∀ a k, lt_gi wa a k = lt_gi w a k) ∧ (∀ a k, a ≠ 238 → lt_gl wa a k = lt_gl w a k) ∧ (∀ k, k < la_n A → lt_gl wa 238 (60 * i + k) = lt_shr (A.2 k 0).toInt64 s) ∧ ∀ k, (k < 60 * i ∨ 60 * i + la_n A ≤ k) → lt_gl wa 238 k = lt_gl w 238 k) (fun f k u hk hI => ?_) (fun f u hI => ?_) lt_fu 0 w (by omega) (by unfold lt_fu; omega) ⟨fun _ _ => rfl, fun _ _ _ => rfl, fun j hj => by omega, fun _ _ => rfl⟩
  · obtain ⟨r, e1, wa, e2, e3⟩ := this
    exact ⟨wa, by rw [← e2]; exact e1, e3⟩
  · obtain ⟨x1, x2, x3, x4⟩ := hI
    have hB : lm_T u (lt_r σ 233 0) 0 A := hA.congr fun k _ _ _ => x1 _ _
    show ∃ b', fb_X12_copyWishes_52 σ 233 (f + 1) _ (nI k) u = fb_X12_copyWishes_52 σ 233 f _ (nI (k + 1)) b' ∧ _
    rw [fb_X12_copyWishes_52, hS, lm_k0, lm_c0, if_neg (lm_lt hB hk), lm_of (x := 0) (f := 0) hS hB hk rfl (by decide), lu_bind, lq_r233_5 hσ, lq_l236 hσ, lu_ck hi (by decide), nI_clamp (by omega), x1, r1, lt_shrunk s3, lu_bind, lq_r233_7 hσ, lq_l238 hσ, show (60 : Int32) = nI 60 from rfl, pk_mul, nI_add, lu_ck (by omega) (by decide), lu_let, nI_clamp (by omega), nI_1]
    refine ⟨_, rfl, x1, fun a j z => by rw [lu_glsl, if_neg (fun y => z y.1)]; exact x2 a j z, fun j hj => ?_, fun j hj => ?_⟩
    · rw [lu_glsl]
      by_cases e : j = k
      · rw [if_pos ⟨rfl, by omega⟩, e]
      · rw [if_neg (by omega)]; exact x3 j (by omega)
    · rw [lu_glsl, if_neg (by omega)]; exact x4 j (by omega)
  · obtain ⟨x1, x2, x3, x4⟩ := hI
    have hB : lm_T u (lt_r σ 233 0) 0 A := hA.congr fun k _ _ _ => x1 _ _
    show ∃ r, fb_X12_copyWishes_52 σ 233 (f + 1) _ _ u = _ ∧ _
    rw [fb_X12_copyWishes_52, hS, lm_k0, lm_c0, if_pos (lm_ge hB (by omega) (Nat.le_refl _)), lm_k0, lm_n hB]
    exact ⟨_, rfl, u, rfl, x1, x2, x3, x4⟩
theorem op_copyWishes (hσ : lr_S σ) {w : lt_W} {A : la_A} (h : lr_0 w A) (x : Int32) : lr_ok (f_X11_copyWishes σ 0 x) (f_X12_copyWishes σ 233 x) w := by
  have h7 := h.n7
  have hS := lr_mS hσ
  rcases lt_ix4 (x := x) with hx | ⟨i, hi, rfl⟩
  · refine op_refuse h (r := -1) (st := 1) ?_ (fun w1 h1 => ?_)
    · unfold f_X11_copyWishes fb_X11_copyWishes_0
      rw [lt_tfN hx, lu_bind, if_neg lu_10]; rfl
    · unfold f_X12_copyWishes fb_X12_copyWishes_0
      rw [(lt_isT_n hx).2, lu_bind, if_pos rfl]; rfl
  rcases lt_laid_or h hi with ⟨q1, q2⟩ | ⟨m, s, hL⟩
  · refine op_refuse2 h (r := -1) (st := 2) ?_ (fun w1 h1 hQ => ?_)
    · unfold f_X11_copyWishes fb_X11_copyWishes_0
      rw [lt_tf hσ hi, if_pos q1, lu_bind, if_neg (by decide)]; rfl
    · unfold f_X12_copyWishes fb_X12_copyWishes_0
      rw [(lt_isT_y hi).2, lu_bind, if_neg lu_10, lq_r233_6 hσ, lq_l237 hσ, lu_ck hi (by decide), nI_clamp (by omega), hQ.1.1 237 i (by unfold lr_px; omega), if_pos q2]; rfl
  · have hL' := hL
    obtain ⟨m60, s3, l0, l2, r2, l1, r1, ln⟩ := hL
    have n0 : ¬ lt_gi w (2 + 2 * i) 0 = 0 := by rw [l0]; decide
    have n1 : ¬ lt_gi w 237 i = -1 := by rw [r2]; exact lu_ne1 (by omega)
    have ec : f_X11_trayFails σ 0 (nI i) 0 (lt_gi w (lt_r σ 0 5) 0) w = some (if la_n A ≤ m then 0 else 3) := by
      rw [lt_tf hσ hi, if_neg n0, lr_now hσ, lc_n h.c, show (0 : Int32) = nI 0 from rfl, lt_has m60 l2 (by decide) (by omega), lu_bind, Nat.zero_add]
      by_cases c : la_n A ≤ m
      · rw [if_pos c, if_pos c]; rfl
      · rw [if_neg c, if_neg c]; rfl
    by_cases c : la_n A ≤ m
    · obtain ⟨wa, a1, a2, a3, a4, a5⟩ := lt_cw hσ h.c hi hL' c
      refine lr_ok.tr (wa := wa) (r := nI (la_n A)) (st := 0) h ?_ (fun a k z => ⟨a2 a k, a3 a k (by omega)⟩) (fun w1 h1 => ?_)
      · unfold f_X11_copyWishes fb_X11_copyWishes_0
        rw [ec, lu_bind, if_pos c, if_pos rfl]; exact a1
      · have hM : lm_T w1 (lt_r σ 233 0) 0 A := (h.m hσ).congr fun k _ _ _ => by rw [lr_at hσ, (h1 _ _ (by omega)).1]; exact a2 _ _
        obtain ⟨wb, b1, b2, b3, b4, b5⟩ := lt_cwm hσ hM hi m60 s3 (by rw [(h1 _ _ (by omega)).1, a2]; exact r1) c
        refine ⟨wb, ?_, ⟨fun a k _ _ => b2 a k, b3⟩, fun j hj => ?_⟩
        · unfold f_X12_copyWishes fb_X12_copyWishes_0
          rw [(lt_isT_y hi).2, lu_bind, if_neg lu_10, lq_r233_6 hσ, lq_l237 hσ, lu_ck hi (by decide), nI_clamp (by omega), (h1 _ _ (by omega)).1, a2, if_neg n1, lu_ck hi (by decide), hS, lm_k0, lm_c0, r2, lm_n hM, if_pos (nI_le c (by omega))]
          exact b1
        · have old := h.1.2.1 j hj
          have gi : ∀ a k, 0 < a → lt_gi wb a k = lt_gi w a k := fun a k z => by rw [b2, (h1 a k z).1]; exact a2 a k
          by_cases e : j = i
          · subst e
            refine Or.inr ⟨?_, m, s, m60, s3, ?_, ?_, ?_, ?_, fun k hk => ?_⟩
            · rw [gi _ _ (by omega)]; exact l0
            · rw [gi _ _ (by omega)]; exact l2
            · rw [gi _ _ (by omega)]; exact r2
            · rw [gi _ _ (by omega)]; exact l1
            · rw [gi _ _ (by omega)]; exact r1
            · rw [b3 _ _ (by omega), (h1 _ _ (by omega)).2]
              by_cases ek : k < la_n A
              · rw [b4 k ek, a4 k ek]
              · rw [b5 _ (by omega), a5 k (by omega), (h1 _ _ (by omega)).2, a3 _ _ (by omega)]; exact ln k hk
          · exact old.congr (fun k => gi _ _ (by omega)) (gi _ _ (by omega)) (gi _ _ (by omega)) (fun k hk => by rw [b3 _ _ (by omega), (h1 _ _ (by omega)).2]; exact a3 _ _ (by omega)) (fun k hk => by rw [b5 _ (by omega), (h1 _ _ (by omega)).2]; exact a3 _ _ (by omega))
    · refine op_refuse2 h (r := -1) (st := 3) ?_ (fun w1 h1 hQ => ?_)
      · unfold f_X11_copyWishes fb_X11_copyWishes_0
        rw [ec, lu_bind, if_neg c, if_neg (by decide)]; rfl
      · unfold f_X12_copyWishes fb_X12_copyWishes_0
        rw [(lt_isT_y hi).2, lu_bind, if_neg lu_10, lq_r233_6 hσ, lq_l237 hσ, lu_ck hi (by decide), nI_clamp (by omega), hQ.1.1 237 i (by unfold lr_px; omega), if_neg n1, lu_ck hi (by decide), hS, lm_k0, lm_c0, r2, lm_n (h1.m hσ), if_neg (nI_ge (by omega) (by omega))]; rfl
end TR2