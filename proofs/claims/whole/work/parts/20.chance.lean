/-! BUTTER BY CHANCE -/
def lf_ch (n k : Nat) : Nat → Nat → Nat → Nat → Nat
  | 0, _, _, e => e
  | m + 1, i, ways, e => lf_ch n k m (i + 1) (ways * (n - i) / ((i + 1) * 5)) (if k ≤ i then e + ways else e)
def lf_row : Nat → Nat → Nat
  | 0, i => if i = 0 then 1 else 0
  | m + 1, i => 5 * lf_row m i + (if i = 0 then 0 else lf_row m (i - 1))
def lf_sum (n : Nat) : Nat → Nat → Nat
  | 0, _ => 0
  | m + 1, i => lf_row n i + lf_sum n m (i + 1)
theorem lf_same : ∀ n : Fin 7, ∀ k : Fin 7, lf_ch n.1 k.1 (n.1 + 1) 0 (5 ^ n.1) 0 = lf_sum n.1 (7 - k.1) k.1 ∧ lf_sum n.1 (7 - k.1) k.1 < 2 ^ 49 ∧ 6 ^ n.1 < 2 ^ 49 ∧ 5 ^ n.1 ≤ 15625 := by decide +kernel
section CH
variable {σ : lt_S}
theorem lf_chC {o : Nat} {w : lt_W} {n k : Nat} (hn : n ≤ 6) (hk : k ≤ 6) : ∀ m i ways e f, i + m = n + 1 → ways ≤ 15625 * 6 ^ i → m < f → fb_X11_chance_40 σ o f (nI n) (nI k) (lN ways) (lN e) (nI i) w = Option.bind (f_X11_power 6 (nI n)) (fun q1 => Option.bind (f_X11_fraction σ o (lN (lf_ch n k m i ways e)) q1 w) (fun q2 => lt_bz q2.1 (some (q2.1, q2.2)))) := by
  intro m
  induction m with
  | zero =>
    intro i ways e f hi hw hf
    obtain ⟨f, rfl⟩ : ∃ g, f = g + 1 := ⟨f - 1, by omega⟩
    rw [fb_X11_chance_40, if_pos (nI_lt (by omega) (by omega))]; rfl
  | succ m ih =>
    intro i ways e f hi hw hf
    obtain ⟨f, rfl⟩ : ∃ g, f = g + 1 := ⟨f - 1, by omega⟩
    have h6 : 6 ^ i ≤ 6 ^ 6 := Nat.pow_le_pow_right (by decide) (by omega)
    have h66 : (6 : Nat) ^ 6 = 46656 := rfl
    have hmul : ways * (n - i) ≤ 15625 * 6 ^ (i + 1) := by
      rw [Nat.pow_succ, ← Nat.mul_assoc]
      exact Nat.mul_le_mul hw (by omega)
    have hmul2 : 15625 * 6 ^ (i + 1) ≤ 15625 * 6 ^ 7 := Nat.mul_le_mul_left _ (Nat.pow_le_pow_right (by decide) (by omega))
    have h67 : 15625 * (6 : Nat) ^ 7 < 2 ^ 62 := by decide
    have hdiv : ways * (n - i) / ((i + 1) * 5) ≤ 15625 * 6 ^ (i + 1) := Nat.le_trans (Nat.div_le_self _ _) hmul
    have key : ∀ e', fb_X11_chance_58 σ o (fun x1 x2 x3 x5 x7 w => fb_X11_chance_40 σ o f x1 x2 x3 x5 x7 w) (nI n) (nI k) (lN ways) (lN e') (nI i) w = fb_X11_chance_40 σ o f (nI n) (nI k) (lN (ways * (n - i) / ((i + 1) * 5))) (lN e') (nI (i + 1)) w := by
      intro e'
      unfold fb_X11_chance_58
      rw [nI_1, nI_l (by omega), show (5 : Int64) = lN 5 from rfl, lN_mul, lf_nz (by omega) (by omega), pk_sub (by omega), nI_l (by omega), lN_mul, lf_div (by omega) (by omega)]; rfl
    rw [fb_X11_chance_40, if_neg (nI_nlt (by omega) (by omega)), lf_ch]
    by_cases c : k ≤ i
    · rw [if_neg (nI_nlt c (by omega)), if_pos c, lN_add, key]
      exact ih (i + 1) _ _ f (by omega) hdiv (by omega)
    · rw [if_pos (nI_lt (by omega) (by omega)), if_neg c, key]
      exact ih (i + 1) _ _ f (by omega) hdiv (by omega)
/-- only the row of ways changes -/
def lf_Fw (w w' : lt_W) : Prop := (∀ a k, lt_gi w' a k = lt_gi w a k) ∧ ∀ a k, a ≠ 249 → lt_gl w' a k = lt_gl w a k
theorem lf_Fw.trans {w w' w'' : lt_W} (h : lf_Fw w w') (h' : lf_Fw w' w'') : lf_Fw w w'' := ⟨fun a k => (h'.1 a k).trans (h.1 a k), fun a k z => (h'.2 a k z).trans (h.2 a k z)⟩
theorem lf_Fw.sl (w : lt_W) (k : Nat) (v : Int64) : lf_Fw w (lt_sl w 249 k v) := ⟨fun _ _ => rfl, fun a j z => by rw [lu_glsl, if_neg (fun y => z y.1)]⟩
theorem lf_Fw.Q {w w' : lt_W} (h : lf_Fw w w') : lr_Q w w' := ⟨⟨fun a k _ => h.1 a k, fun a k z => h.2 a k (by unfold lr_q lr_q0 at z; omega)⟩, fun a k _ => h.1 a k⟩
theorem lf_in (hσ : lr_S σ) (K : Int32 → Int32 → Int64 → Int32 → lt_W → Option (Int32 × lt_W)) (m : Nat) (x1 x2 x5 : Int32) (x3 : Int64) : ∀ i f (w : lt_W), i ≤ 6 → i + 1 < f → (∀ j, j ≤ i → lt_gl w 249 j = lN (lf_row m j)) → ∃ w', fb_X12_chance_78 σ 233 K f x1 x2 x3 x5 (nI i) w = K x1 x2 (x3 * 6) (x5 + 1) w' ∧ (∀ j, j ≤ i → lt_gl w' 249 j = lN (lf_row (m + 1) j)) ∧ (∀ j, i < j → lt_gl w' 249 j = lt_gl w 249 j) ∧ lf_Fw w w' := by
  intro i
  induction i with
  | zero =>
    intro f w hi hf h
    obtain ⟨f, rfl⟩ : ∃ g, f = g + 2 := ⟨f - 2, by omega⟩
    refine ⟨lt_sl w 249 0 (lN (lf_row (m + 1) 0)), ?_, fun j hj => ?_, fun j hj => ?_, lf_Fw.sl _ _ _⟩
    · rw [fb_X12_chance_78, if_neg (nI_pos (by decide)), lq_r233_31 hσ, lq_l249 hσ, lu_ck (by decide) (by decide), if_pos (show nI 0 = 0 from rfl)]
      unfold fb_X12_chance_118
      rw [lq_l249 hσ, lu_ck (by decide) (by decide), lu_let, nI_clamp (by decide), h 0 (by decide), show (5 : Int64) = lN 5 from rfl, show (0 : Int64) = lN 0 from rfl, lN_mul, lN_add]
      show fb_X12_chance_78 σ 233 K (f + 1) x1 x2 x3 x5 (nI 0 + -1) _ = _
      rw [show nI 0 + -1 = (-1 : Int32) from rfl, fb_X12_chance_78, if_pos (by decide)]
      rfl
    · obtain rfl : j = 0 := by omega
      rw [lu_glsl, if_pos ⟨rfl, rfl⟩]
    · rw [lu_glsl, if_neg (fun z => by omega)]
  | succ i ih =>
    intro f w hi hf h
    obtain ⟨f, rfl⟩ : ∃ g, f = g + 1 := ⟨f - 1, by omega⟩
    obtain ⟨w', a1, a2, a3, a4⟩ := ih f (lt_sl w 249 (i + 1) (lN (lf_row (m + 1) (i + 1)))) (by omega) (by omega) (fun j hj => by rw [lu_glsl, if_neg (fun z => by omega)]; exact h j (by omega))
    refine ⟨w', ?_, fun j hj => ?_, fun j hj => ?_, (lf_Fw.sl _ _ _).trans a4⟩
    · rw [fb_X12_chance_78, if_neg (nI_pos (by omega)), lq_r233_31 hσ, lq_l249 hσ, lu_ck (by omega) (by decide), if_neg (nI_ne0 (by omega) (by omega)), nI_pred, lu_ck (by omega) (by decide)]
      unfold fb_X12_chance_118
      rw [lq_l249 hσ, lu_ck (by omega) (by decide), lu_let, nI_clamp (by omega), nI_clamp (by omega), h (i + 1) (by omega), h i (by omega), show (5 : Int64) = lN 5 from rfl, lN_mul, lN_add]
      show fb_X12_chance_78 σ 233 K f x1 x2 x3 x5 (nI (i + 1) + -1) _ = _
      rw [pk_m1, ← a1, lf_row, if_neg (by omega), show i + 1 - 1 = i from rfl]
    · by_cases c : j = i + 1
      · rw [c, a3 (i + 1) (by omega), lu_glsl, if_pos ⟨rfl, rfl⟩]
      · exact a2 j (by omega)
    · rw [a3 j (by omega), lu_glsl, if_neg (fun z => by omega)]
theorem lf_mid (hσ : lr_S σ) {n : Nat} (hn : n ≤ 6) (x2 : Int32) : ∀ r i f (w : lt_W), i + r = n → r < f → (∀ j, j < 7 → lt_gl w 249 j = lN (lf_row i j)) → ∃ w', fb_X12_chance_68 σ 233 f (nI n) x2 (lN (6 ^ i)) (nI i) w = fb_X12_chance_144 σ 233 lt_fu (lN (6 ^ n)) 0 x2 w' ∧ (∀ j, j < 7 → lt_gl w' 249 j = lN (lf_row n j)) ∧ lf_Fw w w' := by
  intro r
  induction r with
  | zero =>
    intro i f w hi hf h
    obtain ⟨f, rfl⟩ : ∃ g, f = g + 1 := ⟨f - 1, by omega⟩
    obtain rfl : i = n := by omega
    rw [fb_X12_chance_68, if_pos (nI_le (Nat.le_refl _) (by omega))]
    exact ⟨w, rfl, h, ⟨fun _ _ => rfl, fun _ _ _ => rfl⟩⟩
  | succ r ih =>
    intro i f w hi hf h
    obtain ⟨f, rfl⟩ : ∃ g, f = g + 1 := ⟨f - 1, by omega⟩
    obtain ⟨w1, a1, a2, a3, a4⟩ := lf_in hσ (fun x1 x2 x3 x5 w => fb_X12_chance_68 σ 233 f x1 x2 x3 x5 w) i (nI n) x2 (nI i) (lN (6 ^ i)) 6 lt_fu w (by decide) (by unfold lt_fu; omega) (fun j hj => h j (by omega))
    obtain ⟨w', b1, b2, b3⟩ := ih (i + 1) f w1 (by omega) (by omega) (fun j hj => a2 j (by omega))
    refine ⟨w', ?_, b2, a4.trans b3⟩
    have a1' : fb_X12_chance_78 σ 233 (fun x1 x2 x3 x5 w => fb_X12_chance_68 σ 233 f x1 x2 x3 x5 w) lt_fu (nI n) x2 (lN (6 ^ i)) (nI i) 6 w = _ := a1
    rw [fb_X12_chance_68, if_neg (nI_ge (by omega) (by omega)), a1', show (6 : Int64) = lN 6 from rfl, lN_mul, nI_1, ← Nat.pow_succ]
    exact b1
theorem lf_end (hσ : lr_S σ) {n : Nat} {w : lt_W} (h : ∀ j, j < 7 → lt_gl w 249 j = lN (lf_row n j)) (all : Int64) : ∀ m i f s, i + m = 7 → m < f → fb_X12_chance_144 σ 233 f all (lN s) (nI i) w = Option.bind (f_X12_tellsBy σ 233 (lN (s + lf_sum n m i)) all w) (fun q1 => lt_bz q1.1 (some (q1.1, q1.2))) := by
  intro m
  induction m with
  | zero =>
    intro i f s hi hf
    obtain ⟨f, rfl⟩ : ∃ g, f = g + 1 := ⟨f - 1, by omega⟩
    rw [fb_X12_chance_144, if_pos (show (7 : Int32) ≤ nI i from nI_le (a := 7) (by omega) (by omega))]; rfl
  | succ m ih =>
    intro i f s hi hf
    obtain ⟨f, rfl⟩ : ∃ g, f = g + 1 := ⟨f - 1, by omega⟩
    rw [fb_X12_chance_144, if_neg (show ¬ (7 : Int32) ≤ nI i from nI_ge (b := 7) (by omega) (by decide)), lq_r233_31 hσ, lq_l249 hσ, lu_ck (by omega) (by decide), lu_let, nI_clamp (by omega), h i (by omega), lN_add, nI_1, ih (i + 1) f _ (by omega) (by omega), lf_sum, Nat.add_assoc]
theorem lf_first (hσ : lr_S σ) (x1 x2 : Int32) : ∀ m i f (w : lt_W), i + m = 7 → m < f → (∀ j, j < i → lt_gl w 249 j = lN (lf_row 0 j)) → ∃ w', fb_X12_chance_35 σ 233 f x1 x2 1 (nI i) w = fb_X12_chance_68 σ 233 lt_fu x1 x2 1 0 w' ∧ (∀ j, j < 7 → lt_gl w' 249 j = lN (lf_row 0 j)) ∧ lf_Fw w w' := by
  intro m
  induction m with
  | zero =>
    intro i f w hi hf h
    obtain ⟨f, rfl⟩ : ∃ g, f = g + 1 := ⟨f - 1, by omega⟩
    rw [fb_X12_chance_35, if_pos (show (7 : Int32) ≤ nI i from nI_le (a := 7) (by omega) (by omega))]
    exact ⟨w, rfl, fun j hj => h j (by omega), ⟨fun _ _ => rfl, fun _ _ _ => rfl⟩⟩
  | succ m ih =>
    intro i f w hi hf h
    obtain ⟨f, rfl⟩ : ∃ g, f = g + 1 := ⟨f - 1, by omega⟩
    obtain ⟨w', b1, b2, b3⟩ := ih (i + 1) f (lt_sl w 249 i (lN (lf_row 0 i))) (by omega) (by omega) (fun j hj => by
      rw [lu_glsl]
      by_cases c : j = i
      · rw [if_pos ⟨rfl, c⟩, c]
      · rw [if_neg (fun z => c z.2)]; exact h j (by omega))
    refine ⟨w', ?_, b2, (lf_Fw.sl _ _ _).trans b3⟩
    rw [fb_X12_chance_35, if_neg (show ¬ (7 : Int32) ≤ nI i from nI_ge (b := 7) (by omega) (by decide)), ← b1]
    unfold fb_X12_chance_58
    rw [lq_r233_31 hσ, lq_l249 hσ, lu_ck (by omega) (by decide), lu_ck (by omega) (by decide), lu_let, lu_let, nI_clamp (by omega), nI_1]
    by_cases c : i = 0
    · subst c; rfl
    · rw [if_neg (nI_ne0 (by omega) (by omega)), lf_row, if_neg c]; rfl
theorem op_chance (hσ : lr_S σ) {w : lt_W} {A : la_A} (h : lr_0 w A) (x y : Int32) : lr_ok (f_X11_chance σ 0 x y) (f_X12_chance σ 233 x y) w := by
  by_cases c : lq_b x 0 6
  · obtain ⟨n, -, hn, rfl⟩ := c.R (by decide) (by decide)
    by_cases c2 : lq_b y 0 6
    · obtain ⟨k, -, hk, rfl⟩ := c2.R (by decide) (by decide)
      obtain ⟨g1, g2, g3, g4⟩ := lf_same ⟨n, by omega⟩ ⟨k, by omega⟩
      simp only [] at g1 g2 g3 g4
      have y0 : 0 < 6 ^ n := Nat.pow_pos (by decide)
      refine lr_ok.f (wa := w) (lN (lf_sum n (7 - k) k / Nat.gcd (lf_sum n (7 - k) k) (6 ^ n))) (lN (6 ^ n / Nat.gcd (lf_sum n (7 - k) k) (6 ^ n))) h ?_ (lr_Q.refl w) (fun w1 h1 => ?_)
      · unfold f_X11_chance fb_X11_chance_0
        rw [lq_within_y (lo := 0) (hi := 6) 0 6 rfl rfl c, lu_bind, if_neg lu_10, lq_within_y (lo := 0) (hi := 6) 0 6 rfl rfl c2, lu_bind, if_neg lu_10, show (5 : Int64) = lN 5 from rfl, lf_pow (by omega), lu_bind]
        have := lf_chC (σ := σ) (o := 0) (w := w) hn hk (n + 1) 0 (5 ^ n) 0 lt_fu (by omega) (by omega) (by unfold lt_fu; omega)
        have e : fb_X11_chance_40 σ 0 lt_fu (nI n) (nI k) (lN (5 ^ n)) 0 0 w = _ := this
        rw [e, show (6 : Int64) = lN 6 from rfl, lf_pow (by omega), lu_bind, g1, lf_fraction g2 g3 y0]
        rfl
      · obtain ⟨w2, a1, a2, a3⟩ := lf_first hσ (nI n) (nI k) 7 0 lt_fu w1 (by decide) (by unfold lt_fu; omega) (fun j hj => by omega)
        obtain ⟨w3, b1, b2, b3⟩ := lf_mid hσ hn (nI k) n 0 lt_fu w2 (by omega) (by unfold lt_fu; omega) a2
        have e3 := lf_end hσ b2 (lN (6 ^ n)) (7 - k) k lt_fu 0 (by omega) (by unfold lt_fu; omega)
        have F := a3.trans b3
        refine ⟨w3, ?_, F.Q, F.1 _ _⟩
        unfold f_X12_chance fb_X12_chance_0
        have a1' : fb_X12_chance_35 σ 233 lt_fu (nI n) (nI k) 1 0 w1 = _ := a1
        have b1' : fb_X12_chance_68 σ 233 lt_fu (nI n) (nI k) 1 0 w2 = _ := b1
        have e3' : fb_X12_chance_144 σ 233 lt_fu (lN (6 ^ n)) 0 (nI k) w3 = _ := e3
        rw [lq_from_y (lo := 0) (hi := 6) 0 6 rfl rfl (by decide) (by decide) c, lu_bind, if_neg lu_10, lq_from_y (lo := 0) (hi := 6) 0 6 rfl rfl (by decide) (by decide) c2, lu_bind, if_neg lu_10, a1', b1', e3', Nat.zero_add, lf_tells g2 g3 y0]
        rfl
    · refine op_refuse h (r := 0) (st := 1) ?_ (fun w1 h1 => ?_)
      · unfold f_X11_chance fb_X11_chance_0 fb_X11_chance_20
        rw [lq_within_y (lo := 0) (hi := 6) 0 6 rfl rfl c, lu_bind, if_neg lu_10, lq_within_n (lo := 0) (hi := 6) 0 6 rfl rfl c2, lu_bind, if_pos rfl]; rfl
      · unfold f_X12_chance fb_X12_chance_0 fb_X12_chance_24
        rw [lq_from_y (lo := 0) (hi := 6) 0 6 rfl rfl (by decide) (by decide) c, lu_bind, if_neg lu_10, lq_from_n (lo := 0) (hi := 6) 0 6 rfl rfl (by decide) (by decide) c2, lu_bind, if_pos rfl]; rfl
  · refine op_refuse h (r := 0) (st := 1) ?_ (fun w1 h1 => ?_)
    · unfold f_X11_chance fb_X11_chance_0 fb_X11_chance_20
      rw [lq_within_n (lo := 0) (hi := 6) 0 6 rfl rfl c, lu_bind, if_pos rfl]; rfl
    · unfold f_X12_chance fb_X12_chance_0 fb_X12_chance_24
      rw [lq_from_n (lo := 0) (hi := 6) 0 6 rfl rfl (by decide) (by decide) c, lu_bind, if_pos rfl]; rfl
end CH