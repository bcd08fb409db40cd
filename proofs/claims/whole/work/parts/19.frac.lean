/-! FRACTIONS -/
theorem lf_div {a b : Nat} (ha : a < 2 ^ 62) (hb : b < 2 ^ 62) : lN a / lN b = lN (a / b) := (Int64.ofNat_div (by omega) (by omega)).symm
theorem lf_rem {a b : Nat} (ha : a < 2 ^ 62) (hb : b < 2 ^ 62) : lN a - lN a / lN b * lN b = lN (a % b) := by
  rw [lf_div ha hb, lN_mul, lN_sub (Nat.div_mul_le_self a b)]
  congr 1
  have := Nat.div_add_mod a b
  rw [Nat.mul_comm] at this; omega
theorem lf_eq {a b : Nat} (ha : a < 2 ^ 62) (hb : b < 2 ^ 62) : lN a = lN b ↔ a = b := by
  constructor
  · intro h
    have := congrArg Int64.toInt h
    rw [pk_lT (by omega), pk_lT (by omega)] at this; omega
  · intro h; rw [h]
theorem lf_c0 {a : Nat} (ha : a < 2 ^ 62) : lg_cmp (lN a) 0 = 0 ↔ a = 0 := by
  have e : (0 : Int64) = lN 0 := rfl
  rw [e]
  unfold lg_cmp
  have h1 : lN a > lN 0 ↔ 0 < a := by
    rw [gt_iff_lt, Int64.lt_iff_toInt_lt, pk_lT (by omega), pk_lT (by omega)]; omega
  have h2 := lf_eq (a := a) (b := 0) ha (by decide)
  by_cases c : a = 0
  · subst c
    rw [if_neg (fun z => by have := h1.mp z; omega), if_pos rfl]
    exact ⟨fun _ => rfl, fun _ => rfl⟩
  · rw [if_pos (h1.mpr (by omega))]
    exact ⟨fun z => absurd z (by decide), fun z => absurd z c⟩
theorem lf_le0 {a : Nat} (ha : a < 2 ^ 62) : lg_cmp (lN a) 0 ≤ 0 ↔ a = 0 := by
  have e : (0 : Int64) = lN 0 := rfl
  rw [e]
  unfold lg_cmp
  have h1 : lN a > lN 0 ↔ 0 < a := by
    rw [gt_iff_lt, Int64.lt_iff_toInt_lt, pk_lT (by omega), pk_lT (by omega)]; omega
  by_cases c : a = 0
  · subst c
    rw [if_neg (fun z => by have := h1.mp z; omega), if_pos rfl]
    exact ⟨fun _ => rfl, fun _ => by decide⟩
  · rw [if_pos (h1.mpr (by omega))]
    exact ⟨fun z => absurd z (by decide), fun z => absurd z c⟩
theorem lf_nz {α : Type} {a : Nat} {x : Option α} (ha : a < 2 ^ 62) (h : a ≠ 0) : lt_nzl (lN a) x = x := by
  unfold lt_nzl
  rw [if_neg (show ¬ lN a = (0 : Int64) from fun z => h ((lf_eq (b := 0) ha (by decide)).mp z))]
theorem lf_gcd (a b : Nat) : Nat.gcd b (a % b) = Nat.gcd a b := by
  rw [Nat.gcd_comm a b, Nat.gcd_rec b a, Nat.gcd_comm]
/-- two steps halve the lower one -/
theorem lf_half {a b : Nat} (hb : 0 < a % b) (b0 : 0 < b) : 2 * (b % (a % b)) < b := by
  have h1 := Nat.mod_lt a b0
  have h2 := Nat.mod_lt b hb
  by_cases c : 2 * (a % b) ≤ b
  · omega
  · have h3 : b % (a % b) = (b - a % b) % (a % b) := Nat.mod_eq_sub_mod (by omega)
    have h4 := Nat.mod_le (b - a % b) (a % b)
    omega
theorem lf_cd : ∀ k a b i f, a < 2 ^ 62 → b < 2 ^ 62 → b < 2 ^ k → i + 2 * k < 100 → 2 * k < f → fb_X11_commonDivisor_9 f (lN a) (lN b) (nI i) = some (lN (Nat.gcd a b)) := by
  intro k
  induction k with
  | zero =>
    intro a b i f ha hb hk hi hf
    obtain ⟨f, rfl⟩ : ∃ g, f = g + 1 := ⟨f - 1, by omega⟩
    obtain rfl : b = 0 := by have : (2 : Nat) ^ 0 = 1 := rfl
                             omega
    rw [fb_X11_commonDivisor_9, if_neg (show ¬ (100 : Int32) ≤ nI i from nI_ge (b := 100) (by omega) (by decide)), if_pos ((lf_c0 (by decide)).mpr rfl), Nat.gcd_zero_right]
  | succ k ih =>
    intro a b i f ha hb hk hi hf
    obtain ⟨f, rfl⟩ : ∃ g, f = g + 2 := ⟨f - 2, by omega⟩
    have h100 : ¬ (100 : Int32) ≤ nI i := nI_ge (b := 100) (by omega) (by decide)
    have h101 : ¬ (100 : Int32) ≤ nI (i + 1) := nI_ge (b := 100) (by omega) (by decide)
    rw [fb_X11_commonDivisor_9, if_neg h100]
    by_cases c : b = 0
    · rw [if_pos ((lf_c0 hb).mpr c), c, Nat.gcd_zero_right]
    · have hr := Nat.mod_lt a (Nat.pos_of_ne_zero c)
      rw [if_neg (fun z => c ((lf_c0 hb).mp z)), lf_nz hb c, lf_rem ha hb, nI_1, fb_X11_commonDivisor_9, if_neg h101, ← lf_gcd a b]
      by_cases c2 : a % b = 0
      · rw [if_pos ((lf_c0 (by omega)).mpr c2), c2, Nat.gcd_zero_right]
      · rw [if_neg (fun z => c2 ((lf_c0 (by omega)).mp z)), lf_nz (by omega) c2, lf_rem hb (by omega), nI_1, ← lf_gcd b (a % b)]
        have hh := lf_half (Nat.pos_of_ne_zero c2) (Nat.pos_of_ne_zero c)
        exact ih (a % b) (b % (a % b)) (i + 2) f (by omega) (by omega) (by rw [Nat.pow_succ] at hk; omega) (by omega) (by omega)
section FR
variable {σ : lt_S}
theorem lf_fraction {o : Nat} {w : lt_W} {a b : Nat} (ha : a < 2 ^ 49) (hb : b < 2 ^ 49) (b0 : 0 < b) : f_X11_fraction σ o (lN a) (lN b) w = some (1, lt_si (lt_sl (lt_sl w o 1 (lN (a / Nat.gcd a b))) o 2 (lN (b / Nat.gcd a b))) o 0 0) := by
  have hg : 0 < Nat.gcd a b := Nat.gcd_pos_of_pos_right a b0
  have hg2 : Nat.gcd a b ≤ b := Nat.le_of_dvd b0 (Nat.gcd_dvd_right a b)
  unfold f_X11_fraction fb_X11_fraction_0 f_X11_commonDivisor fb_X11_commonDivisor_0
  rw [show (0 : Int32) = nI 0 from rfl, lf_cd 49 a b 0 lt_fu (by omega) (by omega) hb (by decide) (by decide), lu_bind, show nI 0 = (0 : Int32) from rfl, if_neg (fun z => by have := (lf_le0 (by omega)).mp z; omega), lf_nz (by omega) (by omega), lu_let, lf_nz (by omega) (by omega), lu_let, lf_div (by omega) (by omega), lf_div (by omega) (by omega)]
  rfl
theorem lf_tb {o : Nat} {w : lt_W} (x y : Nat) (hx : x < 2 ^ 49) (hy : y < 2 ^ 49) (y0 : 0 < y) : ∀ k a b f, a < 2 ^ 49 → b < 2 ^ 49 → b < 2 ^ k → Nat.gcd a b = Nat.gcd x y → 2 * k < f → fb_X12_tellsBy_6 σ o f (lN x) (lN y) (lN a) (lN b) w = some (1, lt_si (lt_sl (lt_sl w o 3 (lN (x / Nat.gcd x y))) o 4 (lN (y / Nat.gcd x y))) o 2 0) := by
  have hg : 0 < Nat.gcd x y := Nat.gcd_pos_of_pos_right x y0
  have hg2 : Nat.gcd x y ≤ y := Nat.le_of_dvd y0 (Nat.gcd_dvd_right x y)
  have fin : ∀ a f, a = Nat.gcd x y → fb_X12_tellsBy_6 σ o (f + 1) (lN x) (lN y) (lN a) (lN 0) w = some (1, lt_si (lt_sl (lt_sl w o 3 (lN (x / Nat.gcd x y))) o 4 (lN (y / Nat.gcd x y))) o 2 0) := by
    intro a f e
    subst e
    rw [fb_X12_tellsBy_6, if_pos ((lf_c0 (by decide)).mpr rfl), lf_nz (by omega) (by omega), lu_let, lf_nz (by omega) (by omega), lu_let, lf_div (by omega) (by omega), lf_div (by omega) (by omega)]
    rfl
  intro k
  induction k with
  | zero =>
    intro a b f ha hb hk hG hf
    obtain ⟨f, rfl⟩ : ∃ g, f = g + 1 := ⟨f - 1, by omega⟩
    obtain rfl : b = 0 := by have : (2 : Nat) ^ 0 = 1 := rfl
                             omega
    exact fin a f (by rw [← hG, Nat.gcd_zero_right])
  | succ k ih =>
    intro a b f ha hb hk hG hf
    obtain ⟨f, rfl⟩ : ∃ g, f = g + 2 := ⟨f - 2, by omega⟩
    by_cases c : b = 0
    · subst c; exact fin a (f + 1) (by rw [← hG, Nat.gcd_zero_right])
    · have hr := Nat.mod_lt a (Nat.pos_of_ne_zero c)
      rw [fb_X12_tellsBy_6, if_neg (fun z => c ((lf_c0 (by omega)).mp z)), lf_nz (by omega) c, lf_rem (by omega) (by omega)]
      by_cases c2 : a % b = 0
      · rw [c2]; exact fin b f (by rw [← hG, ← lf_gcd a b, c2, Nat.gcd_zero_right])
      · rw [fb_X12_tellsBy_6, if_neg (fun z => c2 ((lf_c0 (by omega)).mp z)), lf_nz (by omega) c2, lf_rem (by omega) (by omega)]
        have hh := lf_half (Nat.pos_of_ne_zero c2) (Nat.pos_of_ne_zero c)
        exact ih (a % b) (b % (a % b)) f (by omega) (by omega) (by rw [Nat.pow_succ] at hk; omega) (by rw [lf_gcd, lf_gcd]; exact hG) (by omega)
theorem lf_tells {o : Nat} {w : lt_W} {x y : Nat} (hx : x < 2 ^ 49) (hy : y < 2 ^ 49) (y0 : 0 < y) : f_X12_tellsBy σ o (lN x) (lN y) w = some (1, lt_si (lt_sl (lt_sl w o 3 (lN (x / Nat.gcd x y))) o 4 (lN (y / Nat.gcd x y))) o 2 0) := by
  unfold f_X12_tellsBy fb_X12_tellsBy_0
  exact lf_tb x y hx hy y0 49 x y lt_fu hx hy hy rfl (by decide)
/-- a call that tells a fraction -/
theorem lr_ok.f {fc fm : lt_W → Option (Int32 × lt_W)} {w wa : lt_W} {A : la_A} (x y : Int64) (h : lr_0 w A) (hc : fc w = some (1, lt_si (lt_sl (lt_sl wa 0 1 x) 0 2 y) 0 0 0)) (ha : lr_Q w wa) (hm : ∀ w1, lr_0f w1 A → ∃ wb, fm w1 = some (1, lt_si (lt_sl (lt_sl wb 233 3 x) 233 4 y) 233 2 0) ∧ lr_Q w1 wb ∧ lt_gi wb 0 0 = lt_gi w1 0 0) : lr_ok fc fm w := by
  have q1 : lr_Q0 w (lt_si (lt_sl (lt_sl wa 0 1 x) 0 2 y) 0 0 0) := by
    refine ⟨fun a k z => ?_, fun a k z => ?_⟩
    · rw [lu_ne (by unfold lr_px at z; omega), lu_gisl, lu_gisl]; exact ha.1.1 a k z
    · have : ¬ (a = 0 ∧ k = 2) ∧ ¬ (a = 0 ∧ k = 1) := by unfold lr_q0 at z; omega
      rw [lu_glsi, lu_glsl, if_neg this.1, lu_glsl, if_neg this.2]; exact ha.1.2 a k (Or.inr (Or.inr z))
  have h1 : lr_0f (lt_si (lt_sl (lt_sl wa 0 1 x) 0 2 y) 0 0 0) A := h.1.congr q1 fun a k z => by
    rw [lu_ne (by unfold lr_pt at z; omega), lu_gisl, lu_gisl]; exact ha.2 a k z
  obtain ⟨wb, b1, b2, b3⟩ := hm _ h1
  refine ⟨1, _, _, hc, b1, ?_, A, ?_, ?_⟩
  · rw [lu_eq, lu_ne (Or.inl (by decide)), lu_gisl, lu_gisl, b3, lu_eq]
  · refine h1.congr ⟨fun a k z => ?_, fun a k z => ?_⟩ fun a k z => ?_
    · rw [lu_ne (by unfold lr_px at z; omega), lu_gisl, lu_gisl]; exact b2.1.1 a k z
    · have : ¬ (a = 233 ∧ k = 4) ∧ ¬ (a = 233 ∧ k = 3) := by unfold lr_q0 at z; omega
      rw [lu_glsi, lu_glsl, if_neg this.1, lu_glsl, if_neg this.2]; exact b2.1.2 a k (Or.inr (Or.inr z))
    · rw [lu_ne (by unfold lr_pt at z; omega), lu_gisl, lu_gisl]; exact b2.2 a k z
  · have e1 : lt_gl wb 0 1 = x := by rw [b2.1.2 0 1 (by unfold lr_q; omega)]; rfl
    have e2 : lt_gl wb 0 2 = y := by rw [b2.1.2 0 2 (by unfold lr_q; omega)]; rfl
    refine ⟨?_, ?_⟩
    · rw [lu_glsi, lu_glsl, if_neg (by decide), lu_glsl, if_neg (by decide), e1]; rfl
    · rw [lu_glsi, lu_glsl, if_neg (by decide), lu_glsl, if_neg (by decide), e2]; rfl
theorem lr_0f.m (hσ : lr_S σ) {w : lt_W} {A : la_A} (h : lr_0f w A) : lm_T w (lt_r σ 233 0) 0 A := by rw [lr_at hσ]; exact h.1.2.2
theorem lf_i64 {v : Int32} {hi : Nat} (h : lu_R v 0 hi) (hh : hi < 2 ^ 31) : ∃ k, k ≤ hi ∧ v = nI k ∧ v.toInt64 = lN k := by
  obtain ⟨k, -, h2, rfl⟩ := h
  exact ⟨k, h2, rfl, nI_l (by omega)⟩
theorem op_waits (hσ : lr_S σ) {w : lt_W} {A : la_A} (h : lr_0 w A) (x y : Int32) : lr_ok (f_X11_waits σ 0 x y) (f_X12_waits σ 233 x y) w := by
  have hN := lr_now hσ
  have hS := lr_mS hσ
  have h7 := h.n7
  rcases lq_two hS hN h.c (h.m hσ) x y with ⟨e1, e2⟩ | ⟨i, j, hi, hj, hij, rfl, rfl, e1, -⟩
  · refine op_refuse h (r := 0) (st := 1) ?_ (fun w1 h1 => ?_)
    · unfold f_X11_waits fb_X11_waits_0
      rw [e1, lu_bind, if_pos rfl]; rfl
    · rcases lq_two hS hN h.c (h1.m hσ) x y with ⟨-, e3⟩ | ⟨i, j, hi, hj, hij, rfl, rfl, e3, -⟩
      · unfold f_X12_waits fb_X12_waits_0
        rw [e3, lu_bind, if_pos rfl]; rfl
      · rw [e1] at e3; cases e3
  · obtain ⟨⟨s0, s1, s2, s3, s4, s5, s6, s7, s8⟩, l1, l2, l3, l4, l5, l6, l7, l8⟩ := lr_nowS hσ
    obtain ⟨a0, a1, a2, a3, a4, a5⟩ := h.c.2.2.2.2 j hj
    obtain ⟨d, hd, ed, el⟩ := lf_i64 (h.O.2.2.2.2.2.2.2 j hj).2.2.1 (by decide)
    refine lr_ok.f (wa := w) (lN (1 / Nat.gcd 1 (1 + d))) (lN ((1 + d) / Nat.gcd 1 (1 + d))) h ?_ (lr_Q.refl w) (fun w1 h1 => ⟨w1, ?_, lr_Q.refl w1, rfl⟩)
    · unfold f_X11_waits fb_X11_waits_0
      rw [e1, lu_bind, if_neg lu_10, hN, s4, lu_ck (by omega) (by omega), nI_clamp (by omega), a2, ed, show (1 : Int32) = nI 1 from rfl, nI_add, nI_l (by omega), show (1 : Int64) = lN 1 from rfl, lf_fraction (by decide) (by omega) (by omega)]
      rfl
    · have two : f_X12_areTwo σ 233 (nI i) (nI j) w1 = some 1 := by
        rcases lq_two hS hN h.c (h1.m hσ) (nI i) (nI j) with ⟨e3, -⟩ | ⟨_, _, _, _, _, _, _, _, e3⟩
        · rw [e1] at e3; cases e3
        · exact e3
      unfold f_X12_waits fb_X12_waits_0
      rw [two, lu_bind, if_neg lu_10, lm_of (x := 2) (f := 2) hS (h1.m hσ) hj rfl (by decide), lu_bind, el, show (1 : Int64) = lN 1 from rfl, lN_add, lf_tells (by decide) (by omega) (by omega)]
      rfl
theorem lf_power (b : Nat) : ∀ m i f p, i + m < 1000 → m < f → fb_X11_power_5 f (lN b) (nI (i + m)) (lN p) (nI i) = some (lN (p * b ^ m)) := by
  intro m
  induction m with
  | zero =>
    intro i f p hi hf
    obtain ⟨f, rfl⟩ : ∃ g, f = g + 1 := ⟨f - 1, by omega⟩
    rw [fb_X11_power_5, if_pos (nI_le (by omega) (by omega)), Nat.pow_zero, Nat.mul_one]
  | succ m ih =>
    intro i f p hi hf
    obtain ⟨f, rfl⟩ : ∃ g, f = g + 1 := ⟨f - 1, by omega⟩
    rw [fb_X11_power_5, if_neg (nI_ge (by omega) (by omega)), lN_mul, nI_1, show i + (m + 1) = i + 1 + m from by omega, ih (i + 1) f (p * b) (by omega) (by omega), Nat.pow_succ, Nat.mul_comm (b ^ m) b, ← Nat.mul_assoc]
theorem lf_pow {b m : Nat} (hm : m < 1000) : f_X11_power (lN b) (nI m) = some (lN (b ^ m)) := by
  have := lf_power b m 0 lt_fu 1 (by omega) (by unfold lt_fu; omega)
  rw [Nat.zero_add, Nat.one_mul] at this
  exact this
theorem lf_b16 {k m : Nat} (hk : k ≤ 16) (hm : m ≤ 12) : k ^ m < 2 ^ 49 := by
  have h1 : k ^ m ≤ 16 ^ m := Nat.pow_le_pow_left hk m
  have h2 : 16 ^ m ≤ 16 ^ 12 := Nat.pow_le_pow_right (by decide) hm
  have : (16 : Nat) ^ 12 < 2 ^ 49 := by decide
  omega
theorem op_stale (hσ : lr_S σ) {w : lt_W} {A : la_A} (h : lr_0 w A) (x : Int32) : lr_ok (f_X11_stale σ 0 x) (f_X12_stale σ 233 x) w := by
  have hN := lr_now hσ
  have hS := lr_mS hσ
  by_cases c : lq_b x 0 12
  · obtain ⟨m, -, hm, rfl⟩ := c.R (by decide) (by decide)
    obtain ⟨q, -, hq, eq⟩ := h.O.2.2.1
    have e16 : (16 - A.1 1).toInt64 = lN (16 - q) := by
      rw [eq, show (16 : Int32) = nI 16 from rfl, pk_sub hq, nI_l (by omega)]
    have y0 : 0 < 16 ^ m := Nat.pow_pos (by decide)
    refine lr_ok.f (wa := w) (lN ((16 - q) ^ m / Nat.gcd ((16 - q) ^ m) (16 ^ m))) (lN (16 ^ m / Nat.gcd ((16 - q) ^ m) (16 ^ m))) h ?_ (lr_Q.refl w) (fun w1 h1 => ⟨w1, ?_, lr_Q.refl w1, rfl⟩)
    · unfold f_X11_stale fb_X11_stale_0
      rw [lq_within_y (lo := 0) (hi := 12) 0 12 rfl rfl c, lu_bind, if_neg lu_10, hN, h.c.2.2.1 1 (by decide), e16, lf_pow (by omega), lu_bind, show (16 : Int64) = lN 16 from rfl, lf_pow (by omega), lu_bind, lf_fraction (lf_b16 (by omega) hm) (lf_b16 (by decide) hm) y0]
      rfl
    · have e1 := lm_hd (h1.m hσ) (k := 1) (by decide)
      unfold f_X12_stale fb_X12_stale_0
      rw [lq_from_y (lo := 0) (hi := 12) 0 12 rfl rfl (by decide) (by decide) c, lu_bind, if_neg lu_10]
      have key : ∀ r i f, i + r = m → r < f → fb_X12_stale_26 σ 233 f (nI m) (lN ((16 - q) ^ i)) (lN (16 ^ i)) (nI i) w1 = some (1, lt_si (lt_sl (lt_sl w1 233 3 (lN ((16 - q) ^ m / Nat.gcd ((16 - q) ^ m) (16 ^ m)))) 233 4 (lN (16 ^ m / Nat.gcd ((16 - q) ^ m) (16 ^ m)))) 233 2 0) := by
        intro r
        induction r with
        | zero =>
          intro i f hi hf
          obtain ⟨f, rfl⟩ : ∃ g, f = g + 1 := ⟨f - 1, by omega⟩
          obtain rfl : i = m := by omega
          rw [fb_X12_stale_26, if_pos (nI_le (Nat.le_refl _) (by omega)), lf_tells (lf_b16 (by omega) hm) (lf_b16 (by decide) hm) y0]
          rfl
        | succ r ih =>
          intro i f hi hf
          obtain ⟨f, rfl⟩ : ∃ g, f = g + 1 := ⟨f - 1, by omega⟩
          rw [fb_X12_stale_26, if_neg (nI_ge (by omega) (by omega)), hS, lm_k1, lu_let, lm_c1, e1, e16, lN_mul, show (16 : Int64) = lN 16 from rfl, lN_mul, nI_1, ← Nat.pow_succ, ← Nat.pow_succ]
          exact ih (i + 1) f (by omega) (by omega)
      exact key m 0 lt_fu (by omega) (by unfold lt_fu; omega)
  · refine op_refuse h (r := 0) (st := 1) ?_ (fun w1 h1 => ?_)
    · unfold f_X11_stale fb_X11_stale_0
      rw [lq_within_n (lo := 0) (hi := 12) 0 12 rfl rfl c, lu_bind, if_pos rfl]; rfl
    · unfold f_X12_stale fb_X12_stale_0
      rw [lq_from_n (lo := 0) (hi := 12) 0 12 rfl rfl (by decide) (by decide) c, lu_bind, if_pos rfl]; rfl
/-- all that is dear of those there -/
def la_dear (A : la_A) : Nat → Int32 | 0 => 0 | k + 1 => if la_here A k then la_dear A k + A.2 k 2 else la_dear A k
theorem la_dear_R {A : la_A} (hO : la_Ok A) (k : Nat) (hk : k ≤ la_n A) : lu_R (la_dear A k) 0 (20 * k) := by
  induction k with
  | zero => exact ⟨0, by decide, by decide, rfl⟩
  | succ k ih =>
    obtain ⟨a, -, ha, ea⟩ := ih (by omega)
    obtain ⟨d, -, hd, ed⟩ := (hO.2.2.2.2.2.2.2 k (by omega)).2.2.1
    rw [la_dear]
    split
    · rw [ea, ed, nI_add]; exact ⟨_, Nat.zero_le _, by omega, rfl⟩
    · rw [ea]; exact ⟨_, Nat.zero_le _, by omega, rfl⟩
theorem lc_dear (hσ : lr_S σ) {w : lt_W} {A : la_A} (hA : lc_T w 12 A) : f_X5_dearThere σ 12 w = some (la_dear A (la_n A)) := by
  obtain ⟨⟨s0, s1, s2, s3, s4, s5, s6, s7, s8⟩, l1, l2, l3, l4, l5, l6, l7, l8⟩ := lr_nowS hσ
  have h7 := hA.2.1
  unfold f_X5_dearThere fb_X5_dearThere_0
  refine lu_up (fun f k x => fb_X5_dearThere_4 σ 12 w f x (nI k)) (la_n A) (fun k => la_dear A k) _ (fun f k hk => ?_) (fun f => ?_) lt_fu 0 (by omega) (by unfold lt_fu; omega)
  · obtain ⟨a0, a1, a2, a3, a4, a5⟩ := hA.2.2.2.2 k hk
    show fb_X5_dearThere_4 σ 12 w (f + 1) _ _ = fb_X5_dearThere_4 σ 12 w f _ _
    rw [fb_X5_dearThere_4, if_neg (lc_lt hA hk), lc_isThere hA hk, lu_bind, lu_q, s4, lu_ck (by omega) (by omega), nI_clamp (by omega), a2, lu_let, nI_1, la_dear]
    by_cases e : la_here A k = true
    · rw [if_pos e, if_pos e]
    · rw [if_neg e, if_neg e]
  · show fb_X5_dearThere_4 σ 12 w (f + 1) _ _ = _
    rw [fb_X5_dearThere_4, if_pos (lc_ge hA (by omega) (Nat.le_refl _))]
theorem lm_share {o : Nat} (hS : lm_S σ o) {w : lt_W} {A : la_A} (hA : lm_T w (lt_r σ o 0) 0 A) {g : Nat} (hg : g < la_n A) (v : Int32) (hv : v = la_dear A (la_n A)) : f_X12_share σ o (nI g) w = if v = 0 then Option.bind (f_X12_is σ o 6 w) (fun q8 => lt_bz q8.1 (some (q8.1, q8.2))) else Option.bind (f_X12_isHere σ o (nI g) w) (fun q2 => if q2 = 0 then Option.bind (f_X12_is σ o 7 w) (fun q3 => lt_bz q3.1 (some (q3.1, q3.2))) else Option.bind (f_X12_guestOf σ o (nI g) 2 w) (fun q5 => Option.bind (f_X12_tellsBy σ o q5.toInt64 v.toInt64 w) (fun q6 => lt_bz q6.1 (some (q6.1, q6.2))))) := by
  have h7 := hA.2.1
  unfold f_X12_share fb_X12_share_0
  rw [lq_ig_y hS hA hg, lu_bind, if_neg lu_10]
  refine lu_up (fun f k x => fb_X12_share_18 σ o f (nI g) x (nI k) w) (la_n A) (fun k => la_dear A k) _ (fun f k hk => ?_) (fun f => ?_) lt_fu 0 (by omega) (by unfold lt_fu; omega)
  · show fb_X12_share_18 σ o (f + 1) _ _ _ w = fb_X12_share_18 σ o f _ _ _ w
    rw [fb_X12_share_18, hS, lm_k0, lm_c0, if_neg (lm_lt hA hk), lm_here hS hA hk, lu_bind, lu_q, lm_of (x := 2) (f := 2) hS hA hk rfl (by decide), lu_bind, Int32.add_zero, nI_1, la_dear]
    by_cases e : la_here A k = true
    · rw [if_pos e, if_pos e]
    · rw [if_neg e, if_neg e]
  · show fb_X12_share_18 σ o (f + 1) _ _ _ w = _
    rw [fb_X12_share_18, hS, lm_k0, lm_c0, if_pos (lm_ge hA (by omega) (Nat.le_refl _)), hv]
theorem op_share (hσ : lr_S σ) {w : lt_W} {A : la_A} (h : lr_0 w A) (x : Int32) : lr_ok (f_X11_share σ 0 x) (f_X12_share σ 233 x) w := by
  have hN := lr_now hσ
  have hS := lr_mS hσ
  have h7 := h.n7
  rcases lq_ix x h7 with hx | ⟨g, hg, rfl⟩
  · refine op_refuse h (r := 0) (st := 1) ?_ (fun w1 h1 => ?_)
    · unfold f_X11_share fb_X11_share_0
      rw [hN, lq_hg_n h.c hx, lu_bind, if_pos rfl]; rfl
    · unfold f_X12_share fb_X12_share_0
      rw [lq_ig_n hS (h1.m hσ) hx, lu_bind, if_pos rfl]; rfl
  · obtain ⟨⟨s0, s1, s2, s3, s4, s5, s6, s7, s8⟩, l1, l2, l3, l4, l5, l6, l7, l8⟩ := lr_nowS hσ
    obtain ⟨a0, a1, a2, a3, a4, a5⟩ := h.c.2.2.2.2 g hg
    obtain ⟨t, ht, et, elt⟩ := lf_i64 (la_dear_R h.O (la_n A) (Nat.le_refl _)) (by omega)
    obtain ⟨d, hd, ed, el⟩ := lf_i64 (h.O.2.2.2.2.2.2.2 g hg).2.2.1 (by decide)
    by_cases c0 : t = 0
    · have z : la_dear A (la_n A) = 0 := by rw [et, c0]; rfl
      refine op_refuse h (r := 0) (st := 6) ?_ (fun w1 h1 => ?_)
      · unfold f_X11_share fb_X11_share_0
        rw [hN, lq_hg_y h.c hg, lu_bind, if_neg lu_10, lc_dear hσ h.c, lu_bind, if_pos z]; rfl
      · rw [lm_share hS (h1.m hσ) hg _ rfl, if_pos z]; rfl
    · have z : ¬ la_dear A (la_n A) = 0 := by
        rw [et]; exact nI_ne0 (by omega) (by omega)
      by_cases e : la_here A g = true
      · refine lr_ok.f (wa := w) (lN (d / Nat.gcd d t)) (lN (t / Nat.gcd d t)) h ?_ (lr_Q.refl w) (fun w1 h1 => ⟨w1, ?_, lr_Q.refl w1, rfl⟩)
        · unfold f_X11_share fb_X11_share_0
          rw [hN, lq_hg_y h.c hg, lu_bind, if_neg lu_10, lc_dear hσ h.c, lu_bind, if_neg z, lc_isThere h.c hg, lu_bind, lu_q, if_pos e, s4, lu_ck (by omega) (by omega), nI_clamp (by omega), a2, el, elt, lf_fraction (by omega) (by omega) (by omega)]
          rfl
        · rw [lm_share hS (h1.m hσ) hg _ rfl, if_neg z, lm_here hS (h1.m hσ) hg, lu_bind, lu_q, if_pos e, lm_of (x := 2) (f := 2) hS (h1.m hσ) hg rfl (by decide), lu_bind, el, elt, lf_tells (by omega) (by omega) (by omega)]
          rfl
      · refine op_refuse h (r := 0) (st := 7) ?_ (fun w1 h1 => ?_)
        · unfold f_X11_share fb_X11_share_0
          rw [hN, lq_hg_y h.c hg, lu_bind, if_neg lu_10, lc_dear hσ h.c, lu_bind, if_neg z, lc_isThere h.c hg, lu_bind, lu_q, if_neg e]; rfl
        · rw [lm_share hS (h1.m hσ) hg _ rfl, if_neg z, lm_here hS (h1.m hσ) hg, lu_bind, lu_q, if_neg e]; rfl
end FR