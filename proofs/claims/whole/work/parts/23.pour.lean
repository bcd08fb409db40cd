/-! pour() -/
section PO
variable {σ : lt_S}
theorem lt_has2 {o : Nat} {w : lt_W} {m p : Nat} {x : Int32} (hm : m ≤ 60) (e : lt_gi w o 2 = nI m) (hp : p < 2 ^ 31) (hx : ¬ x < 0) : ∃ c, c < 2 ^ 31 ∧ x = nI c ∧ f_X8_has σ o (nI p) x w = some (if p + c ≤ m then 1 else 0) := by
  obtain ⟨c, hc, rfl⟩ := nI_of hx
  exact ⟨c, hc, rfl, lt_has hm e hp hc⟩
/-- the reference's loop: so many numbers of one row come to another place, as they were -/
theorem lt_pm (hσ : lr_S σ) {i j p q c : Nat} (hi : i < 4) (hj : j < 4) (hp : p + c ≤ 60) (hq : q + c ≤ 60) (w : lt_W) : ∃ wb, fb_X12_pour_118 σ 233 lt_fu (nI i) (nI p) (nI j) (nI q) (nI c) 0 w = some (1, lt_si wb 233 2 0) ∧ (∀ a k, lt_gi wb a k = lt_gi w a k) ∧ (∀ a k, a ≠ 238 → lt_gl wb a k = lt_gl w a k) ∧ ∀ k, lt_gl wb 238 k = if 60 * j + q ≤ k ∧ k < 60 * j + q + c then lt_gl w 238 (60 * i + p + (k - (60 * j + q))) else lt_gl w 238 k := by
  let P : Nat → Nat → Prop := fun t k => if q ≤ p then 60 * j + q ≤ k ∧ k < 60 * j + q + t else 60 * j + q + (c - t) ≤ k ∧ k < 60 * j + q + c
  have hP : ∀ t k, P t k ↔ (q ≤ p ∧ 60 * j + q ≤ k ∧ k < 60 * j + q + t) ∨ (¬ q ≤ p ∧ 60 * j + q + (c - t) ≤ k ∧ k < 60 * j + q + c) := by
    intro t k
    show (if q ≤ p then _ else _) ↔ _
    by_cases h : q ≤ p
    · rw [if_pos h]; constructor
      · intro z; exact Or.inl ⟨h, z⟩
      · rintro (z | z)
        · exact z.2
        · exact absurd h z.1
    · rw [if_neg h]; constructor
      · intro z; exact Or.inr ⟨h, z⟩
      · rintro (z | z)
        · exact absurd z.1 h
        · exact z.2
  have := lu_upR (fun f k u => fb_X12_pour_118 σ 233 f (nI i) (nI p) (nI j) (nI q) (nI c) (nI k) u) c (fun t u => (∀ a k, lt_gi u a k = lt_gi w a k) ∧ (∀ a k, a ≠ 238 → lt_gl u a k = lt_gl w a k) ∧ ∀ k, (P t k → lt_gl u 238 k = lt_gl w 238 (60 * i + p + (k - (60 * j + q)))) ∧ (¬ P t k → lt_gl u 238 k = lt_gl w 238 k)) (fun r => ∃ wb, r = (1, lt_si wb 233 2 0) ∧ (∀ a k, lt_gi wb a k = lt_gi w a k) ∧ (∀ a k, a ≠ 238 → lt_gl wb a k = lt_gl w a k) ∧ ∀ k, lt_gl wb 238 k = if 60 * j + q ≤ k ∧ k < 60 * j + q + c then lt_gl w 238 (60 * i + p + (k - (60 * j + q))) else lt_gl w 238 k) (fun f t u ht hI => ?_) (fun f u hI => ?_) lt_fu 0 w (by omega) (by unfold lt_fu; omega) ⟨fun _ _ => rfl, fun _ _ _ => rfl, fun k => ⟨fun z => by rw [hP] at z; omega, fun _ => rfl⟩⟩
  · obtain ⟨r, e1, wb, e2, e3⟩ := this
    exact ⟨wb, by rw [← e2]; exact e1, e3⟩
  · obtain ⟨x1, x2, x3⟩ := hI
    show ∃ b', fb_X12_pour_118 σ 233 (f + 1) _ _ _ _ _ (nI t) u = fb_X12_pour_118 σ 233 f _ _ _ _ _ (nI (t + 1)) b' ∧ _
    have key : ∀ d, d < c → fb_X12_pour_143 σ 233 (fun x1 x2 x3 x4 x5 x6 w => fb_X12_pour_118 σ 233 f x1 x2 x3 x4 x5 x6 w) (nI i) (nI p) (nI j) (nI q) (nI c) (nI t) (nI d) u = fb_X12_pour_118 σ 233 f (nI i) (nI p) (nI j) (nI q) (nI c) (nI (t + 1)) (lt_sl u 238 (60 * j + q + d) (lt_gl u 238 (60 * i + p + d))) := by
      intro d hd
      unfold fb_X12_pour_143
      rw [lq_r233_7 hσ, lq_l238 hσ, show (60 : Int32) = nI 60 from rfl, pk_mul, pk_mul, nI_add, nI_add, nI_add, nI_add, lu_ck (by omega) (by decide), lu_ck (by omega) (by decide), lu_let, nI_clamp (by omega), nI_clamp (by omega), nI_1]
    rw [fb_X12_pour_118, if_neg (nI_ge ht (by omega))]
    by_cases h : q ≤ p
    · rw [if_pos (nI_le h (by omega)), key t ht]
      refine ⟨_, rfl, x1, fun a k z => by rw [lu_glsl, if_neg (fun y => z y.1)]; exact x2 a k z, fun k => ⟨fun z => ?_, fun z => ?_⟩⟩
      · rw [hP] at z
        rw [lu_glsl]
        by_cases e : k = 60 * j + q + t
        · rw [if_pos ⟨rfl, e⟩, (x3 _).2 (by rw [hP]; omega)]
          congr 1; omega
        · rw [if_neg (fun y => e y.2)]; exact (x3 k).1 (by rw [hP]; omega)
      · rw [hP] at z
        rw [lu_glsl, if_neg (by omega)]; exact (x3 k).2 (by rw [hP]; omega)
    · have hc1 : nI c - 1 - nI t = nI (c - 1 - t) := by
        rw [show (1 : Int32) = nI 1 from rfl, pk_sub (by omega), pk_sub (by omega)]
      rw [if_neg (nI_ge (by omega) (by omega)), hc1, key (c - 1 - t) (by omega)]
      refine ⟨_, rfl, x1, fun a k z => by rw [lu_glsl, if_neg (fun y => z y.1)]; exact x2 a k z, fun k => ⟨fun z => ?_, fun z => ?_⟩⟩
      · rw [hP] at z
        rw [lu_glsl]
        by_cases e : k = 60 * j + q + (c - 1 - t)
        · rw [if_pos ⟨rfl, e⟩, (x3 _).2 (by rw [hP]; omega)]
          congr 1; omega
        · rw [if_neg (fun y => e y.2)]; exact (x3 k).1 (by rw [hP]; omega)
      · rw [hP] at z
        rw [lu_glsl, if_neg (by omega)]; exact (x3 k).2 (by rw [hP]; omega)
  · obtain ⟨x1, x2, x3⟩ := hI
    show ∃ r, fb_X12_pour_118 σ 233 (f + 1) _ _ _ _ _ _ u = _ ∧ _
    rw [fb_X12_pour_118, if_pos (nI_le (Nat.le_refl _) (by omega))]
    refine ⟨_, rfl, u, rfl, x1, x2, fun k => ?_⟩
    by_cases z : 60 * j + q ≤ k ∧ k < 60 * j + q + c
    · rw [if_pos z]; exact (x3 k).1 (by rw [hP]; omega)
    · rw [if_neg z]; exact (x3 k).2 (by rw [hP]; omega)
theorem op_pour (hσ : lr_S σ) {w : lt_W} {A : la_A} (h : lr_0 w A) (x1 x2 x3 x4 x5 : Int32) : lr_ok (f_X11_pour σ 0 x1 x2 x3 x4 x5) (f_X12_pour σ 233 x1 x2 x3 x4 x5) w := by
  -- 1
  by_cases g1 : x1 < 0 ∨ (4 : Int32) ≤ x1
  · refine op_refuse h (r := 0) (st := 1) ?_ (fun w1 h1 => ?_)
    · unfold f_X11_pour fb_X11_pour_0
      rw [(lt_isT_n g1).1, lu_bind, if_pos rfl]; rfl
    · unfold f_X12_pour fb_X12_pour_0
      rw [(lt_isT_n g1).2, lu_bind, if_pos rfl]; rfl
  obtain ⟨i, hi, rfl⟩ := (lt_ix4 (x := x1)).resolve_left g1
  by_cases g3 : x3 < 0 ∨ (4 : Int32) ≤ x3
  · refine op_refuse h (r := 0) (st := 1) ?_ (fun w1 h1 => ?_)
    · unfold f_X11_pour fb_X11_pour_0
      rw [(lt_isT_y hi).1, lu_bind, if_neg lu_10, (lt_isT_n g3).1, lu_bind, if_pos rfl]; rfl
    · unfold f_X12_pour fb_X12_pour_0
      rw [(lt_isT_y hi).2, lu_bind, if_neg lu_10, (lt_isT_n g3).2, lu_bind, if_pos rfl]; rfl
  obtain ⟨j, hj, rfl⟩ := (lt_ix4 (x := x3)).resolve_left g3
  by_cases g2 : x2 < 0
  · refine op_refuse h (r := 0) (st := 1) ?_ (fun w1 h1 => ?_)
    · unfold f_X11_pour fb_X11_pour_0
      rw [(lt_isT_y hi).1, lu_bind, if_neg lu_10, (lt_isT_y hj).1, lu_bind, if_neg lu_10, if_pos g2]; rfl
    · unfold f_X12_pour fb_X12_pour_0
      rw [(lt_isT_y hi).2, lu_bind, if_neg lu_10, (lt_isT_y hj).2, lu_bind, if_neg lu_10, if_pos g2]; rfl
  by_cases g4 : x4 < 0
  · refine op_refuse h (r := 0) (st := 1) ?_ (fun w1 h1 => ?_)
    · unfold f_X11_pour fb_X11_pour_0
      rw [(lt_isT_y hi).1, lu_bind, if_neg lu_10, (lt_isT_y hj).1, lu_bind, if_neg lu_10, if_neg g2, if_pos g4]; rfl
    · unfold f_X12_pour fb_X12_pour_0
      rw [(lt_isT_y hi).2, lu_bind, if_neg lu_10, (lt_isT_y hj).2, lu_bind, if_neg lu_10, if_neg g2, if_pos g4]; rfl
  by_cases g5 : x5 < 0
  · have g5' : ¬ (0 : Int32) ≤ x5 := Int32.not_le.mpr g5
    refine op_refuse h (r := 0) (st := 1) ?_ (fun w1 h1 => ?_)
    · unfold f_X11_pour fb_X11_pour_0
      rw [(lt_isT_y hi).1, lu_bind, if_neg lu_10, (lt_isT_y hj).1, lu_bind, if_neg lu_10, if_neg g2, if_neg g4, if_neg g5']; rfl
    · unfold f_X12_pour fb_X12_pour_0
      rw [(lt_isT_y hi).2, lu_bind, if_neg lu_10, (lt_isT_y hj).2, lu_bind, if_neg lu_10, if_neg g2, if_neg g4, if_neg g5']; rfl
  have g5' : (0 : Int32) ≤ x5 := Int32.not_lt.mp g5
  obtain ⟨p, hp, rfl⟩ := nI_of g2
  obtain ⟨q, hq, rfl⟩ := nI_of g4
  obtain ⟨c, hc, rfl⟩ := nI_of g5
  obtain ⟨t1, t2, t3⟩ := lt_trR hσ hi
  obtain ⟨u1, u2, u3⟩ := lt_trR hσ hj
  have toC : f_X11_pour σ 0 (nI i) (nI p) (nI j) (nI q) (nI c) w = if (lt_gi w (2 + 2 * i) 0) = 0 then fb_X11_pour_66 σ 0 w else if (lt_gi w (2 + 2 * j) 0) = 0 then fb_X11_pour_66 σ 0 w else if (lt_gi w (2 + 2 * i) 1) = (lt_gi w (2 + 2 * j) 1) then Option.bind (f_X8_has σ (2 + 2 * i) (nI p) (nI c) w) (fun q7 => if q7 = 0 then fb_X11_pour_115 σ 0 w else Option.bind (f_X8_has σ (2 + 2 * j) (nI q) (nI c) w) (fun q8 => if q8 = 0 then fb_X11_pour_115 σ 0 w else lt_cc 60 60 (nI p) (nI q) (nI c) (lt_let (lt_cl w (3 + 2 * i) (3 + 2 * j) p q c) (fun w11 => Option.bind (f_X11_agreed σ 0 w11) (fun q12 => lt_bz q12.1 (some (q12.1, q12.2))))))) else Option.bind (f_X11_refused σ 0 8 w) (fun q14 => lt_bz q14.1 (some (q14.1, q14.2))) := by
    unfold f_X11_pour fb_X11_pour_0
    rw [(lt_isT_y hi).1, lu_bind, if_neg lu_10, (lt_isT_y hj).1, lu_bind, if_neg lu_10, if_neg g2, if_neg g4, if_pos g5', lq_r0_3 hσ, lq_l1 hσ, lu_ck hi (by decide), lu_ck hj (by decide), nI_clamp (show i < 2 ^ 31 by omega), nI_clamp (show j < 2 ^ 31 by omega), nI_clamp hp, nI_clamp hq, nI_clamp hc, t1, u1, t2, u2, t3, u3]
  have toM : ∀ w1, f_X12_pour σ 233 (nI i) (nI p) (nI j) (nI q) (nI c) w1 = if (lt_gi w1 237 i) = (-1) then fb_X12_pour_54 σ 233 w1 else if (lt_gi w1 237 j) = (-1) then fb_X12_pour_54 σ 233 w1 else if (lt_gi w1 236 i) = (lt_gi w1 236 j) then (if ((lt_gi w1 237 i) - nI p) < nI c then fb_X12_pour_109 σ 233 w1 else if nI c ≤ ((lt_gi w1 237 j) - nI q) then fb_X12_pour_118 σ 233 lt_fu (nI i) (nI p) (nI j) (nI q) (nI c) 0 w1 else fb_X12_pour_109 σ 233 w1) else Option.bind (f_X12_is σ 233 8 w1) (fun q9 => lt_bz q9.1 (some (q9.1, q9.2))) := by
    intro w1
    unfold f_X12_pour fb_X12_pour_0
    rw [(lt_isT_y hi).2, lu_bind, if_neg lu_10, (lt_isT_y hj).2, lu_bind, if_neg lu_10, if_neg g2, if_neg g4, if_pos g5', lq_r233_6 hσ, lq_r233_5 hσ, lq_l236 hσ, lq_l237 hσ, lu_ck hi (by decide), lu_ck hj (by decide), lu_ck hi (by decide), lu_ck hj (by decide), lu_ck hi (by decide), lu_ck hj (by decide), nI_clamp (show i < 2 ^ 31 by omega), nI_clamp (show j < 2 ^ 31 by omega)]
  rcases lt_laid_or h hi with ⟨e1, e2⟩ | ⟨m, s, hL⟩
  · refine op_refuse2 h (r := 0) (st := 2) ?_ (fun w1 h1 hQ => ?_)
    · rw [toC, if_pos e1]; rfl
    · rw [toM, hQ.1.1 237 i (by unfold lr_px; omega), if_pos e2]; rfl
  obtain ⟨m60, s3, l0, l2, r2, l1, r1, ln⟩ := hL
  have n0 : ¬ lt_gi w (2 + 2 * i) 0 = 0 := by rw [l0]; decide
  have n1 : ¬ lt_gi w 237 i = -1 := by rw [r2]; exact lu_ne1 (by omega)
  rcases lt_laid_or h hj with ⟨e1, e2⟩ | ⟨m', s', hL'⟩
  · refine op_refuse2 h (r := 0) (st := 2) ?_ (fun w1 h1 hQ => ?_)
    · rw [toC, if_neg n0, if_pos e1]; rfl
    · rw [toM, hQ.1.1 237 i (by unfold lr_px; omega), hQ.1.1 237 j (by unfold lr_px; omega), if_neg n1, if_pos e2]; rfl
  obtain ⟨m60', s3', l0', l2', r2', l1', r1', ln'⟩ := hL'
  have n0' : ¬ lt_gi w (2 + 2 * j) 0 = 0 := by rw [l0']; decide
  have n1' : ¬ lt_gi w 237 j = -1 := by rw [r2']; exact lu_ne1 (by omega)
  have toM2 : ∀ w1, (∀ a k, a = 237 ∨ a = 236 → lt_gi w1 a k = lt_gi w a k) → f_X12_pour σ 233 (nI i) (nI p) (nI j) (nI q) (nI c) w1 = if nI s = nI s' then (if (nI m - nI p) < nI c then fb_X12_pour_109 σ 233 w1 else if nI c ≤ (nI m' - nI q) then fb_X12_pour_118 σ 233 lt_fu (nI i) (nI p) (nI j) (nI q) (nI c) 0 w1 else fb_X12_pour_109 σ 233 w1) else Option.bind (f_X12_is σ 233 8 w1) (fun q9 => lt_bz q9.1 (some (q9.1, q9.2))) := by
    intro w1 hw
    rw [toM, hw 237 i (Or.inl rfl), hw 237 j (Or.inl rfl), hw 236 i (Or.inr rfl), hw 236 j (Or.inr rfl), if_neg n1, if_neg n1', r1, r1', r2, r2']
  by_cases es : s = s'
  · have es' : nI s = nI s' := by rw [es]
    have hc1 := lt_has (σ := σ) (o := 2 + 2 * i) (w := w) m60 l2 hp hc
    have hc2 := lt_has (σ := σ) (o := 2 + 2 * j) (w := w) m60' l2' hq hc
    have cmp : ∀ {m p c : Nat}, m ≤ 60 → p < 2 ^ 31 → c < 2 ^ 31 → (nI m - nI p < nI c ↔ ¬ p + c ≤ m) := by
      intro m p c hm hp hc
      have e := i32_toInt_ofNat_sub (n := m) (c := p) (by omega) hp
      rw [Int32.lt_iff_toInt_lt, show nI m - nI p = Int32.ofNat m - Int32.ofNat p from rfl, e, nI_toInt hc]; omega
    by_cases k1 : p + c ≤ m
    · by_cases k2 : q + c ≤ m'
      · refine lr_ok.tr (wa := lt_cl w (3 + 2 * i) (3 + 2 * j) p q c) (r := 1) (st := 0) h ?_ (fun a k z => ⟨rfl, by rw [lu_glcl, if_neg (by omega)]⟩) (fun w1 h1 => ?_)
        · rw [toC, if_neg n0, if_neg n0', l1, l1', if_pos es', hc1, lu_bind, lu_q, if_pos k1, hc2, lu_bind, lu_q, if_pos k2]
          unfold lt_cc
          rw [if_neg]
          · rfl
          · rw [nI_clamp hp, nI_clamp hq, nI_clamp hc]
            rintro (z | z | z | z | z)
            · exact nI_pos hp z
            · exact nI_pos hq z
            · exact nI_pos hc z
            · omega
            · omega
        · obtain ⟨wb, b1, b2, b3, b4⟩ := lt_pm hσ hi hj (p := p) (q := q) (c := c) (by omega) (by omega) w1
          refine ⟨wb, ?_, ⟨fun a k _ _ => b2 a k, b3⟩, fun v hv => ?_⟩
          · rw [toM2 w1 (fun a k z => by rw [(h1 a k (by omega)).1]; rfl), if_pos es', if_neg (fun z => (cmp m60 hp hc).mp z k1), if_pos (Int32.not_lt.mp fun z => (cmp m60' hq hc).mp z k2)]
            exact b1
          · have gi : ∀ a k, 0 < a → lt_gi wb a k = lt_gi w a k := fun a k z => by rw [b2, (h1 a k z).1]; rfl
            have old := h.1.2.1 v hv
            by_cases e : v = j
            · subst e
              refine Or.inr ⟨?_, m', s', m60', s3', ?_, ?_, ?_, ?_, fun k hk => ?_⟩
              · rw [gi _ _ (by omega)]; exact l0'
              · rw [gi _ _ (by omega)]; exact l2'
              · rw [gi _ _ (by omega)]; exact r2'
              · rw [gi _ _ (by omega)]; exact l1'
              · rw [gi _ _ (by omega)]; exact r1'
              · have hR : ∀ x, lt_gl w1 238 x = lt_gl w 238 x := fun x => by
                  rw [(h1 238 x (by decide)).2, lu_glcl]; exact if_neg (by omega)
                rw [b3 _ _ (by omega), (h1 _ _ (by omega)).2, b4, hR, hR, lu_glcl]
                by_cases z : q ≤ k ∧ k < q + c
                · rw [if_pos ⟨rfl, z⟩]
                  have z2 : 60 * v + q ≤ 60 * v + k ∧ 60 * v + k < 60 * v + q + c := by omega
                  rw [if_pos z2, show 60 * i + p + (60 * v + k - (60 * v + q)) = 60 * i + (p + (k - q)) from by omega]
                  exact ln _ (by omega)
                · rw [if_neg (fun y => z y.2)]
                  have z2 : ¬ (60 * v + q ≤ 60 * v + k ∧ 60 * v + k < 60 * v + q + c) := by omega
                  rw [if_neg z2]; exact ln' k hk
            · refine old.congr (fun k => gi _ _ (by omega)) (gi _ _ (by omega)) (gi _ _ (by omega)) (fun k hk => ?_) (fun k hk => ?_)
              · rw [b3 _ _ (by omega), (h1 _ _ (by omega)).2, lu_glcl, if_neg (by omega)]
              · rw [b4, if_neg (by omega), (h1 _ _ (by omega)).2, lu_glcl, if_neg (by omega)]
      · refine op_refuse2 h (r := 0) (st := 3) ?_ (fun w1 h1 hQ => ?_)
        · rw [toC, if_neg n0, if_neg n0', l1, l1', if_pos es', hc1, lu_bind, lu_q, if_pos k1, hc2, lu_bind, lu_q, if_neg k2]; rfl
        · rw [toM2 w1 (fun a k z => hQ.1.1 a k (by unfold lr_px; omega)), if_pos es', if_neg (fun z => (cmp m60 hp hc).mp z k1), if_neg (fun z => Int32.not_lt.mpr z ((cmp m60' hq hc).mpr k2))]; rfl
    · refine op_refuse2 h (r := 0) (st := 3) ?_ (fun w1 h1 hQ => ?_)
      · rw [toC, if_neg n0, if_neg n0', l1, l1', if_pos es', hc1, lu_bind, lu_q, if_neg k1]; rfl
      · rw [toM2 w1 (fun a k z => hQ.1.1 a k (by unfold lr_px; omega)), if_pos es', if_pos ((cmp m60 hp hc).mpr k1)]; rfl
  · have es' : ¬ nI s = nI s' := fun z => es ((nI_eq (by omega) (by omega)).mp z)
    refine op_refuse2 h (r := 0) (st := 8) ?_ (fun w1 h1 hQ => ?_)
    · rw [toC, if_neg n0, if_neg n0', l1, l1', if_neg es']; rfl
    · rw [toM2 w1 (fun a k z => hQ.1.1 a k (by unfold lr_px; omega)), if_neg es']; rfl
end PO