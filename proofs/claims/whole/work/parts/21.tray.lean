/-! TRAYS -/
section TR
variable {σ : lt_S}
theorem lt_ix4 {x : Int32} : (x < 0 ∨ (4 : Int32) ≤ x) ∨ ∃ i, i < 4 ∧ x = nI i := by
  rcases pk_ix x (n := 4) (by decide) with h | h | h
  · exact Or.inl (Or.inl h)
  · exact Or.inl (Or.inr h)
  · exact Or.inr h
theorem lt_trR (hσ : lr_S σ) {i : Nat} (hi : i < 4) : lt_r σ 1 i = 2 + 2 * i ∧ lt_r σ (2 + 2 * i) 3 = 3 + 2 * i ∧ lt_len σ (3 + 2 * i) = 60 := by
  have : i = 0 ∨ i = 1 ∨ i = 2 ∨ i = 3 := by omega
  rcases this with rfl | rfl | rfl | rfl
  · exact ⟨(hσ.r 1 0 (by decide) (by decide)), lq_r2_3 hσ, lq_l3 hσ⟩
  · exact ⟨(hσ.r 1 1 (by decide) (by decide)), lq_r4_3 hσ, lq_l5 hσ⟩
  · exact ⟨(hσ.r 1 2 (by decide) (by decide)), lq_r6_3 hσ, lq_l7 hσ⟩
  · exact ⟨(hσ.r 1 3 (by decide) (by decide)), lq_r8_3 hσ, lq_l9 hσ⟩
theorem lt_isT_y {i : Nat} (hi : i < 4) : f_X11_isTray (nI i) = some 1 ∧ f_X12_isTray (nI i) = some 1 := by
  constructor
  · unfold f_X11_isTray fb_X11_isTray_0
    rw [lq_within_y (lo := 0) (hi := 3) 0 3 rfl rfl ⟨nI_pos' (by omega), nI_le (b := 3) (by omega) (by decide)⟩]; rfl
  · unfold f_X12_isTray fb_X12_isTray_0
    rw [if_neg (nI_pos (by omega)), if_neg (show ¬ (4 : Int32) ≤ nI i from nI_ge (b := 4) hi (by decide))]
theorem lt_isT_n {x : Int32} (h : x < 0 ∨ (4 : Int32) ≤ x) : f_X11_isTray x = some 0 ∧ f_X12_isTray x = some 0 := by
  constructor
  · unfold f_X11_isTray fb_X11_isTray_0
    rw [lq_within_n (lo := 0) (hi := 3) 0 3 rfl rfl (fun z => by
      rcases h with h | h
      · exact Int32.not_lt.mpr z.1 h
      · have := Int32.le_trans h z.2
        exact absurd this (by decide))]; rfl
  · unfold f_X12_isTray fb_X12_isTray_0
    rcases h with h | h
    · rw [if_pos h]
    · rw [if_pos h]; split <;> rfl
theorem lt_cmp {a b : Nat} (ha : a < 2 ^ 62) (hb : b < 2 ^ 62) : 0 < lg_cmp (lN a) (lN b) ↔ b < a := by
  unfold lg_cmp
  have h1 : lN a > lN b ↔ b < a := by
    rw [gt_iff_lt, Int64.lt_iff_toInt_lt, pk_lT (by omega), pk_lT (by omega)]; omega
  by_cases c : b < a
  · rw [if_pos (h1.mpr c)]; exact ⟨fun _ => c, fun _ => by decide⟩
  · rw [if_neg (fun z => c (h1.mp z))]
    split
    · exact ⟨fun z => absurd z (by decide), fun z => absurd z c⟩
    · exact ⟨fun z => absurd z (by decide), fun z => absurd z c⟩
theorem lt_has {o : Nat} {w : lt_W} {m p c : Nat} (hm : m ≤ 60) (e : lt_gi w o 2 = nI m) (hp : p < 2 ^ 31) (hc : c < 2 ^ 31) : f_X8_has σ o (nI p) (nI c) w = some (if p + c ≤ m then 1 else 0) := by
  unfold f_X8_has fb_X8_has_0
  rw [if_neg (nI_pos hp), if_neg (nI_pos hc), e, nI_l hp, nI_l hc, nI_l (by omega), lN_add]
  by_cases h : p + c ≤ m
  · rw [if_neg (fun z => by have := (lt_cmp (by omega) (by omega)).mp z; omega), if_pos h]
  · rw [if_pos ((lt_cmp (by omega) (by omega)).mpr (by omega)), if_neg h]
theorem lt_hasN {o : Nat} {w : lt_W} {x c : Int32} (h : x < 0) : f_X8_has σ o x c w = some 0 := by
  unfold f_X8_has fb_X8_has_0
  rw [if_pos h]
/-- the STATUS of a place, class -/
theorem lt_tf (hσ : lr_S σ) {w : lt_W} {i : Nat} (hi : i < 4) (p c : Int32) : f_X11_trayFails σ 0 (nI i) p c w = if lt_gi w (2 + 2 * i) 0 = 0 then some 2 else Option.bind (f_X8_has σ (2 + 2 * i) p c w) (fun q6 => if q6 = 0 then some 3 else some 0) := by
  obtain ⟨r1, r2, r3⟩ := lt_trR hσ hi
  unfold f_X11_trayFails fb_X11_trayFails_0
  rw [(lt_isT_y hi).1, lu_bind, if_neg lu_10, lq_r0_3 hσ, lq_l1 hσ, lu_ck hi (by decide), lu_ck hi (by decide), nI_clamp (by omega), r1]
theorem lt_tfN {w : lt_W} {x : Int32} (h : x < 0 ∨ (4 : Int32) ≤ x) (p c : Int32) : f_X11_trayFails σ 0 x p c w = some 1 := by
  unfold f_X11_trayFails fb_X11_trayFails_0
  rw [(lt_isT_n h).1, lu_bind, if_pos rfl]
theorem lt_wpN {w : lt_W} {x : Int32} (h : x < 0 ∨ (4 : Int32) ≤ x) (p : Int32) : f_X12_wrongPlace σ 233 x p w = some 1 := by
  unfold f_X12_wrongPlace fb_X12_wrongPlace_0
  rw [(lt_isT_n h).2, lu_bind, if_pos rfl]
theorem lt_wp (hσ : lr_S σ) {w : lt_W} {i : Nat} (hi : i < 4) (p : Int32) : f_X12_wrongPlace σ 233 (nI i) p w = if lt_gi w 237 i = -1 then some 2 else if p < 0 then some 3 else if p < lt_gi w 237 i then some 0 else some 3 := by
  unfold f_X12_wrongPlace fb_X12_wrongPlace_0
  rw [(lt_isT_y hi).2, lu_bind, if_neg lu_10, lq_r233_6 hσ, lq_l237 hσ, lu_ck hi (by decide), lu_ck hi (by decide), nI_clamp (by omega)]
def lt_shr (v : Int64) (s : Nat) : Int64 := if s = 0 then v.toInt32.toInt8.toInt32.toInt64 else if s = 1 then v.toInt32.toInt16.toInt32.toInt64 else if s = 2 then v.toInt32.toInt64 else v
theorem lt_shrunk {v : Int64} {s : Nat} (hs : s ≤ 3) : f_X12_shrunk v (nI s) = some (lt_shr v s) := by
  have : s = 0 ∨ s = 1 ∨ s = 2 ∨ s = 3 := by omega
  rcases this with rfl | rfl | rfl | rfl <;> rfl
theorem lt_put (hσ : lr_S σ) {w : lt_W} {i m s p : Nat} {v : Int64} (hi : i < 4) (hm : m ≤ 60) (hs : s ≤ 3) (e2 : lt_gi w (2 + 2 * i) 2 = nI m) (e1 : lt_gi w (2 + 2 * i) 1 = nI s) (hp : p < m) : f_X8_put σ (2 + 2 * i) (nI p) v w = some (lt_sl w (3 + 2 * i) p (lt_shr v s)) := by
  obtain ⟨r1, r2, r3⟩ := lt_trR hσ hi
  unfold f_X8_put fb_X8_put_0
  rw [show (1 : Int32) = nI 1 from rfl, lt_has hm e2 (by omega) (by decide), lu_bind, lu_q, if_pos (by omega), e1, r2, r3]
  simp only [lu_ck (show p < 60 by omega) (show 60 < 2 ^ 31 by decide), lu_let, nI_clamp (show p < 2 ^ 31 by omega)]
  have : s = 0 ∨ s = 1 ∨ s = 2 ∨ s = 3 := by omega
  rcases this with rfl | rfl | rfl | rfl <;> rfl
/-- the reference's tray cells alone change -/
def lt_Fm (w w' : lt_W) : Prop := (∀ a k, a ≠ 236 → a ≠ 237 → lt_gi w' a k = lt_gi w a k) ∧ ∀ a k, a ≠ 238 → lt_gl w' a k = lt_gl w a k
theorem lr_ok.tr {fc fm : lt_W → Option (Int32 × lt_W)} {w wa : lt_W} {A : la_A} {r st : Int32} (h : lr_0 w A) (hc : fc w = some (r, lt_si wa 0 0 st)) (ha : lu_Fg 2 10 w wa) (hm : ∀ w1, (∀ a k, 0 < a → lt_gi w1 a k = lt_gi wa a k ∧ lt_gl w1 a k = lt_gl wa a k) → ∃ wb, fm w1 = some (r, lt_si wb 233 2 st) ∧ lt_Fm w1 wb ∧ lr_tr wb) : lr_ok fc fm w := by
  obtain ⟨wb, b1, b2, b3⟩ := hm (lt_si wa 0 0 st) (fun a k z => ⟨lu_ne (Or.inl (by omega)), rfl⟩)
  have n7 := h.1.1.1.2.1
  -- a world that has the old trays and all else as it is at the end
  let u : lt_W := (fun a k => if 2 ≤ a ∧ a < 10 ∨ a = 236 ∨ a = 237 then lt_gi w a k else lt_gi wb a k, fun a k => if 2 ≤ a ∧ a < 10 ∨ a = 238 then lt_gl w a k else lt_gl wb a k)
  have ui : ∀ a k, ¬ (a = 0 ∧ k = 0) → lt_gi u a k = lt_gi w a k := by
    intro a k z
    show (if 2 ≤ a ∧ a < 10 ∨ a = 236 ∨ a = 237 then lt_gi w a k else lt_gi wb a k) = _
    by_cases c : 2 ≤ a ∧ a < 10 ∨ a = 236 ∨ a = 237
    · rw [if_pos c]
    · rw [if_neg c, b2.1 a k (by omega) (by omega), lu_ne (by omega)]
      exact (ha a k (by omega)).1
  have ul : ∀ a k, lt_gl u a k = lt_gl w a k := by
    intro a k
    show (if 2 ≤ a ∧ a < 10 ∨ a = 238 then lt_gl w a k else lt_gl wb a k) = _
    by_cases c : 2 ≤ a ∧ a < 10 ∨ a = 238
    · rw [if_pos c]
    · rw [if_neg c, b2.2 a k (by omega), lu_glsi]
      exact (ha a k (by omega)).2
  have vi : ∀ a k, ¬ (2 ≤ a ∧ a < 10 ∨ a = 236 ∨ a = 237) → lt_gi wb a k = lt_gi u a k := fun a k c => by
    show _ = (if 2 ≤ a ∧ a < 10 ∨ a = 236 ∨ a = 237 then lt_gi w a k else lt_gi wb a k)
    rw [if_neg c]
  have vl : ∀ a k, ¬ (2 ≤ a ∧ a < 10 ∨ a = 238) → lt_gl wb a k = lt_gl u a k := fun a k c => by
    show _ = (if 2 ≤ a ∧ a < 10 ∨ a = 238 then lt_gl w a k else lt_gl wb a k)
    rw [if_neg c]
  have hu : lr_0 u A := h.congr ⟨⟨fun a k z => ui a k (by unfold lr_px at z; omega), fun a k _ => ul a k⟩, fun a k z => ui a k (by unfold lr_pt at z; omega)⟩
  -- what differs from it: the trays, and STATUS
  obtain ⟨⟨h1, t1, t2, t3, t4, t5, t6, t7, t8⟩, h3⟩ := hu
  have gi2 : ∀ a k, ¬ (2 ≤ a ∧ a < 10 ∨ a = 236 ∨ a = 237) → ¬ (a = 233 ∧ k = 2) → lt_gi (lt_si wb 233 2 st) a k = lt_gi u a k := fun a k c z => by
    rw [lu_ne (by omega)]; exact vi a k c
  refine ⟨r, _, _, hc, b1, ?_, A, ⟨h1.congr fun a k z => gi2 a k (by unfold lr_pt at z; omega) (by unfold lr_pt at z; omega), fun i hi => ?_, ?_, ?_, ?_, ?_, ?_, ?_, ?_⟩, ?_⟩
  · rw [lu_eq, lu_ne (Or.inl (by decide)), b2.1 0 0 (by decide) (by decide), lu_eq]
  · have := b3 i hi
    unfold lr_tr1 at this ⊢
    rw [lu_ne (Or.inl (by omega)), lu_ne (Or.inl (by omega)), lu_ne (Or.inl (by omega)), lu_ne (Or.inl (by omega)), lu_ne (Or.inl (by omega))]
    exact this
  · obtain ⟨m, c1, c2, c3, c4⟩ := t2
    refine ⟨m, c1, ?_, ?_, fun k hk => ?_⟩
    · rw [gi2 _ _ (by omega) (by omega)]; exact c2
    · rw [gi2 _ _ (by omega) (by omega)]; exact c3
    · rw [gi2 _ _ (by omega) (by omega), gi2 _ _ (by omega) (by omega)]; exact c4 k hk
  · unfold lr_fa at t3 ⊢
    rw [gi2 _ _ (by omega) (by omega), gi2 _ _ (by omega) (by omega), gi2 _ _ (by omega) (by omega), gi2 _ _ (by omega) (by omega)]; exact t3
  · exact t4.congr (fun g _ => vl _ _ (by omega)) (fun g _ => vl _ _ (by omega))
  · exact t5.congr (fun j k hj => gi2 _ _ (by omega) (by omega)) (gi2 _ _ (by omega) (by omega)) (fun k hk => gi2 _ _ (by omega) (by omega))
  · obtain ⟨c, c1, c2, c3, c4⟩ := t6
    refine ⟨c, c1, ?_, ?_, fun j hj => ?_⟩
    · rw [gi2 _ _ (by omega) (by omega)]; exact c2
    · rw [gi2 _ _ (by omega) (by omega)]; exact c3
    · obtain ⟨B, hB⟩ := c4 j hj
      exact ⟨B, hB.congr (fun k _ => gi2 _ _ (by omega) (by omega)) (gi2 _ _ (by omega) (by omega)) (fun i g _ _ _ => gi2 _ _ (by omega) (by omega)) (fun k _ => gi2 _ _ (by omega) (by omega)) (fun g _ => vl _ _ (by omega)) (fun g _ => vl _ _ (by omega)) (fun i k _ => gi2 _ _ (by omega) (by omega))⟩
  · unfold lr_lf at t7 ⊢
    rw [gi2 0 15 (by omega) (by omega), gi2 233 39 (by omega) (by omega)]
    rcases t7 with z | ⟨a, b, c⟩
    · exact Or.inl z
    · refine Or.inr ⟨a, b, fun k hk => ?_⟩
      rw [gi2 _ _ (by omega) (by omega), gi2 _ _ (by omega) (by omega)]; exact c k hk
  · intro k hk
    rw [gi2 _ _ (by omega) (by omega)]; exact t8 k hk
  · unfold lr_fr at h3 ⊢
    rw [lu_glsi, lu_glsi, lu_glsi, lu_glsi, vl _ _ (by omega), vl _ _ (by omega), vl _ _ (by omega), vl _ _ (by omega)]; exact h3
/-- tray() -/
theorem lt_become (hσ : lr_S σ) {i : Nat} (hi : i < 4) (s c : Int32) (w : lt_W) : ∃ w', f_X8_become σ (2 + 2 * i) s c w = some w' ∧ lt_gi w' (2 + 2 * i) 0 = 1 ∧ lt_gi w' (2 + 2 * i) 1 = s ∧ lt_gi w' (2 + 2 * i) 2 = c ∧ (∀ k, k < 60 → lt_gl w' (3 + 2 * i) k = 0) ∧ (∀ a k, a ≠ 2 + 2 * i → lt_gi w' a k = lt_gi w a k) ∧ ∀ a k, a ≠ 3 + 2 * i → lt_gl w' a k = lt_gl w a k := by
  obtain ⟨r1, r2, r3⟩ := lt_trR hσ hi
  unfold f_X8_become fb_X8_become_0
  rw [lu_let, lu_let, lu_let]
  refine lu_upR (fun f k u => fb_X8_become_17 σ (2 + 2 * i) f (nI k) u) 60 (fun k u => lt_gi u (2 + 2 * i) 0 = 1 ∧ lt_gi u (2 + 2 * i) 1 = s ∧ lt_gi u (2 + 2 * i) 2 = c ∧ (∀ j, j < k → lt_gl u (3 + 2 * i) j = 0) ∧ (∀ a k, a ≠ 2 + 2 * i → lt_gi u a k = lt_gi w a k) ∧ ∀ a k, a ≠ 3 + 2 * i → lt_gl u a k = lt_gl w a k) _ (fun f k u hk hI => ?_) (fun f u hI => ?_) lt_fu 0 _ (by omega) (by unfold lt_fu; omega) ⟨?_, ?_, ?_, fun j hj => by omega, fun a k z => ?_, fun a k z => rfl⟩
  · obtain ⟨x0, x1, x2, x3, x4, x5⟩ := hI
    show ∃ b', fb_X8_become_17 σ (2 + 2 * i) (f + 1) (nI k) u = fb_X8_become_17 σ (2 + 2 * i) f (nI (k + 1)) b' ∧ _
    rw [fb_X8_become_17, if_neg (show ¬ (60 : Int32) ≤ nI k from nI_ge (b := 60) hk (by decide)), r2, r3, lu_ck hk (by decide), lu_let, nI_clamp (by omega), nI_1]
    refine ⟨_, rfl, x0, x1, x2, fun j hj => ?_, x4, fun a j z => ?_⟩
    · rw [lu_glsl]
      by_cases e : j = k
      · rw [if_pos ⟨rfl, e⟩]
      · rw [if_neg (fun y => e y.2)]; exact x3 j (by omega)
    · rw [lu_glsl, if_neg (fun y => z y.1)]; exact x5 a j z
  · show ∃ r, fb_X8_become_17 σ (2 + 2 * i) (f + 1) _ u = _ ∧ _
    rw [fb_X8_become_17, if_pos (show (60 : Int32) ≤ nI 60 from nI_le (a := 60) (by decide) (by decide))]
    exact ⟨u, rfl, hI⟩
  · rw [lu_ne (Or.inr (by decide)), lu_ne (Or.inr (by decide)), lu_eq]
  · rw [lu_ne (Or.inr (by decide)), lu_eq]
  · rw [lu_eq]
  · rw [lu_ne (Or.inl z), lu_ne (Or.inl z), lu_ne (Or.inl z)]
theorem lt_mtray (hσ : lr_S σ) {i m : Nat} (hi : i < 4) (hm : m ≤ 60) (w : lt_W) : ∃ w', fb_X12_tray_49 σ 233 lt_fu (nI i) (nI m) 0 w = some (1, lt_si w' 233 2 0) ∧ (∀ k, k < m → lt_gl w' 238 (60 * i + k) = 0) ∧ (∀ k, (k < 60 * i ∨ 60 * i + 60 ≤ k) → lt_gl w' 238 k = lt_gl w 238 k) ∧ (∀ a k, lt_gi w' a k = lt_gi w a k) ∧ ∀ a k, a ≠ 238 → lt_gl w' a k = lt_gl w a k := by
  have := lu_upR (fun f k u => fb_X12_tray_49 σ 233 f (nI i) (nI m) (nI k) u) m (fun k u => (∀ j, j < k → lt_gl u 238 (60 * i + j) = 0) ∧ (∀ k, (k < 60 * i ∨ 60 * i + 60 ≤ k) → lt_gl u 238 k = lt_gl w 238 k) ∧ (∀ a k, lt_gi u a k = lt_gi w a k) ∧ ∀ a k, a ≠ 238 → lt_gl u a k = lt_gl w a k) (fun r => ∃ w', r = (1, lt_si w' 233 2 0) ∧ (∀ k, k < m → lt_gl w' 238 (60 * i + k) = 0) ∧ (∀ k, (k < 60 * i ∨ 60 * i + 60 ≤ k) → lt_gl w' 238 k = lt_gl w 238 k) ∧ (∀ a k, lt_gi w' a k = lt_gi w a k) ∧ ∀ a k, a ≠ 238 → lt_gl w' a k = lt_gl w a k) (fun f k u hk hI => ?_) (fun f u hI => ?_) lt_fu 0 w (by omega) (by unfold lt_fu; omega) ⟨fun j hj => by omega, fun _ _ => rfl, fun _ _ => rfl, fun _ _ _ => rfl⟩
  · obtain ⟨r, e1, w', e2, e3⟩ := this
    exact ⟨w', by rw [← e2]; exact e1, e3⟩
  · obtain ⟨x1, x2, x3, x4⟩ := hI
    show ∃ b', fb_X12_tray_49 σ 233 (f + 1) _ _ (nI k) u = fb_X12_tray_49 σ 233 f _ _ (nI (k + 1)) b' ∧ _
    rw [fb_X12_tray_49, if_neg (nI_ge hk (by omega)), lq_r233_7 hσ, lq_l238 hσ, show (60 : Int32) = nI 60 from rfl, pk_mul, nI_add, lu_ck (by omega) (by decide), lu_let, nI_clamp (by omega), nI_1]
    refine ⟨_, rfl, fun j hj => ?_, fun j hj => ?_, x3, fun a j z => ?_⟩
    · rw [lu_glsl]
      by_cases e : j = k
      · rw [if_pos ⟨rfl, by omega⟩]
      · rw [if_neg (by omega)]; exact x1 j (by omega)
    · rw [lu_glsl, if_neg (by omega)]; exact x2 j hj
    · rw [lu_glsl, if_neg (fun y => z y.1)]; exact x4 a j z
  · show ∃ r, fb_X12_tray_49 σ 233 (f + 1) _ _ _ u = _ ∧ _
    rw [fb_X12_tray_49, if_pos (nI_le (Nat.le_refl _) (by omega))]
    exact ⟨_, rfl, u, rfl, hI⟩
theorem op_tray (hσ : lr_S σ) {w : lt_W} {A : la_A} (h : lr_0 w A) (x y z : Int32) : lr_ok (f_X11_tray σ 0 x y z) (f_X12_tray σ 233 x y z) w := by
  have bad : ((x < 0 ∨ (4 : Int32) ≤ x) ∨ ¬ lq_b y 0 3 ∨ ¬ lq_b z 0 60) → lr_ok (f_X11_tray σ 0 x y z) (f_X12_tray σ 233 x y z) w := by
    intro hb
    refine op_refuse h (r := 0) (st := 1) ?_ (fun w1 h1 => ?_)
    · unfold f_X11_tray fb_X11_tray_0 fb_X11_tray_26
      rcases lt_ix4 (x := x) with hx | ⟨i, hi, rfl⟩
      · rw [(lt_isT_n hx).1, lu_bind, if_pos rfl]; rfl
      · rw [(lt_isT_y hi).1, lu_bind, if_neg lu_10]
        by_cases c : lq_b y 0 3
        · rw [lq_within_y (lo := 0) (hi := 3) 0 3 rfl rfl c, lu_bind, if_neg lu_10]
          rcases hb with hb | hb | hb
          · rcases hb with hb | hb
            · exact absurd hb (nI_pos (by omega))
            · exact absurd hb (show ¬ (4 : Int32) ≤ nI i from nI_ge (b := 4) hi (by decide))
          · exact absurd c hb
          · rw [lq_within_n (lo := 0) (hi := 60) 0 60 rfl rfl hb, lu_bind, if_pos rfl]; rfl
        · rw [lq_within_n (lo := 0) (hi := 3) 0 3 rfl rfl c, lu_bind, if_pos rfl]; rfl
    · unfold f_X12_tray fb_X12_tray_0 fb_X12_tray_26
      rcases lt_ix4 (x := x) with hx | ⟨i, hi, rfl⟩
      · rw [(lt_isT_n hx).2, lu_bind, if_pos rfl]; rfl
      · rw [(lt_isT_y hi).2, lu_bind, if_neg lu_10]
        by_cases c1 : y < 0
        · rw [if_pos c1]; rfl
        · rw [if_neg c1]
          by_cases c2 : 3 < y
          · rw [if_pos c2]; rfl
          · rw [if_neg c2]
            by_cases c3 : z < 0
            · rw [if_pos c3]; rfl
            · rw [if_neg c3, if_neg]
              · rfl
              · intro c4
                rcases hb with hb | hb | hb
                · rcases hb with hb | hb
                  · exact absurd hb (nI_pos (by omega))
                  · exact absurd hb (show ¬ (4 : Int32) ≤ nI i from nI_ge (b := 4) hi (by decide))
                · exact hb ⟨Int32.not_lt.mp c1, Int32.not_lt.mp c2⟩
                · exact hb ⟨Int32.not_lt.mp c3, c4⟩
  rcases lt_ix4 (x := x) with hx | ⟨i, hi, rfl⟩
  · exact bad (Or.inl hx)
  by_cases cy : lq_b y 0 3
  · by_cases cz : lq_b z 0 60
    · obtain ⟨s, -, hs, rfl⟩ := cy.R (by decide) (by decide)
      obtain ⟨m, -, hm, rfl⟩ := cz.R (by decide) (by decide)
      obtain ⟨r1, r2, r3⟩ := lt_trR hσ hi
      obtain ⟨wa, a1, a2, a3, a4, a5, a6, a7⟩ := lt_become hσ hi (nI s) (nI m) w
      refine lr_ok.tr (wa := wa) (r := 1) (st := 0) h ?_ (fun a k q => ⟨a6 a k (by omega), a7 a k (by omega)⟩) (fun w1 h1 => ?_)
      · unfold f_X11_tray fb_X11_tray_0
        rw [(lt_isT_y hi).1, lu_bind, if_neg lu_10, lq_within_y (lo := 0) (hi := 3) 0 3 rfl rfl cy, lu_bind, if_neg lu_10, lq_within_y (lo := 0) (hi := 60) 0 60 rfl rfl cz, lu_bind, if_neg lu_10, lq_r0_3 hσ, lq_l1 hσ, lu_ck hi (by decide), nI_clamp (by omega), r1, a1, lu_bind]; rfl
      · obtain ⟨wb, b1, b2, b3, b4, b5⟩ := lt_mtray hσ hi hm (lt_si (lt_si w1 236 i (nI s)) 237 i (nI m))
        refine ⟨wb, ?_, ⟨fun a k q1 q2 => by rw [b4, lu_ne (Or.inl q2), lu_ne (Or.inl q1)], fun a k q => by rw [b5 a k q]; rfl⟩, fun j hj => ?_⟩
        · unfold f_X12_tray fb_X12_tray_0
          rw [(lt_isT_y hi).2, lu_bind, if_neg lu_10, if_neg (nI_pos (by omega)), if_neg (show ¬ (3 : Int32) < nI s from nI_nlt (a := 3) hs (by decide)), if_neg (nI_pos (by omega)), if_pos (show nI m ≤ (60 : Int32) from nI_le (b := 60) hm (by decide)), lq_r233_5 hσ, lq_l236 hσ, lu_ck hi (by decide), lu_let, lq_r233_6 hσ, lq_l237 hσ, lu_ck hi (by decide), lu_let, nI_clamp (by omega)]
          exact b1
        · by_cases e : j = i
          · subst e
            refine Or.inr ⟨?_, m, s, hm, hs, ?_, ?_, ?_, ?_, fun k hk => ?_⟩
            · rw [b4, lu_ne (Or.inl (by omega)), lu_ne (Or.inl (by omega)), (h1 _ _ (by omega)).1]; exact a2
            · rw [b4, lu_ne (Or.inl (by omega)), lu_ne (Or.inl (by omega)), (h1 _ _ (by omega)).1]; exact a4
            · rw [b4, lu_eq]
            · rw [b4, lu_ne (Or.inl (by omega)), lu_ne (Or.inl (by omega)), (h1 _ _ (by omega)).1]; exact a3
            · rw [b4, lu_ne (Or.inl (by decide)), lu_eq]
            · rw [b2 k hk, b5 _ _ (by omega), lu_glsi, lu_glsi, (h1 _ _ (by omega)).2]; exact a5 k (by omega)
          · have old := h.1.2.1 j hj
            have g1 : ∀ k, lt_gi wb (2 + 2 * j) k = lt_gi w (2 + 2 * j) k := fun k => by
              rw [b4, lu_ne (Or.inl (by omega)), lu_ne (Or.inl (by omega)), (h1 _ _ (by omega)).1]; exact a6 _ _ (by omega)
            have g2 : lt_gi wb 237 j = lt_gi w 237 j := by
              rw [b4, lu_ne (Or.inr e), lu_ne (Or.inl (by decide)), (h1 _ _ (by omega)).1]; exact a6 _ _ (by omega)
            have g3 : lt_gi wb 236 j = lt_gi w 236 j := by
              rw [b4, lu_ne (Or.inl (by decide)), lu_ne (Or.inr e), (h1 _ _ (by omega)).1]; exact a6 _ _ (by omega)
            have g4 : ∀ k, lt_gl wb (3 + 2 * j) k = lt_gl w (3 + 2 * j) k := fun k => by
              rw [b5 _ _ (by omega), lu_glsi, lu_glsi, (h1 _ _ (by omega)).2]; exact a7 _ _ (by omega)
            have g5 : ∀ k, k < 60 → lt_gl wb 238 (60 * j + k) = lt_gl w 238 (60 * j + k) := fun k hk => by
              rw [b3 _ (by omega), lu_glsi, lu_glsi, (h1 _ _ (by omega)).2]; exact a7 _ _ (by omega)
            unfold lr_tr1 at old ⊢
            rw [g1, g1, g1, g2, g3]
            rcases old with q | ⟨q, m', s', q1, q2, q3, q4, q5, q6, q7⟩
            · exact Or.inl q
            · exact Or.inr ⟨q, m', s', q1, q2, q3, q4, q5, q6, fun k hk => by rw [g4, g5 k (by omega)]; exact q7 k hk⟩
    · exact bad (Or.inr (Or.inr cz))
  · exact bad (Or.inr (Or.inl cy))
end TR