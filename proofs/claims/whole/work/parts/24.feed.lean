/-! THE PARTS OF THE RELATION, one by one; feed, mark, undo -/
theorem lr_tr.c {w w' : lt_W} (h : lr_tr w) (e1 : ∀ a k, (2 ≤ a ∧ a < 10) ∨ a = 236 ∨ a = 237 → lt_gi w' a k = lt_gi w a k) (e2 : ∀ a k, (3 ≤ a ∧ a < 10) ∨ a = 238 → lt_gl w' a k = lt_gl w a k) : lr_tr w' := fun i hi =>
  (h i hi).congr (fun k => e1 _ _ (by omega)) (e1 _ _ (by omega)) (e1 _ _ (by omega)) (fun k _ => e2 _ _ (by omega)) (fun k _ => e2 _ _ (by omega))
theorem lr_tp.c {w w' : lt_W} (h : lr_tp w) (e1 : ∀ a k, (a = 10 ∧ k = 1) ∨ (a = 233 ∧ k = 10) ∨ a = 11 ∨ a = 239 → lt_gi w' a k = lt_gi w a k) : lr_tp w' := by
  obtain ⟨m, c1, c2, c3, c4⟩ := h
  refine ⟨m, c1, ?_, ?_, fun k hk => ?_⟩
  · rw [e1 _ _ (by omega)]; exact c2
  · rw [e1 _ _ (by omega)]; exact c3
  · rw [e1 _ _ (by omega), e1 _ _ (by omega)]; exact c4 k hk
theorem lr_fa.c {w w' : lt_W} (h : lr_fa w) (e1 : ∀ a k, (a = 10 ∧ (k = 9 ∨ k = 10)) ∨ (a = 233 ∧ (k = 16 ∨ k = 17)) → lt_gi w' a k = lt_gi w a k) : lr_fa w' := by
  unfold lr_fa at h ⊢
  rw [e1 _ _ (by omega), e1 _ _ (by omega), e1 _ _ (by omega), e1 _ _ (by omega)]; exact h
theorem lr_mk.c {w w' : lt_W} (h : lr_mk w) (e1 : ∀ a k, (a = 0 ∧ k = 18) ∨ (a = 233 ∧ k = 40) ∨ (182 ≤ a ∧ a < 233) ∨ (a = 234 ∧ 428 ≤ k ∧ k < 1712) → lt_gi w' a k = lt_gi w a k) (e2 : ∀ a k, (182 ≤ a ∧ a < 233) ∨ (a = 235 ∧ 7 ≤ k ∧ k < 28) → lt_gl w' a k = lt_gl w a k) : lr_mk w' := by
  obtain ⟨c, c1, c2, c3, c4⟩ := h
  refine ⟨c, c1, ?_, ?_, fun j hj => ?_⟩
  · rw [e1 _ _ (by omega)]; exact c2
  · rw [e1 _ _ (by omega)]; exact c3
  · obtain ⟨B, hB⟩ := c4 j hj
    exact ⟨B, hB.congr (fun k _ => e1 _ _ (by omega)) (e1 _ _ (by omega)) (fun i g _ _ _ => e1 _ _ (by omega)) (fun k _ => e1 _ _ (by omega)) (fun g _ => e2 _ _ (by omega)) (fun g _ => e2 _ _ (by omega)) (fun i k _ => e1 _ _ (by omega))⟩
theorem lr_lf.c {w w' : lt_W} (h : lr_lf w) (e1 : ∀ a k, (a = 0 ∧ k = 15) ∨ (a = 233 ∧ k = 39) ∨ a = 179 ∨ a = 254 → lt_gi w' a k = lt_gi w a k) : lr_lf w' := by
  unfold lr_lf at h ⊢
  rw [e1 0 15 (by omega), e1 233 39 (by omega)]
  rcases h with z | ⟨a, b, c⟩
  · exact Or.inl z
  · refine Or.inr ⟨a, b, fun k hk => ?_⟩
    rw [e1 _ _ (by omega), e1 _ _ (by omega)]; exact c k hk
theorem lr_lp.c {w w' : lt_W} (h : lr_lp w) (e1 : ∀ k, lt_gi w' 252 k = lt_gi w 252 k) : lr_lp w' := fun k hk => by rw [e1]; exact h k hk
theorem lr_fr.c {w w' : lt_W} (h : lr_fr w) (e1 : ∀ a k, (a = 0 ∧ (k = 1 ∨ k = 2)) ∨ (a = 233 ∧ (k = 3 ∨ k = 4)) → lt_gl w' a k = lt_gl w a k) : lr_fr w' := by
  unfold lr_fr at h ⊢
  rw [e1 _ _ (by omega), e1 _ _ (by omega), e1 _ _ (by omega), e1 _ _ (by omega)]; exact h
theorem lr_tb.c {w w' : lt_W} {A : la_A} (h : lr_tb w A) (e1 : ∀ a k, (12 ≤ a ∧ a < 20) ∨ (a = 234 ∧ k < 60) → lt_gi w' a k = lt_gi w a k) : lr_tb w' A := h.congr fun a k z => e1 _ _ (by unfold lr_pt at z; omega)
theorem lr_nm.c {w w' : lt_W} {n : Nat} (h : lr_nm w 12 0 n) (hn : n ≤ 7) (e1 : ∀ a k, a = 13 ∨ (a = 235 ∧ k < 7) → lt_gl w' a k = lt_gl w a k) : lr_nm w' 12 0 n := h.congr (fun g _ => e1 _ _ (by omega)) (fun g _ => e1 _ _ (by omega))
theorem lw_W.c {w w' : lt_W} {n : Nat} (h : lw_W w 21 0 n) (e1 : ∀ a k, (21 ≤ a ∧ a < 29) ∨ (a = 234 ∧ (k = 8 ∨ (60 ≤ k ∧ k < 420))) → lt_gi w' a k = lt_gi w a k) : lw_W w' 21 0 n := h.congr (fun j k _ => e1 _ _ (by omega)) (e1 _ _ (by omega)) (fun k _ => e1 _ _ (by omega))
/-- moving a slot, as far as it counts -/
theorem la_cnt_mono {p : Nat → Bool} : ∀ n k, k ≤ n → la_cnt p k ≤ la_cnt p n := by
  intro n
  induction n with
  | zero => intro k h; obtain rfl : k = 0 := by omega
            exact Nat.le_refl _
  | succ n ih =>
    intro k h
    by_cases e : k = n + 1
    · subst e; exact Nat.le_refl _
    · have := ih k (by omega)
      rw [la_cnt]; split <;> omega
theorem la_cnt_lt {p : Nat → Bool} {n k : Nat} (h : k < n) (hp : p k = true) : la_cnt p k < la_cnt p n := by
  have := la_cnt_mono (p := p) n (k + 1) h
  rw [la_cnt, if_pos hp] at this; omega
theorem lw_W.move {w w' : lt_W} {p b p' b' n : Nat} (h : lw_W w p b n) (e0 : ∀ k, k < 2 → lt_gi w' p' k = lt_gi w p k) (e1 : ∀ j k, 0 < j → j < 8 → k < 30 → lt_gi w' (p' + j) k = lt_gi w (p + j) k) (e2 : lt_gi w' 234 (b' + 8) = lt_gi w 234 (b + 8)) (e3 : ∀ k, k < 360 → lt_gi w' 234 (b' + 60 + k) = lt_gi w 234 (b + 60 + k)) : lw_W w' p' b' n := by
  rcases h with ⟨h1, h2⟩ | ⟨h1, N, I, g1, g2, g3, g4, g5, g6, g7, g8⟩
  · exact Or.inl ⟨(e0 0 (by decide)).trans h1, e2.trans h2⟩
  · refine Or.inr ⟨(e0 0 (by decide)).trans h1, N, I, g1, e2.trans g2, (e0 1 (by decide)).trans g3, g4, fun k hk i hi => ?_, g6, g7, fun k hk hq => ?_⟩
    · have := e3 (6 * k + i) (by omega)
      rw [← Nat.add_assoc, ← Nat.add_assoc] at this
      exact this.trans (g5 k hk i hi)
    · obtain ⟨a1, a2, a3, a4, a5, a6⟩ := g8 k hk hq
      have hphi : lw_phi I k < 30 := by
        have : lw_phi I k < lw_phi I N := la_cnt_lt hk (by simpa using hq)
        omega
      unfold lw_ci
      rw [e1 1 _ (by decide) (by decide) hphi, e1 2 _ (by decide) (by decide) hphi, e1 3 _ (by decide) (by decide) hphi, e1 4 _ (by decide) (by decide) hphi, e1 5 _ (by decide) (by decide) hphi, e1 6 _ (by decide) (by decide) hphi, e1 7 _ (by decide) (by decide) hphi]
      exact ⟨a1, a2, a3, a4, a5, a6⟩
theorem lr_sl.move {w w' : lt_W} {o p b nb o' p' b' nb' : Nat} {A : la_A} (h : lr_sl w o p b nb A) (e1 : ∀ k, k < 9 → lt_gi w' o' k = lt_gi w o k) (e2 : ∀ j g, 2 ≤ j → j < 8 → g < 7 → lt_gi w' (o' + j) g = lt_gi w (o + j) g) (e3 : ∀ k, k < 420 → lt_gi w' 234 (b' + k) = lt_gi w 234 (b + k)) (e4 : ∀ g, g < 7 → lt_gl w' (o' + 1) g = lt_gl w (o + 1) g) (e5 : ∀ g, g < 7 → lt_gl w' 235 (nb' + g) = lt_gl w 235 (nb + g)) (e6 : ∀ k, k < 2 → lt_gi w' p' k = lt_gi w p k) (e7 : ∀ j k, 0 < j → j < 8 → k < 30 → lt_gi w' (p' + j) k = lt_gi w (p + j) k) : lr_sl w' o' p' b' nb' A := by
  obtain ⟨h1, h2, h3, h4, h5⟩ := h
  have h7 := h2.2.1
  refine ⟨h1, h2.move e1 e2, h3.congr fun k hk _ _ => e3 k (by omega), h4.congr (fun g hg => e4 g (by omega)) (fun g hg => e5 g (by omega)), h5.move e6 e7 (e3 8 (by decide)) (fun k hk => ?_)⟩
  rw [Nat.add_assoc, Nat.add_assoc]; exact e3 (60 + k) (by omega)
section FE
variable {σ : lt_S}
/-- a byte put behind a tape: c, k its count, t its bytes -/
def lf_ap (c t k : Nat) (w : lt_W) (b : Int32) (n : Nat) : lt_W := lt_si (lt_si w t n b) c k (nI (n + 1))
def lf_A (c t k : Nat) (w : lt_W) (n : Nat) (l : Nat → Int32) : Prop := lt_gi w c k = nI n ∧ ∀ j, j < n → lt_gi w t j = l j
def lf_ext (l : Nat → Int32) (n : Nat) (b : Int32) : Nat → Int32 := fun j => if j = n then b else l j
theorem lf_A.ap {c t k n : Nat} {w : lt_W} {l : Nat → Int32} {b : Int32} (h : lf_A c t k w n l) (hct : c ≠ t) : lf_A c t k (lf_ap c t k w b n) (n + 1) (lf_ext l n b) := by
  refine ⟨lu_eq, fun j hj => ?_⟩
  unfold lf_ap lf_ext
  rw [lu_ne (Or.inl (fun e => hct e.symm)), lu_gisi]
  by_cases e : j = n
  · rw [if_pos ⟨rfl, e⟩, if_pos e]
  · rw [if_neg (fun z => e z.2), if_neg e]; exact h.2 j (by omega)
def lf_by (x : Int32) (s : Int32) : Int32 := vp_nar .byte ((x >>> (s &&& 31)).toInt8.toInt32)
theorem lf_by_by (x s : Int32) : lr_by (lf_by x s) := by
  unfold lr_by lf_by
  rw [pk_vb]; simp
def lf_4 (l : Nat → Int32) (n : Nat) (x : Int32) : Nat → Int32 := lf_ext (lf_ext (lf_ext (lf_ext l n (lf_by x 24)) (n + 1) (lf_by x 16)) (n + 2) (lf_by x 8)) (n + 3) (lf_by x 0)
def lf_Fr (c t : Nat) (w w' : lt_W) (k : Nat) : Prop := (∀ a j, a ≠ t → ¬ (a = c ∧ j = k) → lt_gi w' a j = lt_gi w a j) ∧ ∀ a j, lt_gl w' a j = lt_gl w a j
theorem lf_Fr.refl (c t : Nat) (w : lt_W) (k : Nat) : lf_Fr c t w w k := ⟨fun _ _ _ _ => rfl, fun _ _ => rfl⟩
theorem lf_Fr.ap {c t k n : Nat} {w0 w : lt_W} {b : Int32} (h : lf_Fr c t w0 w k) : lf_Fr c t w0 (lf_ap c t k w b n) k :=
  ⟨fun a j z1 z2 => by unfold lf_ap; rw [lu_ne (by omega), lu_ne (Or.inl z1)]; exact h.1 a j z1 z2, fun a j => h.2 a j⟩
theorem lf_apC (hσ : lr_S σ) {w : lt_W} {n f : Nat} {x s : Int32} {l : Nat → Int32} (h : lf_A 10 11 1 w n l) (hn : n < 900) (hs : ¬ s < 0) : fb_X7_append_3 σ 10 (f + 1) x s w = fb_X7_append_3 σ 10 f x (s + (-8)) (lf_ap 10 11 1 w (lf_by x s) n) := by
  rw [fb_X7_append_3, if_neg hs, h.1, if_neg (show ¬ (900 : Int32) ≤ nI n from nI_ge (b := 900) hn (by decide)), lq_r10_0 hσ, lq_l11 hσ, lu_ck hn (by decide), lu_let, lu_let, lu_ne (Or.inl (by decide)), h.1, nI_1, nI_clamp (by omega)]; rfl
theorem lf_apM (hσ : lr_S σ) {w : lt_W} {n f : Nat} {x s : Int32} {l : Nat → Int32} (h : lf_A 233 239 10 w n l) (hn : n < 900) (hs : ¬ s < 0) : fb_X12_four_3 σ 233 (f + 1) x s w = fb_X12_four_3 σ 233 f x (s + (-8)) (lf_ap 233 239 10 w (lf_by x s) n) := by
  rw [fb_X12_four_3, if_neg hs, h.1, lq_r233_8 hσ, lq_l239 hσ, lu_ck hn (by decide), lu_let, lu_let, lu_ne (Or.inl (by decide)), h.1, nI_1, nI_clamp (by omega)]; rfl
theorem lf_app (hσ : lr_S σ) {w : lt_W} {n : Nat} {l : Nat → Int32} (x : Int32) (h : lf_A 10 11 1 w n l) (hn : n + 4 ≤ 900) : ∃ w', f_X7_append σ 10 x w = some w' ∧ lf_A 10 11 1 w' (n + 4) (lf_4 l n x) ∧ lf_Fr 10 11 w w' 1 := by
  have h1 := h.ap (b := lf_by x 24) (by decide)
  have h2 := h1.ap (b := lf_by x 16) (by decide)
  have h3 := h2.ap (b := lf_by x 8) (by decide)
  have h4 := h3.ap (b := lf_by x 0) (by decide)
  refine ⟨_, ?_, h4, ((((lf_Fr.refl 10 11 w 1).ap).ap).ap).ap⟩
  unfold f_X7_append fb_X7_append_0
  rw [show lt_fu = (lt_fu - 5) + 1 + 1 + 1 + 1 + 1 from rfl, lf_apC hσ h (by omega) (by decide), show (24 : Int32) + (-8) = 16 from rfl, lf_apC hσ h1 (by omega) (by decide), show (16 : Int32) + (-8) = 8 from rfl, lf_apC hσ h2 (by omega) (by decide), show (8 : Int32) + (-8) = 0 from rfl, lf_apC hσ h3 (by omega) (by decide), show (0 : Int32) + (-8) = -8 from rfl, fb_X7_append_3, if_pos (by decide)]
theorem lf_four (hσ : lr_S σ) {w : lt_W} {n : Nat} {l : Nat → Int32} (x : Int32) (h : lf_A 233 239 10 w n l) (hn : n + 4 ≤ 900) : ∃ w', f_X12_four σ 233 x w = some w' ∧ lf_A 233 239 10 w' (n + 4) (lf_4 l n x) ∧ lf_Fr 233 239 w w' 10 := by
  have h1 := h.ap (b := lf_by x 24) (by decide)
  have h2 := h1.ap (b := lf_by x 16) (by decide)
  have h3 := h2.ap (b := lf_by x 8) (by decide)
  have h4 := h3.ap (b := lf_by x 0) (by decide)
  refine ⟨_, ?_, h4, ((((lf_Fr.refl 233 239 w 10).ap).ap).ap).ap⟩
  unfold f_X12_four fb_X12_four_0
  rw [show lt_fu = (lt_fu - 5) + 1 + 1 + 1 + 1 + 1 from rfl, lf_apM hσ h (by omega) (by decide), show (24 : Int32) + (-8) = 16 from rfl, lf_apM hσ h1 (by omega) (by decide), show (16 : Int32) + (-8) = 8 from rfl, lf_apM hσ h2 (by omega) (by decide), show (8 : Int32) + (-8) = 0 from rfl, lf_apM hσ h3 (by omega) (by decide), show (0 : Int32) + (-8) = -8 from rfl, fb_X12_four_3, if_pos (by decide)]
theorem lf_Fr.trans {c t k : Nat} {w w' w'' : lt_W} (h : lf_Fr c t w w' k) (h' : lf_Fr c t w' w'' k) : lf_Fr c t w w'' k := ⟨fun a j z1 z2 => (h'.1 a j z1 z2).trans (h.1 a j z1 z2), fun a j => (h'.2 a j).trans (h.2 a j)⟩
theorem lf_4_by {l : Nat → Int32} {n : Nat} (h : ∀ j, j < n → lr_by (l j)) (x : Int32) : ∀ j, j < n + 4 → lr_by (lf_4 l n x j) := by
  have st : ∀ (l : Nat → Int32) (n : Nat) (s : Int32), (∀ j, j < n → lr_by (l j)) → ∀ j, j < n + 1 → lr_by (lf_ext l n (lf_by x s) j) := by
    intro l n s h j hj
    unfold lf_ext
    by_cases e : j = n
    · rw [if_pos e]; exact lf_by_by x s
    · rw [if_neg e]; exact h j (by omega)
  exact st _ _ _ (st _ _ _ (st _ _ _ (st _ _ _ h)))
def lf_20 (l : Nat → Int32) (n : Nat) (a b c d e : Int32) : Nat → Int32 := lf_4 (lf_4 (lf_4 (lf_4 (lf_4 l n a) (n + 4) b) (n + 4 + 4) c) (n + 4 + 4 + 4) d) (n + 4 + 4 + 4 + 4) e
theorem op_feed (hσ : lr_S σ) {w : lt_W} (hR : lr_R w) (a b c d e : Int32) : lr_ok (f_X11_feed σ 0 a b c d e) (f_X12_feed σ 233 a b c d e) w := by
  obtain ⟨hs, A, h⟩ := hR
  obtain ⟨n, n9, e1, e2, e3⟩ := h.1.2.2.1
  have e20 : ∀ m, nI m + 20 = nI (m + 20) := fun m => nI_add m 20
  by_cases c20 : n + 20 ≤ 900
  · have hle : nI n + 20 ≤ (900 : Int32) := by rw [e20]; exact nI_le (b := 900) c20 (by decide)
    have hC : lf_A 10 11 1 w n (fun j => lt_gi w 11 j) := ⟨e1, fun _ _ => rfl⟩
    obtain ⟨w1, p1, q1, r1⟩ := lf_app hσ a hC (by omega)
    obtain ⟨w2, p2, q2, r2⟩ := lf_app hσ b q1 (by omega)
    obtain ⟨w3, p3, q3, r3⟩ := lf_app hσ c q2 (by omega)
    obtain ⟨w4, p4, q4, r4⟩ := lf_app hσ d q3 (by omega)
    obtain ⟨w5, p5, q5, r5⟩ := lf_app hσ e q4 (by omega)
    have R5 := (((r1.trans r2).trans r3).trans r4).trans r5
    have hM : lf_A 233 239 10 w5 n (fun j => lt_gi w 11 j) := ⟨by rw [R5.1 _ _ (by decide) (by decide)]; exact e2, fun j hj => by rw [R5.1 _ _ (by decide) (by omega)]; exact (e3 j hj).1.symm⟩
    obtain ⟨v1, s1, t1, z1⟩ := lf_four hσ a hM (by omega)
    obtain ⟨v2, s2, t2, z2⟩ := lf_four hσ b t1 (by omega)
    obtain ⟨v3, s3, t3, z3⟩ := lf_four hσ c t2 (by omega)
    obtain ⟨v4, s4, t4, z4⟩ := lf_four hσ d t3 (by omega)
    obtain ⟨v5, s5, t5, z5⟩ := lf_four hσ e t4 (by omega)
    have Z5 := (((z1.trans z2).trans z3).trans z4).trans z5
    have G : ∀ x k, ¬ (x = 10 ∧ k = 1) → ¬ (x = 233 ∧ k = 10) → x ≠ 11 → x ≠ 239 → lt_gi v5 x k = lt_gi w x k := fun x k y1 y2 y3 y4 => (Z5.1 x k y4 y2).trans (R5.1 x k y3 y1)
    have GL : ∀ x k, lt_gl v5 x k = lt_gl w x k := fun x k => (Z5.2 x k).trans (R5.2 x k)
    refine ⟨nI (n + 20), w5, v5, ?_, ?_, ?_, A, ⟨h.1.1.c fun x k z => G x k (by omega) (by omega) (by omega) (by omega), h.1.2.1.c (fun x k z => G x k (by omega) (by omega) (by omega) (by omega)) (fun x k _ => GL x k), ⟨n + 20, c20, ?_, ?_, fun k hk => ?_⟩, h.1.2.2.2.1.c fun x k z => G x k (by omega) (by omega) (by omega) (by omega), h.1.2.2.2.2.1.c h.n7 fun x k _ => GL x k, h.1.2.2.2.2.2.1.c fun x k z => G x k (by omega) (by omega) (by omega) (by omega), h.1.2.2.2.2.2.2.1.c (fun x k z => G x k (by omega) (by omega) (by omega) (by omega)) (fun x k _ => GL x k), h.1.2.2.2.2.2.2.2.1.c fun x k z => G x k (by omega) (by omega) (by omega) (by omega), h.1.2.2.2.2.2.2.2.2.c fun k => G _ k (by omega) (by omega) (by omega) (by omega)⟩, h.2.c fun x k _ => GL x k⟩
    · unfold f_X11_feed fb_X11_feed_0
      rw [lq_r0_4 hσ, e1, if_pos hle, p1, lu_bind, p2, lu_bind, p3, lu_bind, p4, lu_bind, p5, lu_bind, q5.1]
    · unfold f_X12_feed fb_X12_feed_0
      rw [R5.1 _ _ (by decide) (by decide), e2, if_pos hle, s1, lu_bind, s2, lu_bind, s3, lu_bind, s4, lu_bind, s5, lu_bind, t5.1]
    · rw [G 0 0 (by decide) (by decide) (by decide) (by decide), G 233 2 (by decide) (by decide) (by decide) (by decide)]; exact hs
    · rw [Z5.1 _ _ (by decide) (by decide)]; exact q5.1
    · exact t5.1
    · have y1 : lt_gi v5 11 k = _ := (Z5.1 11 k (by decide) (by omega)).trans (q5.2 k (by omega))
      have y2 := t5.2 k (by omega)
      refine ⟨by rw [y1, y2], ?_⟩
      rw [y1]
      exact lf_4_by (lf_4_by (lf_4_by (lf_4_by (lf_4_by (fun j hj => (e3 j hj).2) a) b) c) d) e k (by omega)
  · have hle : ¬ nI n + 20 ≤ (900 : Int32) := by rw [e20]; exact nI_ge (a := 900) (by omega) (by omega)
    refine ⟨-1, w, w, ?_, ?_, hs, A, h⟩
    · unfold f_X11_feed fb_X11_feed_0
      rw [lq_r0_4 hσ, e1, if_neg hle]
    · unfold f_X12_feed fb_X12_feed_0
      rw [e2, if_neg hle]
end FE