/-! SMALL CALLS -/
theorem lq_given {σ : lt_S} {o : Nat} {x : Int32} {w : lt_W} : f_X11_given σ o x w = some (x, lt_si w o 0 0) := rfl
theorem lq_none {σ : lt_S} {o : Nat} {x : Int32} {w : lt_W} : f_X11_none σ o x w = some (-1, lt_si w o 0 x) := rfl
theorem lq_agreed {σ : lt_S} {o : Nat} {w : lt_W} : f_X11_agreed σ o w = some (1, lt_si w o 0 0) := rfl
theorem lq_refused {σ : lt_S} {o : Nat} {x : Int32} {w : lt_W} : f_X11_refused σ o x w = some (0, lt_si w o 0 x) := rfl
theorem lq_gia {σ : lt_S} {o : Nat} {x : Int32} {w : lt_W} : f_X11_givenIfAny σ o x w = if x = -1 then some (-1, lt_si w o 0 6) else some (x, lt_si w o 0 0) := rfl
theorem lq_gives {σ : lt_S} {o : Nat} {x : Int32} {w : lt_W} : f_X12_gives σ o x w = some (x, lt_si w o 2 0) := rfl
theorem lq_refuse {σ : lt_S} {o : Nat} {x : Int32} {w : lt_W} : f_X12_refuse σ o x w = some (-1, lt_si w o 2 x) := rfl
theorem lq_is0 {σ : lt_S} {o : Nat} {w : lt_W} : f_X12_is σ o 0 w = some (1, lt_si w o 2 0) := rfl
theorem lq_is {σ : lt_S} {o : Nat} {x : Int32} {w : lt_W} (h : ¬ x = 0) : f_X12_is σ o x w = some (0, lt_si w o 2 x) := by
  unfold f_X12_is fb_X12_is_0; rw [lu_let, if_neg h]
theorem lq_orNone {σ : lt_S} {o : Nat} {x : Int32} {w : lt_W} : f_X12_orNone σ o x w = if x = -1 then some (-1, lt_si w o 2 6) else some (x, lt_si w o 2 0) := rfl
/-- between two numbers -/
def lq_b (x : Int32) (a b : Nat) : Prop := nI a ≤ x ∧ x ≤ nI b
theorem lq_b.R {x : Int32} {a b : Nat} (h : lq_b x a b) (ha : a < 2 ^ 31) (hb : b < 2 ^ 31) : lu_R x a b := lu_R.in ha hb h.1 h.2
theorem lq_within_y {x lo hi : Int32} (a b : Nat) (ha : lo = nI a) (hb : hi = nI b) (h : lq_b x a b) : f_X11_within x lo hi = some 1 := by
  subst ha hb
  unfold f_X11_within fb_X11_within_0
  rw [if_neg (Int32.not_lt.mpr h.1), if_neg (Int32.not_lt.mpr h.2)]
theorem lq_within_n {x lo hi : Int32} (a b : Nat) (ha : lo = nI a) (hb : hi = nI b) (h : ¬ lq_b x a b) : f_X11_within x lo hi = some 0 := by
  subst ha hb
  unfold f_X11_within fb_X11_within_0
  by_cases c : x < nI a
  · rw [if_pos c]
  · rw [if_neg c, if_pos (Int32.not_le.mp fun z => h ⟨Int32.not_lt.mp c, z⟩)]
theorem lq_cmp {x : Int32} {a : Nat} (ha : a < 2 ^ 31) : (lg_cmp x.toInt64 (lN a) < 0 ↔ x < nI a) ∧ (0 < lg_cmp x.toInt64 (lN a) ↔ nI a < x) := by
  unfold lg_cmp
  simp only [gt_iff_lt, Int64.lt_iff_toInt_lt, Int32.lt_iff_toInt_lt, ← Int64.toInt_inj, Int32.toInt_toInt64, lN_toInt ha, nI_toInt ha]
  have e0 : (0 : Int32).toInt = 0 := rfl
  have e1 : (1 : Int32).toInt = 1 := rfl
  have e2 : (-1 : Int32).toInt = -1 := rfl
  constructor
  · split
    · rw [e0, e1]; constructor <;> intro h <;> omega
    · split
      · rw [e0]; constructor <;> intro h <;> omega
      · rw [e0, e2]; constructor <;> intro h <;> omega
  · split
    · rw [e0, e1]; constructor <;> intro h <;> omega
    · split
      · rw [e0]; constructor <;> intro h <;> omega
      · rw [e0, e2]; constructor <;> intro h <;> omega
theorem lq_from_y {x : Int32} {lo hi : Int64} (a b : Nat) (ha : lo = lN a) (hb : hi = lN b) (ha2 : a < 2 ^ 31) (hb2 : b < 2 ^ 31) (h : lq_b x a b) : f_X12_isFrom x.toInt64 lo hi = some 1 := by
  subst ha hb
  unfold f_X12_isFrom fb_X12_isFrom_0
  rw [if_neg (fun z => Int32.not_lt.mpr h.1 ((lq_cmp ha2).1.mp z)), if_neg (fun z => Int32.not_lt.mpr h.2 ((lq_cmp hb2).2.mp z))]
theorem lq_from_n {x : Int32} {lo hi : Int64} (a b : Nat) (ha : lo = lN a) (hb : hi = lN b) (ha2 : a < 2 ^ 31) (hb2 : b < 2 ^ 31) (h : ¬ lq_b x a b) : f_X12_isFrom x.toInt64 lo hi = some 0 := by
  subst ha hb
  unfold f_X12_isFrom fb_X12_isFrom_0
  by_cases c : x < nI a
  · rw [if_pos ((lq_cmp ha2).1.mpr c)]
  · rw [if_neg (fun z => c ((lq_cmp ha2).1.mp z)), if_pos ((lq_cmp hb2).2.mpr (Int32.not_le.mp fun z => h ⟨Int32.not_lt.mp c, z⟩))]
/-- frames -/
theorem lr_Q.ofFr {lo hi : Nat} {w w' : lt_W} (h : lu_Fr lo hi w w') (h1 : (29 ≤ lo ∧ hi ≤ 179) ∨ (20 ≤ lo ∧ hi ≤ 21)) : lr_Q w w' :=
  ⟨⟨fun a k z => h.2 a k (by unfold lr_px at z; omega), fun a k _ => h.1 a k⟩, fun a k z => h.2 a k (by unfold lr_pt at z; omega)⟩
theorem lr_Qx.ofFr {w w' : lt_W} (h : lu_Fr 12 21 w w') : lr_Qx w w' := ⟨fun a k z => h.2 a k (by unfold lr_px at z; omega), fun a k _ => h.1 a k⟩
theorem lr_Qx.ofD {w w' : lt_W} (h : lm_D 234 w w') : lr_Qx w w' := ⟨fun a k z => h.2 a k (by unfold lr_px at z; omega), fun a k _ => h.1 a k⟩
theorem lr_Q.ofF {lo hi : Nat} {w w' : lt_W} (h : lm_F 234 lo hi w w') (h1 : 1712 ≤ lo ∨ (420 ≤ lo ∧ hi ≤ 428)) : lr_Q w w' :=
  ⟨⟨fun a k z => h.2 a k (by unfold lr_px at z; omega), fun a k _ => h.1 a k⟩, fun a k z => h.2 a k (by unfold lr_pt at z; omega)⟩
theorem lr_px00 : ¬ lr_px 0 0 := by unfold lr_px; omega
theorem lr_pt00 : ¬ lr_pt 0 0 := by unfold lr_pt; omega
theorem lr_px2 : ¬ lr_px 233 2 := by unfold lr_px; omega
theorem lr_pt2 : ¬ lr_pt 233 2 := by unfold lr_pt; omega
/-- ends of queries -/
theorem lr_cq.of {f : lt_W → Option (Int32 × lt_W)} {w w' : lt_W} {r st : Int32} (h : f w = some (r, lt_si w' 0 0 st)) (hq : lr_Q w w') : lr_cq f w r st :=
  ⟨_, h, hq.si lr_px00 lr_pt00, lu_eq⟩
theorem lr_mq.of {f : lt_W → Option (Int32 × lt_W)} {w w' : lt_W} {r st : Int32} (h : f w = some (r, lt_si w' 233 2 st)) (hq : lr_Q w w') (h0 : lt_gi w' 0 0 = lt_gi w 0 0) : lr_mq f w r st :=
  ⟨_, h, hq.si lr_px2 lr_pt2, lu_eq, by rw [lu_ne (Or.inl (by decide))]; exact h0⟩
theorem lr_mq.of0 {f : lt_W → Option (Int32 × lt_W)} {w : lt_W} {r st : Int32} (h : f w = some (r, lt_si w 233 2 st)) : lr_mq f w r st := lr_mq.of h (lr_Q.refl w) rfl
theorem lr_cq.of0 {f : lt_W → Option (Int32 × lt_W)} {w : lt_W} {r st : Int32} (h : f w = some (r, lt_si w 0 0 st)) : lr_cq f w r st := lr_cq.of h (lr_Q.refl w)
/-- a call that changes the table -/
def lr_ct (f : lt_W → Option (Int32 × lt_W)) (w : lt_W) (r st : Int32) (B : la_A) : Prop := ∃ w', f w = some (r, lt_si w' 0 0 st) ∧ lr_Qx w w' ∧ lc_T w' 12 B ∧ ∀ k, lt_gi w' 234 k = lt_gi w 234 k
def lr_mt (f : lt_W → Option (Int32 × lt_W)) (w : lt_W) (r st : Int32) (B : la_A) : Prop := ∃ w', f w = some (r, lt_si w' 233 2 st) ∧ lr_Qx w w' ∧ lm_T w' 234 0 B ∧ lt_gi w' 0 0 = lt_gi w 0 0 ∧ ∀ a k, 12 ≤ a → a < 20 → lt_gi w' a k = lt_gi w a k
theorem lr_ok.t {fc fm : lt_W → Option (Int32 × lt_W)} {w : lt_W} {A B : la_A} {r st : Int32} (h : lr_0 w A) (hO : la_Ok B) (hn : la_n B = la_n A) (hc : lr_ct fc w r st B) (hm : ∀ w1, lm_T w1 234 0 A → lr_mt fm w1 r st B) : lr_ok fc fm w := by
  obtain ⟨w1, a1, a2, a3, a4⟩ := hc
  obtain ⟨⟨⟨h1, h2, h3⟩, h4⟩, h5⟩ := h
  have hT : lm_T (lt_si w1 0 0 st) 234 0 A := (h3.congr fun k _ _ _ => a4 _).outA (by decide)
  obtain ⟨w2, b1, b2, b3, b4, b5⟩ := hm (lt_si w1 0 0 st) hT
  refine ⟨r, lt_si w1 0 0 st, lt_si w2 233 2 st, a1, b1, ?_, B, ⟨⟨hO, ?_, ?_⟩, ?_⟩, ?_⟩
  · rw [lu_eq, lu_ne (Or.inl (by decide)), b4, lu_eq]
  · refine lc_T.out (lc_T.congr a3 fun a k z1 z2 => ?_) (by omega)
    rw [b5 a k z1 z2, lu_ne (Or.inl (by omega))]
  · exact b3.outA (by decide)
  · rw [hn]; exact h4.congr ((a2.si lr_px00).trans (b2.si lr_px2)) h2.2.1
  · exact h5.congr ((a2.si lr_px00).trans (b2.si lr_px2))
theorem lr_ct.of {f : lt_W → Option (Int32 × lt_W)} {w w' : lt_W} {r st : Int32} {B : la_A} (h : f w = some (r, lt_si w' 0 0 st)) (hT : lc_T w' 12 B) (hF : lu_Fr 12 21 w w') : lr_ct f w r st B :=
  ⟨w', h, lr_Qx.ofFr hF, hT, fun k => hF.2 _ _ (by omega)⟩
theorem lr_mt.of {f : lt_W → Option (Int32 × lt_W)} {w w' : lt_W} {r st : Int32} {B : la_A} (h : f w = some (r, lt_si w' 233 2 st)) (hT : lm_T w' 234 0 B) (hF : lm_D 234 w w') : lr_mt f w r st B :=
  ⟨w', h, lr_Qx.ofD hF, hT, hF.2 _ _ (by omega), fun a k _ _ => hF.2 _ _ (by omega)⟩
theorem lu_10 : ¬ (1 : Int32) = 0 := by decide
section LQ
variable {σ : lt_S} {w : lt_W} {A : la_A}
theorem lq_ix (x : Int32) {n : Nat} (hn : n ≤ 7) : (x < 0 ∨ nI n ≤ x) ∨ ∃ j, j < n ∧ x = nI j := by
  rcases pk_ix x (n := n) (by omega) with h | h | h
  · exact Or.inl (Or.inl h)
  · exact Or.inl (Or.inr h)
  · exact Or.inr h
theorem lq_hg_n {o : Nat} (hA : lc_T w o A) {x : Int32} (h : x < 0 ∨ nI (la_n A) ≤ x) : f_X5_hasGuest σ o x w = some 0 := by
  unfold f_X5_hasGuest fb_X5_hasGuest_0
  rcases h with h | h
  · rw [if_pos h]
  · rw [lc_n hA, if_pos h]; split <;> rfl
theorem lq_hg_y {o : Nat} (hA : lc_T w o A) {j : Nat} (h : j < la_n A) : f_X5_hasGuest σ o (nI j) w = some 1 := by
  have h7 := hA.2.1
  rw [lc_hasGuest hA (by omega), if_pos h]
theorem lq_ig_n {o : Nat} (hS : lm_S σ o) (hA : lm_T w (lt_r σ o 0) 0 A) {x : Int32} (h : x < 0 ∨ nI (la_n A) ≤ x) : f_X12_isGuest σ o x w = some 0 := by
  unfold f_X12_isGuest fb_X12_isGuest_0
  rw [hS, lm_k0, lm_c0, lm_n hA]
  rcases h with h | h
  · rw [if_pos h]
  · rw [if_pos h]; split <;> rfl
theorem lq_ig_y {o : Nat} (hS : lm_S σ o) (hA : lm_T w (lt_r σ o 0) 0 A) {j : Nat} (h : j < la_n A) : f_X12_isGuest σ o (nI j) w = some 1 := by
  have h7 := hA.2.1
  unfold f_X12_isGuest fb_X12_isGuest_0
  rw [hS, lm_k0, lm_c0, if_neg (nI_pos (by omega)), if_neg (lm_lt hA h)]
theorem lq_two {o o' : Nat} {w' : lt_W} (hS : lm_S σ o') (hr : lt_r σ o 5 = 12) (hA : lc_T w 12 A) (hM : lm_T w' (lt_r σ o' 0) 0 A) (x y : Int32) : (f_X11_areTwo σ o x y w = some 0 ∧ f_X12_areTwo σ o' x y w' = some 0) ∨ (∃ i j, i < la_n A ∧ j < la_n A ∧ i ≠ j ∧ x = nI i ∧ y = nI j ∧ f_X11_areTwo σ o x y w = some 1 ∧ f_X12_areTwo σ o' x y w' = some 1) := by
  have h7 := hA.2.1
  unfold f_X11_areTwo fb_X11_areTwo_0 f_X12_areTwo fb_X12_areTwo_0
  rw [hr]
  rcases lq_ix x h7 with h | ⟨i, hi, rfl⟩
  · left; rw [lq_hg_n hA h, lq_ig_n hS hM h]; exact ⟨rfl, rfl⟩
  · rw [lq_hg_y hA hi, lq_ig_y hS hM hi, lu_bind, lu_bind, if_neg (show ¬ (1 : Int32) = 0 by decide), if_neg (show ¬ (1 : Int32) = 0 by decide)]
    rcases lq_ix y h7 with h | ⟨j, hj, rfl⟩
    · left; rw [lq_hg_n hA h, lq_ig_n hS hM h]; exact ⟨rfl, rfl⟩
    · rw [lq_hg_y hA hj, lq_ig_y hS hM hj, lu_bind, if_neg (show ¬ (1 : Int32) = 0 by decide)]
      by_cases e : i = j
      · left; rw [e, if_pos rfl]; exact ⟨rfl, rfl⟩
      · right
        have : ¬ nI i = nI j := fun z => e ((nI_eq (by omega) (by omega)).mp z)
        rw [if_neg this]
        exact ⟨i, j, hi, hj, e, rfl, rfl, rfl, rfl⟩
/-- the table's part of the relation at the two sides -/
theorem lr_0.c (h : lr_0 w A) : lc_T w 12 A := h.1.1.2.1
theorem lr_0.m (hσ : lr_S σ) (h : lr_0 w A) : lm_T w (lt_r σ 233 0) 0 A := by rw [lr_at hσ]; exact h.1.1.2.2
theorem lr_0.O (h : lr_0 w A) : la_Ok A := h.1.1.1
theorem lr_0.n7 (h : lr_0 w A) : la_n A ≤ 7 := h.1.1.1.2.1
theorem lr_now (hσ : lr_S σ) : lt_r σ 0 5 = 12 := hσ.r 0 5 (by decide) (by decide)
theorem lr_nowS (hσ : lr_S σ) : lc_S σ 12 := lr_tab hσ (by decide)
end LQ
