/-! THE WEEKS LIVED: what a step does; the class -/
theorem la_eat_1 {A : la_A} (k j : Nat) (h : j ≠ 5) : (la_eat A k).1 j = A.1 j := by
  induction k with
  | zero => rfl
  | succ k ih =>
    rw [la_eat]; (try simp only [])
    split
    · split
      · exact ih
      · show (if j = 5 then _ else (la_eat A k).1 j) = _
        rw [if_neg h]; exact ih
    · exact ih
theorem la_eats_6 {A : la_A} : (la_eats A).1 6 = A.1 6 + 1 := by
  unfold la_eats
  show (la_yearn (la_eat A (la_n A)) (la_n (la_eat A (la_n A)))).1 6 + 1 = _
  rw [la_yearn_1, la_eat_1 _ _ (by decide)]
theorem la_eats_7 {A : la_A} : (la_eats A).1 7 = A.1 7 := by
  unfold la_eats
  show (la_yearn (la_eat A (la_n A)) (la_n (la_eat A (la_n A)))).1 7 = _
  rw [la_yearn_1, la_eat_1 _ _ (by decide)]
theorem la_cut_6 {A : la_A} {g : Nat} : (la_cut A g).1 6 = A.1 6 := by
  unfold la_cut; (try simp only [])
  split <;> rfl
theorem la_cut_7 {A : la_A} {g : Nat} : (la_cut A g).1 7 = A.1 7 + 1 := by
  unfold la_cut; (try simp only [])
  split <;> rfl
theorem la_cnt_rem {p : Nat → Bool} {j : Nat} (hp : p j = true) : ∀ n, (j < n → la_cnt (fun i => if i = j then false else p i) n + 1 = la_cnt p n) ∧ (n ≤ j → la_cnt (fun i => if i = j then false else p i) n = la_cnt p n) := by
  intro n
  induction n with
  | zero => exact ⟨fun h => by omega, fun _ => rfl⟩
  | succ n ih =>
    refine ⟨fun h => ?_, fun h => ?_⟩
    · rw [la_cnt, la_cnt]
      by_cases e : n = j
      · subst e
        rw [if_neg (by simp), if_pos hp, ih.2 (Nat.le_refl _)]
      · have := ih.1 (by omega)
        simp only [if_neg e]
        split <;> omega
    · rw [la_cnt, la_cnt]
      have := ih.2 (by omega)
      simp only [if_neg (show ¬ n = j by omega)]
      split <;> omega
def lz_c (A : la_A) : Int32 := nI (la_cnt (la_here A) (la_n A))
theorem lz_c_eats {A : la_A} : lz_c (la_eats A) = lz_c A := by unfold lz_c; rw [la_eats_here, la_n_eats]
theorem lz_c_cut {A : la_A} {j : Nat} (hj : j < la_n A) (hh : la_here A j = true) : lz_c (la_cut A j) = lz_c A - (if A.2 j 3 = 1 then 0 else 1) := by
  unfold lz_c
  rw [la_n_cut]
  by_cases c : A.2 j 3 = 1
  · rw [if_pos c, show la_here (la_cut A j) = la_here A from ?_]
    · exact (Int32.sub_zero _).symm
    · funext i
      unfold la_cut; (try simp only [])
      rw [if_pos c, la_here_c (by decide)]; rfl
  · have e : la_here (la_cut A j) = fun i => if i = j then false else la_here A i := by
      funext i
      unfold la_cut; (try simp only [])
      rw [if_neg c]
      unfold la_here la_c
      (try simp only [])
      by_cases ei : i = j
      · simp [ei]
      · simp [ei, la_h]
    rw [e, if_neg c, ← (la_cnt_rem hh (la_n A)).1 hj, nI_pred]
def lz_y (A : la_A) : Int32 := match la_first A with | none => 0 | some j => if A.2 j 3 = 1 then 0 else 1
theorem lz_day_6 {A : la_A} : (la_day A).1 6 = A.1 6 + 1 := by
  unfold la_day
  rw [la_eats_6]
  cases la_first A with
  | none => rfl
  | some j => show (la_cut A j).1 6 + 1 = _; rw [la_cut_6]
theorem lz_day_7 {A : la_A} (h7 : la_n A ≤ 7) : (la_day A).1 7 = A.1 7 + (if la_e (la_first A) = -1 then 0 else 1) := by
  unfold la_day
  rw [la_eats_7]
  cases e : la_first A with
  | none => exact (Int32.add_zero _).symm
  | some j =>
    show (la_cut A j).1 7 = _
    have hj := (la_first_may A j e).1
    rw [la_cut_7]
    congr 1
    show (1 : Int32) = if nI j = -1 then 0 else 1
    rw [if_neg (lu_ne1 (by omega))]
theorem lz_day_c {A : la_A} : lz_c (la_day A) = lz_c A - lz_y A := by
  unfold la_day
  rw [lz_c_eats]
  unfold lz_y
  cases e : la_first A with
  | none => exact (Int32.sub_zero _).symm
  | some j =>
    obtain ⟨h1, h2, h3⟩ := la_first_may A j e
    exact lz_c_cut h1 h2
/-- drawing -/
def lz_dr (d : Nat) : Nat := (d * 3283 + 11511) % 65536
theorem lz_dr_lt (d : Nat) : lz_dr d < 65536 := Nat.mod_lt _ (by decide)
theorem lz_drE {d : Nat} (h : d < 65536) : (nI d * 3283 + 11511) - (nI d * 3283 + 11511) / 65536 * 65536 = nI (lz_dr d) := by
  have e : nI d * 3283 + 11511 = nI (d * 3283 + 11511) := by
    show nI d * nI 3283 + nI 11511 = _
    rw [pk_mul, nI_add]
  rw [e]
  exact pk_rem (d := 65536) (by omega) (by decide) (by decide)
theorem lz_drV {d x : Nat} (hx0 : 0 < x) (hx : x < 2 ^ 31) : (nI (lz_dr d) / 8) - (nI (lz_dr d) / 8) / nI x * nI x = nI (lz_dr d / 8 % x) := by
  have := lz_dr_lt d
  have e : nI (lz_dr d) / 8 = nI (lz_dr d / 8) := pk_div (d := 8) (by omega) (by decide) (by decide)
  rw [e]
  exact pk_rem (by omega) hx0 hx
/-- what ANY does -/
def lz_any (A : la_A) (d : Nat) : la_A × Nat × Bool :=
  if la_n A = 0 then (A, d, false) else
  if nI (lz_dr (lz_dr d) / 8 % 16) < A.1 1 then (if la_here A (lz_dr d / 8 % la_n A) = true ∧ ¬ A.2 (lz_dr d / 8 % la_n A) 0 = 20 then (la_c A (lz_dr d / 8 % la_n A) 0 (A.2 (lz_dr d / 8 % la_n A) 0 + 1), lz_dr (lz_dr d), true) else (A, lz_dr (lz_dr d), false))
  else if A.1 6 + 1 ≤ 9999 then (la_day A, lz_dr (lz_dr d), true) else (A, lz_dr (lz_dr d), false)
/-- what a step does that has no block -/
def lz_do (I : Nat → Nat → Int32) (k : Nat) (A : la_A) (d : Nat) : la_A × Nat × Bool :=
  if lw_op I k = 6 then (la_c A (I k 1).toNatClampNeg 6 (I k 2), d, decide (¬ A.2 (I k 1).toNatClampNeg 6 = I k 2))
  else if lw_op I k = 11 then (if A.1 6 + I k 1 ≤ 9999 then (la_days A (I k 1).toNatClampNeg, d, true) else (A, d, false))
  else if lw_op I k = 12 then (if la_here A (I k 1).toNatClampNeg = true ∧ A.1 5 = 0 then (la_cut A (I k 1).toNatClampNeg, d, true) else (A, d, false))
  else if lw_op I k = 13 then (if la_here A (I k 1).toNatClampNeg = true ∧ ¬ A.2 (I k 1).toNatClampNeg 4 = 0 then (la_c A (I k 1).toNatClampNeg 4 0, d, true) else (A, d, false))
  else if lw_op I k = 14 then (la_h A 4 (I k 1), d, decide (¬ A.1 4 = I k 1))
  else lz_any A d
def lz_C (w : lt_W) (A : la_A) (d : Nat) (m : Int32) : Prop := lc_T w 12 A ∧ lt_gi w 169 3 = nI d ∧ lt_gi w 169 6 = m
def lz_Fc (w w' : lt_W) : Prop := (∀ a k, lt_gl w' a k = lt_gl w a k) ∧ ∀ a k, ¬ (12 ≤ a ∧ a ≤ 20) → ¬ (a = 169 ∧ 3 ≤ k ∧ k ≤ 7) → lt_gi w' a k = lt_gi w a k
theorem lz_Fc.refl (w : lt_W) : lz_Fc w w := ⟨fun _ _ => rfl, fun _ _ _ _ => rfl⟩
theorem lz_Fc.trans {w w' w'' : lt_W} (h : lz_Fc w w') (h' : lz_Fc w' w'') : lz_Fc w w'' := ⟨fun a k => (h'.1 a k).trans (h.1 a k), fun a k z z2 => (h'.2 a k z z2).trans (h.2 a k z z2)⟩
theorem lz_Fc.t {w w' : lt_W} (h : lu_Fr 12 21 w w') : lz_Fc w w' := ⟨h.1, fun a k z _ => h.2 a k (by omega)⟩
theorem lz_Fc.si {w w' : lt_W} {k : Nat} {v : Int32} (h : lz_Fc w w') (h3 : 3 ≤ k) (h7 : k ≤ 7) : lz_Fc w (lt_si w' 169 k v) := ⟨h.1, fun a j z z2 => by rw [lu_ne (by omega)]; exact h.2 a j z z2⟩
theorem lz_Fc.ti {w w' : lt_W} {a k : Nat} {v : Int32} (h : lz_Fc w w') (h3 : 12 ≤ a) (h7 : a ≤ 20) : lz_Fc w (lt_si w' a k v) := ⟨h.1, fun b j z z2 => by rw [lu_ne (by omega)]; exact h.2 b j z z2⟩
/-- the places 4, 5, 7 of a life, which a step leaves -/
def lz_K (w w' : lt_W) : Prop := ∀ k, (k = 4 ∨ k = 5 ∨ k = 7) → lt_gi w' 169 k = lt_gi w 169 k
section LZ
variable {σ : lt_S}
theorem lz_dropC {d x : Nat} {w : lt_W} (hd : d < 65536) (e : lt_gi w 169 3 = nI d) (hx0 : 0 < x) (hx : x < 2 ^ 31) : f_X2_draw σ 169 (nI x) w = some (nI (lz_dr d / 8 % x), lt_si w 169 3 (nI (lz_dr d))) := by
  unfold f_X2_draw fb_X2_draw_0
  rw [e, lz_drE hd, lu_let, lu_eq, if_neg (nI_nle hx0 hx), lz_drV hx0 hx]
  unfold lt_nz
  rw [if_neg (nI_ne0 hx0 hx)]
theorem lz_dropM {d x : Nat} {w : lt_W} (hd : d < 65536) (e : lt_gi w 233 34 = nI d) (hx0 : 0 < x) (hx : x < 2 ^ 31) : f_X12_draw σ 233 (nI x) w = some (nI (lz_dr d / 8 % x), lt_si w 233 34 (nI (lz_dr d))) := by
  unfold f_X12_draw fb_X12_draw_0
  rw [e, lz_drE hd, lu_let, lu_eq, lz_drV hx0 hx]
  unfold lt_nz
  rw [if_neg (nI_ne0 hx0 hx)]
theorem lz_208 {w : lt_W} {A : la_A} {d : Nat} {m : Int32} (ok : Bool) (h : lz_C w A d m) : ∃ w', fb_X2_goStep_208 σ 169 (if ok = true then 1 else 0) w = some w' ∧ lz_C w' A d (m + (if ok = true then 0 else 1)) ∧ lz_Fc w w' ∧ lz_K w w' := by
  obtain ⟨h1, h2, h3⟩ := h
  unfold fb_X2_goStep_208
  cases ok with
  | true => exact ⟨w, rfl, ⟨h1, h2, by rw [if_pos rfl, h3]; exact (Int32.add_zero _).symm⟩, lz_Fc.refl _, fun _ _ => rfl⟩
  | false =>
    refine ⟨lt_si w 169 6 (m + 1), ?_, ⟨h1.out (by omega), ?_, lu_eq⟩, (lz_Fc.refl _).si (by decide) (by decide), fun k z => lu_ne (by omega)⟩
    · rw [if_pos (by decide), h3]; rfl
    · rw [lu_ne (by omega)]; exact h2
/-- as 208, behind what a step does -/
theorem lz_208' {w u : lt_W} {B : la_A} {d' : Nat} {m : Int32} {x : Int32} (ok : Bool) (hx : x = if ok = true then 1 else 0) (h : lz_C u B d' m) (hF : lz_Fc w u) (hK : lz_K w u) : ∃ w', fb_X2_goStep_208 σ 169 x u = some w' ∧ lz_C w' B d' (m + (if ok = true then 0 else 1)) ∧ lz_Fc w w' ∧ lz_K w w' := by
  subst hx
  obtain ⟨w', a1, a2, a3, a4⟩ := lz_208 (σ := σ) ok h
  exact ⟨w', a1, a2, hF.trans a3, fun k z => (a4 k z).trans (hK k z)⟩
theorem lz_anyC (hσ : lr_S σ) {w : lt_W} {A : la_A} {d : Nat} {m : Int32} (hO : la_Ok A) (hd : d < 65536) (h : lz_C w A d m) : ∃ u, f_X2_goAny σ 169 w = some (if (lz_any A d).2.2 = true then 1 else 0, u) ∧ lz_C u (lz_any A d).1 (lz_any A d).2.1 m ∧ lz_Fc w u ∧ lz_K w u := by
  obtain ⟨h1, h2, h3⟩ := h
  have h7 := hO.2.1
  obtain ⟨⟨-, s0, s1, s2, s3, s4, s5, s6, s7⟩, l1, l2, l3, l4, l5, l6, l7, l8⟩ := lr_nowS hσ
  unfold f_X2_goAny fb_X2_goAny_0 lz_any
  rw [lq_r169_0 hσ, lc_n h1]
  by_cases n0 : la_n A = 0
  · rw [if_pos n0, if_neg (by rw [n0]; decide)]
    exact ⟨w, rfl, ⟨h1, h2, h3⟩, lz_Fc.refl _, fun _ _ => rfl⟩
  · rw [if_neg n0, if_pos (show (0 : Int32) < nI (la_n A) from nI_lt (a := 0) (by omega) (by omega)), lz_dropC hd h2 (by omega) (by omega), lu_bind]
    have d2 := lz_dropC (σ := σ) (d := lz_dr d) (x := 16) (w := lt_si w 169 3 (nI (lz_dr d))) (lz_dr_lt d) lu_eq (by decide) (by decide)
    have d2' : f_X2_draw σ 169 16 (lt_si w 169 3 (nI (lz_dr d))) = _ := d2
    show ∃ u, Option.bind (f_X2_draw σ 169 16 (lt_si w 169 3 (nI (lz_dr d)))) _ = _ ∧ _
    rw [d2', lu_bind]
    have hu : lc_T (lt_si (lt_si w 169 3 (nI (lz_dr d))) 169 3 (nI (lz_dr (lz_dr d)))) 12 A := (h1.out (by omega)).out (by omega)
    have hF : lz_Fc w (lt_si (lt_si w 169 3 (nI (lz_dr d))) 169 3 (nI (lz_dr (lz_dr d)))) := ((lz_Fc.refl w).si (by decide) (by decide)).si (by decide) (by decide)
    have hK : lz_K w (lt_si (lt_si w 169 3 (nI (lz_dr d))) 169 3 (nI (lz_dr (lz_dr d)))) := fun k z => by rw [lu_ne (by omega), lu_ne (by omega)]
    have hm : lt_gi (lt_si (lt_si w 169 3 (nI (lz_dr d))) 169 3 (nI (lz_dr (lz_dr d)))) 169 6 = m := by rw [lu_ne (by omega), lu_ne (by omega)]; exact h3
    have hd3 : lt_gi (lt_si (lt_si w 169 3 (nI (lz_dr d))) 169 3 (nI (lz_dr (lz_dr d)))) 169 3 = nI (lz_dr (lz_dr d)) := lu_eq
    generalize lt_si (lt_si w 169 3 (nI (lz_dr d))) 169 3 (nI (lz_dr (lz_dr d))) = u at hu hF hK hm hd3
    have hg : lz_dr d / 8 % la_n A < la_n A := Nat.mod_lt _ (by omega)
    generalize lz_dr d / 8 % la_n A = g at hg
    show ∃ u', (if lt_gi u 12 1 ≤ nI (lz_dr (lz_dr d) / 8 % 16) then fb_X2_goAny_45 σ 169 (nI g) 0 u else fb_X2_goAny_45 σ 169 (nI g) 1 u) = _ ∧ _
    rw [hu.2.2.1 1 (by decide)]
    by_cases c : A.1 1 ≤ nI (lz_dr (lz_dr d) / 8 % 16)
    · rw [if_pos c, if_neg (show ¬ nI (lz_dr (lz_dr d) / 8 % 16) < A.1 1 from Int32.not_lt.mpr c)]
      unfold fb_X2_goAny_45 f_X5_mayPass fb_X5_mayPass_0
      rw [if_pos rfl, lq_r169_0 hσ, hu.2.2.1 6 (by decide)]
      by_cases c6 : A.1 6 + 1 ≤ 9999
      · rw [if_neg (Int32.not_lt.mpr c6), if_pos c6, lu_bind]
        obtain ⟨u', e1, e2, e3⟩ := lc_passDay (lr_nowS hσ) hu hO (la_first_may A)
        refine ⟨u', ?_, ⟨e2, by rw [e3.2 _ _ (by omega)]; exact hd3, by rw [e3.2 _ _ (by omega)]; exact hm⟩, hF.trans (lz_Fc.t e3), fun k z => (e3.2 _ _ (by omega)).trans (hK k z)⟩
        unfold fb_X2_goAny_91 fb_X2_goAny_116
        rw [if_neg lu_10, if_pos rfl, if_neg lu_10, lq_r169_0 hσ, lc_first (lr_nowS hσ) hu hO, lu_bind, e1, lu_bind]; rfl
      · rw [if_pos (Int32.not_le.mp c6), if_neg c6, lu_bind]
        refine ⟨u, ?_, ⟨hu, hd3, hm⟩, hF, hK⟩
        unfold fb_X2_goAny_91 fb_X2_goAny_116
        rw [if_pos rfl, if_pos rfl]; rfl
    · rw [if_neg c, if_pos (show nI (lz_dr (lz_dr d) / 8 % 16) < A.1 1 from Int32.not_le.mp c)]
      unfold fb_X2_goAny_45
      rw [if_neg lu_10, lq_r169_0 hσ, lc_isThere hu hg, lu_bind]
      by_cases ch : la_here A g = true
      · rw [if_pos ch, if_neg lu_10, s1, l2, lu_ck (show g < 7 by omega) (by omega), nI_clamp (by omega), (hu.2.2.2.2 g hg).1]
        obtain ⟨v, v0, v20, ev⟩ := (hO.2.2.2.2.2.2.2 g hg).1
        by_cases c20 : A.2 g 0 = 20
        · rw [if_pos (show (20 : Int32) ≤ A.2 g 0 by rw [c20]; decide), if_neg (show ¬ (la_here A g = true ∧ ¬ A.2 g 0 = 20) from fun z => z.2 c20)]
          refine ⟨u, ?_, ⟨hu, hd3, hm⟩, hF, hK⟩
          unfold fb_X2_goAny_91 fb_X2_goAny_116
          rw [if_pos rfl, if_pos rfl]; rfl
        · have c20' : ¬ (20 : Int32) ≤ A.2 g 0 := by
            rw [ev]
            refine nI_ge (b := 20) ?_ (by decide)
            have : v ≠ 20 := fun z => c20 (by rw [ev, z]; rfl)
            omega
          rw [if_neg c20', if_pos (show la_here A g = true ∧ ¬ A.2 g 0 = 20 from ⟨ch, c20⟩)]
          refine ⟨lt_si u (12 + 2) g (A.2 g 0 + 1), ?_, ⟨hu.cell (Or.inl ⟨by decide, rfl⟩), by rw [lu_ne (by omega)]; exact hd3, by rw [lu_ne (by omega)]; exact hm⟩, hF.ti (by decide) (by decide), fun k z => by rw [lu_ne (by omega)]; exact hK k z⟩
          unfold fb_X2_goAny_91
          rw [if_neg lu_10, if_neg lu_10, lq_r169_0 hσ, s1, l2, lu_ck (show g < 7 by omega) (by omega), lu_ck (show g < 7 by omega) (by omega), lu_let, nI_clamp (by omega), (hu.2.2.2.2 g hg).1]; rfl
      · rw [if_neg ch, if_pos rfl, if_neg (show ¬ (la_here A g = true ∧ ¬ A.2 g 0 = 20) from fun z => ch z.1)]
        refine ⟨u, ?_, ⟨hu, hd3, hm⟩, hF, hK⟩
        unfold fb_X2_goAny_91 fb_X2_goAny_116
        rw [if_pos rfl, if_pos rfl]; rfl
end LZ