/-! THE WEEKS' TEXT: guests, numbers; what stands behind a word -/
/-- the table the names are of -/
def tw_H (n : Nat) (w w0 : lt_W) : Prop := n ≤ 7 ∧ lt_gi w 12 0 = nI n ∧ lt_gi w0 234 0 = nI n ∧ ∀ g, g < n → lr_nm1 (lt_gl w 13 g) (lt_gl w0 235 (0 + g))
def tw_fc (s : Nat) (wc wc' : lt_W) : Prop := ∀ a k, ¬ (a = 10 ∧ 3 ≤ k ∧ k ≤ 8) → ¬ (41 ≤ a ∧ a ≤ 47 ∧ k = s) → lt_gi wc' a k = lt_gi wc a k
def tw_fm (r : Nat) (wm wm' : lt_W) : Prop := ∀ a k, ¬ (a = 233 ∧ 12 ≤ k ∧ k ≤ 15) → ¬ (a = 234 ∧ r ≤ k ∧ k < r + 6) → lt_gi wm' a k = lt_gi wm a k
theorem tw_fc.refl (s : Nat) (w : lt_W) : tw_fc s w w := fun _ _ _ _ => rfl
theorem tw_fm.refl (r : Nat) (w : lt_W) : tw_fm r w w := fun _ _ _ _ => rfl
theorem tw_fc.trans {s : Nat} {w w' w'' : lt_W} (h : tw_fc s w w') (h' : tw_fc s w' w'') : tw_fc s w w'' := fun a k z y => (h' a k z y).trans (h a k z y)
theorem tw_fm.trans {r : Nat} {w w' w'' : lt_W} (h : tw_fm r w w') (h' : tw_fm r w' w'') : tw_fm r w w'' := fun a k z y => (h' a k z y).trans (h a k z y)
theorem tw_fc.F {s : Nat} {w w' : lt_W} (h : tx_Fk w w') : tw_fc s w w' := fun a k z _ => h.1 a k (by omega)
theorem tw_fm.F {r : Nat} {w w' : lt_W} (h : tx_Fm w w') : tw_fm r w w' := fun a k z _ => h.1 a k (by omega)
theorem tw_fc.i {s b : Nat} {v : Int32} {w w' : lt_W} (h : tw_fc s w w') (hb : 41 ≤ b ∧ b ≤ 47) : tw_fc s w (lt_si w' b s v) := fun a k z y => by rw [lu_ne (by omega)]; exact h a k z y
theorem tw_fm.i {r k : Nat} {v : Int32} {w w' : lt_W} (h : tw_fm r w w') (h1 : r ≤ k) (h2 : k < r + 6) : tw_fm r w (lt_si w' 234 k v) := fun a j z y => by rw [lu_ne (by omega)]; exact h a j z y
theorem tw_fc.n8 {s : Nat} {v : Int32} {w w' : lt_W} (h : tw_fc s w w') : tw_fc s w (lt_si w' 10 8 v) := fun a k z y => by rw [lu_ne (by omega)]; exact h a k z y
/-- a row, as it stands -/
def tw_R (wm : lt_W) (r : Nat) : Nat → Int32 := fun i => lt_gi wm 234 (r + i)
def tw_row (I : Nat → Nat → Int32) (N s n : Nat) (op : Bool) (wc wm : lt_W) : Prop := lw_ok (tw_up I N (tw_R wm (1772 + 6 * N))) n N ∧ tw_ci wc 40 (tw_up I N (tw_R wm (1772 + 6 * N))) N s ∧ lw_op (tw_up I N (tw_R wm (1772 + 6 * N))) N ≠ 18 ∧ (tw_op (tw_up I N (tw_R wm (1772 + 6 * N))) N ↔ op = true)
def tw_O (w w0 : lt_W) (T : Nat → Nat) (L p0 : Nat) (I : Nat → Nat → Int32) (N s n : Nat) (op : Bool) (wc wm wc' wm' : lt_W) : Prop := ∃ p', p0 ≤ p' ∧ tk_S w w0 T L p' wc' wm' ∧ tw_fc s wc wc' ∧ tw_fm (1772 + 6 * N) wm wm' ∧ tw_row I N s n op wc' wm'
section TWG
variable {σ : lt_S} {w w0 wc wm : lt_W} {T : Nat → Nat} {L p n : Nat}
theorem lr_39 (hσ : lr_S σ) : (lt_r σ 39 0 = 10 ∧ lt_r σ 39 1 = 12 ∧ lt_r σ 39 2 = 40 ∧ lt_r σ 39 3 = 48) ∧ (lt_r σ 40 2 = 41 ∧ lt_r σ 40 3 = 42 ∧ lt_r σ 40 4 = 43 ∧ lt_r σ 40 5 = 44 ∧ lt_r σ 40 6 = 45 ∧ lt_r σ 40 7 = 46 ∧ lt_r σ 40 8 = 47) ∧ (lt_len σ 41 = 30 ∧ lt_len σ 42 = 30 ∧ lt_len σ 43 = 30 ∧ lt_len σ 44 = 30 ∧ lt_len σ 45 = 30 ∧ lt_len σ 46 = 30 ∧ lt_len σ 47 = 30 ∧ lt_len σ 48 = 3) :=
  ⟨⟨hσ.r 39 0 (by decide) (by decide), hσ.r 39 1 (by decide) (by decide), hσ.r 39 2 (by decide) (by decide), hσ.r 39 3 (by decide) (by decide)⟩, ⟨hσ.r 40 2 (by decide) (by decide), hσ.r 40 3 (by decide) (by decide), hσ.r 40 4 (by decide) (by decide), hσ.r 40 5 (by decide) (by decide), hσ.r 40 6 (by decide) (by decide), hσ.r 40 7 (by decide) (by decide), hσ.r 40 8 (by decide) (by decide)⟩, ⟨hσ.l 41 (by decide), hσ.l 42 (by decide), hσ.l 43 (by decide), hσ.l 44 (by decide), hσ.l 45 (by decide), hσ.l 46 (by decide), hσ.l 47 (by decide), hσ.l 48 (by decide)⟩⟩
theorem tw_look (hσ : lr_S σ) (h : tk_S w w0 T L p wc wm) (hH : tw_H n w w0) (hK : tx_K T L p = 24) : ∃ v, f_X5_guestNamed σ 12 (lt_gl wc 10 6) wc = some v ∧ f_X12_findHere σ 233 (nI 0) (nI n) wm = some v ∧ (v = -1 ∨ ∃ g, g < n ∧ v = nI g) := by
  obtain ⟨⟨-, s0, -⟩, l1, -⟩ := lr_nowS hσ
  refine tt_look hσ (o := 12) (nb := 0) h s0 l1 hH.1 (by decide) ?_ (fun g hg => ?_) hK
  · rw [h.2.2.2.2.1.1 _ _ (by omega) (by omega)]; exact hH.2.1
  · have := hH.1
    rw [h.2.2.2.2.1.2 _ _ (by omega) (by omega), h.2.2.2.2.2.2 _ _ (by omega)]
    exact hH.2.2.2 g hg
theorem tw_n0 (h : tk_S w w0 T L p wc wm) (hH : tw_H n w w0) : lt_gi wm 234 0 = nI n := by
  rw [h.2.2.2.2.2.1 _ _ (by unfold tx_gm; omega)]; exact hH.2.2.1
def tw_P1 (w w0 : lt_W) (T : Nat → Nat) (L p n b s to : Nat) (wc wm wc' wm' : lt_W) : Prop := tk_S w w0 T L (tx_N T L p) wc' wm' ∧ ∃ g, g < n ∧ tx_Fk (lt_si wc b s (nI g)) wc' ∧ tx_Fm (lt_si wm 234 to (nI g)) wm'
theorem tw_guest (hσ : lr_S σ) (h : tk_S w w0 T L p wc wm) (hH : tw_H n w w0) (b s to : Nat) (hb : 41 ≤ b ∧ b ≤ 47) (hl : lt_len σ b = 30) (hs : s < 30) (h1 : 1712 ≤ to) (h2 : to < 2140) : tk_O (tw_P1 w w0 T L p n b s to wc wm) (tk_E w w0) (f_X10_takeGuest σ 39 b (nI s) (-1) wc) (f_X12_guestTo σ 233 0 (nI to) wm) := by
  obtain ⟨⟨r0, r1, r2, r3⟩, -, -⟩ := lr_39 hσ
  have h7 := hH.1
  have k24 := tp_kind h (c := 24) (by decide)
  unfold f_X10_takeGuest fb_X10_takeGuest_0
  rw [r0, r1, hl]
  by_cases hK : tx_K T L p = 24
  · obtain ⟨v, v1, v2, v3⟩ := tw_look hσ h hH hK
    have eN : f_X7_namedGuest σ 10 12 wc = if v = -1 then Option.bind (f_X7_refuse σ 10 3 wc) (fun q2 => some (v, q2.2)) else some (v, wc) := by
      unfold f_X7_namedGuest fb_X7_namedGuest_0
      rw [if_pos (show lt_gi wc 10 5 = 24 from k24.mpr hK), v1, lu_bind]
    have gT : f_X12_guestTo σ 233 0 (nI to) wm = _ := tm_guestTo hσ h.2.1 hK (Or.inr ⟨rfl, rfl⟩) (tw_n0 h hH) v2 to h1 h2
    rw [eN, gT]
    rcases v3 with v3 | ⟨g, hg, v3⟩
    · subst v3
      rw [if_pos rfl, if_pos rfl]
      obtain ⟨x, y, e1, e2, e3⟩ := tp_f (σ := σ) (h.mi (b := 234) (k := to) (v := -1) (by omega)) 3 (by decide) (by decide)
      rw [show f_X7_refuse σ 10 3 wc = _ from e1, show f_X12_fails σ 233 3 _ = _ from e2]
      exact Or.inl ⟨x, y, rfl, rfl, e3⟩
    · subst v3
      have g1 := lu_ne1 (i := g) (by omega)
      rw [if_neg g1, if_neg g1, lu_bind, if_neg g1, if_neg g1, lu_ck hs (by decide), lu_let, nI_clamp (by omega)]
      obtain ⟨wc', wm', a1, b1, a2, a3, a4⟩ := tp_adv hσ ((h.ci (b := b) (k := s) (v := nI g) (by omega)).mi (b := 234) (k := to) (v := nI g) (by omega)) (by omega)
      rw [a1, b1]
      exact Or.inr ⟨wc', wm', rfl, rfl, a2, g, hg, a3, a4⟩
  · have eN : f_X7_namedGuest σ 10 12 wc = Option.bind (f_X7_refuse σ 10 2 wc) (fun q3 => some ((-1), q3.2)) := by
      unfold f_X7_namedGuest fb_X7_namedGuest_0
      rw [if_neg (show ¬ lt_gi wc 10 5 = 24 from fun z => hK (k24.mp z))]
    obtain ⟨x, y, e1, e2, e3⟩ := tp_f (σ := σ) h 2 (by decide) (by decide)
    rw [eN, tm_guestNo hσ h.2.1 hK, show f_X7_refuse σ 10 2 wc = _ from e1, show f_X12_fails σ 233 2 wm = _ from e2]
    exact Or.inl ⟨x, y, rfl, rfl, e3⟩
def tw_P2 (w w0 : lt_W) (T : Nat → Nat) (L p n b s to g : Nat) (wc wm wc' wm' : lt_W) : Prop := tk_S w w0 T L (tx_N T L p) wc' wm' ∧ ∃ j, j < n ∧ j ≠ g ∧ tx_Fk (lt_si wc b s (nI j)) wc' ∧ tx_Fm (lt_si wm 234 (to + 1) (nI j)) wm'
theorem tw_other (hσ : lr_S σ) (h : tk_S w w0 T L p wc wm) (hH : tw_H n w w0) (b s to g : Nat) (hb : 41 ≤ b ∧ b ≤ 47) (hl : lt_len σ b = 30) (hs : s < 30) (h1 : 1712 ≤ to) (h2 : to + 1 < 2140) (hg : g < n) (hto : lt_gi wm 234 to = nI g) : tk_O (tw_P2 w w0 T L p n b s to g wc wm) (tk_E w w0) (f_X10_takeGuest σ 39 b (nI s) (nI g) wc) (f_X12_otherTo σ 233 0 (nI to) wm) := by
  obtain ⟨⟨r0, r1, r2, r3⟩, -, -⟩ := lr_39 hσ
  have h7 := hH.1
  have k24 := tp_kind h (c := 24) (by decide)
  unfold f_X10_takeGuest fb_X10_takeGuest_0
  rw [r0, r1, hl]
  by_cases hK : tx_K T L p = 24
  · obtain ⟨v, v1, v2, v3⟩ := tw_look hσ h hH hK
    have eN : f_X7_namedGuest σ 10 12 wc = if v = -1 then Option.bind (f_X7_refuse σ 10 3 wc) (fun q2 => some (v, q2.2)) else some (v, wc) := by
      unfold f_X7_namedGuest fb_X7_namedGuest_0
      rw [if_pos (show lt_gi wc 10 5 = 24 from k24.mpr hK), v1, lu_bind]
    have gT : f_X12_guestTo σ 233 (nI 0) (nI (to + 1)) wm = _ := tm_guestTo hσ h.2.1 hK (Or.inr ⟨rfl, rfl⟩) (tw_n0 h hH) v2 (to + 1) (by omega) h2
    have oT : f_X12_otherTo σ 233 0 (nI to) wm = _ := tm_otherTo hσ h.2.1 hK (Or.inr ⟨rfl, rfl⟩) (tw_n0 h hH) v2 to h1 h2
    rw [hto] at oT
    rw [eN, oT]
    rcases v3 with v3 | ⟨j, hj, v3⟩
    · subst v3
      rw [if_pos rfl] at gT
      rw [if_pos rfl, if_neg (show ¬ (-1 : Int32) = nI g from lu_m1ne (by omega)), gT]
      obtain ⟨x, y, e1, e2, e3⟩ := tp_f (σ := σ) (h.mi (b := 234) (k := to + 1) (v := -1) (by omega)) 3 (by decide) (by decide)
      rw [show f_X7_refuse σ 10 3 wc = _ from e1, show f_X12_fails σ 233 3 _ = _ from e2]
      exact Or.inl ⟨x, y, rfl, rfl, e3⟩
    · subst v3
      have g1 := lu_ne1 (i := j) (by omega)
      rw [if_neg g1] at gT
      rw [if_neg g1, lu_bind, if_neg g1]
      by_cases e : j = g
      · subst e
        rw [if_pos rfl, if_pos rfl]
        obtain ⟨x, y, e1, e2, e3⟩ := tp_f (σ := σ) h 5 (by decide) (by decide)
        rw [show f_X7_refuse σ 10 5 wc = _ from e1, show f_X12_fails σ 233 5 wm = _ from e2]
        exact Or.inl ⟨x, y, rfl, rfl, e3⟩
      · have ne : ¬ nI j = nI g := fun z => e ((nI_eq (by omega) (by omega)).mp z)
        rw [if_neg ne, if_neg ne, gT, lu_ck hs (by decide), lu_let, nI_clamp (by omega)]
        obtain ⟨wc', wm', a1, b1, a2, a3, a4⟩ := tp_adv hσ ((h.ci (b := b) (k := s) (v := nI j) (by omega)).mi (b := 234) (k := to + 1) (v := nI j) (by omega)) (by omega)
        rw [a1, b1]
        exact Or.inr ⟨wc', wm', rfl, rfl, a2, j, hj, e, a3, a4⟩
  · have eN : f_X7_namedGuest σ 10 12 wc = Option.bind (f_X7_refuse σ 10 2 wc) (fun q3 => some ((-1), q3.2)) := by
      unfold f_X7_namedGuest fb_X7_namedGuest_0
      rw [if_neg (show ¬ lt_gi wc 10 5 = 24 from fun z => hK (k24.mp z))]
    obtain ⟨x, y, e1, e2, e3⟩ := tp_f (σ := σ) h 2 (by decide) (by decide)
    rw [eN, tm_otherNo hσ h.2.1 hK, show f_X7_refuse σ 10 2 wc = _ from e1, show f_X12_fails σ 233 2 wm = _ from e2]
    exact Or.inl ⟨x, y, rfl, rfl, e3⟩
def tw_P3 (w w0 : lt_W) (T : Nat → Nat) (L p a b s to : Nat) (wc wm wc' wm' : lt_W) : Prop := tk_S w w0 T L (tx_N T L p) wc' wm' ∧ ∃ v x, a ≤ v ∧ v ≤ b ∧ tx_Fk (lt_si wc 10 8 (nI v)) x ∧ wc' = lt_si x 46 s (nI v) ∧ tx_Fm (lt_si wm 234 to (nI v)) wm'
theorem tw_much (hσ : lr_S σ) (h : tk_S w w0 T L p wc wm) (s to a b : Nat) (hs : s < 30) (h1 : 1712 ≤ to) (h2 : to < 2140) (ha : a < 100) (hb : b < 100) : tk_O (tw_P3 w w0 T L p a b s to wc wm) (tk_E w w0) (Option.bind (f_X7_takeNumber σ 10 (nI a) (nI b) wc) (fun q2 => if q2.1 = 0 then some (0, q2.2) else lt_ck (nI s) 30 (lt_let (lt_si q2.2 46 (nI s).toNatClampNeg (lt_gi q2.2 10 8)) (fun w6 => some (1, w6))))) (f_X12_number σ 233 (nI to) (nI a) (nI b) wm) := by
  rcases tp_num hσ h to a b h1 h2 ha hb with ⟨x, y, e1, e2, e3⟩ | ⟨x, y, e1, e2, f1, f2, f3, f4, f5, f6⟩
  · rw [e1, e2]; exact Or.inl ⟨x, y, rfl, rfl, e3⟩
  · rw [e1, e2, lu_bind, if_neg lu_10, lu_ck hs (by decide), lu_let, nI_clamp (by omega)]
    exact Or.inr ⟨_, y, rfl, rfl, f1.ci (by omega), _, x, f5, f6, f2, by rw [f4], f3⟩
end TWG