/-! THE WEEKS' TEXT: steps told so far, what waits for its end -/
def tw_up (I : Nat → Nat → Int32) (N : Nat) (R : Nat → Int32) : Nat → Nat → Int32 := fun k i => if k = N then R i else I k i
theorem tw_up_o {I : Nat → Nat → Int32} {N k i : Nat} {R : Nat → Int32} (h : k ≠ N) : tw_up I N R k i = I k i := if_neg h
theorem tw_up_s {I : Nat → Nat → Int32} {N i : Nat} {R : Nat → Int32} : tw_up I N R N i = R i := if_pos rfl
theorem tw_phc {I I' : Nat → Nat → Int32} {k : Nat} (h : ∀ j, j < k → I' j 0 = I j 0) : lw_phi I' k = lw_phi I k := la_cnt_congr fun j hj => by
  show decide (lw_op I' j ≠ 18) = decide (lw_op I j ≠ 18)
  unfold lw_op; rw [h j hj]
theorem tw_phn {I : Nat → Nat → Int32} {k : Nat} (h : lw_op I k ≠ 18) : lw_phi I (k + 1) = lw_phi I k + 1 := by
  unfold lw_phi; rw [la_cnt, if_pos (decide_eq_true h)]
theorem tw_phe {I : Nat → Nat → Int32} {k : Nat} (h : lw_op I k = 18) : lw_phi I (k + 1) = lw_phi I k := by
  unfold lw_phi; rw [la_cnt, if_neg (by rw [decide_eq_true_eq]; exact fun z => z h)]
theorem tw_phlt {I : Nat → Nat → Int32} {k n : Nat} (hk : k < n) (h : lw_op I k ≠ 18) : lw_phi I k < lw_phi I n := la_cnt_lt hk (decide_eq_true h)
theorem tw_phm {I : Nat → Nat → Int32} {k n : Nat} (hk : k ≤ n) : lw_phi I k ≤ lw_phi I n := la_cnt_mono n k hk
theorem lw_bal.nil {I : Nat → Nat → Int32} {a d : Nat} : lw_bal I a a d := fun X h1 _ _ => h1 a d
theorem lw_bal.step {I : Nat → Nat → Int32} {a k d : Nat} (h : lw_bal I a k d) (c1 : lw_op I k ≠ 18) (c2 : lw_op I k ≠ 17) (c3 : lw_op I k < 1600) : lw_bal I a (k + 1) d := fun X h1 h2 h3 => h2 a k d (h X h1 h2 h3) c1 c2 c3
theorem lw_bal.block {I : Nat → Nat → Int32} {a k c d : Nat} (h : lw_bal I a k (d + 1)) (ho : lw_op I k = 17 ∨ 1600 ≤ lw_op I k) (h' : lw_bal I (k + 1) c d) (c1 : lw_op I c = 18) (c2 : lw_lk I k = c) (c3 : lw_lk I c = k) : lw_bal I a (c + 1) (d + 1) := fun X h1 h2 h3 => h3 a k c d (h X h1 h2 h3) ho (h' X h1 h2 h3) c1 c2 c3
theorem lw_bal.le {I : Nat → Nat → Int32} {a k d : Nat} (h : lw_bal I a k d) : a ≤ k := h (fun a k _ => a ≤ k) (fun _ _ => Nat.le_refl _) (fun _ _ _ x _ _ _ => by omega) (fun _ _ _ _ x _ y _ _ _ => by omega)
theorem lw_bal.congr {I I' : Nat → Nat → Int32} {a k d : Nat} (h : lw_bal I a k d) (e : ∀ j, a ≤ j → j < k → I' j 0 = I j 0 ∧ I' j 4 = I j 4) : lw_bal I' a k d := by
  refine (h (fun a k d => a ≤ k ∧ ((∀ j, a ≤ j → j < k → I' j 0 = I j 0 ∧ I' j 4 = I j 4) → lw_bal I' a k d)) (fun a d => ⟨Nat.le_refl _, fun _ => lw_bal.nil⟩) (fun a k d x c1 c2 c3 => ⟨by omega, fun e => ?_⟩) (fun a k c d x ho y c1 c2 c3 => ⟨by omega, fun e => ?_⟩)).2 e
  · have eo : lw_op I' k = lw_op I k := by unfold lw_op; rw [(e k x.1 (Nat.lt_succ_self _)).1]
    exact (x.2 fun j j1 j2 => e j j1 (by omega)).step (by rw [eo]; exact c1) (by rw [eo]; exact c2) (by rw [eo]; exact c3)
  · have y1 := y.1
    have x1 := x.1
    have e1 := e k (by omega) (by omega)
    have e2 := e c (by omega) (by omega)
    have o1 : lw_op I' k = lw_op I k := by unfold lw_op; rw [e1.1]
    have o2 : lw_op I' c = lw_op I c := by unfold lw_op; rw [e2.1]
    have l1 : lw_lk I' k = lw_lk I k := by unfold lw_lk; rw [e1.2]
    have l2 : lw_lk I' c = lw_lk I c := by unfold lw_lk; rw [e2.2]
    exact (x.2 fun j j1 j2 => e j j1 (by omega)).block (by rw [o1]; exact ho) (y.2 fun j j1 j2 => e j (by omega) (by omega)) (by rw [o2]; exact c1) (by rw [l1]; exact c2) (by rw [l2]; exact c3)
theorem lw_ok.congr {I I' : Nat → Nat → Int32} {n k : Nat} (h : lw_ok I n k) (e : ∀ i, I' k i = I k i) : lw_ok I' n k := by
  unfold lw_ok lw_op lw_lk at *
  simp only [e]
  exact h
/-- a step's cells in the class, but for where its end is -/
def tw_ci (w : lt_W) (p : Nat) (I : Nat → Nat → Int32) (k s : Nat) : Prop := lt_gi w (p + 1) s = lw_wd (lw_op I k) ∧ ((lw_op I k = 11 ∨ lw_op I k = 14 ∨ lw_op I k = 17) → lt_gi w (p + 6) s = I k 1) ∧ ((lw_op I k = 12 ∨ lw_op I k = 13 ∨ lw_op I k = 6) → lt_gi w (p + 3) s = I k 1) ∧ (lw_op I k = 6 → lt_gi w (p + 4) s = I k 2) ∧ (1600 ≤ lw_op I k → lt_gi w (p + 2) s = lw_ts (lw_op I k) ∧ (lw_op I k ≠ 1622 → lt_gi w (p + 3) s = I k 1) ∧ ((lw_op I k = 1622 ∨ lw_op I k = 1607) → lt_gi w (p + 5) s = I k 5 ∧ lt_gi w (p + 6) s = I k 2))
theorem tw_ci.congr {w w' : lt_W} {p k s : Nat} {I I' : Nat → Nat → Int32} (h : tw_ci w p I k s) (e : ∀ i, i ≠ 4 → I' k i = I k i) (ew : ∀ j, 1 ≤ j → j ≤ 6 → lt_gi w' (p + j) s = lt_gi w (p + j) s) : tw_ci w' p I' k s := by
  have eo : lw_op I' k = lw_op I k := by unfold lw_op; rw [e 0 (by decide)]
  unfold tw_ci at *
  rw [eo, ew 1 (by decide) (by decide), ew 2 (by decide) (by decide), ew 3 (by decide) (by decide), ew 4 (by decide) (by decide), ew 5 (by decide) (by decide), ew 6 (by decide) (by decide), e 1 (by decide), e 2 (by decide), e 5 (by decide)]
  exact h
def tw_lo (st : Nat → Nat) (i : Nat) : Nat := if i = 0 then 0 else st (i - 1) + 1
def tw_hi (N d : Nat) (st : Nat → Nat) (i : Nat) : Nat := if i = d then N else st i
def tw_op (I : Nat → Nat → Int32) (k : Nat) : Prop := lw_op I k = 17 ∨ 1600 ≤ lw_op I k
def tw_B (I : Nat → Nat → Int32) (N d : Nat) (st : Nat → Nat) (n : Nat) (wc wm : lt_W) : Prop :=
  (N + d ≤ 2 * lw_phi I N ∧ lw_phi I N ≤ 30 ∧ d ≤ 3) ∧ (∀ k, k < N → ∀ i, i < 6 → lt_gi wm 234 (1772 + 6 * k + i) = I k i) ∧ (∀ i, i < d → lt_gi wm 241 i = nI (st i) ∧ lt_gi wc 48 i = nI (lw_phi I (st i)) ∧ st i < N ∧ tw_op I (st i)) ∧ (∀ i, i ≤ d → lw_bal I (tw_lo st i) (tw_hi N d st i) (3 - i)) ∧ (∀ k, k < N → lw_ok I n k) ∧ (∀ k, k < N → lw_op I k ≠ 18 → tw_ci wc 40 I k (lw_phi I k) ∧ (tw_op I k → (∀ i, i < d → st i ≠ k) → lt_gi wc 47 (lw_phi I k) = nI (lw_phi I (lw_lk I k)) ∧ lw_lk I k < N))
theorem tw_B.c {I : Nat → Nat → Int32} {N d n : Nat} {st : Nat → Nat} {wc wm wc' wm' : lt_W} (h : tw_B I N d st n wc wm) (e1 : ∀ a s, 41 ≤ a → a ≤ 47 → s < lw_phi I N → lt_gi wc' a s = lt_gi wc a s) (e2 : ∀ i, i < d → lt_gi wc' 48 i = lt_gi wc 48 i) (e3 : ∀ k, k < 6 * N → lt_gi wm' 234 (1772 + k) = lt_gi wm 234 (1772 + k)) (e4 : ∀ i, i < d → lt_gi wm' 241 i = lt_gi wm 241 i) : tw_B I N d st n wc' wm' := by
  obtain ⟨h1, h2, h3, h4, h5, h6⟩ := h
  refine ⟨h1, fun k hk i hi => ?_, fun i hi => ?_, h4, h5, fun k hk hq => ?_⟩
  · have := e3 (6 * k + i) (by omega)
    rw [← Nat.add_assoc] at this
    exact this.trans (h2 k hk i hi)
  · obtain ⟨a, b, c, d⟩ := h3 i hi
    exact ⟨(e4 i hi).trans a, (e2 i hi).trans b, c, d⟩
  · obtain ⟨a, b⟩ := h6 k hk hq
    have hlt := tw_phlt hk hq
    refine ⟨a.congr (fun _ _ => rfl) fun j j1 j2 => e1 _ _ (by omega) (by omega) hlt, fun z y => ?_⟩
    rw [e1 47 _ (by decide) (by decide) hlt]
    exact b z y
theorem tw_up_op {I : Nat → Nat → Int32} {N k : Nat} {R : Nat → Int32} (h : k ≠ N) : lw_op (tw_up I N R) k = lw_op I k := by unfold lw_op; rw [tw_up_o h]
theorem tw_up_phi {I : Nat → Nat → Int32} {N k : Nat} {R : Nat → Int32} (h : k ≤ N) : lw_phi (tw_up I N R) k = lw_phi I k := tw_phc fun j hj => tw_up_o (by omega)
theorem tw_up_lk {I : Nat → Nat → Int32} {N k : Nat} {R : Nat → Int32} (h : k ≠ N) : lw_lk (tw_up I N R) k = lw_lk I k := by unfold lw_lk; rw [tw_up_o h]
theorem tw_B.plain {I : Nat → Nat → Int32} {N d n : Nat} {st : Nat → Nat} {wc wm : lt_W} {R : Nat → Int32} (h : tw_B I N d st n wc wm) (hp : lw_phi I N < 30) (hr : ∀ i, i < 6 → lt_gi wm 234 (1772 + 6 * N + i) = R i) (q1 : lw_op (tw_up I N R) N ≠ 18) (q2 : ¬ tw_op (tw_up I N R) N) (hok : lw_ok (tw_up I N R) n N) (hci : tw_ci wc 40 (tw_up I N R) N (lw_phi I N)) : tw_B (tw_up I N R) (N + 1) d st n wc wm := by
  obtain ⟨⟨h1, h1', h1''⟩, h2, h3, h4, h5, h6⟩ := h
  have eph : lw_phi (tw_up I N R) (N + 1) = lw_phi I N + 1 := by rw [tw_phn q1, tw_up_phi (Nat.le_refl _)]
  refine ⟨⟨by rw [eph]; omega, by rw [eph]; omega, h1''⟩, fun k hk i hi => ?_, fun i hi => ?_, fun i hi => ?_, fun k hk => ?_, fun k hk hq => ?_⟩
  · by_cases e : k = N
    · rw [e, tw_up_s]; exact hr i hi
    · rw [tw_up_o e]; exact h2 k (by omega) i hi
  · obtain ⟨a, b, c, e⟩ := h3 i hi
    refine ⟨a, ?_, by omega, ?_⟩
    · rw [tw_up_phi (by omega)]; exact b
    · unfold tw_op; rw [tw_up_op (by omega)]; exact e
  · have hb := h4 i hi
    unfold tw_hi at hb ⊢
    by_cases e : i = d
    · rw [if_pos e] at hb ⊢
      have q3 : lw_op (tw_up I N R) N ≠ 17 ∧ lw_op (tw_up I N R) N < 1600 := by
        unfold tw_op at q2; omega
      exact (hb.congr (I' := tw_up I N R) fun j j1 j2 => ⟨tw_up_o (by omega), tw_up_o (by omega)⟩).step q1 q3.1 q3.2
    · rw [if_neg e] at hb ⊢
      have := (h3 i (by omega)).2.2.1
      exact hb.congr fun j j1 j2 => ⟨tw_up_o (by omega), tw_up_o (by omega)⟩
  · by_cases e : k = N
    · rw [e]; exact hok
    · exact (h5 k (by omega)).congr fun i => tw_up_o e
  · by_cases e : k = N
    · rw [e, tw_up_phi (Nat.le_refl _)]
      exact ⟨hci, fun z => absurd z q2⟩
    · rw [tw_up_op e] at hq
      obtain ⟨a, b⟩ := h6 k (by omega) hq
      rw [tw_up_phi (by omega)]
      refine ⟨a.congr (fun i _ => tw_up_o e) (fun _ _ _ => rfl), fun z y => ?_⟩
      unfold tw_op at z
      rw [tw_up_op e] at z
      obtain ⟨b1, b2⟩ := b z y
      rw [tw_up_lk e, tw_up_phi (by omega)]
      exact ⟨b1, by omega⟩
theorem tw_B.opn {I : Nat → Nat → Int32} {N d n : Nat} {st : Nat → Nat} {wc wm : lt_W} {R : Nat → Int32} (h : tw_B I N d st n wc wm) (hp : lw_phi I N < 30) (hd : d < 3) (hr : ∀ i, i < 6 → lt_gi wm 234 (1772 + 6 * N + i) = R i) (q1 : lw_op (tw_up I N R) N ≠ 18) (q2 : tw_op (tw_up I N R) N) (hok : lw_ok (tw_up I N R) n N) (hci : tw_ci wc 40 (tw_up I N R) N (lw_phi I N)) (s1 : lt_gi wm 241 d = nI N) (s2 : lt_gi wc 48 d = nI (lw_phi I N)) : tw_B (tw_up I N R) (N + 1) (d + 1) (fun i => if i = d then N else st i) n wc wm := by
  obtain ⟨⟨h1, h1', h1''⟩, h2, h3, h4, h5, h6⟩ := h
  have eph : lw_phi (tw_up I N R) (N + 1) = lw_phi I N + 1 := by rw [tw_phn q1, tw_up_phi (Nat.le_refl _)]
  refine ⟨⟨by rw [eph]; omega, by rw [eph]; omega, by omega⟩, fun k hk i hi => ?_, fun i hi => ?_, fun i hi => ?_, fun k hk => ?_, fun k hk hq => ?_⟩
  · by_cases e : k = N
    · rw [e, tw_up_s]; exact hr i hi
    · rw [tw_up_o e]; exact h2 k (by omega) i hi
  · dsimp only
    by_cases e : i = d
    · rw [if_pos e, e, tw_up_phi (Nat.le_refl _)]
      exact ⟨s1, s2, by omega, q2⟩
    · rw [if_neg e]
      obtain ⟨a, b, c, f⟩ := h3 i (by omega)
      refine ⟨a, ?_, by omega, ?_⟩
      · rw [tw_up_phi (by omega)]; exact b
      · unfold tw_op; rw [tw_up_op (by omega)]; exact f
  · by_cases e : i = d + 1
    · subst e
      have a1 : tw_lo (fun i => if i = d then N else st i) (d + 1) = N + 1 := by
        unfold tw_lo
        rw [if_neg (by omega)]
        show (if d + 1 - 1 = d then N else st (d + 1 - 1)) + 1 = _
        rw [if_pos (by omega)]
      have a2 : tw_hi (N + 1) (d + 1) (fun i => if i = d then N else st i) (d + 1) = N + 1 := if_pos rfl
      rw [a1, a2]; exact lw_bal.nil
    · have hb := h4 i (by omega)
      have a1 : tw_lo (fun i => if i = d then N else st i) i = tw_lo st i := by
        unfold tw_lo
        by_cases z : i = 0
        · rw [if_pos z, if_pos z]
        · rw [if_neg z, if_neg z]
          show (if i - 1 = d then N else st (i - 1)) + 1 = _
          rw [if_neg (by omega)]
      have a2 : tw_hi (N + 1) (d + 1) (fun i => if i = d then N else st i) i = tw_hi N d st i := by
        unfold tw_hi
        rw [if_neg e]
      have a3 : tw_hi N d st i ≤ N := by
        unfold tw_hi
        by_cases z : i = d
        · rw [if_pos z]; exact Nat.le_refl _
        · rw [if_neg z]
          have := (h3 i (by omega)).2.2.1
          omega
      rw [a1, a2]
      exact hb.congr fun j j1 j2 => ⟨tw_up_o (by omega), tw_up_o (by omega)⟩
  · by_cases e : k = N
    · rw [e]; exact hok
    · exact (h5 k (by omega)).congr fun i => tw_up_o e
  · by_cases e : k = N
    · rw [e, tw_up_phi (Nat.le_refl _)]
      exact ⟨hci, fun z y => absurd (if_pos rfl) (y d (by omega))⟩
    · rw [tw_up_op e] at hq
      obtain ⟨a, b⟩ := h6 k (by omega) hq
      rw [tw_up_phi (by omega)]
      refine ⟨a.congr (fun i _ => tw_up_o e) (fun _ _ _ => rfl), fun z y => ?_⟩
      unfold tw_op at z
      rw [tw_up_op e] at z
      obtain ⟨b1, b2⟩ := b z fun i hi => by
        have := y i (by omega)
        dsimp only at this
        rw [if_neg (by omega)] at this
        exact this
      rw [tw_up_lk e, tw_up_phi (by omega)]
      exact ⟨b1, by omega⟩
/-- the stack grows -/
theorem tw_B.inc {I : Nat → Nat → Int32} {N d n : Nat} {st : Nat → Nat} {wc wm : lt_W} (h : tw_B I N d st n wc wm) : ∀ j i, i < j → j < d → st i < st j := by
  intro j
  induction j with
  | zero => intro i hi; omega
  | succ j ih =>
    intro i hi hj
    have hb := (h.2.2.2.1 (j + 1) (by omega)).le
    have a1 : tw_lo st (j + 1) = st j + 1 := by
      unfold tw_lo; rw [if_neg (by omega)]; rfl
    have a2 : tw_hi N d st (j + 1) = st (j + 1) := if_neg (by omega)
    rw [a1, a2] at hb
    by_cases e : i = j
    · rw [e]; omega
    · have := ih i (by omega) (by omega)
      omega
def tw_cl (I : Nat → Nat → Int32) (N k0 : Nat) : Nat → Nat → Int32 := fun k i => if k = N then (if i = 0 then 18 else if i = 4 then nI k0 else 0) else if k = k0 ∧ i = 4 then nI N else I k i
theorem tw_B.close {I : Nat → Nat → Int32} {N e n : Nat} {st : Nat → Nat} {wc wm wc' wm' : lt_W} (h : tw_B I N (e + 1) st n wc wm) (e1 : ∀ a s, 41 ≤ a → a ≤ 47 → ¬ (a = 47 ∧ s = lw_phi I (st e)) → lt_gi wc' a s = lt_gi wc a s) (e1' : lt_gi wc' 47 (lw_phi I (st e)) = nI (lw_phi I N)) (e2 : ∀ i, i < e → lt_gi wc' 48 i = lt_gi wc 48 i) (e3 : ∀ k, k < 6 * N → k ≠ 6 * st e + 4 → lt_gi wm' 234 (1772 + k) = lt_gi wm 234 (1772 + k)) (e3' : lt_gi wm' 234 (1772 + 6 * st e + 4) = nI N) (e3'' : ∀ i, i < 6 → lt_gi wm' 234 (1772 + 6 * N + i) = tw_cl I N (st e) N i) (e4 : ∀ i, i < e → lt_gi wm' 241 i = lt_gi wm 241 i) : tw_B (tw_cl I N (st e)) (N + 1) e st n wc' wm' := by
  have hinc := h.inc
  obtain ⟨⟨h1, h1', h1''⟩, h2, h3, h4, h5, h6⟩ := h
  obtain ⟨k1, k2, k3, k4⟩ := h3 e (by omega)
  have oN : ∀ i, tw_cl I N (st e) N i = if i = 0 then 18 else if i = 4 then nI (st e) else 0 := fun i => if_pos rfl
  have oo : ∀ k i, k ≠ N → ¬ (k = st e ∧ i = 4) → tw_cl I N (st e) k i = I k i := fun k i z y => by
    unfold tw_cl; rw [if_neg z, if_neg y]
  have o4 : tw_cl I N (st e) (st e) 4 = nI N := by
    unfold tw_cl; rw [if_neg (by omega), if_pos ⟨rfl, rfl⟩]
  have opN : lw_op (tw_cl I N (st e)) N = 18 := by unfold lw_op; rw [oN, if_pos rfl]; rfl
  have op : ∀ k, k ≠ N → lw_op (tw_cl I N (st e)) k = lw_op I k := fun k z => by unfold lw_op; rw [oo k 0 z (by omega)]
  have ph : ∀ k, k ≤ N → lw_phi (tw_cl I N (st e)) k = lw_phi I k := fun k hk => tw_phc fun j hj => oo j 0 (by omega) (by omega)
  have eph : lw_phi (tw_cl I N (st e)) (N + 1) = lw_phi I N := by rw [tw_phe opN, ph N (Nat.le_refl _)]
  have k5 : lw_op I (st e) ≠ 18 := by unfold tw_op at k4; omega
  have hN : N < 2 ^ 31 := by omega
  refine ⟨⟨by rw [eph]; omega, by rw [eph]; omega, by omega⟩, fun k hk i hi => ?_, fun i hi => ?_, fun i hi => ?_, fun k hk => ?_, fun k hk hq => ?_⟩
  · by_cases z : k = N
    · rw [z]; exact e3'' i hi
    · by_cases y : k = st e ∧ i = 4
      · rw [y.1, y.2, o4]; exact e3'
      · rw [oo k i z y]
        have := e3 (6 * k + i) (by omega) (by omega)
        rw [← Nat.add_assoc] at this
        exact this.trans (h2 k (by omega) i hi)
  · obtain ⟨a, b, c, f⟩ := h3 i (by omega)
    refine ⟨(e4 i hi).trans a, ?_, by omega, ?_⟩
    · rw [ph _ (by omega), e2 i hi]; exact b
    · unfold tw_op; rw [op _ (by omega)]; exact f
  · by_cases z : i = e
    · subst z
      have b1 := h4 i (by omega)
      have b2 := h4 (i + 1) (Nat.le_refl _)
      have a1 : tw_hi N (i + 1) st i = st i := if_neg (by omega)
      have a2 : tw_lo st (i + 1) = st i + 1 := by unfold tw_lo; rw [if_neg (by omega)]; rfl
      have a3 : tw_hi N (i + 1) st (i + 1) = N := if_pos rfl
      have a4 : tw_hi (N + 1) i st i = N + 1 := if_pos rfl
      rw [a1] at b1
      rw [a2, a3] at b2
      rw [a4, show 3 - i = 3 - (i + 1) + 1 by omega]
      rw [show 3 - i = 3 - (i + 1) + 1 by omega] at b1
      refine (b1.congr fun j j1 j2 => ⟨oo j 0 (by omega) (by omega), oo j 4 (by omega) (by omega)⟩).block ?_ (b2.congr fun j j1 j2 => ⟨oo j 0 (by omega) (by omega), oo j 4 (by omega) (by omega)⟩) opN ?_ ?_
      · rw [op _ (by omega)]; exact k4
      · unfold lw_lk; rw [o4]; exact nI_clamp hN
      · unfold lw_lk; rw [oN, if_neg (by decide), if_pos rfl]; exact nI_clamp (by omega)
    · have b1 := h4 i (by omega)
      have a1 : tw_hi N (e + 1) st i = st i := if_neg (by omega)
      have a2 : tw_hi (N + 1) e st i = st i := if_neg z
      have a3 := hinc e i (by omega) (by omega)
      rw [a1] at b1
      rw [a2]
      exact b1.congr fun j j1 j2 => ⟨oo j 0 (by omega) (by omega), oo j 4 (by omega) (by omega)⟩
  · by_cases z : k = N
    · subst z
      unfold lw_ok
      rw [opN]
      refine ⟨by rw [oN, if_pos rfl]; rfl, Or.inr (Or.inr (Or.inr (Or.inr (Or.inr (Or.inr (Or.inr (Or.inl ⟨rfl, ?_⟩)))))))⟩
      unfold lw_lk
      rw [oN, if_neg (by decide), if_pos rfl, nI_clamp (by omega)]
    · by_cases y : k = st e
      · have hok := h5 k (by omega)
        unfold lw_ok at hok ⊢
        rw [op k z, oo k 0 z (by omega), oo k 1 z (by omega), oo k 2 z (by omega)]
        obtain ⟨g0, g⟩ := hok
        refine ⟨g0, ?_⟩
        have hl : tw_cl I N (st e) k 4 = nI (lw_lk (tw_cl I N (st e)) k) := by
          unfold lw_lk; rw [y, o4, nI_clamp hN]
        rw [← y] at k4
        unfold tw_op at k4
        rcases g with ⟨g, _⟩ | ⟨g, _⟩ | ⟨g, _⟩ | ⟨g, _⟩ | g | g | ⟨g, g', _⟩ | ⟨g, _⟩ | ⟨g, _⟩
        · omega
        · omega
        · omega
        · omega
        · omega
        · omega
        · exact Or.inr (Or.inr (Or.inr (Or.inr (Or.inr (Or.inr (Or.inl ⟨g, g', hl⟩))))))
        · omega
        · exact Or.inr (Or.inr (Or.inr (Or.inr (Or.inr (Or.inr (Or.inr (Or.inr ⟨g, hl⟩)))))))
      · exact (h5 k (by omega)).congr fun i => oo k i z (fun x => y x.1)
  · by_cases z : k = N
    · rw [z] at hq; exact absurd opN hq
    · rw [op k z] at hq
      obtain ⟨a, b⟩ := h6 k (by omega) hq
      rw [ph k (by omega)]
      refine ⟨a.congr (fun i hi => oo k i z (by omega)) (fun j j1 j2 => e1 _ _ (by omega) (by omega) (by omega)), fun x y => ?_⟩
      unfold tw_op at x
      rw [op k z] at x
      by_cases w : k = st e
      · subst w
        have hl : lw_lk (tw_cl I N (st e)) (st e) = N := by unfold lw_lk; rw [o4, nI_clamp hN]
        rw [hl, ph N (Nat.le_refl _)]
        exact ⟨e1', by omega⟩
      · have hl : lw_lk (tw_cl I N (st e)) k = lw_lk I k := by unfold lw_lk; rw [oo k 4 z (fun x => w x.1)]
        obtain ⟨b1, b2⟩ := b x fun i hi => by
          by_cases v : i = e
          · rw [v]; exact fun u => w u.symm
          · exact y i (by omega)
        have hne : lw_phi I k ≠ lw_phi I (st e) := by
          by_cases u : k < st e
          · have := tw_phlt u hq; omega
          · have := tw_phlt (show st e < k by omega) k5; omega
        rw [hl, ph _ (by omega), e1 47 _ (by decide) (by decide) (fun u => hne u.2)]
        exact ⟨b1, by omega⟩