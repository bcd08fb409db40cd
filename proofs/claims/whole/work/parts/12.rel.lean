/-! THE WHOLE RELATION: the shape of all cells, and what the two sides have alike -/
def lr_cl : List Nat := [11, 54, 8, 51, 8, 51, 8, 51, 8, 51, 7, 52, 5, 51, 50, 50, 50, 50, 50, 50, 50, 9, 50, 50, 50, 50, 50, 50, 50, 6, 5, 51, 50, 50, 50, 50, 50, 50, 50, 10, 9, 50, 50, 50, 50, 50, 50, 50, 50, 0, 5, 51, 50, 50, 50, 50, 50, 50, 50, 3, 55, 50, 50, 5, 51, 50, 50, 50, 50, 50, 50, 50, 5, 51, 50, 50, 50, 50, 50, 50, 50, 5, 51, 50, 50, 50, 50, 50, 50, 50, 5, 51, 50, 50, 50, 50, 50, 50, 50, 5, 51, 50, 50, 50, 50, 50, 50, 50, 5, 51, 50, 50, 50, 50, 50, 50, 50, 4, 5, 51, 50, 50, 50, 50, 50, 50, 50, 50, 57, 50, 50, 50, 50, 50, 50, 50, 50, 50, 50, 50, 50, 50, 50, 50, 50, 50, 50, 50, 50, 50, 1, 5, 51, 50, 50, 50, 50, 50, 50, 50, 5, 51, 50, 50, 50, 50, 50, 50, 50, 2, 5, 51, 50, 50, 50, 50, 50, 50, 50, 50, 55, 56, 5, 51, 50, 50, 50, 50, 50, 50, 50, 9, 50, 50, 50, 50, 50, 50, 50, 5, 51, 50, 50, 50, 50, 50, 50, 50, 9, 50, 50, 50, 50, 50, 50, 50, 5, 51, 50, 50, 50, 50, 50, 50, 50, 9, 50, 50, 50, 50, 50, 50, 50, 12, 50, 51, 50, 50, 51, 52, 52, 50, 50, 50, 50, 50, 50, 53, 50, 51, 50, 50, 50, 50, 50]
def lr_ln : List Nat := [0, 4, 0, 60, 0, 60, 0, 60, 0, 60, 0, 900, 0, 7, 7, 7, 7, 7, 7, 7, 7, 0, 30, 30, 30, 30, 30, 30, 30, 0, 0, 7, 7, 7, 7, 7, 7, 7, 7, 0, 0, 30, 30, 30, 30, 30, 30, 30, 3, 0, 0, 7, 7, 7, 7, 7, 7, 7, 7, 0, 6, 5, 5, 0, 7, 7, 7, 7, 7, 7, 7, 7, 0, 7, 7, 7, 7, 7, 7, 7, 7, 0, 7, 7, 7, 7, 7, 7, 7, 7, 0, 7, 7, 7, 7, 7, 7, 7, 7, 0, 7, 7, 7, 7, 7, 7, 7, 7, 0, 7, 7, 7, 7, 7, 7, 7, 7, 0, 0, 7, 7, 7, 7, 7, 7, 7, 7, 21, 21, 8, 8, 8, 8, 8, 8, 8, 8, 8, 8, 8, 8, 8, 8, 8, 8, 8, 8, 8, 8, 8, 0, 0, 7, 7, 7, 7, 7, 7, 7, 7, 0, 7, 7, 7, 7, 7, 7, 7, 7, 0, 0, 7, 7, 7, 7, 7, 7, 7, 7, 5, 3, 3, 0, 7, 7, 7, 7, 7, 7, 7, 7, 0, 30, 30, 30, 30, 30, 30, 30, 0, 7, 7, 7, 7, 7, 7, 7, 7, 0, 30, 30, 30, 30, 30, 30, 30, 0, 7, 7, 7, 7, 7, 7, 7, 7, 0, 30, 30, 30, 30, 30, 30, 30, 0, 2560, 42, 4, 4, 240, 900, 900, 3, 6, 6, 5, 21, 8, 100, 2100, 7, 4, 4, 80, 5, 5]
def lr_rf : List (List Nat) := [[0, 0, 0, 1, 10, 12, 21, 29, 39, 49, 59, 117, 150, 169, 179, 0, 180, 181], [2, 4, 6, 8], [0, 0, 0, 3], [], [0, 0, 0, 5], [], [0, 0, 0, 7], [], [0, 0, 0, 9], [], [11], [], [0, 0, 0, 0, 0, 0, 0, 0, 0, 13, 14, 15, 16, 17, 18, 19, 20], [], [], [], [], [], [], [], [], [0, 0, 22, 23, 24, 25, 26, 27, 28], [], [], [], [], [], [], [], [10, 30], [0, 0, 0, 0, 0, 0, 0, 0, 0, 31, 32, 33, 34, 35, 36, 37, 38], [], [], [], [], [], [], [], [], [10, 12, 40, 48], [0, 0, 41, 42, 43, 44, 45, 46, 47], [], [], [], [], [], [], [], [], [12, 50], [0, 0, 0, 0, 0, 0, 0, 0, 0, 51, 52, 53, 54, 55, 56, 57, 58], [], [], [], [], [], [], [], [], [12, 60, 61, 62], [63, 72, 81, 90, 99, 108], [], [], [0, 0, 0, 0, 0, 0, 0, 0, 0, 64, 65, 66, 67, 68, 69, 70, 71], [], [], [], [], [], [], [], [], [0, 0, 0, 0, 0, 0, 0, 0, 0, 73, 74, 75, 76, 77, 78, 79, 80], [], [], [], [], [], [], [], [], [0, 0, 0, 0, 0, 0, 0, 0, 0, 82, 83, 84, 85, 86, 87, 88, 89], [], [], [], [], [], [], [], [], [0, 0, 0, 0, 0, 0, 0, 0, 0, 91, 92, 93, 94, 95, 96, 97, 98], [], [], [], [], [], [], [], [], [0, 0, 0, 0, 0, 0, 0, 0, 0, 100, 101, 102, 103, 104, 105, 106, 107], [], [], [], [], [], [], [], [], [0, 0, 0, 0, 0, 0, 0, 0, 0, 109, 110, 111, 112, 113, 114, 115, 116], [], [], [], [], [], [], [], [], [12, 118, 127, 128], [0, 0, 0, 0, 0, 0, 0, 0, 0, 119, 120, 121, 122, 123, 124, 125, 126], [], [], [], [], [], [], [], [], [], [129, 130, 131, 132, 133, 134, 135, 136, 137, 138, 139, 140, 141, 142, 143, 144, 145, 146, 147, 148, 149], [], [], [], [], [], [], [], [], [], [], [], [], [], [], [], [], [], [], [], [], [], [12, 151, 160], [0, 0, 0, 0, 0, 0, 0, 0, 0, 152, 153, 154, 155, 156, 157, 158, 159], [], [], [], [], [], [], [], [], [0, 0, 0, 0, 0, 0, 0, 0, 0, 161, 162, 163, 164, 165, 166, 167, 168], [], [], [], [], [], [], [], [], [12, 21, 170], [0, 0, 0, 0, 0, 0, 0, 0, 0, 171, 172, 173, 174, 175, 176, 177, 178], [], [], [], [], [], [], [], [], [], [182, 199, 216], [191, 208, 225], [0, 0, 0, 0, 0, 0, 0, 0, 0, 183, 184, 185, 186, 187, 188, 189, 190], [], [], [], [], [], [], [], [], [0, 0, 192, 193, 194, 195, 196, 197, 198], [], [], [], [], [], [], [], [0, 0, 0, 0, 0, 0, 0, 0, 0, 200, 201, 202, 203, 204, 205, 206, 207], [], [], [], [], [], [], [], [], [0, 0, 209, 210, 211, 212, 213, 214, 215], [], [], [], [], [], [], [], [0, 0, 0, 0, 0, 0, 0, 0, 0, 217, 218, 219, 220, 221, 222, 223, 224], [], [], [], [], [], [], [], [], [0, 0, 226, 227, 228, 229, 230, 231, 232], [], [], [], [], [], [], [], [234, 235, 0, 0, 0, 236, 237, 238, 239, 240, 0, 0, 0, 0, 0, 0, 0, 0, 0, 0, 0, 241, 0, 0, 242, 243, 244, 245, 246, 247, 248, 249, 250, 251, 0, 0, 252, 253, 254], [], [], [], [], [], [], [], [], [], [], [], [], [], [], [], [], [], [], [], [], []]
def lr_S (σ : lt_S) : Prop := ∀ a, a < 255 → lt_c σ a = lr_cl.getD a 99 ∧ lt_len σ a = lr_ln.getD a 0 ∧ ∀ k, k < 41 → lt_r σ a k = (lr_rf.getD a []).getD k 0
theorem lr_S.c {σ : lt_S} (h : lr_S σ) (a : Nat) (ha : a < 255) : lt_c σ a = lr_cl.getD a 99 := (h a ha).1
theorem lr_S.l {σ : lt_S} (h : lr_S σ) (a : Nat) (ha : a < 255) : lt_len σ a = lr_ln.getD a 0 := (h a ha).2.1
theorem lr_S.r {σ : lt_S} (h : lr_S σ) (a k : Nat) (ha : a < 255) (hk : k < 41) : lt_r σ a k = (lr_rf.getD a []).getD k 0 := (h a ha).2.2 k hk
def lr_tabs : List Nat := [12, 30, 50, 63, 72, 81, 90, 99, 108, 118, 151, 160, 170, 182, 199, 216]
def lr_wks : List Nat := [21, 40, 191, 208, 225]
theorem lr_tab {σ : lt_S} (h : lr_S σ) {o : Nat} (ho : o ∈ lr_tabs) : lc_S σ o := by
  have h1 : ∀ o ∈ lr_tabs, o + 8 < 255 ∧ lr_cl.getD o 99 = 5 ∧ (∀ j, j < 8 → (lr_rf.getD o []).getD (9 + j) 0 = o + 1 + j) ∧ ∀ j, j < 8 → lr_ln.getD (o + 1 + j) 0 = 7 := by decide
  obtain ⟨a, b, c, d⟩ := h1 o ho
  have r : ∀ j, j < 8 → lt_r σ o (9 + j) = o + 1 + j := fun j hj => by rw [h.r o (9 + j) (by omega) (by omega)]; exact c j hj
  have l : ∀ j, j < 8 → lt_len σ (o + 1 + j) = 7 := fun j hj => by rw [h.l (o + 1 + j) (by omega)]; exact d j hj
  exact ⟨⟨(h.c o (by omega)).trans b, r 0 (by decide), r 1 (by decide), r 2 (by decide), r 3 (by decide), r 4 (by decide), r 5 (by decide), r 6 (by decide), r 7 (by decide)⟩, l 0 (by decide), l 1 (by decide), l 2 (by decide), l 3 (by decide), l 4 (by decide), l 5 (by decide), l 6 (by decide), l 7 (by decide)⟩
theorem lr_at {σ : lt_S} (h : lr_S σ) : lt_r σ 233 0 = 234 := h.r 233 0 (by decide) (by decide)
theorem lr_mS {σ : lt_S} (h : lr_S σ) : lm_S σ 233 := by unfold lm_S; rw [lr_at h]; exact h.l 234 (by decide)
/-- the letters of a name, packed by five and by eight bits -/
def lr_e5 (l : List Nat) : Nat := l.foldl (fun v c => 32 * v + c) 0
def lr_e8 (l : List Nat) : Nat := l.foldl (fun v c => 256 * v + (c + 96)) 0
def lr_nm1 (x y : Int64) : Prop := ∃ l : List Nat, l.length ≤ 8 ∧ (∀ c ∈ l, 1 ≤ c ∧ c ≤ 26) ∧ x = lN (lr_e5 l) ∧ y = lN (lr_e8 l)
def lr_nm (w : lt_W) (o nb n : Nat) : Prop := ∀ g, g < n → lr_nm1 (lt_gl w (o + 1) g) (lt_gl w 235 (nb + g))
/-- WEEKS: I k i, the number i of the step k as the reference has it (ends are steps) -/
def lw_op (I : Nat → Nat → Int32) (k : Nat) : Nat := (I k 0).toNatClampNeg
def lw_lk (I : Nat → Nat → Int32) (k : Nat) : Nat := (I k 4).toNatClampNeg
def lw_phi (I : Nat → Nat → Int32) (k : Nat) : Nat := la_cnt (fun j => decide (lw_op I j ≠ 18)) k
def lw_g (v : Int32) (n : Nat) : Prop := ∃ j, j < n ∧ v = nI j
def lw_ok (I : Nat → Nat → Int32) (n k : Nat) : Prop := I k 0 = nI (lw_op I k) ∧ ((lw_op I k = 11 ∧ lu_R (I k 1) 1 20) ∨ ((lw_op I k = 12 ∨ lw_op I k = 13) ∧ lw_g (I k 1) n) ∨ (lw_op I k = 6 ∧ lw_g (I k 1) n ∧ lw_g (I k 2) n ∧ I k 1 ≠ I k 2) ∨ (lw_op I k = 14 ∧ lu_R (I k 1) 1 60) ∨ lw_op I k = 15 ∨ lw_op I k = 19 ∨ (lw_op I k = 17 ∧ lu_R (I k 1) 1 99 ∧ I k 4 = nI (lw_lk I k)) ∨ (lw_op I k = 18 ∧ I k 4 = nI (lw_lk I k)) ∨ (((lw_op I k = 1620 ∨ lw_op I k = 1621 ∨ lw_op I k = 1607) ∧ lw_g (I k 1) n ∨ lw_op I k = 1622) ∧ I k 4 = nI (lw_lk I k)))
/-- well nested, at most d deep: the least such thing -/
def lw_bal (I : Nat → Nat → Int32) (lo hi d : Nat) : Prop := ∀ X : Nat → Nat → Nat → Prop, (∀ a d, X a a d) → (∀ a k d, X a k d → lw_op I k ≠ 18 → lw_op I k ≠ 17 → lw_op I k < 1600 → X a (k + 1) d) → (∀ a k c d, X a k (d + 1) → (lw_op I k = 17 ∨ 1600 ≤ lw_op I k) → X (k + 1) c d → lw_op I c = 18 → lw_lk I k = c → lw_lk I c = k → X a (c + 1) (d + 1)) → X lo hi d
def lw_wd (q : Nat) : Int32 := if q = 11 then 13 else if q = 12 then 14 else if q = 13 then 15 else if q = 14 then 16 else if q = 15 then 17 else if q = 17 then 22 else if q = 19 then 23 else if q = 6 then 12 else 18
def lw_ts (q : Nat) : Int32 := if q = 1620 then 19 else if q = 1621 then 20 else if q = 1622 then 21 else 7
def lw_ci (w : lt_W) (p : Nat) (I : Nat → Nat → Int32) (k s : Nat) : Prop := lt_gi w (p + 1) s = lw_wd (lw_op I k) ∧ ((lw_op I k = 11 ∨ lw_op I k = 14 ∨ lw_op I k = 17) → lt_gi w (p + 6) s = I k 1) ∧ ((lw_op I k = 12 ∨ lw_op I k = 13 ∨ lw_op I k = 6) → lt_gi w (p + 3) s = I k 1) ∧ (lw_op I k = 6 → lt_gi w (p + 4) s = I k 2) ∧ (1600 ≤ lw_op I k → lt_gi w (p + 2) s = lw_ts (lw_op I k) ∧ (lw_op I k ≠ 1622 → lt_gi w (p + 3) s = I k 1) ∧ ((lw_op I k = 1622 ∨ lw_op I k = 1607) → lt_gi w (p + 5) s = I k 5 ∧ lt_gi w (p + 6) s = I k 2)) ∧ ((lw_op I k = 17 ∨ 1600 ≤ lw_op I k) → lt_gi w (p + 7) s = nI (lw_phi I (lw_lk I k)))
def lw_P (w : lt_W) (p b n N : Nat) (I : Nat → Nat → Int32) : Prop := N ≤ 60 ∧ lt_gi w 234 (b + 8) = nI N ∧ lt_gi w p 1 = nI (lw_phi I N) ∧ lw_phi I N ≤ 30 ∧ (∀ k, k < N → ∀ i, i < 6 → lt_gi w 234 (b + 60 + 6 * k + i) = I k i) ∧ (∀ k, k < N → lw_ok I n k) ∧ lw_bal I 0 N 3 ∧ ∀ k, k < N → lw_op I k ≠ 18 → lw_ci w p I k (lw_phi I k)
def lw_W (w : lt_W) (p b n : Nat) : Prop := (lt_gi w p 0 = 0 ∧ lt_gi w 234 (b + 8) = -1) ∨ (lt_gi w p 0 = 1 ∧ ∃ N I, lw_P w p b n N I)
theorem lw_P.congr {w w' : lt_W} {p b p' b' n N : Nat} {I : Nat → Nat → Int32} (h : lw_P w p b n N I) (e1 : ∀ j k, 0 < k ∨ 0 < j → j < 8 → lt_gi w' (p' + j) k = lt_gi w (p + j) k) (e2 : lt_gi w' 234 (b' + 8) = lt_gi w 234 (b + 8)) (e3 : ∀ k, k < 360 → lt_gi w' 234 (b' + 60 + k) = lt_gi w 234 (b + 60 + k)) : lw_P w' p' b' n N I := by
  obtain ⟨h1, h2, h3, h4, h5, h6, h7, h8⟩ := h
  refine ⟨h1, e2.trans h2, (e1 0 1 (by decide) (by decide)).trans h3, h4, fun k hk i hi => ?_, h6, h7, fun k hk hq => ?_⟩
  · have := e3 (6 * k + i) (by omega)
    rw [← Nat.add_assoc, ← Nat.add_assoc] at this
    exact this.trans (h5 k hk i hi)
  · obtain ⟨a1, a2, a3, a4, a5, a6⟩ := h8 k hk hq
    unfold lw_ci
    rw [e1 1 _ (Or.inr (by decide)) (by decide), e1 2 _ (Or.inr (by decide)) (by decide), e1 3 _ (Or.inr (by decide)) (by decide), e1 4 _ (Or.inr (by decide)) (by decide), e1 5 _ (Or.inr (by decide)) (by decide), e1 6 _ (Or.inr (by decide)) (by decide), e1 7 _ (Or.inr (by decide)) (by decide)]
    exact ⟨a1, a2, a3, a4, a5, a6⟩
theorem lw_W.congr {w w' : lt_W} {p b p' b' n : Nat} (h : lw_W w p b n) (e1 : ∀ j k, j < 8 → lt_gi w' (p' + j) k = lt_gi w (p + j) k) (e2 : lt_gi w' 234 (b' + 8) = lt_gi w 234 (b + 8)) (e3 : ∀ k, k < 360 → lt_gi w' 234 (b' + 60 + k) = lt_gi w 234 (b + 60 + k)) : lw_W w' p' b' n := by
  have e0 : lt_gi w' p' 0 = lt_gi w p 0 := e1 0 0 (by decide)
  rcases h with ⟨h1, h2⟩ | ⟨h1, N, I, h2⟩
  · exact Or.inl ⟨e0.trans h1, e2.trans h2⟩
  · exact Or.inr ⟨e0.trans h1, N, I, h2.congr (fun j k _ => e1 j k) e2 e3⟩
theorem lw_g.mono {v : Int32} {n n' : Nat} (h : lw_g v n) (hn : n ≤ n') : lw_g v n' := by
  obtain ⟨j, a, b⟩ := h; exact ⟨j, by omega, b⟩
theorem lw_ok.mono {I : Nat → Nat → Int32} {n n' k : Nat} (h : lw_ok I n k) (hn : n ≤ n') : lw_ok I n' k := by
  obtain ⟨h0, h⟩ := h
  refine ⟨h0, ?_⟩
  rcases h with h | ⟨a, b⟩ | ⟨a, b, c, d⟩ | h | h | h | h | h | ⟨⟨a, b⟩ | a, c⟩
  · exact Or.inl h
  · exact Or.inr (Or.inl ⟨a, b.mono hn⟩)
  · exact Or.inr (Or.inr (Or.inl ⟨a, b.mono hn, c.mono hn, d⟩))
  · exact Or.inr (Or.inr (Or.inr (Or.inl h)))
  · exact Or.inr (Or.inr (Or.inr (Or.inr (Or.inl h))))
  · exact Or.inr (Or.inr (Or.inr (Or.inr (Or.inr (Or.inl h)))))
  · exact Or.inr (Or.inr (Or.inr (Or.inr (Or.inr (Or.inr (Or.inl h))))))
  · exact Or.inr (Or.inr (Or.inr (Or.inr (Or.inr (Or.inr (Or.inr (Or.inl h)))))))
  · exact Or.inr (Or.inr (Or.inr (Or.inr (Or.inr (Or.inr (Or.inr (Or.inr ⟨Or.inl ⟨a, b.mono hn⟩, c⟩)))))))
  · exact Or.inr (Or.inr (Or.inr (Or.inr (Or.inr (Or.inr (Or.inr (Or.inr ⟨Or.inr a, c⟩)))))))
theorem lw_W.mono {w : lt_W} {p b n n' : Nat} (h : lw_W w p b n) (hn : n ≤ n') : lw_W w p b n' := by
  rcases h with h | ⟨h1, N, I, a1, a2, a3, a4, a5, a6, a7, a8⟩
  · exact Or.inl h
  · exact Or.inr ⟨h1, N, I, a1, a2, a3, a4, a5, fun k hk => (a6 k hk).mono hn, a7, a8⟩
/-! the parts of the relation -/
def lr_tr1 (w : lt_W) (i : Nat) : Prop := (lt_gi w (2 + 2 * i) 0 = 0 ∧ lt_gi w 237 i = -1) ∨ (lt_gi w (2 + 2 * i) 0 = 1 ∧ ∃ m s, m ≤ 60 ∧ s ≤ 3 ∧ lt_gi w (2 + 2 * i) 2 = nI m ∧ lt_gi w 237 i = nI m ∧ lt_gi w (2 + 2 * i) 1 = nI s ∧ lt_gi w 236 i = nI s ∧ ∀ k, k < m → lt_gl w (3 + 2 * i) k = lt_gl w 238 (60 * i + k))
def lr_tr (w : lt_W) : Prop := ∀ i, i < 4 → lr_tr1 w i
def lr_by (v : Int32) : Prop := v.toInt8.toInt32 = v
def lr_tp (w : lt_W) : Prop := ∃ n, n ≤ 900 ∧ lt_gi w 10 1 = nI n ∧ lt_gi w 233 10 = nI n ∧ ∀ k, k < n → lt_gi w 11 k = lt_gi w 239 k ∧ lr_by (lt_gi w 11 k)
def lr_fa (w : lt_W) : Prop := lt_gi w 10 9 = lt_gi w 233 16 ∧ lt_gi w 10 10 = lt_gi w 233 17
def lr_tb (w : lt_W) (A : la_A) : Prop := la_Ok A ∧ lc_T w 12 A ∧ lm_T w 234 0 A
def lr_sl (w : lt_W) (o p b nb : Nat) (A : la_A) : Prop := la_Ok A ∧ lc_T w o A ∧ lm_T w 234 b A ∧ lr_nm w o nb (la_n A) ∧ lw_W w p b (la_n A)
def lr_mk (w : lt_W) : Prop := ∃ c, c ≤ 3 ∧ lt_gi w 0 18 = nI c ∧ lt_gi w 233 40 = nI c ∧ ∀ j, j < c → ∃ B, lr_sl w (182 + 17 * j) (191 + 17 * j) (428 + 428 * j) (7 + 7 * j) B
def lr_lf (w : lt_W) : Prop := (lt_gi w 0 15 = 0 ∧ lt_gi w 233 39 = 0) ∨ (lt_gi w 0 15 = 1 ∧ lt_gi w 233 39 = 1 ∧ ∀ k, k < 5 → lt_gi w 179 k = lt_gi w 254 k)
def lr_fr (w : lt_W) : Prop := lt_gl w 0 1 = lt_gl w 233 3 ∧ lt_gl w 0 2 = lt_gl w 233 4
def lr_lp (w : lt_W) : Prop := ∀ k, k < 80 → lu_R (lt_gi w 252 k) 0 98
/-- all but the table itself -/
def lr_X (w : lt_W) (n : Nat) : Prop := lr_tr w ∧ lr_tp w ∧ lr_fa w ∧ lr_nm w 12 0 n ∧ lw_W w 21 0 n ∧ lr_mk w ∧ lr_lf w ∧ lr_lp w
/-- without the fraction told, and with it -/
def lr_0f (w : lt_W) (A : la_A) : Prop := lr_tb w A ∧ lr_X w (la_n A)
def lr_0 (w : lt_W) (A : la_A) : Prop := lr_0f w A ∧ lr_fr w
/-- the places that stay: ints (but the table's own, and the two STATUS), longs -/
def lr_px (a k : Nat) : Prop := (a = 0 ∧ (k = 15 ∨ k = 18)) ∨ (2 ≤ a ∧ a ≤ 9) ∨ (a = 10 ∧ (k = 1 ∨ k = 9 ∨ k = 10)) ∨ a = 11 ∨ (21 ≤ a ∧ a ≤ 28) ∨ a = 179 ∨ (182 ≤ a ∧ a ≤ 232) ∨ (a = 233 ∧ (k = 10 ∨ k = 16 ∨ k = 17 ∨ k = 39 ∨ k = 40)) ∨ (a = 234 ∧ (k = 8 ∨ (60 ≤ k ∧ k < 420) ∨ (428 ≤ k ∧ k < 1712))) ∨ a = 236 ∨ a = 237 ∨ a = 239 ∨ a = 252 ∨ a = 254
def lr_pt (a k : Nat) : Prop := (12 ≤ a ∧ a ≤ 19) ∨ (a = 234 ∧ k < 60 ∧ k ≠ 8 ∧ k ≠ 9)
def lr_q0 (a k : Nat) : Prop := a = 3 ∨ a = 5 ∨ a = 7 ∨ a = 9 ∨ a = 13 ∨ (182 ≤ a ∧ a ≤ 232) ∨ (a = 235 ∧ k < 28) ∨ a = 238
def lr_q (a k : Nat) : Prop := (a = 0 ∧ (k = 1 ∨ k = 2)) ∨ (a = 233 ∧ (k = 3 ∨ k = 4)) ∨ lr_q0 a k
/-- what a call leaves that works beside all this -/
def lr_Qx (w w' : lt_W) : Prop := (∀ a k, lr_px a k → lt_gi w' a k = lt_gi w a k) ∧ ∀ a k, lr_q a k → lt_gl w' a k = lt_gl w a k
def lr_Q (w w' : lt_W) : Prop := lr_Qx w w' ∧ ∀ a k, lr_pt a k → lt_gi w' a k = lt_gi w a k
theorem lr_Qx.refl (w : lt_W) : lr_Qx w w := ⟨fun _ _ _ => rfl, fun _ _ _ => rfl⟩
theorem lr_Q.refl (w : lt_W) : lr_Q w w := ⟨lr_Qx.refl w, fun _ _ _ => rfl⟩
theorem lr_Qx.trans {w w' w'' : lt_W} (h : lr_Qx w w') (h' : lr_Qx w' w'') : lr_Qx w w'' := ⟨fun a k z => (h'.1 a k z).trans (h.1 a k z), fun a k z => (h'.2 a k z).trans (h.2 a k z)⟩
theorem lr_Q.trans {w w' w'' : lt_W} (h : lr_Q w w') (h' : lr_Q w' w'') : lr_Q w w'' := ⟨h.1.trans h'.1, fun a k z => (h'.2 a k z).trans (h.2 a k z)⟩
theorem lr_Qx.si {w w' : lt_W} {a k : Nat} {v : Int32} (h : lr_Qx w w') (n : ¬ lr_px a k) : lr_Qx w (lt_si w' a k v) :=
  ⟨fun b j z => by rw [lu_ne (by by_cases e : b = a; exact Or.inr (fun e2 => n (by rw [← e, ← e2]; exact z)); exact Or.inl e)]; exact h.1 b j z, fun b j z => h.2 b j z⟩
theorem lr_Q.si {w w' : lt_W} {a k : Nat} {v : Int32} (h : lr_Q w w') (n : ¬ lr_px a k) (n2 : ¬ lr_pt a k) : lr_Q w (lt_si w' a k v) :=
  ⟨h.1.si n, fun b j z => by rw [lu_ne (by by_cases e : b = a; exact Or.inr (fun e2 => n2 (by rw [← e, ← e2]; exact z)); exact Or.inl e)]; exact h.2 b j z⟩
theorem lr_nm.congr {w w' : lt_W} {o nb o' nb' n : Nat} (h : lr_nm w o nb n) (e1 : ∀ g, g < n → lt_gl w' (o' + 1) g = lt_gl w (o + 1) g) (e2 : ∀ g, g < n → lt_gl w' 235 (nb' + g) = lt_gl w 235 (nb + g)) : lr_nm w' o' nb' n := fun g hg => by
  rw [e1 g hg, e2 g hg]; exact h g hg
theorem lr_sl.congr {w w' : lt_W} {o p b nb o' p' b' nb' : Nat} {A : la_A} (h : lr_sl w o p b nb A) (e1 : ∀ k, k < 8 → lt_gi w' o' k = lt_gi w o k) (e1' : lt_gi w' o' 8 = lt_gi w o 8) (e2 : ∀ j g, 2 ≤ j → j < 8 → g < 7 → lt_gi w' (o' + j) g = lt_gi w (o + j) g) (e3 : ∀ k, k < 420 → lt_gi w' 234 (b' + k) = lt_gi w 234 (b + k)) (e4 : ∀ g, g < 7 → lt_gl w' (o' + 1) g = lt_gl w (o + 1) g) (e5 : ∀ g, g < 7 → lt_gl w' 235 (nb' + g) = lt_gl w 235 (nb + g)) (e6 : ∀ j k, j < 8 → lt_gi w' (p' + j) k = lt_gi w (p + j) k) : lr_sl w' o' p' b' nb' A := by
  obtain ⟨h1, h2, h3, h4, h5⟩ := h
  have h7 := h2.2.1
  refine ⟨h1, ⟨h2.1, h7, fun k hk => (e1 k hk).trans (h2.2.2.1 k hk), e1'.trans h2.2.2.2.1, fun g hg => ?_⟩, h3.congr fun k hk _ _ => e3 k (by omega), h4.congr (fun g hg => e4 g (by omega)) (fun g hg => e5 g (by omega)), h5.congr e6 (e3 8 (by decide)) (fun k hk => ?_)⟩
  · obtain ⟨a0, a1, a2, a3, a4, a5⟩ := h2.2.2.2.2 g hg
    exact ⟨(e2 2 g (by omega) (by omega) (by omega)).trans a0, (e2 3 g (by omega) (by omega) (by omega)).trans a1, (e2 4 g (by omega) (by omega) (by omega)).trans a2, (e2 5 g (by omega) (by omega) (by omega)).trans a3, (e2 6 g (by omega) (by omega) (by omega)).trans a4, (e2 7 g (by omega) (by omega) (by omega)).trans a5⟩
  · rw [Nat.add_assoc, Nat.add_assoc]; exact e3 (60 + k) (by omega)
/-- what a call leaves that tells a fraction -/
def lr_Q0 (w w' : lt_W) : Prop := (∀ a k, lr_px a k → lt_gi w' a k = lt_gi w a k) ∧ ∀ a k, lr_q0 a k → lt_gl w' a k = lt_gl w a k
theorem lr_Qx.q0 {w w' : lt_W} (h : lr_Qx w w') : lr_Q0 w w' := ⟨h.1, fun a k z => h.2 a k (Or.inr (Or.inr z))⟩
theorem lr_X.congr0 {w w' : lt_W} {n : Nat} (h : lr_X w n) (e : lr_Q0 w w') (hn : n ≤ 7) : lr_X w' n := by
  obtain ⟨h1, h2, h3, h4, h5, h6, h7, h9⟩ := h
  refine ⟨fun i hi => ?_, ?_, ?_, ?_, ?_, ?_, ?_, ?_⟩
  · have := h1 i hi
    unfold lr_tr1 at this ⊢
    rw [e.1 _ _ (show lr_px (2 + 2 * i) 0 by unfold lr_px; omega), e.1 _ _ (show lr_px (2 + 2 * i) 1 by unfold lr_px; omega), e.1 _ _ (show lr_px (2 + 2 * i) 2 by unfold lr_px; omega), e.1 _ _ (show lr_px 237 i by unfold lr_px; omega), e.1 _ _ (show lr_px 236 i by unfold lr_px; omega)]
    rcases this with h | ⟨a, m, s, b1, b2, b3, b4, b5, b6, b7⟩
    · exact Or.inl h
    · refine Or.inr ⟨a, m, s, b1, b2, b3, b4, b5, b6, fun k hk => ?_⟩
      rw [e.2 _ _ (show lr_q0 (3 + 2 * i) k by unfold lr_q0; omega), e.2 _ _ (show lr_q0 238 (60 * i + k) by unfold lr_q0; omega)]
      exact b7 k hk
  · obtain ⟨m, b1, b2, b3, b4⟩ := h2
    refine ⟨m, b1, ?_, ?_, fun k hk => ?_⟩
    · rw [e.1 _ _ (show lr_px 10 1 by unfold lr_px; omega)]; exact b2
    · rw [e.1 _ _ (show lr_px 233 10 by unfold lr_px; omega)]; exact b3
    · rw [e.1 _ _ (show lr_px 11 k by unfold lr_px; omega), e.1 _ _ (show lr_px 239 k by unfold lr_px; omega)]; exact b4 k hk
  · unfold lr_fa at h3 ⊢
    rw [e.1 _ _ (show lr_px 10 9 by unfold lr_px; omega), e.1 _ _ (show lr_px 10 10 by unfold lr_px; omega), e.1 _ _ (show lr_px 233 16 by unfold lr_px; omega), e.1 _ _ (show lr_px 233 17 by unfold lr_px; omega)]
    exact h3
  · exact h4.congr (fun g _ => e.2 _ _ (by unfold lr_q0; omega)) (fun g hg => e.2 _ _ (by unfold lr_q0; omega))
  · exact h5.congr (fun j k hj => e.1 _ _ (by unfold lr_px; omega)) (e.1 _ _ (by unfold lr_px; omega)) (fun k hk => e.1 _ _ (by unfold lr_px; omega))
  · obtain ⟨c, b1, b2, b3, b4⟩ := h6
    refine ⟨c, b1, ?_, ?_, fun j hj => ?_⟩
    · rw [e.1 _ _ (show lr_px 0 18 by unfold lr_px; omega)]; exact b2
    · rw [e.1 _ _ (show lr_px 233 40 by unfold lr_px; omega)]; exact b3
    · obtain ⟨B, hB⟩ := b4 j hj
      exact ⟨B, hB.congr (fun k _ => e.1 _ _ (by unfold lr_px; omega)) (e.1 _ _ (by unfold lr_px; omega)) (fun i g _ _ _ => e.1 _ _ (by unfold lr_px; omega)) (fun k _ => e.1 _ _ (by unfold lr_px; omega)) (fun g _ => e.2 _ _ (by unfold lr_q0; omega)) (fun g _ => e.2 _ _ (by unfold lr_q0; omega)) (fun i k _ => e.1 _ _ (by unfold lr_px; omega))⟩
  · unfold lr_lf at h7 ⊢
    rw [e.1 _ _ (show lr_px 0 15 by unfold lr_px; omega), e.1 _ _ (show lr_px 233 39 by unfold lr_px; omega)]
    rcases h7 with h | ⟨a, b, c⟩
    · exact Or.inl h
    · refine Or.inr ⟨a, b, fun k hk => ?_⟩
      rw [e.1 _ _ (show lr_px 179 k by unfold lr_px; omega), e.1 _ _ (show lr_px 254 k by unfold lr_px; omega)]; exact c k hk
  · intro k hk
    rw [e.1 _ _ (show lr_px 252 k by unfold lr_px; omega)]; exact h9 k hk
theorem lr_X.congr {w w' : lt_W} {n : Nat} (h : lr_X w n) (e : lr_Qx w w') (hn : n ≤ 7) : lr_X w' n := h.congr0 e.q0 hn
theorem lr_fr.congr {w w' : lt_W} (h8 : lr_fr w) (e : lr_Qx w w') : lr_fr w' := by
  unfold lr_fr at h8 ⊢
  rw [e.2 _ _ (show lr_q 0 1 by unfold lr_q; omega), e.2 _ _ (show lr_q 0 2 by unfold lr_q; omega), e.2 _ _ (show lr_q 233 3 by unfold lr_q; omega), e.2 _ _ (show lr_q 233 4 by unfold lr_q; omega)]
  exact h8
theorem lr_tb.congr {w w' : lt_W} {A : la_A} (h : lr_tb w A) (e : ∀ a k, lr_pt a k → lt_gi w' a k = lt_gi w a k) : lr_tb w' A :=
  ⟨h.1, h.2.1.congr fun a k _ _ => e _ _ (by unfold lr_pt; omega), h.2.2.congr fun k hk k8 k9 => e _ _ (by unfold lr_pt; omega)⟩
theorem lr_0f.congr {w w' : lt_W} {A : la_A} (h : lr_0f w A) (e : lr_Q0 w w') (e2 : ∀ a k, lr_pt a k → lt_gi w' a k = lt_gi w a k) : lr_0f w' A :=
  ⟨h.1.congr e2, h.2.congr0 e h.1.1.2.1⟩
theorem lr_0.congr {w w' : lt_W} {A : la_A} (h : lr_0 w A) (e : lr_Q w w') : lr_0 w' A :=
  ⟨h.1.congr e.1.q0 e.2, h.2.congr e.1⟩
/-- the whole relation -/
def lr_R (w : lt_W) : Prop := lt_gi w 0 0 = lt_gi w 233 2 ∧ ∃ A, lr_0 w A
/-- the two calls at a world: alike answers, and the relation again -/
def lr_ok (fc fm : lt_W → Option (Int32 × lt_W)) (w : lt_W) : Prop := ∃ r w1 w2, fc w = some (r, w1) ∧ fm w1 = some (r, w2) ∧ lr_R w2
/-- a call that changes nothing but STATUS and what isn't kept -/
def lr_cq (f : lt_W → Option (Int32 × lt_W)) (w : lt_W) (r st : Int32) : Prop := ∃ w', f w = some (r, w') ∧ lr_Q w w' ∧ lt_gi w' 0 0 = st
def lr_mq (f : lt_W → Option (Int32 × lt_W)) (w : lt_W) (r st : Int32) : Prop := ∃ w', f w = some (r, w') ∧ lr_Q w w' ∧ lt_gi w' 233 2 = st ∧ lt_gi w' 0 0 = lt_gi w 0 0
theorem lr_ok.q {fc fm : lt_W → Option (Int32 × lt_W)} {w : lt_W} {A : la_A} {r st : Int32} (h : lr_0 w A) (hc : lr_cq fc w r st) (hm : ∀ w1, lr_0 w1 A → lr_mq fm w1 r st) : lr_ok fc fm w := by
  obtain ⟨w1, a1, a2, a3⟩ := hc
  have h1 := h.congr a2
  obtain ⟨w2, b1, b2, b3, b4⟩ := hm w1 h1
  exact ⟨r, w1, w2, a1, b1, by rw [b3, b4, a3], A, h1.congr b2⟩
