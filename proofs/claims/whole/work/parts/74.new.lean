/-! NEW CELLS: the shape as it grows, rows that make cells and set references -/
def ly_p : List (Nat × Nat) := [(0, 3), (2, 3), (1, 0), (4, 3), (1, 1), (6, 3), (1, 2), (8, 3), (1, 3), (10, 0), (0, 4), (12, 9), (12, 10), (12, 11), (12, 12), (12, 13), (12, 14), (12, 15), (12, 16), (0, 5), (21, 2), (21, 3), (21, 4), (21, 5), (21, 6), (21, 7), (21, 8), (0, 6), (30, 9), (30, 10), (30, 11), (30, 12), (30, 13), (30, 14), (30, 15), (30, 16), (29, 1), (29, 0), (0, 7), (40, 2), (40, 3), (40, 4), (40, 5), (40, 6), (40, 7), (40, 8), (39, 2), (39, 3), (39, 0), (39, 1), (0, 8), (50, 9), (50, 10), (50, 11), (50, 12), (50, 13), (50, 14), (50, 15), (50, 16), (49, 1), (49, 0), (0, 9), (59, 1), (59, 2), (59, 3), (59, 0), (63, 9), (63, 10), (63, 11), (63, 12), (63, 13), (63, 14), (63, 15), (63, 16), (60, 0), (72, 9), (72, 10), (72, 11), (72, 12), (72, 13), (72, 14), (72, 15), (72, 16), (60, 1), (81, 9), (81, 10), (81, 11), (81, 12), (81, 13), (81, 14), (81, 15), (81, 16), (60, 2), (90, 9), (90, 10), (90, 11), (90, 12), (90, 13), (90, 14), (90, 15), (90, 16), (60, 3), (99, 9), (99, 10), (99, 11), (99, 12), (99, 13), (99, 14), (99, 15), (99, 16), (60, 4), (108, 9), (108, 10), (108, 11), (108, 12), (108, 13), (108, 14), (108, 15), (108, 16), (60, 5), (0, 10), (118, 9), (118, 10), (118, 11), (118, 12), (118, 13), (118, 14), (118, 15), (118, 16), (117, 1), (117, 2), (117, 3), (117, 0), (0, 11), (151, 9), (151, 10), (151, 11), (151, 12), (151, 13), (151, 14), (151, 15), (151, 16), (150, 1), (160, 9), (160, 10), (160, 11), (160, 12), (160, 13), (160, 14), (160, 15), (160, 16), (150, 2), (150, 0), (0, 12), (170, 9), (170, 10), (170, 11), (170, 12), (170, 13), (170, 14), (170, 15), (170, 16), (169, 2), (169, 0), (169, 1), (0, 13), (0, 14), (0, 16), (0, 17), (182, 9), (182, 10), (182, 11), (182, 12), (182, 13), (182, 14), (182, 15), (182, 16), (180, 0), (191, 2), (191, 3), (191, 4), (191, 5), (191, 6), (191, 7), (191, 8), (181, 0), (199, 9), (199, 10), (199, 11), (199, 12), (199, 13), (199, 14), (199, 15), (199, 16), (180, 1), (208, 2), (208, 3), (208, 4), (208, 5), (208, 6), (208, 7), (208, 8), (181, 1), (216, 9), (216, 10), (216, 11), (216, 12), (216, 13), (216, 14), (216, 15), (216, 16), (180, 2), (225, 2), (225, 3), (225, 4), (225, 5), (225, 6), (225, 7), (225, 8), (181, 2), (233, 0), (233, 1), (233, 5), (233, 6), (233, 7), (233, 8), (233, 9), (233, 21), (233, 24), (233, 25), (233, 26), (233, 27), (233, 28), (233, 29), (233, 30), (233, 31), (233, 32), (233, 33), (233, 36), (233, 37), (233, 38)]
def ly_S (N T : Nat) : lt_S := (N, fun a => if a < N then lr_cl.getD a 99 else 99, fun a => lr_ln.getD a 0, fun a k => if a = 128 ∨ (a, k) ∈ ly_p.take T then some ((lr_rf.getD a []).getD k 0) else none)
theorem ly_c {N T a : Nat} (h : a < N) : lt_c (ly_S N T) a = lr_cl.getD a 99 := if_pos h
theorem ly_c9 {N T a : Nat} (h : N ≤ a) : lt_c (ly_S N T) a = 99 := if_neg (Nat.not_lt.mpr h)
theorem ly_rv1 {N T a k : Nat} (h : a = 128 ∨ (a, k) ∈ ly_p.take T) : lt_rv (ly_S N T) a k = some ((lr_rf.getD a []).getD k 0) := if_pos h
theorem ly_rv0 {N T a k : Nat} (h : ¬ (a = 128 ∨ (a, k) ∈ ly_p.take T)) : lt_rv (ly_S N T) a k = none := if_neg h
/-- a world whose cells from N on are all 0 -/
def ly_z (w : lt_W) (N : Nat) : Prop := ∀ a k, N ≤ a → w.1 a k = 0 ∧ w.2 a k = 0
theorem ly_z.up {w : lt_W} {N M : Nat} (h : ly_z w N) (hm : N ≤ M) : ly_z w M := fun a k ha => h a k (Nat.le_trans hm ha)
theorem ly_z.si {w : lt_W} {N b j : Nat} {v : Int32} (h : ly_z w N) (hb : b < N) : ly_z (lt_si w b j v) N := fun a k ha => ⟨by show (if a = b ∧ k = j then v else w.1 a k) = 0; rw [if_neg (fun z => by omega)]; exact (h a k ha).1, (h a k ha).2⟩
theorem ly_z.sl {w : lt_W} {N b j : Nat} {v : Int64} (h : ly_z w N) (hb : b < N) : ly_z (lt_sl w b j v) N := fun a k ha => ⟨(h a k ha).1, by show (if a = b ∧ k = j then v else w.2 a k) = 0; rw [if_neg (fun z => by omega)]; exact (h a k ha).2⟩
theorem ly_V {sz N N' T a : Nat} {w : lt_W} (h : a < N) (h' : N ≤ N') : lt_V sz (ly_S N' T) w a = lt_V sz (ly_S N T) w a := by
  funext k
  unfold lt_V
  rw [ly_c h, ly_c (Nat.lt_of_lt_of_le h h')]
  rfl
theorem ly_at {D : va_G} {gA : Nat → ClassId} {sz N N' T a : Nat} {w : lt_W} {H H' : Heap} (h : lt_at D gA sz (ly_S N T) w a H) (ha : a < N) (h' : N ≤ N') (hq : H'[sz + a]? = H[sz + a]?) : lt_at D gA sz (ly_S N' T) w a H' := by
  unfold lt_at at h ⊢
  rw [ly_c (Nat.lt_of_lt_of_le ha h'), ly_V ha h']
  rw [ly_c ha] at h
  by_cases c : lr_cl.getD a 99 < 50
  · rw [if_pos c] at h ⊢
    obtain ⟨r, h1, h2⟩ := h
    exact ⟨r, h1, h2.kept hq⟩
  · rw [if_neg c] at h ⊢
    exact hq.trans h
theorem ly_grow {D : va_G} {gA : Nat → ClassId} {sz N T : Nat} {w : lt_W} {H H' : Heap} (h : lt_H D gA sz (ly_S N T) w H) (hs : H'.size = sz + N + 1) (ho : ∀ q, q < sz + N → H'[q]? = H[q]?) (hn : lt_at D gA sz (ly_S (N + 1) T) w N H') : lt_H D gA sz (ly_S (N + 1) T) w H' := by
  refine ⟨hs, fun a ha => ly_c9 ha, fun a ha => ?_⟩
  have ha : a < N + 1 := ha
  by_cases e : a = N
  · rw [e]; exact hn
  · have ha' : a < N := by omega
    exact ly_at (h.2.2 a ha') ha' (Nat.le_succ N) (ho _ (by omega))
/-- what stands at first in a field of a kind -/
def ly_dk (t : Nat) : Value := if t = 0 then .int 0 else if t = 1 then .long 0 else .null
theorem ly_new0 {sz N T k : Nat} {w : lt_W} (hz : ly_z w N) (hn : lt_k (lr_cl.getD N 99) k = 2 → ¬ (N = 128 ∨ (N, k) ∈ ly_p.take T)) : lt_V sz (ly_S (N + 1) T) w N k = ly_dk (lt_k (lr_cl.getD N 99) k) := by
  unfold lt_V lt_fv ly_dk
  rw [ly_c (Nat.lt_succ_self N)]
  by_cases t0 : lt_k (lr_cl.getD N 99) k = 0
  · rw [if_pos t0, if_pos t0, (hz N k (Nat.le_refl _)).1]
  · rw [if_neg t0, if_neg t0]
    by_cases t1 : lt_k (lr_cl.getD N 99) k = 1
    · rw [if_pos t1, if_pos t1, (hz N k (Nat.le_refl _)).2]
    · rw [if_neg t1, if_neg t1]
      have t2 : lt_k (lr_cl.getD N 99) k = 2 := by
        have key : ∀ c k, lt_k c k = 0 ∨ lt_k c k = 1 ∨ lt_k c k = 2 := fun c k => by
          unfold lt_k
          by_cases c5 : c < 50
          · rw [if_pos c5]
            have hall : ∀ r ∈ lt_ft, ∀ x ∈ r, x = 0 ∨ x = 1 ∨ x = 2 := by decide
            rw [List.getD_eq_getElem?_getD, List.getD_eq_getElem?_getD]
            cases e1 : lt_ft[c]? with
            | none => exact Or.inl (by simp)
            | some r =>
              simp only [Option.getD_some]
              cases e2 : r[k]? with
              | none => exact Or.inl rfl
              | some x => exact hall r (List.mem_of_getElem? e1) x (List.mem_of_getElem? e2)
          · rw [if_neg c5]
            split
            · exact Or.inr (Or.inl rfl)
            · split
              · exact Or.inl rfl
              · exact Or.inr (Or.inr rfl)
        rcases key (lr_cl.getD N 99) k with z | z | z
        · exact absurd z t0
        · exact absurd z t1
        · exact z
      rw [ly_rv0 (hn t2)]; rfl
section LN
variable {X : lt_X} {cc : ByteArray} {own : String} {nL : Nat} {R : Room} {ce sl : Nat} {w : lt_W} {pc : Nat} {lv : List (Nat × Value)} {st : List Value}
theorem jr_new {N T idx ci Nf : Nat} {C : String} {Tt : u_T} {ty : Nat → FieldType} (hF : lt_F X cc own nL R) (hcl : lt_CL ci C Tt Nf ty) (m1 : Cond.classLink own idx C ∈ lt_tb) (m2 : Cond.instantiable C Nf ∈ lt_tb) (m3 : Cond.initialized C ∈ lt_tb) (hc : lr_cl.getD N 99 = ci) (hdv : ∀ k, k < Nf → defaultValue (ty k) = ly_dk (lt_k ci k)) (hnull : N ≠ 128 ∧ ∀ q ∈ ly_p.take T, q.1 ≠ N) (hz : ly_z w N) (hr : ce + 1 ≤ R.cells ∧ sl + Nf ≤ R.slots) (hd : decode cc pc = .ok (.new idx, 3)) (kk : lt_J X (ce + 1) (sl + Nf) (ly_S (N + 1) T) w (pc + 3) lv (.ref (lt_z X + N) :: st)) : lt_J X ce sl (ly_S N T) w pc lv st := by
  obtain ⟨p, l, e, R', s, m, args, below, meth, c, D, gA, s0, nL', Q⟩ := X
  obtain ⟨hx, hb, ⟨hml, hnl, hRR⟩, hown, hts, hK, hlk, hW, hG⟩ := hF
  obtain ⟨hv, hin, hty, hnm⟩ := hcl
  subst hRR
  intro H locs ls h1 h2 h3 h4
  have hKn := hK.1 ci _ hv
  have hsz : H.size = s0.heap.size + N := h1.1
  refine W.newcK hx hb hown (hts _ m1) (hts _ m2) (hts _ m3) rfl hd hr.1 hr.2 hKn.2.1 hsz fun H1 kC hkC e1 z1 o1 => ?_
  have hob := u_born ty hts hin hKn hkC e1 hty
  have c50 : ci < 50 := Nat.lt_trans (List.getElem?_eq_some_iff.mp hv).1 (by decide)
  refine kk H1 locs ls (ly_grow h1 z1 o1 ?_) (fun q hq => (o1 q (by omega)).trans (h2 q hq)) h3 h4
  unfold lt_at
  rw [ly_c (Nat.lt_succ_self N), hc, if_pos c50]
  refine ⟨_, hv, ?_⟩
  obtain ⟨cell, a1, a2, a3, a4⟩ := hob
  refine ⟨cell, a1, a2, a3, fun k hk => ?_⟩
  refine (a4 k hk).trans ?_
  show some (defaultValue (ty k)) = _
  rw [hdv k hk, ly_new0 hz (fun _ z => ?_), hc]
  rcases z with z | z
  · exact hnull.1 z
  · exact hnull.2 _ z rfl
theorem lt_arrOf {D : va_G} {gA : Nat → ClassId} {s : State} (hK : va_K D vwCl (lt_tys gA) s) (q : Nat) {c : ClassId} {ty : FieldType} (hq : (lt_tys gA)[q]? = some (c, ty)) : ArrOfT s c ty ∧ va_RA s c ty := hK.2 q _ hq
theorem jr_newa_int {N T len : Nat} {n : Int32} (hF : lt_F X cc own nL R) (harr : Cond.arrayClass .int ∈ lt_tb) (hc : lr_cl.getD N 99 = 50) (hl : lr_ln.getD N 0 = len) (hn : ¬ n < 0) (hN : n.toNatClampNeg = len) (hby : Nat.ble (len * 8) 536870912 = true) (hz : ly_z w N) (hr : ce + 1 ≤ R.cells ∧ sl + len ≤ R.slots) (hd : decode cc pc = .ok (.newarray .int, 2)) (kk : lt_J X (ce + 1) (sl + len) (ly_S (N + 1) T) w (pc + 2) lv (.ref (lt_z X + N) :: st)) : lt_J X ce sl (ly_S N T) w pc lv (.int n :: st) := by
  obtain ⟨p, l, e, R', s, m, args, below, meth, c, D, gA, s0, nL', Q⟩ := X
  obtain ⟨hx, hb, ⟨hml, hnl, hRR⟩, hown, hts, hK, hlk, hW, hG⟩ := hF
  subst hRR
  intro H locs ls h1 h2 h3 h4
  have hsz : H.size = s0.heap.size + N := h1.1
  have hbb : len * componentBytes .int ≤ 536870912 := Nat.le_trans (Nat.mul_le_mul_left len (show componentBytes .int ≤ 8 by decide)) (Nat.le_of_ble_eq_true hby)
  refine va_newaK (atype := .int) hx hb (hts _ harr) rfl hd rfl hn hN hbb hr.1 hr.2 hsz fun H1 cA e1 z1 o1 hAr hNm => ?_
  have hcA : cA = gA 50 := Option.some.inj (hNm.symm.trans (lt_arrOf hK 0 rfl).2)
  subst hcA
  refine kk H1 locs ls (ly_grow h1 z1 o1 ?_) (fun q hq => (o1 q (by omega)).trans (h2 q hq)) h3 h4
  refine lt_at_arr ((ly_c (Nat.lt_succ_self N)).trans hc) (by decide) ?_
  rw [e1]
  have hV : lt_V s0.heap.size (ly_S (N + 1) T) w N = fun _ => ly_dk 0 := funext fun k => by
    rw [ly_new0 hz (fun z => by rw [hc] at z; exact absurd (show (0 : Nat) = 2 from z) (by decide)), hc]; rfl
  rw [hV, show lt_len (ly_S (N + 1) T) N = len from hl]
  rfl
theorem jr_newa_long {N T len : Nat} {n : Int32} (hF : lt_F X cc own nL R) (harr : Cond.arrayClass .long ∈ lt_tb) (hc : lr_cl.getD N 99 = 51) (hl : lr_ln.getD N 0 = len) (hn : ¬ n < 0) (hN : n.toNatClampNeg = len) (hby : Nat.ble (len * 8) 536870912 = true) (hz : ly_z w N) (hr : ce + 1 ≤ R.cells ∧ sl + len ≤ R.slots) (hd : decode cc pc = .ok (.newarray .long, 2)) (kk : lt_J X (ce + 1) (sl + len) (ly_S (N + 1) T) w (pc + 2) lv (.ref (lt_z X + N) :: st)) : lt_J X ce sl (ly_S N T) w pc lv (.int n :: st) := by
  obtain ⟨p, l, e, R', s, m, args, below, meth, c, D, gA, s0, nL', Q⟩ := X
  obtain ⟨hx, hb, ⟨hml, hnl, hRR⟩, hown, hts, hK, hlk, hW, hG⟩ := hF
  subst hRR
  intro H locs ls h1 h2 h3 h4
  have hsz : H.size = s0.heap.size + N := h1.1
  have hbb : len * componentBytes .long ≤ 536870912 := Nat.le_trans (Nat.mul_le_mul_left len (show componentBytes .long ≤ 8 by decide)) (Nat.le_of_ble_eq_true hby)
  refine va_newaK (atype := .long) hx hb (hts _ harr) rfl hd rfl hn hN hbb hr.1 hr.2 hsz fun H1 cA e1 z1 o1 hAr hNm => ?_
  have hcA : cA = gA 51 := Option.some.inj (hNm.symm.trans (lt_arrOf hK 1 rfl).2)
  subst hcA
  refine kk H1 locs ls (ly_grow h1 z1 o1 ?_) (fun q hq => (o1 q (by omega)).trans (h2 q hq)) h3 h4
  refine lt_at_arr ((ly_c (Nat.lt_succ_self N)).trans hc) (by decide) ?_
  rw [e1]
  have hV : lt_V s0.heap.size (ly_S (N + 1) T) w N = fun _ => ly_dk 1 := funext fun k => by
    rw [ly_new0 hz (fun z => by rw [hc] at z; exact absurd (show (1 : Nat) = 2 from z) (by decide)), hc]; rfl
  rw [hV, show lt_len (ly_S (N + 1) T) N = len from hl]
  rfl
theorem jr_newa_byte {N T len : Nat} {n : Int32} (hF : lt_F X cc own nL R) (harr : Cond.arrayClass .byte ∈ lt_tb) (hc : lr_cl.getD N 99 = 52) (hl : lr_ln.getD N 0 = len) (hn : ¬ n < 0) (hN : n.toNatClampNeg = len) (hby : Nat.ble (len * 8) 536870912 = true) (hz : ly_z w N) (hr : ce + 1 ≤ R.cells ∧ sl + len ≤ R.slots) (hd : decode cc pc = .ok (.newarray .byte, 2)) (kk : lt_J X (ce + 1) (sl + len) (ly_S (N + 1) T) w (pc + 2) lv (.ref (lt_z X + N) :: st)) : lt_J X ce sl (ly_S N T) w pc lv (.int n :: st) := by
  obtain ⟨p, l, e, R', s, m, args, below, meth, c, D, gA, s0, nL', Q⟩ := X
  obtain ⟨hx, hb, ⟨hml, hnl, hRR⟩, hown, hts, hK, hlk, hW, hG⟩ := hF
  subst hRR
  intro H locs ls h1 h2 h3 h4
  have hsz : H.size = s0.heap.size + N := h1.1
  have hbb : len * componentBytes .byte ≤ 536870912 := Nat.le_trans (Nat.mul_le_mul_left len (show componentBytes .byte ≤ 8 by decide)) (Nat.le_of_ble_eq_true hby)
  refine va_newaK (atype := .byte) hx hb (hts _ harr) rfl hd rfl hn hN hbb hr.1 hr.2 hsz fun H1 cA e1 z1 o1 hAr hNm => ?_
  have hcA : cA = gA 52 := Option.some.inj (hNm.symm.trans (lt_arrOf hK 2 rfl).2)
  subst hcA
  refine kk H1 locs ls (ly_grow h1 z1 o1 ?_) (fun q hq => (o1 q (by omega)).trans (h2 q hq)) h3 h4
  refine lt_at_arr ((ly_c (Nat.lt_succ_self N)).trans hc) (by decide) ?_
  rw [e1]
  have hV : lt_V s0.heap.size (ly_S (N + 1) T) w N = fun _ => ly_dk 0 := funext fun k => by
    rw [ly_new0 hz (fun z => by rw [hc] at z; exact absurd (show (0 : Nat) = 2 from z) (by decide)), hc]; rfl
  rw [hV, show lt_len (ly_S (N + 1) T) N = len from hl]
  rfl
theorem jr_newa_boolean {N T len : Nat} {n : Int32} (hF : lt_F X cc own nL R) (harr : Cond.arrayClass .boolean ∈ lt_tb) (hc : lr_cl.getD N 99 = 53) (hl : lr_ln.getD N 0 = len) (hn : ¬ n < 0) (hN : n.toNatClampNeg = len) (hby : Nat.ble (len * 8) 536870912 = true) (hz : ly_z w N) (hr : ce + 1 ≤ R.cells ∧ sl + len ≤ R.slots) (hd : decode cc pc = .ok (.newarray .boolean, 2)) (kk : lt_J X (ce + 1) (sl + len) (ly_S (N + 1) T) w (pc + 2) lv (.ref (lt_z X + N) :: st)) : lt_J X ce sl (ly_S N T) w pc lv (.int n :: st) := by
  obtain ⟨p, l, e, R', s, m, args, below, meth, c, D, gA, s0, nL', Q⟩ := X
  obtain ⟨hx, hb, ⟨hml, hnl, hRR⟩, hown, hts, hK, hlk, hW, hG⟩ := hF
  subst hRR
  intro H locs ls h1 h2 h3 h4
  have hsz : H.size = s0.heap.size + N := h1.1
  have hbb : len * componentBytes .boolean ≤ 536870912 := Nat.le_trans (Nat.mul_le_mul_left len (show componentBytes .boolean ≤ 8 by decide)) (Nat.le_of_ble_eq_true hby)
  refine va_newaK (atype := .boolean) hx hb (hts _ harr) rfl hd rfl hn hN hbb hr.1 hr.2 hsz fun H1 cA e1 z1 o1 hAr hNm => ?_
  have hcA : cA = gA 53 := Option.some.inj (hNm.symm.trans (lt_arrOf hK 3 rfl).2)
  subst hcA
  refine kk H1 locs ls (ly_grow h1 z1 o1 ?_) (fun q hq => (o1 q (by omega)).trans (h2 q hq)) h3 h4
  refine lt_at_arr ((ly_c (Nat.lt_succ_self N)).trans hc) (by decide) ?_
  rw [e1]
  have hV : lt_V s0.heap.size (ly_S (N + 1) T) w N = fun _ => ly_dk 0 := funext fun k => by
    rw [ly_new0 hz (fun z => by rw [hc] at z; exact absurd (show (0 : Nat) = 2 from z) (by decide)), hc]; rfl
  rw [hV, show lt_len (ly_S (N + 1) T) N = len from hl]
  rfl
theorem jr_anew {N T len idx c q : Nat} {C : String} {n : Int32} (hF : lt_F X cc own nL R) (m1 : Cond.classLink own idx C ∈ lt_tb) (m2 : Cond.arrayOver (.object C) ∈ lw_tbl) (hc : lr_cl.getD N 99 = c) (h5 : 54 ≤ c ∧ c ≤ 56) (hq : (lt_tys (lt_XA X))[q]? = some (lt_XA X c, .object C)) (hl : lr_ln.getD N 0 = len) (hn : ¬ n < 0) (hN : n.toNatClampNeg = len) (hby : Nat.ble (len * 4) 536870912 = true) (hnull : N ≠ 128 ∧ ∀ q ∈ ly_p.take T, q.1 ≠ N) (hz : ly_z w N) (hr : ce + 1 ≤ R.cells ∧ sl + len ≤ R.slots) (hd : decode cc pc = .ok (.anewarray idx, 3)) (kk : lt_J X (ce + 1) (sl + len) (ly_S (N + 1) T) w (pc + 3) lv (.ref (lt_z X + N) :: st)) : lt_J X ce sl (ly_S N T) w pc lv (.int n :: st) := by
  obtain ⟨p, l, e, R', s, m, args, below, meth, cd, D, gA, s0, nL', Q⟩ := X
  obtain ⟨hx, hb, ⟨hml, hnl, hRR⟩, hown, hts, hK, hlk, hW, hG⟩ := hF
  subst hRR
  obtain ⟨a0, -, hg⟩ := id hG
  have m2b : (Cond.arrayOver (.object C)).before args s = true := va_AO.use (va_AO.moved hW.alike (va_AO.of (hg _ m2)))
  intro H locs ls h1 h2 h3 h4
  have hsz : H.size = s0.heap.size + N := h1.1
  subst hN
  refine W.anew hx hb hown (hts _ m1) m2b rfl hd rfl hn (Nat.le_of_ble_eq_true hby) hr.1 hr.2 fun cA kA comp f1 f2 f3 f4 => ?_
  obtain ⟨kA', comp', -, -, -, g4⟩ := (lt_arrOf hK q hq).2
  have hcA : cA = gA c := Option.some.inj (f1.symm.trans g4)
  subst hcA
  rw [hsz]
  refine kk _ locs ls (ly_grow h1 (by simp [hsz]) (fun q hq => by rw [Array.getElem?_push, if_neg (by omega)]) ?_) (fun q hq => by rw [Array.getElem?_push, if_neg (by omega)]; exact h2 q hq) h3 h4
  refine lt_at_arr ((ly_c (Nat.lt_succ_self N)).trans hc) (by omega) ?_
  have hV : lt_V s0.heap.size (ly_S (N + 1) T) w N = fun _ => .null := funext fun k => by
    rw [ly_new0 hz (fun _ z => by
      rcases z with z | z
      · exact hnull.1 z
      · exact hnull.2 _ z rfl), hc]
    unfold lt_k
    rw [if_neg (by omega), if_neg (by omega), if_neg (by omega)]; rfl
  rw [hV, show lt_len (ly_S (N + 1) T) N = n.toNatClampNeg from hl, ← arrV_new, ← hsz]
  simp
/-- a reference set -/
theorem ly_take {T a k : Nat} (hp : ly_p[T]? = some (a, k)) (q : Nat × Nat) : q ∈ ly_p.take (T + 1) ↔ q ∈ ly_p.take T ∨ q = (a, k) := by
  rw [List.take_succ, hp]
  simp
theorem ly_put1 {sz N T a k b : Nat} {w : lt_W} (hp : ly_p[T]? = some (a, k)) (ha : a < N) (ht : lt_k (lr_cl.getD a 99) k = 2) (hv : (lr_rf.getD a []).getD k 0 = b) : lt_V sz (ly_S N (T + 1)) w a = updV (lt_V sz (ly_S N T) w a) k (.ref (sz + b)) := by
  funext j
  unfold updV
  by_cases e : j = k
  · subst e
    rw [if_pos rfl, lt_V2 (by rw [ly_c ha]; exact ht), ly_rv1 (Or.inr ((ly_take hp _).mpr (Or.inr rfl))), hv]; rfl
  · rw [if_neg e]
    unfold lt_V lt_fv
    rw [ly_c ha, ly_c ha]
    have hrv : lt_rv (ly_S N (T + 1)) a j = lt_rv (ly_S N T) a j := by
      by_cases c : a = 128 ∨ (a, j) ∈ ly_p.take T
      · rw [ly_rv1 c, ly_rv1 (c.imp id fun z => (ly_take hp _).mpr (Or.inl z))]
      · rw [ly_rv0 c, ly_rv0 (fun z => c (z.imp id fun y => ((ly_take hp _).mp y).resolve_right (fun x => e (congrArg Prod.snd x))))]
    rw [hrv]
theorem ly_put2 {sz N T a k x : Nat} {w : lt_W} (hp : ly_p[T]? = some (a, k)) (hx : x ≠ a) : lt_V sz (ly_S N (T + 1)) w x = lt_V sz (ly_S N T) w x := by
  funext j
  unfold lt_V lt_fv
  have hrv : lt_rv (ly_S N (T + 1)) x j = lt_rv (ly_S N T) x j := by
    by_cases c : x = 128 ∨ (x, j) ∈ ly_p.take T
    · rw [ly_rv1 c, ly_rv1 (c.imp id fun z => (ly_take hp _).mpr (Or.inl z))]
    · rw [ly_rv0 c, ly_rv0 (fun z => c (z.imp id fun y => ((ly_take hp _).mp y).resolve_right (fun v => hx (congrArg Prod.fst v))))]
  rw [hrv]
  rfl
theorem ly_upd {D : va_G} {gA : Nat → ClassId} {sz N T a k : Nat} {w : lt_W} {H H' : Heap} (h : lt_H D gA sz (ly_S N T) w H) (hp : ly_p[T]? = some (a, k)) (hs : H'.size = H.size) (hne : ∀ q, q ≠ sz + a → H'[q]? = H[q]?) (hat : lt_at D gA sz (ly_S N (T + 1)) w a H') : lt_H D gA sz (ly_S N (T + 1)) w H' := by
  refine ⟨hs.trans h.1, fun b hb => ly_c9 hb, fun b hb => ?_⟩
  by_cases e : b = a
  · rw [e]; exact hat
  · have h0 := h.2.2 b hb
    have hb : b < N := hb
    unfold lt_at at h0 ⊢
    rw [ly_c hb] at h0 ⊢
    rw [ly_put2 hp e]
    have hq := hne (sz + b) (by omega)
    by_cases c : lr_cl.getD b 99 < 50
    · rw [if_pos c] at h0 ⊢
      obtain ⟨r, g1, g2⟩ := h0
      exact ⟨r, g1, g2.kept hq⟩
    · rw [if_neg c] at h0 ⊢
      exact hq.trans h0
/-- in a constructor -/
def lt_I (X : lt_X) : Prop := match X with | (_, _, _, _, _, _, _, _, meth, _, _, _, _, _, _) => meth.name = "<init>"
theorem jr_putR {N T a k b ci Nf idx : Nat} {C : String} {Tt : u_T} {ty : Nat → FieldType} (hF : lt_F X cc own nL R) (hI : lt_I X) (hcl : lt_CL ci C Tt Nf ty) (hk : k < Nf) (hlink : Cond.fieldLink own idx (Tt k).1 (Tt k).2.1 (Tt k).2.2.1 ∈ lt_tb) (hfin : (Tt k).2.2.2 = true) (hdecl : (Tt k).1 = own) (ht : lt_k ci k = 2) (hnr : ∀ x : Nat, narrow (ty k) (.ref x) = .ref x ∧ fits (ty k) (.ref x) = true) (ha : a < N) (hca : lr_cl.getD a 99 = ci) (hp : ly_p[T]? = some (a, k)) (hv : (lr_rf.getD a []).getD k 0 = b) (hd : decode cc pc = .ok (.putfield idx, 3)) (kk : lt_J X ce sl (ly_S N (T + 1)) w (pc + 3) lv st) : lt_J X ce sl (ly_S N T) w pc lv (.ref (lt_z X + b) :: .ref (lt_z X + a) :: st) := by
  obtain ⟨p, l, e, R', s, m, args, below, meth, c, D, gA, s0, nL', Q⟩ := X
  obtain ⟨hx, hb, -, hown, hts, hK, -⟩ := hF
  obtain ⟨hvc, hin, hty, hnm⟩ := hcl
  intro H locs ls h1 h2 h3 h4
  have c50 : ci < 50 := Nat.lt_trans (List.getElem?_eq_some_iff.mp hvc).1 (by decide)
  have hat := h1.2.2 a ha
  obtain ⟨cell, q1, q2, q3, q4⟩ := lt_obj hat ((ly_c ha).trans hca) hvc
  obtain ⟨hS, hfc, kC, hkC, hkind⟩ := hK.1 ci _ hvc
  obtain ⟨cf, kf, fi, f, hi, hsl⟩ := hS k hk
  have hap := va_apart (own := own) hts hin ty hty hnm hK hvc
  have hlay := hts _ (hin _ (u_in_lay hk))
  unfold u_lay at hlay
  rw [if_pos hfin] at hlay
  have hst := (u_facts hfc hkC (u_lays hts hin hk) hi).1
  have hcf : m.cls = cf := by
    obtain ⟨_, _, c', _, _, _, -, -, hf', -, -, -, hown2, -⟩ := Cond.laysFinal_spec hlay
    have e1 : c' = cf := by have := hi.symm.trans hf'; simp at this; exact this.1.symm
    rw [hdecl] at hown2
    rw [← e1]; exact Option.some.inj (hown.symm.trans hown2)
  have h6 := u_fits hfc hkC hkind (Or.inr hlay) hi (hty k hk) (hnr (s0.heap.size + b)).1 (hnr (s0.heap.size + b)).2
  refine W.putFinK hx hb hown (hts _ hlink) hi hst hcf hI (by rw [q2]; exact h6) q1 q3 (by rw [hsl]; exact k2_hasslot (q4 k hk)) rfl rfl hd fun H' e1 e2 e3 => ?_
  rw [hsl] at e1
  have hat' : lt_at D gA s0.heap.size (ly_S N (T + 1)) w a H' := by
    unfold lt_at
    rw [ly_c ha, hca, if_pos c50]
    refine ⟨_, hvc, ?_⟩
    rw [ly_put1 hp ha (by rw [hca]; exact ht) hv]
    exact ⟨_, e1, q2, q3, t_set q4 hap hk _⟩
  refine kk H' _ ls (ly_upd h1 hp e2 e3 hat') (fun q hq => ?_) (fun q hq => ?_) h4
  · exact (e3 q (Nat.ne_of_lt (Nat.lt_of_lt_of_le hq (Nat.le_add_right _ _)))).trans (h2 q hq)
  · rcases List.mem_append.mp hq with h | h
    · exact h3 q h
    · rw [List.mem_singleton.mp h]; exact Nat.le_add_right _ _
theorem jr_aastR {N T a b ci q c k : Nat} {i : Int32} {r : vw_C} (hF : lt_F X cc own nL R) (hvc : vwCl[ci]? = some r) (hq : (lt_tys (lt_XA X))[q]? = some (lt_XA X c, .object r.1)) (h5 : 54 ≤ c ∧ c ≤ 56) (ha : a < N) (hca : lr_cl.getD a 99 = c) (hb0 : b < N) (hcb : lr_cl.getD b 99 = ci) (hi : i.toNatClampNeg = k) (hi0 : ¬ i < 0) (hk : k < lr_ln.getD a 0) (hp : ly_p[T]? = some (a, k)) (hv : (lr_rf.getD a []).getD k 0 = b) (hd : decode cc pc = .ok (.aastore, 1)) (kk : lt_J X ce sl (ly_S N (T + 1)) w (pc + 1) lv st) : lt_J X ce sl (ly_S N T) w pc lv (.ref (lt_z X + b) :: .int i :: .ref (lt_z X + a) :: st) := by
  obtain ⟨p, l, e, R', s, m, args, below, meth, cd, D, gA, s0, nL', Q⟩ := X
  obtain ⟨hx, hb, -, hown, hts, hK, -⟩ := hF
  subst hi
  intro H locs ls h1 h2 h3 h4
  have hc0 : H[s0.heap.size + a]? = some (arrV (gA c) (lt_len (ly_S N T) a) (lt_V s0.heap.size (ly_S N T) w a)) := lt_acell h1 ((ly_c ha).trans hca) (by omega) (by omega)
  have hatb := h1.2.2 b hb0
  obtain ⟨cellV, g1, g2, g3, -⟩ := lt_obj (C := r.1) (T := r.2.1) (N := r.2.2) hatb ((ly_c hb0).trans hcb) hvc
  have hcls := (hK.1 ci r hvc).2
  obtain ⟨kA, comp, k1, k2, k3, -⟩ := (lt_arrOf hK q hq).2
  have hcomp : comp = D.1 ci := Option.some.inj (k3.symm.trans hcls.1)
  subst hcomp
  obtain ⟨kC, hkC, -⟩ := hcls.2
  refine W.aast hx hb hc0 (fun q h => by cases h) (fun h => by cases h) k1 k2 rfl hkC ⟨hi0, by rw [arrV_size]; exact hk⟩ g1 (fun q h => by rw [g3] at h; cases h) (by rw [g2]; exact hkC) (by rw [g2]; exact va_assign hcls) rfl rfl hd fun H1 e1 z oq => ?_
  have hat' : lt_at D gA s0.heap.size (ly_S N (T + 1)) w a H1 := by
    refine lt_at_arr ((ly_c ha).trans hca) (by omega) ?_
    rw [e1, arrV_store, ly_put1 hp ha (by
      rw [hca]; unfold lt_k
      rw [if_neg (by omega), if_neg (by omega), if_neg (by omega)]) hv]
    rfl
  exact kk H1 _ ls (ly_upd h1 hp z oq hat') (lt_low oq h2) (lt_locs h3) h4
/-- a constructor's call -/
def lt_MI (own : String) (idx : Nat) (y : MethodName) (cc : ByteArray) (maxL : Nat) (n : Nat) : Prop := (Cond.methodLink own idx y ∈ lt_tb ∧ Cond.instanceMethod y ∈ lt_tb ∧ Cond.initialized y.cls ∈ lt_tb ∧ Cond.code y cc maxL none ∈ lt_tb) ∧ y.name = "<init>" ∧ (y.cls ≠ "java/lang/invoke/MethodHandle" ∧ y.cls ≠ "java/lang/invoke/VarHandle" ∧ (parseMethodDescriptor y.desc).map (fun d => d.parameters.length) = some n)
theorem jr_callI {σ σ' : lt_S} {w' : lt_W} {a idx maxL n : Nat} {y : MethodName} {cy : ByteArray} {rm : Room} {As : List Value} (hF : lt_F X cc own nL R) (hm : lt_MI own idx y cy maxL n) (hc : lt_C (lt_Xl X) (lt_XD X) (lt_XA X) (lt_Xs X) y cy maxL none rm (.ref (lt_z X + a) :: As) σ w σ' none w') (hn : As.length = n) (hR : rm.frames + 1 ≤ R.frames ∧ 8 + (maxL + 11) + rm.locals ≤ R.locals) (hf : ce + rm.cells ≤ R.cells ∧ sl + rm.slots ≤ R.slots) (hst : (st.map fun v => v.category).sum ≤ 8) (hd : decode cc pc = .ok (.invokespecial idx, 3)) (kk : lt_J X (ce + rm.cells) (sl + rm.slots) σ' w' (pc + 3) lv st) : lt_J X ce sl σ w pc lv (As.reverse ++ .ref (lt_z X + a) :: st) := by
  obtain ⟨p, l, e, R', s, m, args, below, meth, c, D, gA, s0, nL', Q⟩ := X
  obtain ⟨hx, hb, ⟨hml, hnl, hRR⟩, hown, hts, hK, hlk, hW, hG⟩ := hF
  obtain ⟨⟨m1, m2, m3, m4⟩, hy1, hd1, hd2, hd3⟩ := hm
  subst hRR; subst hnl
  intro H locs ls h1 h2 h3 h4
  refine lt_back (va_runI (As := As) (rest := st) (b := s0.heap.size + a) ⟨hx, hb, hml, hown, hts⟩ hc (cwI n hts (lt_goodIn (lt_ws_in m4)) rfl rfl rfl (hts _ m3) (hts _ m1) (hts _ m2) hy1 ⟨hd1, hd2, hd3⟩ hR) ⟨lt_blind, fun U hU hw => lt_pre hK hW hG h1 h2 hU hw⟩ rfl hn h4.1 rfl (by simpa using hst) hd hf) h3 h4 kk
def lt_MIN (own : String) (idx : Nat) (y : MethodName) (host : String) (cc : ByteArray) (maxL : Nat) (n : Nat) : Prop := (Cond.methodLinkNest own idx y host ∈ lw_tbl ∧ Cond.instanceMethod y ∈ lt_tb ∧ Cond.initialized y.cls ∈ lt_tb ∧ Cond.code y cc maxL none ∈ lt_tb) ∧ y.name = "<init>" ∧ (y.cls ≠ "java/lang/invoke/MethodHandle" ∧ y.cls ≠ "java/lang/invoke/VarHandle" ∧ (parseMethodDescriptor y.desc).map (fun d => d.parameters.length) = some n)
theorem jr_callIN {σ σ' : lt_S} {w' : lt_W} {a idx maxL n : Nat} {host : String} {y : MethodName} {cy : ByteArray} {rm : Room} {As : List Value} (hF : lt_F X cc own nL R) (hm : lt_MIN own idx y host cy maxL n) (hc : lt_C (lt_Xl X) (lt_XD X) (lt_XA X) (lt_Xs X) y cy maxL none rm (.ref (lt_z X + a) :: As) σ w σ' none w') (hn : As.length = n) (hR : rm.frames + 1 ≤ R.frames ∧ 8 + (maxL + 11) + rm.locals ≤ R.locals) (hf : ce + rm.cells ≤ R.cells ∧ sl + rm.slots ≤ R.slots) (hst : (st.map fun v => v.category).sum ≤ 8) (hd : decode cc pc = .ok (.invokespecial idx, 3)) (kk : lt_J X (ce + rm.cells) (sl + rm.slots) σ' w' (pc + 3) lv st) : lt_J X ce sl σ w pc lv (As.reverse ++ .ref (lt_z X + a) :: st) := by
  obtain ⟨p, l, e, R', s, m, args, below, meth, c, D, gA, s0, nL', Q⟩ := X
  obtain ⟨hx, hb, ⟨hml, hnl, hRR⟩, hown, hts, hK, hlk, hW, hG⟩ := hF
  obtain ⟨⟨m1, m2, m3, m4⟩, hy1, hd1, hd2, hd3⟩ := hm
  obtain ⟨a0, -, hg⟩ := id hG
  have hl : va_Nw (.methodLinkNest own idx y host) s := va_Nw.warmM hW (va_Nw.of rfl (hg _ m1))
  subst hRR; subst hnl
  intro H locs ls h1 h2 h3 h4
  refine lt_back (va_runIN (As := As) (rest := st) (b := s0.heap.size + a) ⟨hx, hb, hml, hown, hts⟩ hc ⟨va_cnB n hts (lt_goodIn (lt_ws_in m4)) rfl rfl rfl hl (hts _ m3) ⟨hd1, hd2, hd3⟩ hR, hy1, hts _ m2⟩ ⟨lt_blind, fun U hU hw => lt_pre hK hW hG h1 h2 hU hw⟩ rfl hn h4.1 rfl (by simpa using hst) hd hf) h3 h4 kk
theorem jr_objI {σ : lt_S} {a idx : Nat} (hF : lt_F X cc own nL R) (m1 : Cond.methodLink own idx Lib.objectInit ∈ lt_tb) (m2 : Cond.instanceMethod Lib.objectInit ∈ lt_tb) (m3 : Cond.code Lib.objectInit ⟨#[0xb1]⟩ 1 none ∈ lt_tb) (hR : 1 ≤ R.frames ∧ (st.map fun v => v.category).sum + 12 ≤ R.locals) (hd : decode cc pc = .ok (.invokespecial idx, 3)) (kk : lt_J X ce sl σ w (pc + 3) lv st) : lt_J X ce sl σ w pc lv (.ref (lt_z X + a) :: st) := by
  obtain ⟨p, l, e, R', s, m, args, below, meth, c, D, gA, s0, nL', Q⟩ := X
  obtain ⟨hx, hb, ⟨hml, hnl, hRR⟩, hown, hts, hK, hlk, hW, hG⟩ := hF
  subst hRR; subst hnl
  intro H locs ls h1 h2 h3 h4
  exact W.objInit hx hb hown (hts _ m1) (hts _ m2) (hts _ m3) rfl (h4.1.trans hml.symm) rfl hd hR.1 (by show 2 * 0 + _ + 12 ≤ _; have := hR.2; omega) (kk H locs ls h1 h2 h3 h4)
end LN
def lt_rmI (lev cells slots : Nat) : Room := { frames := lev, cells := cells, slots := slots, locals := 64 * lev }
theorem lt_enterI {l : Launch} {D : va_G} {gA : Nat → ClassId} {s0 : State} {y : MethodName} {cc : ByteArray} {maxL : Nat} {rm : Room} {av : List Value} {σ σ' : lt_S} {w w' : lt_W} (hy : plainName y.cls = true) (hyi : y.name = "<init>") (hlen : (lg_sl av).length ≤ maxL)
    (body : ∀ X : lt_X, lt_Xl X = l → lt_XD X = D → lt_XA X = gA → lt_Xs X = s0 → lt_F X cc y.cls maxL rm → lt_I X → lt_E X rm.cells rm.slots σ' none none w' → lt_J X 0 0 σ w 0 (lv_args 0 av) []) : lt_C l D gA s0 y cc maxL none rm av σ w σ' none w' := by
  refine Met.ofW (cc := cc) (maxL := maxL) (ret := none) hy rfl ?_
  intro p e s m args below meth c s₁ B hml hv
  obtain ⟨rfl, hH, hlow, hW, hK, hG⟩ := hv
  have hts := atoms_spec (ws := lt_ws y cc maxL none) B.pre
  have hin : meth.name = "<init>" := (name_of_methodNamed B.named B.method).1.trans hyi
  have hF : lt_F (p, l, e, rm, s, m, av.toArray, below, meth, c, D, gA, s0, maxL, MQ below (lt_Qc D gA s0 σ' none w') av.toArray s rm.cells rm.slots (fun q => s0.heap.size ≤ q)) cc y.cls maxL rm :=
    ⟨B.exec, B.bytes, ⟨hml, rfl, rfl⟩, findClass_of_methodNamed B.named, fun w hw => hts w (List.mem_cons_of_mem _ hw), hK, B.notSynchronized, hW, hG⟩
  have hl := lv_entry av (n := maxL) hlen
  rw [lg_entry_eq]
  exact body (p, l, e, rm, s, m, av.toArray, below, meth, c, D, gA, s0, maxL, MQ below (lt_Qc D gA s0 σ' none w') av.toArray s rm.cells rm.slots (fun q => s0.heap.size ≤ q)) rfl rfl rfl rfl hF hin ⟨B.returns, rfl⟩ s.heap [] _ hH hlow (fun q hq => by cases hq) hl