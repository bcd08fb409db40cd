def lt_ft : List (List Nat) := [[2, 2, 0, 0], [2, 2, 2, 0, 0, 0, 0], [2, 2, 2, 0, 0, 0, 0, 0], [2, 2, 2, 2, 0], [2, 2, 2, 2, 0, 0, 0], [0, 0, 0, 0, 0, 0, 0, 0, 0, 2, 2, 2, 2, 2, 2, 2, 2], [2, 2, 0], [2, 0, 0, 0, 0, 0, 1, 0, 0, 0, 0], [0, 0, 0, 2], [0, 0, 2, 2, 2, 2, 2, 2, 2], [2, 2, 2, 2, 0], [0, 1, 1, 2, 2, 2, 2, 2, 2, 2, 2, 2, 2, 2, 2, 0, 2, 2, 0], [2, 2, 0, 1, 1, 2, 2, 2, 2, 2, 0, 0, 0, 0, 0, 0, 0, 0, 0, 0, 0, 2, 0, 0, 2, 2, 2, 2, 2, 2, 2, 2, 2, 2, 0, 0, 2, 2, 2, 0, 0]]
/-- the class of what a reference field holds (99: none) -/
def lt_rtl : List (List Nat) := [[5, 5, 99, 99], [5, 5, 5, 99, 99, 99, 99], [5, 9, 5, 99, 99, 99, 99, 99], [5, 55, 50, 50, 99], [5, 5, 50, 57, 99, 99, 99], [99, 99, 99, 99, 99, 99, 99, 99, 99, 51, 50, 50, 50, 50, 50, 50, 50], [7, 5, 99], [52, 99, 99, 99, 99, 99, 99, 99, 99, 99, 99], [99, 99, 99, 51], [99, 99, 50, 50, 50, 50, 50, 50, 50], [7, 5, 9, 50, 99], [99, 99, 99, 54, 7, 5, 9, 6, 10, 0, 3, 4, 1, 2, 50, 99, 55, 56, 99], [50, 51, 99, 99, 99, 50, 50, 51, 52, 52, 99, 99, 99, 99, 99, 99, 99, 99, 99, 99, 99, 50, 99, 99, 50, 50, 50, 50, 50, 53, 50, 51, 50, 50, 99, 99, 50, 50, 50, 99, 99]]
def lt_rt (c k : Nat) : Nat := (lt_rtl.getD c []).getD k 99
/-! THE BASE: a world of numbered cells (a shape, and what the cells hold), a judgement over it, and a row an instruction. -/
/-- what the cells hold: ints (booleans, bytes) and longs, by cell and place -/
abbrev lt_W : Type := (Nat → Nat → Int32) × (Nat → Nat → Int64)
/-- a shape: how many cells, the class of each (50 and more: an array), its length, its references -/
abbrev lt_S : Type := Nat × (Nat → Nat) × (Nat → Nat) × (Nat → Nat → Option Nat)
def lt_n (σ : lt_S) : Nat := σ.1
def lt_c (σ : lt_S) (a : Nat) : Nat := σ.2.1 a
def lt_len (σ : lt_S) (a : Nat) : Nat := σ.2.2.1 a
def lt_rv (σ : lt_S) (a k : Nat) : Option Nat := σ.2.2.2 a k
def lt_r (σ : lt_S) (a k : Nat) : Nat := (lt_rv σ a k).getD 0
def lt_gi (w : lt_W) (a k : Nat) : Int32 := w.1 a k
def lt_gl (w : lt_W) (a k : Nat) : Int64 := w.2 a k
def lt_si (w : lt_W) (a k : Nat) (v : Int32) : lt_W := (fun b j => if b = a ∧ j = k then v else w.1 b j, w.2)
def lt_sl (w : lt_W) (a k : Nat) (v : Int64) : lt_W := (w.1, fun b j => if b = a ∧ j = k then v else w.2 b j)
/-- n places of the cell a from sp on come to the cell b, from dp on -/
def lt_ci (w : lt_W) (a b sp dp n : Nat) : lt_W := (fun q j => if q = b ∧ dp ≤ j ∧ j < dp + n then w.1 a (sp + (j - dp)) else w.1 q j, w.2)
def lt_cl (w : lt_W) (a b sp dp n : Nat) : lt_W := (w.1, fun q j => if q = b ∧ dp ≤ j ∧ j < dp + n then w.2 a (sp + (j - dp)) else w.2 q j)
def lt_let {α β : Type} (a : α) (f : α → β) : β := f a
def lt_ck {α : Type} (i : Int32) (n : Nat) (x : Option α) : Option α := if i < 0 ∨ n ≤ i.toNatClampNeg then none else x
def lt_nz {α : Type} (y : Int32) (x : Option α) : Option α := if y = 0 then none else x
def lt_nzl {α : Type} (y : Int64) (x : Option α) : Option α := if y = 0 then none else x
def lt_bz {α : Type} (y : Int32) (x : Option α) : Option α := if y = 0 ∨ y = 1 then x else none
/-- arraycopy's own looks -/
def lt_cc {α : Type} (n0 n1 : Nat) (sp dp n : Int32) (x : Option α) : Option α := if sp < 0 ∨ dp < 0 ∨ n < 0 ∨ n0 < sp.toNatClampNeg + n.toNatClampNeg ∨ n1 < dp.toNatClampNeg + n.toNatClampNeg then none else x
theorem lt_ckE {α : Type} {i : Int32} {n : Nat} {x : Option α} {r : α} (h : lt_ck i n x = some r) : vp_in i n ∧ x = some r := by
  unfold lt_ck at h
  by_cases c : i < 0 ∨ n ≤ i.toNatClampNeg
  · rw [if_pos c] at h; cases h
  · rw [if_neg c] at h; exact ⟨c, h⟩
theorem lt_nzE {α : Type} {y : Int32} {x : Option α} {r : α} (h : lt_nz y x = some r) : ¬ y = 0 ∧ x = some r := by
  unfold lt_nz at h
  by_cases c : y = 0
  · rw [if_pos c] at h; cases h
  · rw [if_neg c] at h; exact ⟨c, h⟩
theorem lt_nzlE {α : Type} {y : Int64} {x : Option α} {r : α} (h : lt_nzl y x = some r) : ¬ y = 0 ∧ x = some r := by
  unfold lt_nzl at h
  by_cases c : y = 0
  · rw [if_pos c] at h; cases h
  · rw [if_neg c] at h; exact ⟨c, h⟩
theorem lt_bzE {α : Type} {y : Int32} {x : Option α} {r : α} (h : lt_bz y x = some r) : (y = 0 ∨ y = 1) ∧ x = some r := by
  unfold lt_bz at h
  by_cases c : y = 0 ∨ y = 1
  · rw [if_pos c] at h; exact ⟨c, h⟩
  · rw [if_neg c] at h; cases h
theorem lt_ccE {α : Type} {n0 n1 : Nat} {sp dp n : Int32} {x : Option α} {r : α} (h : lt_cc n0 n1 sp dp n x = some r) : (¬ sp < 0 ∧ ¬ dp < 0 ∧ ¬ n < 0 ∧ sp.toNatClampNeg + n.toNatClampNeg ≤ n0 ∧ dp.toNatClampNeg + n.toNatClampNeg ≤ n1) ∧ x = some r := by
  unfold lt_cc at h
  by_cases c : sp < 0 ∨ dp < 0 ∨ n < 0 ∨ n0 < sp.toNatClampNeg + n.toNatClampNeg ∨ n1 < dp.toNatClampNeg + n.toNatClampNeg
  · rw [if_pos c] at h; cases h
  · rw [if_neg c] at h
    refine ⟨⟨fun z => c (Or.inl z), fun z => c (Or.inr (Or.inl z)), fun z => c (Or.inr (Or.inr (Or.inl z))), ?_, ?_⟩, h⟩
    · exact Nat.le_of_not_lt fun z => c (Or.inr (Or.inr (Or.inr (Or.inl z))))
    · exact Nat.le_of_not_lt fun z => c (Or.inr (Or.inr (Or.inr (Or.inr z))))
def lt_k (c k : Nat) : Nat := if c < 50 then (lt_ft.getD c []).getD k 0 else if c = 51 then 1 else if c < 54 then 0 else 2
def lt_fv (sz : Nat) (σ : lt_S) (w : lt_W) (a k t : Nat) : Value := if t = 0 then .int (w.1 a k) else if t = 1 then .long (w.2 a k) else va_rf ((lt_rv σ a k).map (fun b => sz + b))
def lt_V (sz : Nat) (σ : lt_S) (w : lt_W) (a : Nat) : Nat → Value := fun k => lt_fv sz σ w a k (lt_k (lt_c σ a) k)
def lt_at (D : va_G) (gA : Nat → ClassId) (sz : Nat) (σ : lt_S) (w : lt_W) (a : Nat) (H : Heap) : Prop :=
  if lt_c σ a < 50 then ∃ r : vw_C, vwCl[lt_c σ a]? = some r ∧ t_OB (sz + a) (D.1 (lt_c σ a)) r.2.2 (D.2 (lt_c σ a)) H (lt_V sz σ w a)
  else H[sz + a]? = some (arrV (gA (lt_c σ a)) (lt_len σ a) (lt_V sz σ w a))
def lt_H (D : va_G) (gA : Nat → ClassId) (sz : Nat) (σ : lt_S) (w : lt_W) (H : Heap) : Prop := H.size = sz + lt_n σ ∧ (∀ a, lt_n σ ≤ a → lt_c σ a = 99) ∧ ∀ a, a < lt_n σ → lt_at D gA sz σ w a H
def lt_ty (c : Nat) : FieldType := match c with
  | 50 => .int
  | 51 => .long
  | 52 => .byte
  | 53 => .boolean
  | 54 => .object "LoafTable$Tray"
  | 55 => .object "LoafTable$Table"
  | 56 => .object "LoafTable$Weeks"
  | _ => .array .int
abbrev lt_tys (gA : Nat → ClassId) : List (ClassId × FieldType) := [(gA 50, .int), (gA 51, .long), (gA 52, .byte), (gA 53, .boolean), (gA 54, .object "LoafTable$Tray"), (gA 55, .object "LoafTable$Table"), (gA 56, .object "LoafTable$Weeks"), (gA 57, .array .int)]
theorem lt_V0 {sz : Nat} {σ : lt_S} {w : lt_W} {a k : Nat} (h : lt_k (lt_c σ a) k = 0) : lt_V sz σ w a k = .int (lt_gi w a k) := by simp [lt_V, lt_fv, h, lt_gi]
theorem lt_V1 {sz : Nat} {σ : lt_S} {w : lt_W} {a k : Nat} (h : lt_k (lt_c σ a) k = 1) : lt_V sz σ w a k = .long (lt_gl w a k) := by simp [lt_V, lt_fv, h, lt_gl]
theorem lt_V2 {sz : Nat} {σ : lt_S} {w : lt_W} {a k : Nat} (h : lt_k (lt_c σ a) k = 2) : lt_V sz σ w a k = va_rf ((lt_rv σ a k).map (fun b => sz + b)) := by simp [lt_V, lt_fv, h]
theorem lt_V_si {sz : Nat} {σ : lt_S} {w : lt_W} {a k : Nat} {v : Int32} (h : lt_k (lt_c σ a) k = 0) : lt_V sz σ (lt_si w a k v) a = updV (lt_V sz σ w a) k (.int v) := by
  funext j
  by_cases e : j = k
  · subst e; simp [lt_V, lt_fv, h, lt_si, updV]
  · simp [lt_V, lt_fv, lt_si, updV, e]
theorem lt_V_sl {sz : Nat} {σ : lt_S} {w : lt_W} {a k : Nat} {v : Int64} (h : lt_k (lt_c σ a) k = 1) : lt_V sz σ (lt_sl w a k v) a = updV (lt_V sz σ w a) k (.long v) := by
  funext j
  by_cases e : j = k
  · subst e; simp [lt_V, lt_fv, h, lt_sl, updV]
  · simp [lt_V, lt_fv, lt_sl, updV, e]
theorem lt_V_si_ne {sz : Nat} {σ : lt_S} {w : lt_W} {a b k : Nat} {v : Int32} (h : b ≠ a) : lt_V sz σ (lt_si w a k v) b = lt_V sz σ w b := by
  funext j; simp [lt_V, lt_fv, lt_si, h]
theorem lt_V_sl_ne {sz : Nat} {σ : lt_S} {w : lt_W} {a b k : Nat} {v : Int64} (h : b ≠ a) : lt_V sz σ (lt_sl w a k v) b = lt_V sz σ w b := by
  funext j; simp [lt_V, lt_fv, lt_sl, h]
theorem lt_obj {D : va_G} {gA : Nat → ClassId} {sz : Nat} {σ : lt_S} {w : lt_W} {a ci N : Nat} {C : String} {T : u_T} {H : Heap} (h : lt_at D gA sz σ w a H) (hc : lt_c σ a = ci) (hv : vwCl[ci]? = some (C, T, N)) : t_OB (sz + a) (D.1 ci) N (D.2 ci) H (lt_V sz σ w a) := by
  have h50 : ci < 50 := Nat.lt_trans (List.getElem?_eq_some_iff.mp hv).1 (by decide)
  unfold lt_at at h
  rw [hc, if_pos h50] at h
  obtain ⟨r, h1, h2⟩ := h
  have hr : r = (C, T, N) := Option.some.inj (h1.symm.trans hv)
  subst hr
  exact h2
theorem lt_arr {D : va_G} {gA : Nat → ClassId} {sz : Nat} {σ : lt_S} {w : lt_W} {a c : Nat} {H : Heap} (h : lt_at D gA sz σ w a H) (hc : lt_c σ a = c) (hv : 50 ≤ c) : H[sz + a]? = some (arrV (gA c) (lt_len σ a) (lt_V sz σ w a)) := by
  unfold lt_at at h
  rw [hc, if_neg (by omega)] at h
  exact h
theorem lt_at_kept {D : va_G} {gA : Nat → ClassId} {sz : Nat} {σ : lt_S} {w w' : lt_W} {b : Nat} {H H' : Heap} (h : lt_at D gA sz σ w b H) (hq : H'[sz + b]? = H[sz + b]?) (hV : lt_V sz σ w' b = lt_V sz σ w b) : lt_at D gA sz σ w' b H' := by
  unfold lt_at at h ⊢
  rw [hV]
  by_cases c : lt_c σ b < 50
  · rw [if_pos c] at h ⊢
    obtain ⟨r, h1, h2⟩ := h
    exact ⟨r, h1, h2.kept hq⟩
  · rw [if_neg c] at h ⊢
    exact hq.trans h
theorem lt_H_upd {D : va_G} {gA : Nat → ClassId} {sz : Nat} {σ : lt_S} {w w' : lt_W} {a : Nat} {H H' : Heap} (h : lt_H D gA sz σ w H) (hs : H'.size = H.size) (hne : ∀ q, q ≠ sz + a → H'[q]? = H[q]?) (hat : lt_at D gA sz σ w' a H') (hw : ∀ b, b ≠ a → lt_V sz σ w' b = lt_V sz σ w b) : lt_H D gA sz σ w' H' := by
  refine ⟨hs.trans h.1, h.2.1, fun b hb => ?_⟩
  by_cases e : b = a
  · subst e; exact hat
  · exact lt_at_kept (h.2.2 b hb) (hne _ (by omega)) (hw b e)
theorem lt_H_in {D : va_G} {gA : Nat → ClassId} {sz : Nat} {σ : lt_S} {w : lt_W} {a c : Nat} {H : Heap} (h : lt_H D gA sz σ w H) (hc : lt_c σ a = c) (h9 : c < 99) : lt_at D gA sz σ w a H ∧ a < lt_n σ := by
  have : a < lt_n σ := Nat.lt_of_not_le fun z => by have := h.2.1 a z; omega
  exact ⟨h.2.2 a this, this⟩
/-! THE JUDGEMENT. X: all that stays through a method's walk: program, launch, env, room, start, method, args, below, method's table row, code, the classes' numbers, the array classes, the law's own start, how many locals, the goal -/
abbrev lt_X : Type := Program × Launch × Env × Room × State × MethodId × Array Value × List Frame × Method × Code × va_G × (Nat → ClassId) × State × Nat × (State → Prop)
def lt_Xl (X : lt_X) : Launch := match X with | (_, l, _, _, _, _, _, _, _, _, _, _, _, _, _) => l
def lt_XD (X : lt_X) : va_G := match X with | (_, _, _, _, _, _, _, _, _, _, D, _, _, _, _) => D
def lt_XA (X : lt_X) : Nat → ClassId := match X with | (_, _, _, _, _, _, _, _, _, _, _, gA, _, _, _) => gA
def lt_Xs (X : lt_X) : State := match X with | (_, _, _, _, _, _, _, _, _, _, _, _, s0, _, _) => s0
abbrev lt_z (X : lt_X) : Nat := (lt_Xs X).heap.size
def lt_XR (X : lt_X) : Room := match X with | (_, _, _, R, _, _, _, _, _, _, _, _, _, _, _) => R
def lt_J (X : lt_X) (ce sl : Nat) (σ : lt_S) (w : lt_W) (pc : Nat) (lv : List (Nat × Value)) (st : List Value) : Prop := match X with
  | (p, l, e, R, s, m, args, below, meth, c, D, gA, s0, nL, Q) => ∀ (H : Heap) (locs : List Loc) (ls : Array Slot), lt_H D gA s0.heap.size σ w H → (∀ q : Nat, q < s0.heap.size → H[q]? = s0.heap[q]?) → (∀ q ∈ locs, s0.heap.size ≤ q.base) → lv_has ls nL lv → W p l e R s m args below meth c H locs ce sl Q (F0 m pc ls st)
/-- the tables' words that go with every call -/
def lt_tb : List Cond := lw_tbl.filter goodWord
theorem lt_tb_in {w : Cond} (h : w ∈ lt_tb) : w ∈ lw_tbl := (List.mem_filter.mp h).1
theorem lt_mem {w : Cond} (h : w ∈ lw_tbl) (g : goodWord w = true) : w ∈ lt_tb := List.mem_filter.mpr ⟨h, g⟩
theorem lt_m0 (i : Nat) {w : Cond} (h : (k2_sels lw_privs)[i]? = some w) (g : goodWord w = true) : w ∈ lt_tb := lt_mem (List.mem_append_left _ (List.mem_of_getElem? h)) g
theorem lt_m1 (i : Nat) {w : Cond} (h : tables_1_1[i]? = some w) (g : goodWord w = true) : w ∈ lt_tb := lt_mem (List.mem_append_right _ (List.mem_append_left _ (List.mem_of_getElem? h))) g
theorem lt_m2 (i : Nat) {w : Cond} (h : tables_1_2[i]? = some w) (g : goodWord w = true) : w ∈ lt_tb := lt_mem (List.mem_append_right _ (List.mem_append_right _ (List.mem_append_left _ (List.mem_of_getElem? h)))) g
theorem lt_m3 (i : Nat) {w : Cond} (h : tables_1_3[i]? = some w) (g : goodWord w = true) : w ∈ lt_tb := lt_mem (List.mem_append_right _ (List.mem_append_right _ (List.mem_append_right _ (List.mem_append_left _ (List.mem_of_getElem? h))))) g
theorem lt_m4 (i : Nat) {w : Cond} (h : tables_1_4[i]? = some w) (g : goodWord w = true) : w ∈ lt_tb := lt_mem (List.mem_append_right _ (List.mem_append_right _ (List.mem_append_right _ (List.mem_append_right _ (List.mem_append_left _ (List.mem_of_getElem? h)))))) g
theorem lt_m5 (i : Nat) {w : Cond} (h : tables_1_5[i]? = some w) (g : goodWord w = true) : w ∈ lt_tb := lt_mem (List.mem_append_right _ (List.mem_append_right _ (List.mem_append_right _ (List.mem_append_right _ (List.mem_append_right _ (List.mem_append_left _ (List.mem_of_getElem? h))))))) g
theorem lt_m6 (i : Nat) {w : Cond} (h : tables_1_6[i]? = some w) (g : goodWord w = true) : w ∈ lt_tb := lt_mem (List.mem_append_right _ (List.mem_append_right _ (List.mem_append_right _ (List.mem_append_right _ (List.mem_append_right _ (List.mem_append_right _ (List.mem_append_left _ (List.mem_of_getElem? h)))))))) g
theorem lt_m7 (i : Nat) {w : Cond} (h : tables_1_7[i]? = some w) (g : goodWord w = true) : w ∈ lt_tb := lt_mem (List.mem_append_right _ (List.mem_append_right _ (List.mem_append_right _ (List.mem_append_right _ (List.mem_append_right _ (List.mem_append_right _ (List.mem_append_right _ (List.mem_append_left _ (List.mem_of_getElem? h))))))))) g
theorem lt_m8 (i : Nat) {w : Cond} (h : tables_1_8[i]? = some w) (g : goodWord w = true) : w ∈ lt_tb := lt_mem (List.mem_append_right _ (List.mem_append_right _ (List.mem_append_right _ (List.mem_append_right _ (List.mem_append_right _ (List.mem_append_right _ (List.mem_append_right _ (List.mem_append_right _ (List.mem_of_getElem? h))))))))) g
/-- what the Statement gives of the law's own start -/
def lt_G (s0 : State) : Prop := ∃ a0 : Array Value, (Jvm.Cond.and given_1 narrow_1).before a0 s0 = true ∧ ∀ w ∈ lw_tbl, w.before a0 s0 = true
def lt_F (X : lt_X) (cc : ByteArray) (own : String) (nL : Nat) (R : Room) : Prop := match X with
  | (p, _, _, R', s, m, args, _, meth, c, D, gA, s0, nL', _) => p.tables.exec = Jvm.exec ∧ c.code = cc ∧ (c.maxLocals = nL ∧ nL' = nL ∧ R' = R) ∧ s.vm.findClass own = some m.cls ∧ (∀ w ∈ lt_tb, w.before args s = true) ∧ va_K D vwCl (lt_tys gA) s ∧ meth.locks = false ∧ s0.WarmedH s.vm ∧ lt_G s0
/-- a class of the tables -/
def lt_CL (ci : Nat) (C : String) (T : u_T) (N : Nat) (ty : Nat → FieldType) : Prop := vwCl[ci]? = some (C, T, N) ∧ (∀ w ∈ u_ws C T N, w ∈ lt_tb) ∧ (∀ k, k < N → parseFieldDescriptor (T k).2.2.1 = some (ty k)) ∧ (∀ a, a < N → ∀ b, b < N → a ≠ b → (T a).2.1 ≠ (T b).2.1)
/-- a field link: class own, entry idx, names field k of class ci, of kind t -/
def lt_GF (own : String) (idx ci k t : Nat) : Prop := ∃ (C : String) (T : u_T) (N : Nat) (ty : Nat → FieldType), lt_CL ci C T N ty ∧ k < N ∧ Cond.fieldLink own idx (T k).1 (T k).2.1 (T k).2.2.1 ∈ lt_tb ∧ lt_k ci k = t
/-- a field that may be written, of a type -/
def lt_PF (own : String) (idx ci k t : Nat) (fy : FieldType) : Prop := ∃ (C : String) (T : u_T) (N : Nat) (ty : Nat → FieldType), lt_CL ci C T N ty ∧ k < N ∧ Cond.fieldLink own idx (T k).1 (T k).2.1 (T k).2.2.1 ∈ lt_tb ∧ lt_k ci k = t ∧ (T k).2.2.2 = false ∧ ty k = fy
section LT2
variable {X : lt_X} {cc : ByteArray} {own : String} {nL : Nat} {R : Room} {ce sl : Nat} {σ : lt_S} {w : lt_W} {pc : Nat} {lv : List (Nat × Value)} {st : List Value}
theorem jr_get {a idx ci k t : Nat} (hF : lt_F X cc own nL R) (hg : lt_GF own idx ci k t) (ha : lt_c σ a = ci) (hd : decode cc pc = .ok (.getfield idx, 3)) (kk : lt_J X ce sl σ w (pc + 3) lv (lt_V (lt_z X) σ w a k :: st)) : lt_J X ce sl σ w pc lv (.ref (lt_z X + a) :: st) := by
  obtain ⟨p, l, e, R', s, m, args, below, meth, c, D, gA, s0, nL', Q⟩ := X
  obtain ⟨hx, hb, -, hown, hts, hK, -⟩ := hF
  obtain ⟨C, T, N, ty, ⟨hcl, hin, hty, hnm⟩, hk, hlink, -⟩ := hg
  intro H locs ls h1 h2 h3 h4
  have h9 : ci < 99 := Nat.lt_trans (List.getElem?_eq_some_iff.mp hcl).1 (by decide)
  obtain ⟨cell, q1, q2, q3, q4⟩ := lt_obj (lt_H_in h1 ha h9).1 ha hcl
  obtain ⟨hS, hfc, kC, hkC, hkind⟩ := hK.1 ci _ hcl
  obtain ⟨cf, kf, fi, f, hi, hsl⟩ := hS k hk
  refine W.getf hx hb hown (hts _ hlink) hi (u_facts hfc hkC (u_lays hts hin hk) hi).1 q1 (by rw [q3]; exact fun h => by cases h) (v := lt_V s0.heap.size σ w a k) ?_ rfl rfl hd (kk H locs ls h1 h2 h3 h4)
  rw [hsl]
  exact q4 k hk
theorem jr_getI {a idx ci k : Nat} (hF : lt_F X cc own nL R) (hg : lt_GF own idx ci k 0) (ha : lt_c σ a = ci) (hd : decode cc pc = .ok (.getfield idx, 3)) (kk : lt_J X ce sl σ w (pc + 3) lv (.int (lt_gi w a k) :: st)) : lt_J X ce sl σ w pc lv (.ref (lt_z X + a) :: st) := by
  refine jr_get hF hg ha hd ?_
  obtain ⟨C, T, N, ty, -, -, -, ht⟩ := hg
  rw [lt_V0 (by rw [ha]; exact ht)]
  exact kk
theorem jr_getL {a idx ci k : Nat} (hF : lt_F X cc own nL R) (hg : lt_GF own idx ci k 1) (ha : lt_c σ a = ci) (hd : decode cc pc = .ok (.getfield idx, 3)) (kk : lt_J X ce sl σ w (pc + 3) lv (.long (lt_gl w a k) :: st)) : lt_J X ce sl σ w pc lv (.ref (lt_z X + a) :: st) := by
  refine jr_get hF hg ha hd ?_
  obtain ⟨C, T, N, ty, -, -, -, ht⟩ := hg
  rw [lt_V1 (by rw [ha]; exact ht)]
  exact kk
theorem jr_getR {a b idx ci k : Nat} (hF : lt_F X cc own nL R) (hg : lt_GF own idx ci k 2) (ha : lt_c σ a = ci) (hr : lt_rv σ a k = some b) (hd : decode cc pc = .ok (.getfield idx, 3)) (kk : lt_J X ce sl σ w (pc + 3) lv (.ref (lt_z X + b) :: st)) : lt_J X ce sl σ w pc lv (.ref (lt_z X + a) :: st) := by
  refine jr_get hF hg ha hd ?_
  obtain ⟨C, T, N, ty, -, -, -, ht⟩ := hg
  rw [lt_V2 (by rw [ha]; exact ht), hr]
  exact kk
/-- a putfield, whatever comes of it -/
theorem jr_put {a idx ci k t : Nat} {fy : FieldType} {v : Value} {w' : lt_W} (hF : lt_F X cc own nL R) (hg : lt_PF own idx ci k t fy) (ha : lt_c σ a = ci) (hn : narrow fy v = v) (hfit : fits fy v = true) (hV : lt_k (lt_c σ a) k = t → lt_V (lt_z X) σ w' a = updV (lt_V (lt_z X) σ w a) k v) (hV2 : ∀ b, b ≠ a → lt_V (lt_z X) σ w' b = lt_V (lt_z X) σ w b) (hd : decode cc pc = .ok (.putfield idx, 3)) (kk : lt_J X ce sl σ w' (pc + 3) lv st) : lt_J X ce sl σ w pc lv (v :: .ref (lt_z X + a) :: st) := by
  obtain ⟨p, l, e, R', s, m, args, below, meth, c, D, gA, s0, nL', Q⟩ := X
  obtain ⟨hx, hb, -, hown, hts, hK, -⟩ := hF
  obtain ⟨C, T, N, ty, ⟨hcl, hin, hty, hnm⟩, hk, hlink, ht, hfin, hfy⟩ := hg
  intro H locs ls h1 h2 h3 h4
  have h9 : ci < 99 := Nat.lt_trans (List.getElem?_eq_some_iff.mp hcl).1 (by decide)
  obtain ⟨hat, han⟩ := lt_H_in h1 ha h9
  obtain ⟨cell, q1, q2, q3, q4⟩ := lt_obj hat ha hcl
  obtain ⟨hS, hfc, kC, hkC, hkind⟩ := hK.1 ci _ hcl
  obtain ⟨cf, kf, fi, f, hi, hsl⟩ := hS k hk
  have hap := va_apart (own := own) hts hin ty hty hnm hK hcl
  have hlay := hts _ (hin _ (u_in_lay hk))
  unfold u_lay at hlay
  rw [if_neg (by rw [hfin]; decide)] at hlay
  have hst := (u_facts hfc hkC (u_lays hts hin hk) hi).1
  have h6 := u_store hfc hkC hkind hlay hi (by rw [← hfy]; exact hty k hk) hn hfit
  refine W.putK hx hb (f := f) ⟨hown, hts _ hlink, ⟨_, _, _, hi⟩, hst⟩ (by rw [q2]; exact h6) q1 q3 (by rw [hsl]; exact k2_hasslot (q4 k hk)) rfl rfl hd fun H' e1 e2 e3 => ?_
  rw [hsl] at e1
  have hat' : lt_at D gA s0.heap.size σ w' a H' := by
    unfold lt_at
    rw [ha, if_pos (Nat.lt_trans (List.getElem?_eq_some_iff.mp hcl).1 (by decide))]
    refine ⟨_, hcl, ?_⟩
    rw [show lt_V s0.heap.size σ w' a = updV (lt_V s0.heap.size σ w a) k v from hV (by rw [ha]; exact ht)]
    exact ⟨_, e1, q2, q3, t_set q4 hap hk v⟩
  refine kk H' _ ls (lt_H_upd h1 e2 e3 hat' hV2) (fun q hq => ?_) (fun q hq => ?_) h4
  · exact (e3 q (Nat.ne_of_lt (Nat.lt_of_lt_of_le hq (Nat.le_add_right _ _)))).trans (h2 q hq)
  · rcases List.mem_append.mp hq with h | h
    · exact h3 q h
    · rw [List.mem_singleton.mp h]; exact Nat.le_add_right _ _
theorem jr_putI {a idx ci k : Nat} {v : Int32} (hF : lt_F X cc own nL R) (hg : lt_PF own idx ci k 0 .int) (ha : lt_c σ a = ci) (hd : decode cc pc = .ok (.putfield idx, 3)) (kk : lt_J X ce sl σ (lt_si w a k v) (pc + 3) lv st) : lt_J X ce sl σ w pc lv (.int v :: .ref (lt_z X + a) :: st) :=
  jr_put hF hg ha rfl rfl (fun h => lt_V_si h) (fun _ h => lt_V_si_ne h) hd kk
theorem jr_putL {a idx ci k : Nat} {v : Int64} (hF : lt_F X cc own nL R) (hg : lt_PF own idx ci k 1 .long) (ha : lt_c σ a = ci) (hd : decode cc pc = .ok (.putfield idx, 3)) (kk : lt_J X ce sl σ (lt_sl w a k v) (pc + 3) lv st) : lt_J X ce sl σ w pc lv (.long v :: .ref (lt_z X + a) :: st) :=
  jr_put hF hg ha rfl rfl (fun h => lt_V_sl h) (fun _ h => lt_V_sl_ne h) hd kk
theorem jr_putZ {a idx ci k : Nat} {v : Int32} (hF : lt_F X cc own nL R) (hg : lt_PF own idx ci k 0 .boolean) (ha : lt_c σ a = ci) (hv : v = 0 ∨ v = 1) (hd : decode cc pc = .ok (.putfield idx, 3)) (kk : lt_J X ce sl σ (lt_si w a k v) (pc + 3) lv st) : lt_J X ce sl σ w pc lv (.int v :: .ref (lt_z X + a) :: st) := by
  refine jr_put hF hg ha ?_ ?_ (fun h => lt_V_si h) (fun _ h => lt_V_si_ne h) hd kk
  · rcases hv with rfl | rfl <;> rfl
  · rcases hv with rfl | rfl <;> rfl
/-- an array's cell -/
theorem lt_acell {a c : Nat} {D : va_G} {gA : Nat → ClassId} {sz : Nat} {H : Heap} (h : lt_H D gA sz σ w H) (ha : lt_c σ a = c) (h5 : 50 ≤ c) (h9 : c < 99) : H[sz + a]? = some (arrV (gA c) (lt_len σ a) (lt_V sz σ w a)) := lt_arr (lt_H_in h ha h9).1 ha h5
theorem lt_at_arr {a c : Nat} {D : va_G} {gA : Nat → ClassId} {sz : Nat} {H : Heap} (ha : lt_c σ a = c) (h5 : 50 ≤ c) (h : H[sz + a]? = some (arrV (gA c) (lt_len σ a) (lt_V sz σ w a))) : lt_at D gA sz σ w a H := by
  unfold lt_at
  rw [ha, if_neg (by omega)]
  exact h
theorem lt_kI {a k : Nat} (ha : lt_c σ a = 50) : lt_k (lt_c σ a) k = 0 := by rw [ha]; rfl
theorem lt_kL {a k : Nat} (ha : lt_c σ a = 51) : lt_k (lt_c σ a) k = 1 := by rw [ha]; rfl
theorem lt_kB {a k : Nat} (ha : lt_c σ a = 52) : lt_k (lt_c σ a) k = 0 := by rw [ha]; rfl
theorem lt_kZ {a k : Nat} (ha : lt_c σ a = 53) : lt_k (lt_c σ a) k = 0 := by rw [ha]; rfl
theorem lt_kR {a k c : Nat} (ha : lt_c σ a = c) (h1 : 54 ≤ c) (h2 : c < 99) : lt_k (lt_c σ a) k = 2 := by
  rw [ha]; unfold lt_k; rw [if_neg (by omega), if_neg (by omega), if_neg (by omega)]
theorem lt_inr {D : va_G} {gA : Nat → ClassId} {sz a : Nat} {i : Int32} (cA : ClassId) (f : Nat → Value) (h : vp_in i (lt_len σ a)) : ¬ (i < 0 ∨ (arrV cA (lt_len σ a) f).slots.size ≤ i.toNatClampNeg) := by rw [arrV_size]; exact h
theorem lt_ilt {n : Nat} {i : Int32} (h : vp_in i n) : i.toNatClampNeg < n := Nat.lt_of_not_le fun z => h (Or.inr z)
section LOADS
variable {α : Type} {g : Option α} {r : α}
theorem jr_iaload {a : Nat} {i : Int32} (hF : lt_F X cc own nL R) (ha : lt_c σ a = 50) (hd : decode cc pc = .ok (.iaload, 1)) (hf : lt_ck i (lt_len σ a) g = some r) (kk : g = some r → lt_J X ce sl σ w (pc + 1) lv (.int (lt_gi w a i.toNatClampNeg) :: st)) : lt_J X ce sl σ w pc lv (.int i :: .ref (lt_z X + a) :: st) := by
  obtain ⟨hi, hf⟩ := lt_ckE hf
  have kk := kk hf
  rw [← lt_V0 (sz := lt_z X) (lt_kI ha)] at kk
  obtain ⟨p, l, e, R', s, m, args, below, meth, c, D, gA, s0, nL', Q⟩ := X
  intro H locs ls h1 h2 h3 h4
  exact W.iald hF.1 hF.2.1 (lt_acell h1 ha (by decide) (by decide)) ((hF.2.2.2.2.2.1.2 0 _ rfl).1 _ _) (fun q => by cases q) (by rw [arrV_size]; exact hi) (arrV_read _ _ (lt_ilt hi)) rfl rfl hd (kk H locs ls h1 h2 h3 h4)
theorem jr_laload {a : Nat} {i : Int32} (hF : lt_F X cc own nL R) (ha : lt_c σ a = 51) (hd : decode cc pc = .ok (.laload, 1)) (hf : lt_ck i (lt_len σ a) g = some r) (kk : g = some r → lt_J X ce sl σ w (pc + 1) lv (.long (lt_gl w a i.toNatClampNeg) :: st)) : lt_J X ce sl σ w pc lv (.int i :: .ref (lt_z X + a) :: st) := by
  obtain ⟨hi, hf⟩ := lt_ckE hf
  have kk := kk hf
  rw [← lt_V1 (sz := lt_z X) (lt_kL ha)] at kk
  obtain ⟨p, l, e, R', s, m, args, below, meth, c, D, gA, s0, nL', Q⟩ := X
  intro H locs ls h1 h2 h3 h4
  exact W.lald hF.1 hF.2.1 (lt_acell h1 ha (by decide) (by decide)) ((hF.2.2.2.2.2.1.2 1 _ rfl).1 _ _) (fun q => by cases q) (by rw [arrV_size]; exact hi) (arrV_read _ _ (lt_ilt hi)) rfl rfl hd (kk H locs ls h1 h2 h3 h4)
theorem jr_baloadB {a : Nat} {i : Int32} (hF : lt_F X cc own nL R) (ha : lt_c σ a = 52) (hd : decode cc pc = .ok (.baload, 1)) (hf : lt_ck i (lt_len σ a) g = some r) (kk : g = some r → lt_J X ce sl σ w (pc + 1) lv (.int (lt_gi w a i.toNatClampNeg) :: st)) : lt_J X ce sl σ w pc lv (.int i :: .ref (lt_z X + a) :: st) := by
  obtain ⟨hi, hf⟩ := lt_ckE hf
  have kk := kk hf
  rw [← lt_V0 (sz := lt_z X) (lt_kB ha)] at kk
  obtain ⟨p, l, e, R', s, m, args, below, meth, c, D, gA, s0, nL', Q⟩ := X
  intro H locs ls h1 h2 h3 h4
  exact W.bald hF.1 hF.2.1 (lt_acell h1 ha (by decide) (by decide)) ((hF.2.2.2.2.2.1.2 2 _ rfl).1 _ _) (fun q => by cases q) (by rw [arrV_size]; exact hi) (arrV_read _ _ (lt_ilt hi)) rfl rfl hd (kk H locs ls h1 h2 h3 h4)
theorem jr_baloadZ {a : Nat} {i : Int32} (hF : lt_F X cc own nL R) (ha : lt_c σ a = 53) (hd : decode cc pc = .ok (.baload, 1)) (hf : lt_ck i (lt_len σ a) g = some r) (kk : g = some r → lt_J X ce sl σ w (pc + 1) lv (.int (lt_gi w a i.toNatClampNeg) :: st)) : lt_J X ce sl σ w pc lv (.int i :: .ref (lt_z X + a) :: st) := by
  obtain ⟨hi, hf⟩ := lt_ckE hf
  have kk := kk hf
  rw [← lt_V0 (sz := lt_z X) (lt_kZ ha)] at kk
  obtain ⟨p, l, e, R', s, m, args, below, meth, c, D, gA, s0, nL', Q⟩ := X
  intro H locs ls h1 h2 h3 h4
  exact W.zald hF.1 hF.2.1 (lt_acell h1 ha (by decide) (by decide)) ((hF.2.2.2.2.2.1.2 3 _ rfl).1 _ _) (fun q => by cases q) (by rw [arrV_size]; exact hi) (arrV_read _ _ (lt_ilt hi)) rfl rfl hd (kk H locs ls h1 h2 h3 h4)
/-- what follows a store into an array -/
theorem lt_stored {a c : Nat} {D : va_G} {gA : Nat → ClassId} {sz : Nat} {H H' : Heap} {k : Nat} {v : Value} {w' : lt_W} (h1 : lt_H D gA sz σ w H) (ha : lt_c σ a = c) (h5 : 50 ≤ c) (e1 : H'[sz + a]? = some ((arrV (gA c) (lt_len σ a) (lt_V sz σ w a)).setSlot k v)) (e2 : H'.size = H.size) (e3 : ∀ q, q ≠ sz + a → H'[q]? = H[q]?) (hV : lt_V sz σ w' a = updV (lt_V sz σ w a) k v) (hV2 : ∀ b, b ≠ a → lt_V sz σ w' b = lt_V sz σ w b) : lt_H D gA sz σ w' H' := by
  refine lt_H_upd h1 e2 e3 (lt_at_arr ha h5 ?_) hV2
  rw [e1, arrV_store, hV]
theorem lt_low {a sz : Nat} {H H' H0 : Heap} (e3 : ∀ q, q ≠ sz + a → H'[q]? = H[q]?) (h2 : ∀ q : Nat, q < sz → H[q]? = H0[q]?) : ∀ q : Nat, q < sz → H'[q]? = H0[q]? := fun q hq => by rw [e3 q (by omega)]; exact h2 q hq
theorem lt_locs {a sz k : Nat} {locs : List Loc} (h3 : ∀ q ∈ locs, sz ≤ q.base) : ∀ q ∈ locs ++ [(⟨sz + a, k⟩ : Loc)], sz ≤ q.base := fun q hq => by
  rcases List.mem_append.mp hq with h | h
  · exact h3 q h
  · rw [List.mem_singleton.mp h]; exact Nat.le_add_right _ _
theorem jr_iastore {a : Nat} {i v : Int32} (hF : lt_F X cc own nL R) (ha : lt_c σ a = 50) (hd : decode cc pc = .ok (.iastore, 1)) (hf : lt_ck i (lt_len σ a) g = some r) (kk : g = some r → lt_J X ce sl σ (lt_si w a i.toNatClampNeg v) (pc + 1) lv st) : lt_J X ce sl σ w pc lv (.int v :: .int i :: .ref (lt_z X + a) :: st) := by
  obtain ⟨hi, hf⟩ := lt_ckE hf
  have kk := kk hf
  obtain ⟨p, l, e, R', s, m, args, below, meth, c, D, gA, s0, nL', Q⟩ := X
  intro H locs ls h1 h2 h3 h4
  exact W.iast hF.1 hF.2.1 (lt_acell h1 ha (by decide) (by decide)) ((hF.2.2.2.2.2.1.2 0 _ rfl).1 _ _) (fun q => by cases q) (by rw [arrV_size]; exact hi) rfl rfl hd fun H' e1 e2 e3 => kk H' _ ls (lt_stored h1 ha (by decide) e1 e2 e3 (lt_V_si (lt_kI ha)) (fun _ h => lt_V_si_ne h)) (lt_low e3 h2) (lt_locs h3) h4
theorem jr_lastore {a : Nat} {i : Int32} {v : Int64} (hF : lt_F X cc own nL R) (ha : lt_c σ a = 51) (hd : decode cc pc = .ok (.lastore, 1)) (hf : lt_ck i (lt_len σ a) g = some r) (kk : g = some r → lt_J X ce sl σ (lt_sl w a i.toNatClampNeg v) (pc + 1) lv st) : lt_J X ce sl σ w pc lv (.long v :: .int i :: .ref (lt_z X + a) :: st) := by
  obtain ⟨hi, hf⟩ := lt_ckE hf
  have kk := kk hf
  obtain ⟨p, l, e, R', s, m, args, below, meth, c, D, gA, s0, nL', Q⟩ := X
  intro H locs ls h1 h2 h3 h4
  exact W.last hF.1 hF.2.1 (lt_acell h1 ha (by decide) (by decide)) ((hF.2.2.2.2.2.1.2 1 _ rfl).1 _ _) (fun q => by cases q) (by rw [arrV_size]; exact hi) rfl rfl hd fun H' e1 e2 e3 => kk H' _ ls (lt_stored h1 ha (by decide) e1 e2 e3 (lt_V_sl (lt_kL ha)) (fun _ h => lt_V_sl_ne h)) (lt_low e3 h2) (lt_locs h3) h4
end LOADS
end LT2
section LT3
variable {X : lt_X} {cc : ByteArray} {own : String} {nL : Nat} {R : Room} {ce sl : Nat} {σ : lt_S} {w : lt_W} {pc : Nat} {lv : List (Nat × Value)} {st : List Value} {α : Type} {g g1 g2 : Option α} {r : α}
theorem jr_iconst {n : Int} {v : Int32} (hF : lt_F X cc own nL R) (hd : decode cc pc = .ok (.iconst n, 1)) (hv : Int32.ofInt n = v) (kk : lt_J X ce sl σ w (pc + 1) lv (.int v :: st)) : lt_J X ce sl σ w pc lv (st) := by
  obtain ⟨p, l, e, R', s, m, args, below, meth, c, D, gA, s0, nL', Q⟩ := X
  intro H locs ls h1 h2 h3 h4
  exact lv_iconst hF.1 hF.2.1 hd hv (kk H locs ls h1 h2 h3 h4)
theorem jr_bipush {n : Int} {v : Int32} (hF : lt_F X cc own nL R) (hd : decode cc pc = .ok (.bipush n, 2)) (hv : (Int8.ofInt n).toInt32 = v) (kk : lt_J X ce sl σ w (pc + 2) lv (.int v :: st)) : lt_J X ce sl σ w pc lv (st) := by
  obtain ⟨p, l, e, R', s, m, args, below, meth, c, D, gA, s0, nL', Q⟩ := X
  intro H locs ls h1 h2 h3 h4
  exact lv_bipush hF.1 hF.2.1 hd hv (kk H locs ls h1 h2 h3 h4)
theorem jr_sipush {n : Int} {v : Int32} (hF : lt_F X cc own nL R) (hd : decode cc pc = .ok (.sipush n, 3)) (hv : (Int16.ofInt n).toInt32 = v) (kk : lt_J X ce sl σ w (pc + 3) lv (.int v :: st)) : lt_J X ce sl σ w pc lv (st) := by
  obtain ⟨p, l, e, R', s, m, args, below, meth, c, D, gA, s0, nL', Q⟩ := X
  intro H locs ls h1 h2 h3 h4
  exact lv_sipush hF.1 hF.2.1 hd hv (kk H locs ls h1 h2 h3 h4)
theorem jr_lconst {n : Fin 2} {v : Int64} (hF : lt_F X cc own nL R) (hd : decode cc pc = .ok (.lconst n, 1)) (hv : Int64.ofNat (n : Nat) = v) (kk : lt_J X ce sl σ w (pc + 1) lv (.long v :: st)) : lt_J X ce sl σ w pc lv (st) := by
  obtain ⟨p, l, e, R', s, m, args, below, meth, c, D, gA, s0, nL', Q⟩ := X
  intro H locs ls h1 h2 h3 h4
  exact lv_lconst hF.1 hF.2.1 hd hv (kk H locs ls h1 h2 h3 h4)
theorem jr_ldc {idx : Nat} {v : Int32} (hF : lt_F X cc own nL R) (hd : decode cc pc = .ok (.ldc idx, 2)) (hv : Cond.constant own idx v ∈ lt_tb) (kk : lt_J X ce sl σ w (pc + 2) lv (.int v :: st)) : lt_J X ce sl σ w pc lv (st) := by
  obtain ⟨p, l, e, R', s, m, args, below, meth, c, D, gA, s0, nL', Q⟩ := X
  intro H locs ls h1 h2 h3 h4
  exact W.ldc hF.1 hF.2.1 hF.2.2.2.1 (hF.2.2.2.2.1 _ hv) rfl hd (kk H locs ls h1 h2 h3 h4)
theorem jr_ldc2 {idx : Nat} {v : Int64} (hF : lt_F X cc own nL R) (hd : decode cc pc = .ok (.ldc2_w idx, 3)) (hv : Cond.constantLong own idx v ∈ lt_tb) (kk : lt_J X ce sl σ w (pc + 3) lv (.long v :: st)) : lt_J X ce sl σ w pc lv (st) := by
  obtain ⟨p, l, e, R', s, m, args, below, meth, c, D, gA, s0, nL', Q⟩ := X
  intro H locs ls h1 h2 h3 h4
  exact W.ldc2 hF.1 hF.2.1 hF.2.2.2.1 (hF.2.2.2.2.1 _ hv) rfl hd (kk H locs ls h1 h2 h3 h4)
theorem jr_iload {i : Nat} {x : Int32} (hF : lt_F X cc own nL R) (hd : decode cc pc = .ok (.iload i, 2)) (q : Nat) (hl : lv[q]? = some (i, .int x)) (kk : lt_J X ce sl σ w (pc + 2) lv (.int x :: st)) : lt_J X ce sl σ w pc lv (st) := by
  obtain ⟨p, l, e, R', s, m, args, below, meth, c, D, gA, s0, nL', Q⟩ := X
  intro H locs ls h1 h2 h3 h4
  exact lv_iload hF.1 hF.2.1 hd (lv_at h4 q hl) (kk H locs ls h1 h2 h3 h4)
theorem jr_iload_n {k : Fin 4} {i : Nat} {x : Int32} (hF : lt_F X cc own nL R) (hd : decode cc pc = .ok (.iload_n k, 1)) (q : Nat) (hi : (k : Nat) = i) (hl : lv[q]? = some (i, .int x)) (kk : lt_J X ce sl σ w (pc + 1) lv (.int x :: st)) : lt_J X ce sl σ w pc lv (st) := by
  obtain ⟨p, l, e, R', s, m, args, below, meth, c, D, gA, s0, nL', Q⟩ := X
  intro H locs ls h1 h2 h3 h4
  exact lv_iload_n hF.1 hF.2.1 hd hi (lv_at h4 q hl) (kk H locs ls h1 h2 h3 h4)
theorem jr_lload {i : Nat} {x : Int64} (hF : lt_F X cc own nL R) (hd : decode cc pc = .ok (.lload i, 2)) (q : Nat) (hl : lv[q]? = some (i, .long x)) (kk : lt_J X ce sl σ w (pc + 2) lv (.long x :: st)) : lt_J X ce sl σ w pc lv (st) := by
  obtain ⟨p, l, e, R', s, m, args, below, meth, c, D, gA, s0, nL', Q⟩ := X
  intro H locs ls h1 h2 h3 h4
  exact lv_lload hF.1 hF.2.1 hd (lv_at h4 q hl) (kk H locs ls h1 h2 h3 h4)
theorem jr_lload_n {k : Fin 4} {i : Nat} {x : Int64} (hF : lt_F X cc own nL R) (hd : decode cc pc = .ok (.lload_n k, 1)) (q : Nat) (hi : (k : Nat) = i) (hl : lv[q]? = some (i, .long x)) (kk : lt_J X ce sl σ w (pc + 1) lv (.long x :: st)) : lt_J X ce sl σ w pc lv (st) := by
  obtain ⟨p, l, e, R', s, m, args, below, meth, c, D, gA, s0, nL', Q⟩ := X
  intro H locs ls h1 h2 h3 h4
  exact lv_lload_n hF.1 hF.2.1 hd hi (lv_at h4 q hl) (kk H locs ls h1 h2 h3 h4)
theorem jr_aload {i : Nat} {x : Nat} (hF : lt_F X cc own nL R) (hd : decode cc pc = .ok (.aload i, 2)) (q : Nat) (hl : lv[q]? = some (i, .ref x)) (kk : lt_J X ce sl σ w (pc + 2) lv (.ref x :: st)) : lt_J X ce sl σ w pc lv (st) := by
  obtain ⟨p, l, e, R', s, m, args, below, meth, c, D, gA, s0, nL', Q⟩ := X
  intro H locs ls h1 h2 h3 h4
  exact lv_aload hF.1 hF.2.1 hd (lv_at h4 q hl) (kk H locs ls h1 h2 h3 h4)
theorem jr_aload_n {k : Fin 4} {i : Nat} {x : Nat} (hF : lt_F X cc own nL R) (hd : decode cc pc = .ok (.aload_n k, 1)) (q : Nat) (hi : (k : Nat) = i) (hl : lv[q]? = some (i, .ref x)) (kk : lt_J X ce sl σ w (pc + 1) lv (.ref x :: st)) : lt_J X ce sl σ w pc lv (st) := by
  obtain ⟨p, l, e, R', s, m, args, below, meth, c, D, gA, s0, nL', Q⟩ := X
  intro H locs ls h1 h2 h3 h4
  exact lv_aload_n hF.1 hF.2.1 hd hi (lv_at h4 q hl) (kk H locs ls h1 h2 h3 h4)
theorem jr_istore {i : Nat} {x : Int32} {lv' : List (Nat × Value)} (hF : lt_F X cc own nL R) (hd : decode cc pc = .ok (.istore i, 2)) (hn : i < nL) (ks : List Nat) (hl : lv_pick ((i, Value.int x) :: lv.filter (fun q => !(q.1 == i) && !(q.1 + 1 == i && q.2.category == 2))) ks = lv') (kk : lt_J X ce sl σ w (pc + 2) lv' st) : lt_J X ce sl σ w pc lv (.int x :: st) := by
  obtain ⟨p, l, e, R', s, m, args, below, meth, c, D, gA, s0, nL', Q⟩ := X
  intro H locs ls h1 h2 h3 h4
  exact lv_istore hF.1 hF.2.1 hd h4 (by rw [hF.2.2.1.2.1]; exact hn) rfl (fun ls' h4' => kk H locs ls' h1 h2 h3 (lv_sub h4' ks hl))
theorem jr_istore_n {k : Fin 4} {i : Nat} {x : Int32} {lv' : List (Nat × Value)} (hF : lt_F X cc own nL R) (hd : decode cc pc = .ok (.istore_n k, 1)) (hi : (k : Nat) = i) (hn : i < nL) (ks : List Nat) (hl : lv_pick ((i, Value.int x) :: lv.filter (fun q => !(q.1 == i) && !(q.1 + 1 == i && q.2.category == 2))) ks = lv') (kk : lt_J X ce sl σ w (pc + 1) lv' st) : lt_J X ce sl σ w pc lv (.int x :: st) := by
  obtain ⟨p, l, e, R', s, m, args, below, meth, c, D, gA, s0, nL', Q⟩ := X
  intro H locs ls h1 h2 h3 h4
  exact lv_istore_n hF.1 hF.2.1 hd hi h4 (by rw [hF.2.2.1.2.1]; exact hn) rfl (fun ls' h4' => kk H locs ls' h1 h2 h3 (lv_sub h4' ks hl))
theorem jr_lstore {i : Nat} {x : Int64} {lv' : List (Nat × Value)} (hF : lt_F X cc own nL R) (hd : decode cc pc = .ok (.lstore i, 2)) (hn : i + 1 < nL) (ks : List Nat) (hl : lv_pick ((i, Value.long x) :: lv.filter (fun q => !(q.1 == i) && (!(q.1 == i + 1) && !(q.1 + 1 == i && q.2.category == 2)))) ks = lv') (kk : lt_J X ce sl σ w (pc + 2) lv' st) : lt_J X ce sl σ w pc lv (.long x :: st) := by
  obtain ⟨p, l, e, R', s, m, args, below, meth, c, D, gA, s0, nL', Q⟩ := X
  intro H locs ls h1 h2 h3 h4
  exact lv_lstore hF.1 hF.2.1 hd h4 (by rw [hF.2.2.1.2.1]; exact hn) rfl (fun ls' h4' => kk H locs ls' h1 h2 h3 (lv_sub h4' ks hl))
theorem jr_lstore_n {k : Fin 4} {i : Nat} {x : Int64} {lv' : List (Nat × Value)} (hF : lt_F X cc own nL R) (hd : decode cc pc = .ok (.lstore_n k, 1)) (hi : (k : Nat) = i) (hn : i + 1 < nL) (ks : List Nat) (hl : lv_pick ((i, Value.long x) :: lv.filter (fun q => !(q.1 == i) && (!(q.1 == i + 1) && !(q.1 + 1 == i && q.2.category == 2)))) ks = lv') (kk : lt_J X ce sl σ w (pc + 1) lv' st) : lt_J X ce sl σ w pc lv (.long x :: st) := by
  obtain ⟨p, l, e, R', s, m, args, below, meth, c, D, gA, s0, nL', Q⟩ := X
  intro H locs ls h1 h2 h3 h4
  exact lv_lstore_n hF.1 hF.2.1 hd hi h4 (by rw [hF.2.2.1.2.1]; exact hn) rfl (fun ls' h4' => kk H locs ls' h1 h2 h3 (lv_sub h4' ks hl))
theorem jr_astore {i : Nat} {x : Nat} {lv' : List (Nat × Value)} (hF : lt_F X cc own nL R) (hd : decode cc pc = .ok (.astore i, 2)) (hn : i < nL) (ks : List Nat) (hl : lv_pick ((i, Value.ref x) :: lv.filter (fun q => !(q.1 == i) && !(q.1 + 1 == i && q.2.category == 2))) ks = lv') (kk : lt_J X ce sl σ w (pc + 2) lv' st) : lt_J X ce sl σ w pc lv (.ref x :: st) := by
  obtain ⟨p, l, e, R', s, m, args, below, meth, c, D, gA, s0, nL', Q⟩ := X
  intro H locs ls h1 h2 h3 h4
  exact lv_astore hF.1 hF.2.1 hd h4 (by rw [hF.2.2.1.2.1]; exact hn) rfl (fun ls' h4' => kk H locs ls' h1 h2 h3 (lv_sub h4' ks hl))
theorem jr_astore_n {k : Fin 4} {i : Nat} {x : Nat} {lv' : List (Nat × Value)} (hF : lt_F X cc own nL R) (hd : decode cc pc = .ok (.astore_n k, 1)) (hi : (k : Nat) = i) (hn : i < nL) (ks : List Nat) (hl : lv_pick ((i, Value.ref x) :: lv.filter (fun q => !(q.1 == i) && !(q.1 + 1 == i && q.2.category == 2))) ks = lv') (kk : lt_J X ce sl σ w (pc + 1) lv' st) : lt_J X ce sl σ w pc lv (.ref x :: st) := by
  obtain ⟨p, l, e, R', s, m, args, below, meth, c, D, gA, s0, nL', Q⟩ := X
  intro H locs ls h1 h2 h3 h4
  exact lv_astore_n hF.1 hF.2.1 hd hi h4 (by rw [hF.2.2.1.2.1]; exact hn) rfl (fun ls' h4' => kk H locs ls' h1 h2 h3 (lv_sub h4' ks hl))
theorem jr_iinc {i : Nat} {n : Int} {x v : Int32} {lv' : List (Nat × Value)} (hF : lt_F X cc own nL R) (hd : decode cc pc = .ok (.iinc i n, 3)) (q : Nat) (hq : lv[q]? = some (i, .int x)) (hv : x + Int32.ofInt n = v) (hn : i < nL) (ks : List Nat) (hl : lv_pick ((i, Value.int v) :: lv.filter (fun q => !(q.1 == i) && !(q.1 + 1 == i && q.2.category == 2))) ks = lv') (kk : lt_J X ce sl σ w (pc + 3) lv' st) : lt_J X ce sl σ w pc lv st := by
  obtain ⟨p, l, e, R', s, m, args, below, meth, c, D, gA, s0, nL', Q⟩ := X
  intro H locs ls h1 h2 h3 h4
  exact lv_iinc hF.1 hF.2.1 hd h4 hq hv (by rw [hF.2.2.1.2.1]; exact hn) rfl (fun ls' h4' => kk H locs ls' h1 h2 h3 (lv_sub h4' ks hl))
theorem jr_sub {lv' : List (Nat × Value)} (ks : List Nat) (hl : lv_pick lv ks = lv') (kk : lt_J X ce sl σ w pc lv' st) : lt_J X ce sl σ w pc lv st := by
  obtain ⟨p, l, e, R', s, m, args, below, meth, c, D, gA, s0, nL', Q⟩ := X
  intro H locs ls h1 h2 h3 h4
  exact kk H locs ls h1 h2 h3 (lv_sub h4 ks hl)
theorem jr_iadd {x y : Int32} (hF : lt_F X cc own nL R) (hd : decode cc pc = .ok (.iadd, 1)) (kk : lt_J X ce sl σ w (pc + 1) lv (.int (x + y) :: st)) : lt_J X ce sl σ w pc lv (.int y :: .int x :: st) := by
  obtain ⟨p, l, e, R', s, m, args, below, meth, c, D, gA, s0, nL', Q⟩ := X
  intro H locs ls h1 h2 h3 h4
  exact lv_iadd hF.1 hF.2.1 hd (kk H locs ls h1 h2 h3 h4)
theorem jr_isub {x y : Int32} (hF : lt_F X cc own nL R) (hd : decode cc pc = .ok (.isub, 1)) (kk : lt_J X ce sl σ w (pc + 1) lv (.int (x - y) :: st)) : lt_J X ce sl σ w pc lv (.int y :: .int x :: st) := by
  obtain ⟨p, l, e, R', s, m, args, below, meth, c, D, gA, s0, nL', Q⟩ := X
  intro H locs ls h1 h2 h3 h4
  exact lv_isub hF.1 hF.2.1 hd (kk H locs ls h1 h2 h3 h4)
theorem jr_imul {x y : Int32} (hF : lt_F X cc own nL R) (hd : decode cc pc = .ok (.imul, 1)) (kk : lt_J X ce sl σ w (pc + 1) lv (.int (x * y) :: st)) : lt_J X ce sl σ w pc lv (.int y :: .int x :: st) := by
  obtain ⟨p, l, e, R', s, m, args, below, meth, c, D, gA, s0, nL', Q⟩ := X
  intro H locs ls h1 h2 h3 h4
  exact lv_imul hF.1 hF.2.1 hd (kk H locs ls h1 h2 h3 h4)
theorem jr_iand {x y : Int32} (hF : lt_F X cc own nL R) (hd : decode cc pc = .ok (.iand, 1)) (kk : lt_J X ce sl σ w (pc + 1) lv (.int (x &&& y) :: st)) : lt_J X ce sl σ w pc lv (.int y :: .int x :: st) := by
  obtain ⟨p, l, e, R', s, m, args, below, meth, c, D, gA, s0, nL', Q⟩ := X
  intro H locs ls h1 h2 h3 h4
  exact lv_iand hF.1 hF.2.1 hd (kk H locs ls h1 h2 h3 h4)
theorem jr_ior {x y : Int32} (hF : lt_F X cc own nL R) (hd : decode cc pc = .ok (.ior, 1)) (kk : lt_J X ce sl σ w (pc + 1) lv (.int (x ||| y) :: st)) : lt_J X ce sl σ w pc lv (.int y :: .int x :: st) := by
  obtain ⟨p, l, e, R', s, m, args, below, meth, c, D, gA, s0, nL', Q⟩ := X
  intro H locs ls h1 h2 h3 h4
  exact lv_ior hF.1 hF.2.1 hd (kk H locs ls h1 h2 h3 h4)
theorem jr_ixor {x y : Int32} (hF : lt_F X cc own nL R) (hd : decode cc pc = .ok (.ixor, 1)) (kk : lt_J X ce sl σ w (pc + 1) lv (.int (x ^^^ y) :: st)) : lt_J X ce sl σ w pc lv (.int y :: .int x :: st) := by
  obtain ⟨p, l, e, R', s, m, args, below, meth, c, D, gA, s0, nL', Q⟩ := X
  intro H locs ls h1 h2 h3 h4
  exact lv_ixor hF.1 hF.2.1 hd (kk H locs ls h1 h2 h3 h4)
theorem jr_ishl {x y : Int32} (hF : lt_F X cc own nL R) (hd : decode cc pc = .ok (.ishl, 1)) (kk : lt_J X ce sl σ w (pc + 1) lv (.int (x <<< (y &&& 31)) :: st)) : lt_J X ce sl σ w pc lv (.int y :: .int x :: st) := by
  obtain ⟨p, l, e, R', s, m, args, below, meth, c, D, gA, s0, nL', Q⟩ := X
  intro H locs ls h1 h2 h3 h4
  exact lv_ishl hF.1 hF.2.1 hd (kk H locs ls h1 h2 h3 h4)
theorem jr_ishr {x y : Int32} (hF : lt_F X cc own nL R) (hd : decode cc pc = .ok (.ishr, 1)) (kk : lt_J X ce sl σ w (pc + 1) lv (.int (x >>> (y &&& 31)) :: st)) : lt_J X ce sl σ w pc lv (.int y :: .int x :: st) := by
  obtain ⟨p, l, e, R', s, m, args, below, meth, c, D, gA, s0, nL', Q⟩ := X
  intro H locs ls h1 h2 h3 h4
  exact lv_ishr hF.1 hF.2.1 hd (kk H locs ls h1 h2 h3 h4)
theorem jr_ladd {x y : Int64} (hF : lt_F X cc own nL R) (hd : decode cc pc = .ok (.ladd, 1)) (kk : lt_J X ce sl σ w (pc + 1) lv (.long (x + y) :: st)) : lt_J X ce sl σ w pc lv (.long y :: .long x :: st) := by
  obtain ⟨p, l, e, R', s, m, args, below, meth, c, D, gA, s0, nL', Q⟩ := X
  intro H locs ls h1 h2 h3 h4
  exact lv_ladd hF.1 hF.2.1 hd (kk H locs ls h1 h2 h3 h4)
theorem jr_lmul {x y : Int64} (hF : lt_F X cc own nL R) (hd : decode cc pc = .ok (.lmul, 1)) (kk : lt_J X ce sl σ w (pc + 1) lv (.long (x * y) :: st)) : lt_J X ce sl σ w pc lv (.long y :: .long x :: st) := by
  obtain ⟨p, l, e, R', s, m, args, below, meth, c, D, gA, s0, nL', Q⟩ := X
  intro H locs ls h1 h2 h3 h4
  exact lv_lmul hF.1 hF.2.1 hd (kk H locs ls h1 h2 h3 h4)
theorem jr_land {x y : Int64} (hF : lt_F X cc own nL R) (hd : decode cc pc = .ok (.land, 1)) (kk : lt_J X ce sl σ w (pc + 1) lv (.long (x &&& y) :: st)) : lt_J X ce sl σ w pc lv (.long y :: .long x :: st) := by
  obtain ⟨p, l, e, R', s, m, args, below, meth, c, D, gA, s0, nL', Q⟩ := X
  intro H locs ls h1 h2 h3 h4
  exact lv_land hF.1 hF.2.1 hd (kk H locs ls h1 h2 h3 h4)
theorem jr_lor {x y : Int64} (hF : lt_F X cc own nL R) (hd : decode cc pc = .ok (.lor, 1)) (kk : lt_J X ce sl σ w (pc + 1) lv (.long (x ||| y) :: st)) : lt_J X ce sl σ w pc lv (.long y :: .long x :: st) := by
  obtain ⟨p, l, e, R', s, m, args, below, meth, c, D, gA, s0, nL', Q⟩ := X
  intro H locs ls h1 h2 h3 h4
  exact lv_lor hF.1 hF.2.1 hd (kk H locs ls h1 h2 h3 h4)
theorem jr_lcmp {x y : Int64} (hF : lt_F X cc own nL R) (hd : decode cc pc = .ok (.lcmp, 1)) (kk : lt_J X ce sl σ w (pc + 1) lv (.int (lg_cmp x y) :: st)) : lt_J X ce sl σ w pc lv (.long y :: .long x :: st) := by
  obtain ⟨p, l, e, R', s, m, args, below, meth, c, D, gA, s0, nL', Q⟩ := X
  intro H locs ls h1 h2 h3 h4
  exact W.lcmp hF.1 hF.2.1 hd (kk H locs ls h1 h2 h3 h4)
theorem jr_lshl {x : Int64} {y : Int32} (hF : lt_F X cc own nL R) (hd : decode cc pc = .ok (.lshl, 1)) (kk : lt_J X ce sl σ w (pc + 1) lv (.long (x <<< (y.toInt64 &&& 63)) :: st)) : lt_J X ce sl σ w pc lv (.int y :: .long x :: st) := by
  obtain ⟨p, l, e, R', s, m, args, below, meth, c, D, gA, s0, nL', Q⟩ := X
  intro H locs ls h1 h2 h3 h4
  exact lv_lshl hF.1 hF.2.1 hd rfl (kk H locs ls h1 h2 h3 h4)
theorem jr_i2l {x : Int32} (hF : lt_F X cc own nL R) (hd : decode cc pc = .ok (.i2l, 1)) (kk : lt_J X ce sl σ w (pc + 1) lv (.long (x.toInt64) :: st)) : lt_J X ce sl σ w pc lv (.int x :: st) := by
  obtain ⟨p, l, e, R', s, m, args, below, meth, c, D, gA, s0, nL', Q⟩ := X
  intro H locs ls h1 h2 h3 h4
  exact lv_i2l hF.1 hF.2.1 hd rfl (kk H locs ls h1 h2 h3 h4)
theorem jr_l2i {x : Int64} (hF : lt_F X cc own nL R) (hd : decode cc pc = .ok (.l2i, 1)) (kk : lt_J X ce sl σ w (pc + 1) lv (.int (x.toInt32) :: st)) : lt_J X ce sl σ w pc lv (.long x :: st) := by
  obtain ⟨p, l, e, R', s, m, args, below, meth, c, D, gA, s0, nL', Q⟩ := X
  intro H locs ls h1 h2 h3 h4
  exact lv_l2i hF.1 hF.2.1 hd rfl (kk H locs ls h1 h2 h3 h4)
theorem jr_i2b {x : Int32} (hF : lt_F X cc own nL R) (hd : decode cc pc = .ok (.i2b, 1)) (kk : lt_J X ce sl σ w (pc + 1) lv (.int (x.toInt8.toInt32) :: st)) : lt_J X ce sl σ w pc lv (.int x :: st) := by
  obtain ⟨p, l, e, R', s, m, args, below, meth, c, D, gA, s0, nL', Q⟩ := X
  intro H locs ls h1 h2 h3 h4
  exact lv_i2b hF.1 hF.2.1 hd rfl (kk H locs ls h1 h2 h3 h4)
theorem jr_i2s {x : Int32} (hF : lt_F X cc own nL R) (hd : decode cc pc = .ok (.i2s, 1)) (kk : lt_J X ce sl σ w (pc + 1) lv (.int (x.toInt16.toInt32) :: st)) : lt_J X ce sl σ w pc lv (.int x :: st) := by
  obtain ⟨p, l, e, R', s, m, args, below, meth, c, D, gA, s0, nL', Q⟩ := X
  intro H locs ls h1 h2 h3 h4
  exact lv_i2s hF.1 hF.2.1 hd rfl (kk H locs ls h1 h2 h3 h4)
theorem jr_idiv {x y : Int32} (hF : lt_F X cc own nL R) (hd : decode cc pc = .ok (.idiv, 1)) (hf : lt_nz y g = some r) (kk : g = some r → lt_J X ce sl σ w (pc + 1) lv (.int (x / y) :: st)) : lt_J X ce sl σ w pc lv (.int y :: .int x :: st) := by
  obtain ⟨hy, hf⟩ := lt_nzE hf
  have kk := kk hf
  obtain ⟨p, l, e, R', s, m, args, below, meth, c, D, gA, s0, nL', Q⟩ := X
  intro H locs ls h1 h2 h3 h4
  exact lv_idiv hF.1 hF.2.1 hd hy (kk H locs ls h1 h2 h3 h4)
theorem jr_idivc {x y : Int32} (hF : lt_F X cc own nL R) (hd : decode cc pc = .ok (.idiv, 1)) (hy : ¬ y = 0) (kk : lt_J X ce sl σ w (pc + 1) lv (.int (x / y) :: st)) : lt_J X ce sl σ w pc lv (.int y :: .int x :: st) := by
  obtain ⟨p, l, e, R', s, m, args, below, meth, c, D, gA, s0, nL', Q⟩ := X
  intro H locs ls h1 h2 h3 h4
  exact lv_idiv hF.1 hF.2.1 hd hy (kk H locs ls h1 h2 h3 h4)
theorem jr_irem {x y : Int32} (hF : lt_F X cc own nL R) (hd : decode cc pc = .ok (.irem, 1)) (hf : lt_nz y g = some r) (kk : g = some r → lt_J X ce sl σ w (pc + 1) lv (.int (x - x / y * y) :: st)) : lt_J X ce sl σ w pc lv (.int y :: .int x :: st) := by
  obtain ⟨hy, hf⟩ := lt_nzE hf
  have kk := kk hf
  obtain ⟨p, l, e, R', s, m, args, below, meth, c, D, gA, s0, nL', Q⟩ := X
  intro H locs ls h1 h2 h3 h4
  exact lv_irem hF.1 hF.2.1 hd hy (kk H locs ls h1 h2 h3 h4)
theorem jr_iremc {x y : Int32} (hF : lt_F X cc own nL R) (hd : decode cc pc = .ok (.irem, 1)) (hy : ¬ y = 0) (kk : lt_J X ce sl σ w (pc + 1) lv (.int (x - x / y * y) :: st)) : lt_J X ce sl σ w pc lv (.int y :: .int x :: st) := by
  obtain ⟨p, l, e, R', s, m, args, below, meth, c, D, gA, s0, nL', Q⟩ := X
  intro H locs ls h1 h2 h3 h4
  exact lv_irem hF.1 hF.2.1 hd hy (kk H locs ls h1 h2 h3 h4)
theorem jr_ldiv {x y : Int64} (hF : lt_F X cc own nL R) (hd : decode cc pc = .ok (.ldiv, 1)) (hf : lt_nzl y g = some r) (kk : g = some r → lt_J X ce sl σ w (pc + 1) lv (.long (x / y) :: st)) : lt_J X ce sl σ w pc lv (.long y :: .long x :: st) := by
  obtain ⟨hy, hf⟩ := lt_nzlE hf
  have kk := kk hf
  obtain ⟨p, l, e, R', s, m, args, below, meth, c, D, gA, s0, nL', Q⟩ := X
  intro H locs ls h1 h2 h3 h4
  exact lv_ldiv hF.1 hF.2.1 hd hy (kk H locs ls h1 h2 h3 h4)
theorem jr_ldivc {x y : Int64} (hF : lt_F X cc own nL R) (hd : decode cc pc = .ok (.ldiv, 1)) (hy : ¬ y = 0) (kk : lt_J X ce sl σ w (pc + 1) lv (.long (x / y) :: st)) : lt_J X ce sl σ w pc lv (.long y :: .long x :: st) := by
  obtain ⟨p, l, e, R', s, m, args, below, meth, c, D, gA, s0, nL', Q⟩ := X
  intro H locs ls h1 h2 h3 h4
  exact lv_ldiv hF.1 hF.2.1 hd hy (kk H locs ls h1 h2 h3 h4)
theorem jr_lrem {x y : Int64} (hF : lt_F X cc own nL R) (hd : decode cc pc = .ok (.lrem, 1)) (hf : lt_nzl y g = some r) (kk : g = some r → lt_J X ce sl σ w (pc + 1) lv (.long (x - x / y * y) :: st)) : lt_J X ce sl σ w pc lv (.long y :: .long x :: st) := by
  obtain ⟨hy, hf⟩ := lt_nzlE hf
  have kk := kk hf
  obtain ⟨p, l, e, R', s, m, args, below, meth, c, D, gA, s0, nL', Q⟩ := X
  intro H locs ls h1 h2 h3 h4
  exact lv_lrem hF.1 hF.2.1 hd hy (kk H locs ls h1 h2 h3 h4)
theorem jr_lremc {x y : Int64} (hF : lt_F X cc own nL R) (hd : decode cc pc = .ok (.lrem, 1)) (hy : ¬ y = 0) (kk : lt_J X ce sl σ w (pc + 1) lv (.long (x - x / y * y) :: st)) : lt_J X ce sl σ w pc lv (.long y :: .long x :: st) := by
  obtain ⟨p, l, e, R', s, m, args, below, meth, c, D, gA, s0, nL', Q⟩ := X
  intro H locs ls h1 h2 h3 h4
  exact lv_lrem hF.1 hF.2.1 hd hy (kk H locs ls h1 h2 h3 h4)
theorem jr_dup {v : Value} (hF : lt_F X cc own nL R) (hd : decode cc pc = .ok (.dup, 1)) (hv : v.category = 1) (kk : lt_J X ce sl σ w (pc + 1) lv (v :: v :: st)) : lt_J X ce sl σ w pc lv (v :: st) := by
  obtain ⟨p, l, e, R', s, m, args, below, meth, c, D, gA, s0, nL', Q⟩ := X
  intro H locs ls h1 h2 h3 h4
  exact lv_dup hF.1 hF.2.1 hd hv (kk H locs ls h1 h2 h3 h4)
theorem jr_dup2 {v u : Value} (hF : lt_F X cc own nL R) (hd : decode cc pc = .ok (.dup2, 1)) (hv : v.category = 1) (hu : u.category = 1) (kk : lt_J X ce sl σ w (pc + 1) lv (v :: u :: v :: u :: st)) : lt_J X ce sl σ w pc lv (v :: u :: st) := by
  obtain ⟨p, l, e, R', s, m, args, below, meth, c, D, gA, s0, nL', Q⟩ := X
  intro H locs ls h1 h2 h3 h4
  exact lv_dup2_11 hF.1 hF.2.1 hd hv hu (kk H locs ls h1 h2 h3 h4)
theorem jr_pop {v : Value} (hF : lt_F X cc own nL R) (hd : decode cc pc = .ok (.pop, 1)) (hv : v.category = 1) (kk : lt_J X ce sl σ w (pc + 1) lv (st)) : lt_J X ce sl σ w pc lv (v :: st) := by
  obtain ⟨p, l, e, R', s, m, args, below, meth, c, D, gA, s0, nL', Q⟩ := X
  intro H locs ls h1 h2 h3 h4
  exact lv_pop hF.1 hF.2.1 hd hv (kk H locs ls h1 h2 h3 h4)
theorem jr_goto {off : Int} {tgt : Nat} (hF : lt_F X cc own nL R) (hd : decode cc pc = .ok (.goto off, 3)) (ht : (pc : Int) + off = (tgt : Int)) (kk : lt_J X ce sl σ w tgt lv st) : lt_J X ce sl σ w pc lv st := by
  obtain ⟨p, l, e, R', s, m, args, below, meth, c, D, gA, s0, nL', Q⟩ := X
  intro H locs ls h1 h2 h3 h4
  exact lv_goto hF.1 hF.2.1 hd ht (kk H locs ls h1 h2 h3 h4)
theorem jr_icmp_eq {x y : Int32} {off : Int} {tgt : Nat} (hF : lt_F X cc own nL R) (hd : decode cc pc = .ok (.if_icmp .eq off, 3)) (ht : (pc : Int) + off = (tgt : Int)) (hf : (if x = y then g1 else g2) = some r) (kt : g1 = some r → lt_J X ce sl σ w tgt lv st) (kf : g2 = some r → lt_J X ce sl σ w (pc + 3) lv st) : lt_J X ce sl σ w pc lv (.int y :: .int x :: st) := by
  have kt : x = y → lt_J X ce sl σ w tgt lv st := fun c => kt (by rw [if_pos c] at hf; exact hf)
  have kf : ¬ x = y → lt_J X ce sl σ w (pc + 3) lv st := fun c => kf (by rw [if_neg c] at hf; exact hf)
  obtain ⟨p, l, e, R', s, m, args, below, meth, c, D, gA, s0, nL', Q⟩ := X
  intro H locs ls h1 h2 h3 h4
  exact lv_icmp_eq hF.1 hF.2.1 hd ht (fun c => kt c H locs ls h1 h2 h3 h4) (fun c => kf c H locs ls h1 h2 h3 h4)
theorem jr_if_eq {x : Int32} {off : Int} {tgt : Nat} (hF : lt_F X cc own nL R) (hd : decode cc pc = .ok (.ifCond .eq off, 3)) (ht : (pc : Int) + off = (tgt : Int)) (hf : (if x = 0 then g1 else g2) = some r) (kt : g1 = some r → lt_J X ce sl σ w tgt lv st) (kf : g2 = some r → lt_J X ce sl σ w (pc + 3) lv st) : lt_J X ce sl σ w pc lv (.int x :: st) := by
  have kt : x = 0 → lt_J X ce sl σ w tgt lv st := fun c => kt (by rw [if_pos c] at hf; exact hf)
  have kf : ¬ x = 0 → lt_J X ce sl σ w (pc + 3) lv st := fun c => kf (by rw [if_neg c] at hf; exact hf)
  obtain ⟨p, l, e, R', s, m, args, below, meth, c, D, gA, s0, nL', Q⟩ := X
  intro H locs ls h1 h2 h3 h4
  exact lv_if_eq hF.1 hF.2.1 hd ht (fun c => kt c H locs ls h1 h2 h3 h4) (fun c => kf c H locs ls h1 h2 h3 h4)
theorem jr_icmp_ne {x y : Int32} {off : Int} {tgt : Nat} (hF : lt_F X cc own nL R) (hd : decode cc pc = .ok (.if_icmp .ne off, 3)) (ht : (pc : Int) + off = (tgt : Int)) (hf : (if x = y then g1 else g2) = some r) (kt : g2 = some r → lt_J X ce sl σ w tgt lv st) (kf : g1 = some r → lt_J X ce sl σ w (pc + 3) lv st) : lt_J X ce sl σ w pc lv (.int y :: .int x :: st) := by
  have kt : ¬ x = y → lt_J X ce sl σ w tgt lv st := fun c => kt (by rw [if_neg c] at hf; exact hf)
  have kf : x = y → lt_J X ce sl σ w (pc + 3) lv st := fun c => kf (by rw [if_pos c] at hf; exact hf)
  obtain ⟨p, l, e, R', s, m, args, below, meth, c, D, gA, s0, nL', Q⟩ := X
  intro H locs ls h1 h2 h3 h4
  exact lv_icmp_ne hF.1 hF.2.1 hd ht (fun c => kt c H locs ls h1 h2 h3 h4) (fun c => kf c H locs ls h1 h2 h3 h4)
theorem jr_if_ne {x : Int32} {off : Int} {tgt : Nat} (hF : lt_F X cc own nL R) (hd : decode cc pc = .ok (.ifCond .ne off, 3)) (ht : (pc : Int) + off = (tgt : Int)) (hf : (if x = 0 then g1 else g2) = some r) (kt : g2 = some r → lt_J X ce sl σ w tgt lv st) (kf : g1 = some r → lt_J X ce sl σ w (pc + 3) lv st) : lt_J X ce sl σ w pc lv (.int x :: st) := by
  have kt : ¬ x = 0 → lt_J X ce sl σ w tgt lv st := fun c => kt (by rw [if_neg c] at hf; exact hf)
  have kf : x = 0 → lt_J X ce sl σ w (pc + 3) lv st := fun c => kf (by rw [if_pos c] at hf; exact hf)
  obtain ⟨p, l, e, R', s, m, args, below, meth, c, D, gA, s0, nL', Q⟩ := X
  intro H locs ls h1 h2 h3 h4
  exact lv_if_ne hF.1 hF.2.1 hd ht (fun c => kt c H locs ls h1 h2 h3 h4) (fun c => kf c H locs ls h1 h2 h3 h4)
theorem jr_icmp_lt {x y : Int32} {off : Int} {tgt : Nat} (hF : lt_F X cc own nL R) (hd : decode cc pc = .ok (.if_icmp .lt off, 3)) (ht : (pc : Int) + off = (tgt : Int)) (hf : (if x < y then g1 else g2) = some r) (kt : g1 = some r → lt_J X ce sl σ w tgt lv st) (kf : g2 = some r → lt_J X ce sl σ w (pc + 3) lv st) : lt_J X ce sl σ w pc lv (.int y :: .int x :: st) := by
  have kt : x < y → lt_J X ce sl σ w tgt lv st := fun c => kt (by rw [if_pos c] at hf; exact hf)
  have kf : ¬ x < y → lt_J X ce sl σ w (pc + 3) lv st := fun c => kf (by rw [if_neg c] at hf; exact hf)
  obtain ⟨p, l, e, R', s, m, args, below, meth, c, D, gA, s0, nL', Q⟩ := X
  intro H locs ls h1 h2 h3 h4
  exact lv_icmp_lt hF.1 hF.2.1 hd ht (fun c => kt c H locs ls h1 h2 h3 h4) (fun c => kf c H locs ls h1 h2 h3 h4)
theorem jr_if_lt {x : Int32} {off : Int} {tgt : Nat} (hF : lt_F X cc own nL R) (hd : decode cc pc = .ok (.ifCond .lt off, 3)) (ht : (pc : Int) + off = (tgt : Int)) (hf : (if x < 0 then g1 else g2) = some r) (kt : g1 = some r → lt_J X ce sl σ w tgt lv st) (kf : g2 = some r → lt_J X ce sl σ w (pc + 3) lv st) : lt_J X ce sl σ w pc lv (.int x :: st) := by
  have kt : x < 0 → lt_J X ce sl σ w tgt lv st := fun c => kt (by rw [if_pos c] at hf; exact hf)
  have kf : ¬ x < 0 → lt_J X ce sl σ w (pc + 3) lv st := fun c => kf (by rw [if_neg c] at hf; exact hf)
  obtain ⟨p, l, e, R', s, m, args, below, meth, c, D, gA, s0, nL', Q⟩ := X
  intro H locs ls h1 h2 h3 h4
  exact lv_if_lt hF.1 hF.2.1 hd ht (fun c => kt c H locs ls h1 h2 h3 h4) (fun c => kf c H locs ls h1 h2 h3 h4)
theorem jr_icmp_ge {x y : Int32} {off : Int} {tgt : Nat} (hF : lt_F X cc own nL R) (hd : decode cc pc = .ok (.if_icmp .ge off, 3)) (ht : (pc : Int) + off = (tgt : Int)) (hf : (if y ≤ x then g1 else g2) = some r) (kt : g1 = some r → lt_J X ce sl σ w tgt lv st) (kf : g2 = some r → lt_J X ce sl σ w (pc + 3) lv st) : lt_J X ce sl σ w pc lv (.int y :: .int x :: st) := by
  have kt : y ≤ x → lt_J X ce sl σ w tgt lv st := fun c => kt (by rw [if_pos c] at hf; exact hf)
  have kf : ¬ y ≤ x → lt_J X ce sl σ w (pc + 3) lv st := fun c => kf (by rw [if_neg c] at hf; exact hf)
  obtain ⟨p, l, e, R', s, m, args, below, meth, c, D, gA, s0, nL', Q⟩ := X
  intro H locs ls h1 h2 h3 h4
  exact lv_icmp_ge hF.1 hF.2.1 hd ht (fun c => kt c H locs ls h1 h2 h3 h4) (fun c => kf c H locs ls h1 h2 h3 h4)
theorem jr_if_ge {x : Int32} {off : Int} {tgt : Nat} (hF : lt_F X cc own nL R) (hd : decode cc pc = .ok (.ifCond .ge off, 3)) (ht : (pc : Int) + off = (tgt : Int)) (hf : (if 0 ≤ x then g1 else g2) = some r) (kt : g1 = some r → lt_J X ce sl σ w tgt lv st) (kf : g2 = some r → lt_J X ce sl σ w (pc + 3) lv st) : lt_J X ce sl σ w pc lv (.int x :: st) := by
  have kt : 0 ≤ x → lt_J X ce sl σ w tgt lv st := fun c => kt (by rw [if_pos c] at hf; exact hf)
  have kf : ¬ 0 ≤ x → lt_J X ce sl σ w (pc + 3) lv st := fun c => kf (by rw [if_neg c] at hf; exact hf)
  obtain ⟨p, l, e, R', s, m, args, below, meth, c, D, gA, s0, nL', Q⟩ := X
  intro H locs ls h1 h2 h3 h4
  exact lv_if_ge hF.1 hF.2.1 hd ht (fun c => kt c H locs ls h1 h2 h3 h4) (fun c => kf c H locs ls h1 h2 h3 h4)
theorem jr_icmp_gt {x y : Int32} {off : Int} {tgt : Nat} (hF : lt_F X cc own nL R) (hd : decode cc pc = .ok (.if_icmp .gt off, 3)) (ht : (pc : Int) + off = (tgt : Int)) (hf : (if y < x then g1 else g2) = some r) (kt : g1 = some r → lt_J X ce sl σ w tgt lv st) (kf : g2 = some r → lt_J X ce sl σ w (pc + 3) lv st) : lt_J X ce sl σ w pc lv (.int y :: .int x :: st) := by
  have kt : y < x → lt_J X ce sl σ w tgt lv st := fun c => kt (by rw [if_pos c] at hf; exact hf)
  have kf : ¬ y < x → lt_J X ce sl σ w (pc + 3) lv st := fun c => kf (by rw [if_neg c] at hf; exact hf)
  obtain ⟨p, l, e, R', s, m, args, below, meth, c, D, gA, s0, nL', Q⟩ := X
  intro H locs ls h1 h2 h3 h4
  exact lv_icmp_gt hF.1 hF.2.1 hd ht (fun c => kt c H locs ls h1 h2 h3 h4) (fun c => kf c H locs ls h1 h2 h3 h4)
theorem jr_if_gt {x : Int32} {off : Int} {tgt : Nat} (hF : lt_F X cc own nL R) (hd : decode cc pc = .ok (.ifCond .gt off, 3)) (ht : (pc : Int) + off = (tgt : Int)) (hf : (if 0 < x then g1 else g2) = some r) (kt : g1 = some r → lt_J X ce sl σ w tgt lv st) (kf : g2 = some r → lt_J X ce sl σ w (pc + 3) lv st) : lt_J X ce sl σ w pc lv (.int x :: st) := by
  have kt : 0 < x → lt_J X ce sl σ w tgt lv st := fun c => kt (by rw [if_pos c] at hf; exact hf)
  have kf : ¬ 0 < x → lt_J X ce sl σ w (pc + 3) lv st := fun c => kf (by rw [if_neg c] at hf; exact hf)
  obtain ⟨p, l, e, R', s, m, args, below, meth, c, D, gA, s0, nL', Q⟩ := X
  intro H locs ls h1 h2 h3 h4
  exact lv_if_gt hF.1 hF.2.1 hd ht (fun c => kt c H locs ls h1 h2 h3 h4) (fun c => kf c H locs ls h1 h2 h3 h4)
theorem jr_icmp_le {x y : Int32} {off : Int} {tgt : Nat} (hF : lt_F X cc own nL R) (hd : decode cc pc = .ok (.if_icmp .le off, 3)) (ht : (pc : Int) + off = (tgt : Int)) (hf : (if x ≤ y then g1 else g2) = some r) (kt : g1 = some r → lt_J X ce sl σ w tgt lv st) (kf : g2 = some r → lt_J X ce sl σ w (pc + 3) lv st) : lt_J X ce sl σ w pc lv (.int y :: .int x :: st) := by
  have kt : x ≤ y → lt_J X ce sl σ w tgt lv st := fun c => kt (by rw [if_pos c] at hf; exact hf)
  have kf : ¬ x ≤ y → lt_J X ce sl σ w (pc + 3) lv st := fun c => kf (by rw [if_neg c] at hf; exact hf)
  obtain ⟨p, l, e, R', s, m, args, below, meth, c, D, gA, s0, nL', Q⟩ := X
  intro H locs ls h1 h2 h3 h4
  exact lv_icmp_le hF.1 hF.2.1 hd ht (fun c => kt c H locs ls h1 h2 h3 h4) (fun c => kf c H locs ls h1 h2 h3 h4)
theorem jr_if_le {x : Int32} {off : Int} {tgt : Nat} (hF : lt_F X cc own nL R) (hd : decode cc pc = .ok (.ifCond .le off, 3)) (ht : (pc : Int) + off = (tgt : Int)) (hf : (if x ≤ 0 then g1 else g2) = some r) (kt : g1 = some r → lt_J X ce sl σ w tgt lv st) (kf : g2 = some r → lt_J X ce sl σ w (pc + 3) lv st) : lt_J X ce sl σ w pc lv (.int x :: st) := by
  have kt : x ≤ 0 → lt_J X ce sl σ w tgt lv st := fun c => kt (by rw [if_pos c] at hf; exact hf)
  have kf : ¬ x ≤ 0 → lt_J X ce sl σ w (pc + 3) lv st := fun c => kf (by rw [if_neg c] at hf; exact hf)
  obtain ⟨p, l, e, R', s, m, args, below, meth, c, D, gA, s0, nL', Q⟩ := X
  intro H locs ls h1 h2 h3 h4
  exact lv_if_le hF.1 hF.2.1 hd ht (fun c => kt c H locs ls h1 h2 h3 h4) (fun c => kf c H locs ls h1 h2 h3 h4)
theorem jr_tableIn {dflt lo hi : Int} {offs : Array Int} {len : Nat} {x : Int32} {off : Int} {tgt : Nat} (hF : lt_F X cc own nL R) (hd : decode cc pc = .ok (.tableswitch dflt lo hi offs, len)) (ha : ¬ x.toInt < lo) (hb : ¬ hi < x.toInt) (ho : offs[(x.toInt - lo).toNat]? = some off) (ht : (pc : Int) + off = (tgt : Int)) (kk : lt_J X ce sl σ w tgt lv st) : lt_J X ce sl σ w pc lv (.int x :: st) := by
  obtain ⟨p, l, e, R', s, m, args, below, meth, c, D, gA, s0, nL', Q⟩ := X
  intro H locs ls h1 h2 h3 h4
  exact lv_tableIn hF.1 hF.2.1 hd ha hb ho ht (kk H locs ls h1 h2 h3 h4)
theorem jr_tableOut {dflt lo hi : Int} {offs : Array Int} {len : Nat} {x : Int32} {tgt : Nat} (hF : lt_F X cc own nL R) (hd : decode cc pc = .ok (.tableswitch dflt lo hi offs, len)) (h : x.toInt < lo ∨ hi < x.toInt) (ht : (pc : Int) + dflt = (tgt : Int)) (kk : lt_J X ce sl σ w tgt lv st) : lt_J X ce sl σ w pc lv (.int x :: st) := by
  obtain ⟨p, l, e, R', s, m, args, below, meth, c, D, gA, s0, nL', Q⟩ := X
  intro H locs ls h1 h2 h3 h4
  exact lv_tableOut hF.1 hF.2.1 hd h ht (kk H locs ls h1 h2 h3 h4)
theorem jr_lookup {dflt : Int} {ps : Array (Int × Int)} {len : Nat} {x : Int32} {off : Int} {tgt : Nat} (hF : lt_F X cc own nL R) (hd : decode cc pc = .ok (.lookupswitch dflt ps, len)) (hp : (ps.toList.zip (ps.toList.drop 1)).all (fun (a, next) => a.1 < next.1) = true) (ho : Op.lookupswitch.offset ps.toList dflt x.toInt = off) (ht : (pc : Int) + off = (tgt : Int)) (kk : lt_J X ce sl σ w tgt lv st) : lt_J X ce sl σ w pc lv (.int x :: st) := by
  obtain ⟨p, l, e, R', s, m, args, below, meth, c, D, gA, s0, nL', Q⟩ := X
  intro H locs ls h1 h2 h3 h4
  exact lv_lookup hF.1 hF.2.1 hd hp ho ht (kk H locs ls h1 h2 h3 h4)
theorem lt_swd {x : Int32} {lo hi : Int} (h : ∀ k : Int, lo ≤ k → k ≤ hi → ¬ x = Int32.ofInt k) : x.toInt < lo ∨ hi < x.toInt := by
  by_cases c : x.toInt < lo ∨ hi < x.toInt
  · exact c
  · exact absurd (Int32.ofInt_toInt x).symm (h x.toInt (by omega) (by omega))
theorem jr_letW {e : lt_W} {b : lt_W → Option α} (hf : lt_let e b = some r) (kk : ∀ w1 : lt_W, b w1 = some r → lt_J X ce sl σ w1 pc lv st) : lt_J X ce sl σ e pc lv st := kk e hf
theorem jr_letI {e : Int32} {b : Int32 → Option α} (hf : lt_let e b = some r) (kk : ∀ x1 : Int32, b x1 = some r → lt_J X ce sl σ w pc lv (.int x1 :: st)) : lt_J X ce sl σ w pc lv (.int e :: st) := kk e hf
theorem jr_letL {e : Int64} {b : Int64 → Option α} (hf : lt_let e b = some r) (kk : ∀ x1 : Int64, b x1 = some r → lt_J X ce sl σ w pc lv (.long x1 :: st)) : lt_J X ce sl σ w pc lv (.long e :: st) := kk e hf
end LT3
section LT4
variable {X : lt_X} {cc : ByteArray} {own : String} {nL : Nat} {R : Room} {ce sl : Nat} {σ : lt_S} {w : lt_W} {pc : Nat} {lv : List (Nat × Value)} {st : List Value}
/-- the end of a method: its answer v, the world behind it -/
def lt_Qc (D : va_G) (gA : Nat → ClassId) (s0 : State) (σ : lt_S) (v : Option Value) (w : lt_W) : Array Value → State → Outcome → State → Prop := fun _ _ o t => o = .returned v ∧ lt_H D gA s0.heap.size σ w t.heap ∧ ∀ q : Nat, q < s0.heap.size → t.heap[q]? = s0.heap[q]?
def lt_E (X : lt_X) (ce sl : Nat) (σ : lt_S) (ret : Option FieldType) (v : Option Value) (w : lt_W) : Prop := match X with
  | (_, _, _, _, s, _, args, below, meth, _, D, gA, s0, _, Q) => meth.sig.returnType = ret ∧ Q = MQ below (lt_Qc D gA s0 σ v w) args s ce sl (fun q => s0.heap.size ≤ q)
theorem jr_ireturn {v : Int32} (hF : lt_F X cc own nL R) (hE : lt_E X ce sl σ (some .int) (some (.int v)) w) (hd : decode cc pc = .ok (.ireturn, 1)) : lt_J X ce sl σ w pc lv [.int v] := by
  obtain ⟨p, l, e, R', s, m, args, below, meth, c, D, gA, s0, nL', Q⟩ := X
  obtain ⟨hr, hQ⟩ := hE
  intro H locs ls h1 h2 h3 h4
  rw [hQ]
  exact W.iret hF.1 hF.2.1 hr (fun t ht _ => ⟨rfl, by rw [ht]; exact h1, fun q hq => by rw [ht]; exact h2 q hq⟩) h3 hd hF.2.2.2.2.2.2.1
theorem jr_zreturn {v : Int32} (hF : lt_F X cc own nL R) (hE : lt_E X ce sl σ (some .boolean) (some (.int v)) w) (hv : v = 0 ∨ v = 1) (hd : decode cc pc = .ok (.ireturn, 1)) : lt_J X ce sl σ w pc lv [.int v] := by
  obtain ⟨p, l, e, R', s, m, args, below, meth, c, D, gA, s0, nL', Q⟩ := X
  obtain ⟨hr, hQ⟩ := hE
  intro H locs ls h1 h2 h3 h4
  rw [hQ]
  exact W.zret hF.1 hF.2.1 hr (by rcases hv with rfl | rfl <;> rfl) (fun t ht _ => ⟨rfl, by rw [ht]; exact h1, fun q hq => by rw [ht]; exact h2 q hq⟩) h3 hd (hlocks := hF.2.2.2.2.2.2.1)
theorem jr_lreturn {v : Int64} (hF : lt_F X cc own nL R) (hE : lt_E X ce sl σ (some .long) (some (.long v)) w) (hd : decode cc pc = .ok (.lreturn, 1)) : lt_J X ce sl σ w pc lv [.long v] := by
  obtain ⟨p, l, e, R', s, m, args, below, meth, c, D, gA, s0, nL', Q⟩ := X
  obtain ⟨hr, hQ⟩ := hE
  intro H locs ls h1 h2 h3 h4
  rw [hQ]
  exact W.lret hF.1 hF.2.1 hr (fun t ht _ => ⟨rfl, by rw [ht]; exact h1, fun q hq => by rw [ht]; exact h2 q hq⟩) h3 hd (hlocks := hF.2.2.2.2.2.2.1)
theorem jr_return (hF : lt_F X cc own nL R) (hE : lt_E X ce sl σ none none w) (hd : decode cc pc = .ok (.return_, 1)) : lt_J X ce sl σ w pc lv [] := by
  obtain ⟨p, l, e, R', s, m, args, below, meth, c, D, gA, s0, nL', Q⟩ := X
  obtain ⟨hr, hQ⟩ := hE
  intro H locs ls h1 h2 h3 h4
  rw [hQ]
  exact W.vret hF.1 hF.2.1 hr (fun t ht _ => ⟨rfl, by rw [ht]; exact h1, fun q hq => by rw [ht]; exact h2 q hq⟩) h3 hd (hlocks := hF.2.2.2.2.2.2.1)
theorem jr_areturn {a : Nat} {C : String} (hF : lt_F X cc own nL R) (hE : lt_E X ce sl σ (some (.object C)) (some (.ref (lt_z X + a))) w) (hd : decode cc pc = .ok (.areturn, 1)) : lt_J X ce sl σ w pc lv [.ref (lt_z X + a)] := by
  obtain ⟨p, l, e, R', s, m, args, below, meth, c, D, gA, s0, nL', Q⟩ := X
  obtain ⟨hr, hQ⟩ := hE
  intro H locs ls h1 h2 h3 h4
  rw [hQ]
  exact W.aret hF.1 hF.2.1 hr (Or.inl ⟨C, rfl⟩) (Or.inr ⟨_, rfl⟩) (fun t ht _ => ⟨rfl, by rw [ht]; exact h1, fun q hq => by rw [ht]; exact h2 q hq⟩) h3 hd (hlocks := hF.2.2.2.2.2.2.1)
end LT4

/-- the words of a method: its code, and all the tables' words -/
abbrev lt_ws (y : MethodName) (cc : ByteArray) (maxL : Nat) (ret : Option FieldType) : List Cond := Cond.code y cc maxL ret :: lt_tb
theorem lt_good {w : Cond} (h : w ∈ lt_tb) : w ∈ lt_tb ∧ ((w.onTables && w.keeps) = true ∨ ∃ ty, w = .arrayClass ty) := ⟨h, good_of_word (List.mem_filter.mp h).2⟩
theorem lt_goodIn {ws : List Cond} (h : ∀ w ∈ ws, w ∈ lt_tb) : GoodIn lt_tb ws := fun w hw => lt_good (h w hw)
def lt_Pc (D : va_G) (gA : Nat → ClassId) (s0 : State) (av : List Value) (σ : lt_S) (w : lt_W) : Array Value → State → Prop := fun a U => a = av.toArray ∧ lt_H D gA s0.heap.size σ w U.heap ∧ (∀ q : Nat, q < s0.heap.size → U.heap[q]? = s0.heap[q]?) ∧ s0.WarmedH U.vm ∧ va_K D vwCl (lt_tys gA) U ∧ lt_G s0
/-- a method's contract: at the world (σ, w) it answers v, and the world is (σ', w') -/
def lt_C (l : Launch) (D : va_G) (gA : Nat → ClassId) (s0 : State) (y : MethodName) (cc : ByteArray) (maxL : Nat) (ret : Option FieldType) (rm : Room) (av : List Value) (σ : lt_S) (w : lt_W) (σ' : lt_S) (v : Option Value) (w' : lt_W) : Prop := Met l y (lt_ws y cc maxL ret) rm (lt_Pc D gA s0 av σ w) (lt_Qc D gA s0 σ' v w') rm.cells rm.slots (fun q => s0.heap.size ≤ q)
def lt_rm (lev : Nat) : Room := { frames := lev, cells := 0, slots := 0, locals := 64 * lev }
theorem lt_enter {l : Launch} {D : va_G} {gA : Nat → ClassId} {s0 : State} {y : MethodName} {cc : ByteArray} {maxL : Nat} {ret : Option FieldType} {rm : Room} {av : List Value} {σ σ' : lt_S} {w w' : lt_W} {v : Option Value} (hy : plainName y.cls = true) (hlen : (lg_sl av).length ≤ maxL)
    (body : ∀ X : lt_X, lt_Xl X = l → lt_XD X = D → lt_XA X = gA → lt_Xs X = s0 → lt_F X cc y.cls maxL rm → lt_E X rm.cells rm.slots σ' ret v w' → lt_J X 0 0 σ w 0 (lv_args 0 av) []) : lt_C l D gA s0 y cc maxL ret rm av σ w σ' v w' := by
  refine Met.ofW (cc := cc) (maxL := maxL) (ret := ret) hy rfl ?_
  intro p e s m args below meth c s₁ B hml hv
  obtain ⟨rfl, hH, hlow, hW, hK, hG⟩ := hv
  have hts := atoms_spec (ws := lt_ws y cc maxL ret) B.pre
  have hF : lt_F (p, l, e, rm, s, m, av.toArray, below, meth, c, D, gA, s0, maxL, MQ below (lt_Qc D gA s0 σ' v w') av.toArray s rm.cells rm.slots (fun q => s0.heap.size ≤ q)) cc y.cls maxL rm :=
    ⟨B.exec, B.bytes, ⟨hml, rfl, rfl⟩, findClass_of_methodNamed B.named, fun w hw => hts w (List.mem_cons_of_mem _ hw), hK, B.notSynchronized, hW, hG⟩
  have hl := lv_entry av (n := maxL) hlen
  rw [lg_entry_eq]
  exact body (p, l, e, rm, s, m, av.toArray, below, meth, c, D, gA, s0, maxL, MQ below (lt_Qc D gA s0 σ' v w') av.toArray s rm.cells rm.slots (fun q => s0.heap.size ≤ q)) rfl rfl rfl rfl hF ⟨B.returns, rfl⟩ s.heap [] _ hH hlow (fun q hq => by cases hq) hl
/-- a virtual call's words -/
def lt_MV (own : String) (idx ci : Nat) (y : MethodName) (cc : ByteArray) (maxL : Nat) (ret : Option FieldType) (n : Nat) : Prop := ∃ (T : u_T) (N : Nat), vwCl[ci]? = some (y.cls, T, N) ∧ (Cond.methodLink own idx y ∈ lt_tb ∧ Cond.instanceMethod y ∈ lt_tb ∧ Cond.selects y.cls y y ∈ lt_tb ∧ Cond.initialized y.cls ∈ lt_tb ∧ Cond.code y cc maxL ret ∈ lt_tb) ∧ y.cls ≠ "java/lang/invoke/MethodHandle" ∧ y.cls ≠ "java/lang/invoke/VarHandle" ∧ (parseMethodDescriptor y.desc).map (fun d => d.parameters.length) = some n
/-- a static call's words -/
def lt_MS (own : String) (idx : Nat) (y : MethodName) (cc : ByteArray) (maxL : Nat) (ret : Option FieldType) (n : Nat) : Prop := (Cond.methodLink own idx y ∈ lt_tb ∧ Cond.static y ∈ lt_tb ∧ Cond.initialized y.cls ∈ lt_tb ∧ Cond.code y cc maxL ret ∈ lt_tb) ∧ y.cls ≠ "java/lang/invoke/MethodHandle" ∧ y.cls ≠ "java/lang/invoke/VarHandle" ∧ (parseMethodDescriptor y.desc).map (fun d => d.parameters.length) = some n
def lt_MSN (own : String) (idx : Nat) (y : MethodName) (host : String) (cc : ByteArray) (maxL : Nat) (ret : Option FieldType) (n : Nat) : Prop := (Cond.methodLinkNest own idx y host ∈ lw_tbl ∧ Cond.static y ∈ lt_tb ∧ Cond.initialized y.cls ∈ lt_tb ∧ Cond.code y cc maxL ret ∈ lt_tb) ∧ y.cls ≠ "java/lang/invoke/MethodHandle" ∧ y.cls ≠ "java/lang/invoke/VarHandle" ∧ (parseMethodDescriptor y.desc).map (fun d => d.parameters.length) = some n
section LT5
variable {X : lt_X} {cc : ByteArray} {own : String} {nL : Nat} {R : Room} {ce sl : Nat} {σ σ' : lt_S} {w w' : lt_W} {pc : Nat} {lv : List (Nat × Value)} {st : List Value} {y : MethodName} {cy : ByteArray} {maxL n idx ci : Nat} {ret : Option FieldType} {rm : Room} {v : Option Value}
theorem lt_ws_in (hc : Cond.code y cy maxL ret ∈ lt_tb) : ∀ w ∈ lt_ws y cy maxL ret, w ∈ lt_tb := fun w hw => by
  rcases List.mem_cons.mp hw with h | h
  · rw [h]; exact hc
  · exact h
theorem lt_blind {D : va_G} {gA : Nat → ClassId} {s0 : State} {av : List Value} : FrameBlind (lt_Pc D gA s0 av σ w) := fun a U g mk h => by
  obtain ⟨h1, h2, h3, h4, h5, h6⟩ := h
  exact ⟨h1, h2, h3, h4, va_K.moved (u := U) (U := U.calling g mk a) (Vm.Alike.refl U.vm) h5, h6⟩
/-- behind a call -/
theorem lt_back {p : Program} {l : Launch} {e : Env} {s : State} {m : MethodId} {args : Array Value} {below : List Frame} {meth : Method} {c : Code} {D : va_G} {gA : Nat → ClassId} {s0 : State} {nL' : Nat} {Q : State → Prop} {H : Heap} {locs : List Loc} {ls : Array Slot} {st0 : List Value} {a : Array Value} {mc ms : Nat}
    (hr : va_Run p l e R s m args below meth c H locs ce sl mc ms (F0 m pc ls st0) st (lt_Qc D gA s0 σ' v w' a) (fun q => s0.heap.size ≤ q)) (h3 : ∀ q ∈ locs, s0.heap.size ≤ q.base) (h4 : lv_has ls nL' lv)
    (kk : lt_J (p, l, e, R, s, m, args, below, meth, c, D, gA, s0, nL', Q) (ce + mc) (sl + ms) σ' w' (pc + 3) lv (v.toList ++ st)) : W p l e R s m args below meth c H locs ce sl Q (F0 m pc ls st0) := by
  intro T hT X
  obtain ⟨v', st₀, t, T', L, h0, X', hL, e1, e2, ⟨hv, hH, hlow⟩, st⟩ := hr T hT X
  cases hv
  obtain ⟨t2, a1, b1⟩ := kk T'.heap (locs ++ L) ls (by rw [e1]; exact hH) (fun q hq => by rw [e1]; exact hlow q hq) (fun q hq => by
    rcases List.mem_append.mp hq with h | h
    · exact h3 q h
    · exact hL q h) h4 T' rfl X'
  exact ⟨t2, st t2 a1, b1⟩
theorem lt_pre {s U : State} {D : va_G} {gA : Nat → ClassId} {s0 : State} {av : List Value} {H : Heap} (hK : va_K D vwCl (lt_tys gA) s) (hW : s0.WarmedH s.vm) (hG : lt_G s0) (h1 : lt_H D gA s0.heap.size σ w H) (h2 : ∀ q : Nat, q < s0.heap.size → H[q]? = s0.heap[q]?) (hU : U.heap = H) (hw : s.WarmedH U.vm) : lt_Pc D gA s0 av σ w av.toArray U :=
  ⟨rfl, by rw [hU]; exact h1, fun q hq => by rw [hU]; exact h2 q hq, State.WarmedH.trans hW hw, va_K.moved hw.alike hK, hG⟩
theorem jr_callV {a : Nat} {As : List Value} (hF : lt_F X cc own nL R) (hm : lt_MV own idx ci y cy maxL ret n) (hc : lt_C (lt_Xl X) (lt_XD X) (lt_XA X) (lt_Xs X) y cy maxL ret rm (.ref (lt_z X + a) :: As) σ w σ' v w') (ha : lt_c σ a = ci) (hn : As.length = n) (hR : rm.frames + 1 ≤ R.frames ∧ 8 + (maxL + 11) + rm.locals ≤ R.locals) (hf : ce + rm.cells ≤ R.cells ∧ sl + rm.slots ≤ R.slots) (hst : (st.map fun v => v.category).sum ≤ 8) (hd : decode cc pc = .ok (.invokevirtual idx, 3)) (kk : lt_J X (ce + rm.cells) (sl + rm.slots) σ' w' (pc + 3) lv (v.toList ++ st)) : lt_J X ce sl σ w pc lv (As.reverse ++ .ref (lt_z X + a) :: st) := by
  obtain ⟨p, l, e, R', s, m, args, below, meth, c, D, gA, s0, nL', Q⟩ := X
  obtain ⟨hx, hb, ⟨hml, hnl, hRR⟩, hown, hts, hK, hlk, hW, hG⟩ := hF
  obtain ⟨T, N, hcl, ⟨m1, m2, m3, m4, m5⟩, hd1, hd2, hd3⟩ := hm
  subst hRR; subst hnl
  intro H locs ls h1 h2 h3 h4
  have h9 : ci < 99 := Nat.lt_trans (List.getElem?_eq_some_iff.mp hcl).1 (by decide)
  obtain ⟨cell, q1, q2, q3, q4⟩ := lt_obj (lt_H_in h1 ha h9).1 ha hcl
  obtain ⟨hS, hfc, -⟩ := hK.1 ci _ hcl
  have hG2 : GoodIn lt_tb (wsV own idx y.cls y (lt_ws y cy maxL ret)) := lt_goodIn fun w hw => by
    rcases List.mem_append.mp hw with h | h
    · simp only [List.mem_cons, List.not_mem_nil, or_false] at h
      rcases h with rfl | rfl | rfl | rfl
      · exact m1
      · exact m2
      · exact m3
      · exact m4
    · exact lt_ws_in m5 w h
  refine lt_back (va_runV (As := As) (rest := st) (b := s0.heap.size + a) ⟨hx, hb, hml, hown, hts⟩ hc (cwV n hts hG2 rfl rfl rfl ⟨rfl, hd1, hd2, hd3⟩ hR) ⟨lt_blind, ⟨cell, q1, by rw [q3]; rfl, by rw [q2]; exact hfc⟩, fun U hU hw => lt_pre hK hW hG h1 h2 hU hw⟩ rfl hn h4.1 rfl (by simpa using hst) hd hf) h3 h4 kk
theorem jr_callS {As : List Value} (hF : lt_F X cc own nL R) (hm : lt_MS own idx y cy maxL ret n) (hc : lt_C (lt_Xl X) (lt_XD X) (lt_XA X) (lt_Xs X) y cy maxL ret rm As σ w σ' v w') (hn : As.length = n) (hR : rm.frames + 1 ≤ R.frames ∧ 8 + (maxL + 11) + rm.locals ≤ R.locals) (hf : ce + rm.cells ≤ R.cells ∧ sl + rm.slots ≤ R.slots) (hst : (st.map fun v => v.category).sum ≤ 8) (hd : decode cc pc = .ok (.invokestatic idx, 3)) (kk : lt_J X (ce + rm.cells) (sl + rm.slots) σ' w' (pc + 3) lv (v.toList ++ st)) : lt_J X ce sl σ w pc lv (As.reverse ++ st) := by
  obtain ⟨p, l, e, R', s, m, args, below, meth, c, D, gA, s0, nL', Q⟩ := X
  obtain ⟨hx, hb, ⟨hml, hnl, hRR⟩, hown, hts, hK, hlk, hW, hG⟩ := hF
  obtain ⟨⟨m1, m2, m3, m4⟩, hd1, hd2, hd3⟩ := hm
  subst hRR; subst hnl
  intro H locs ls h1 h2 h3 h4
  refine lt_back (va_runS (As := As) (rest := st) ⟨hx, hb, hml, hown, hts⟩ hc ⟨callB_of n hts (lt_goodIn (lt_ws_in m4)) rfl rfl rfl (hts _ m3) (hts _ m1) ⟨hd1, hd2, hd3⟩ hR, hts _ m2⟩ ⟨lt_blind, fun U hU hw => lt_pre hK hW hG h1 h2 hU hw⟩ rfl hn h4.1 rfl (by simpa using hst) hd hf) h3 h4 kk
end LT5

/-- the class of what an array of references holds -/
def lt_et (c : Nat) : Nat := if c = 54 then 8 else if c = 55 then 5 else if c = 56 then 9 else 50
/-- a shape whose references are all there, each of its class -/
def lt_Wt (σ : lt_S) : Prop := (∀ a k, lt_rt (lt_c σ a) k ≠ 99 → lt_rv σ a k = some (lt_r σ a k) ∧ lt_c σ (lt_r σ a k) = lt_rt (lt_c σ a) k) ∧ ∀ a k, 54 ≤ lt_c σ a → lt_c σ a ≤ 57 → k < lt_len σ a → lt_rv σ a k = some (lt_r σ a k) ∧ lt_c σ (lt_r σ a k) = lt_et (lt_c σ a)
section LT6
variable {X : lt_X} {cc : ByteArray} {own : String} {nL : Nat} {R : Room} {ce sl : Nat} {σ : lt_S} {w : lt_W} {pc : Nat} {lv : List (Nat × Value)} {st : List Value} {α : Type} {g : Option α} {r : α}
theorem jr_getRT {a idx ci k cr : Nat} (hF : lt_F X cc own nL R) (hg : lt_GF own idx ci k 2) (hT : lt_Wt σ) (ha : lt_c σ a = ci) (hr : lt_rt ci k = cr) (h9 : (cr == 99) = false) (hd : decode cc pc = .ok (.getfield idx, 3)) (kk : lt_c σ (lt_r σ a k) = cr → lt_J X ce sl σ w (pc + 3) lv (.ref (lt_z X + lt_r σ a k) :: st)) : lt_J X ce sl σ w pc lv (.ref (lt_z X + a) :: st) := by
  have h := hT.1 a k (by rw [ha, hr]; exact fun z => by rw [z] at h9; cases h9)
  rw [ha, hr] at h
  exact jr_getR hF hg ha h.1 hd (kk h.2)
theorem jr_aaload {a c : Nat} {i : Int32} (hF : lt_F X cc own nL R) (hT : lt_Wt σ) (ha : lt_c σ a = c) (q : Nat) (hq : (lt_tys (lt_XA X))[q]? = some (lt_XA X c, lt_ty c)) (hty : (lt_ty c).isReference = true) (h5 : (Nat.ble 54 c && Nat.ble c 57) = true) (hd : decode cc pc = .ok (.aaload, 1)) (hf : lt_ck i (lt_len σ a) g = some r) (kk : lt_c σ (lt_r σ a i.toNatClampNeg) = lt_et c → g = some r → lt_J X ce sl σ w (pc + 1) lv (.ref (lt_z X + lt_r σ a i.toNatClampNeg) :: st)) : lt_J X ce sl σ w pc lv (.int i :: .ref (lt_z X + a) :: st) := by
  obtain ⟨hi, hf⟩ := lt_ckE hf
  have h54 : 54 ≤ c := Nat.le_of_ble_eq_true (by simp only [Bool.and_eq_true] at h5; exact h5.1)
  have h57 : c ≤ 57 := Nat.le_of_ble_eq_true (by simp only [Bool.and_eq_true] at h5; exact h5.2)
  have hw := hT.2 a i.toNatClampNeg (by rw [ha]; exact h54) (by rw [ha]; exact h57) (lt_ilt hi)
  rw [ha] at hw
  have kk := kk hw.2 hf
  obtain ⟨p, l, e, R', s, m, args, below, meth, cd, D, gA, s0, nL', Q⟩ := X
  have e1 : Value.ref (s0.heap.size + lt_r σ a i.toNatClampNeg) = lt_V s0.heap.size σ w a i.toNatClampNeg := by
    rw [lt_V2 (lt_kR ha h54 (by omega)), hw.1]; rfl
  intro H locs ls h1 h2 h3 h4
  refine W.aald hF.1 hF.2.1 (lt_acell h1 ha (by omega) (by omega)) ((hF.2.2.2.2.2.1.2 q _ hq).1 _ _) hty (fun q => by cases q) (by rw [arrV_size]; exact hi) (arrV_read _ _ (lt_ilt hi)) rfl rfl hd ?_
  rw [← e1]
  exact kk H locs ls h1 h2 h3 h4
theorem jr_bastoreB {a : Nat} {i v : Int32} (hF : lt_F X cc own nL R) (ha : lt_c σ a = 52) (hd : decode cc pc = .ok (.bastore, 1)) (hf : lt_ck i (lt_len σ a) g = some r) (kk : g = some r → lt_J X ce sl σ (lt_si w a i.toNatClampNeg (vp_nar .byte v)) (pc + 1) lv st) : lt_J X ce sl σ w pc lv (.int v :: .int i :: .ref (lt_z X + a) :: st) := by
  obtain ⟨hi, hf⟩ := lt_ckE hf
  have kk := kk hf
  obtain ⟨p, l, e, R', s, m, args, below, meth, c, D, gA, s0, nL', Q⟩ := X
  intro H locs ls h1 h2 h3 h4
  exact W.bast hF.1 hF.2.1 (lt_acell h1 ha (by decide) (by decide)) ((hF.2.2.2.2.2.1.2 2 _ rfl).1 _ _) (fun q => by cases q) (by rw [arrV_size]; exact hi) rfl rfl hd fun H' e1 e2 e3 => kk H' _ ls (lt_stored (v := .int (vp_nar .byte v)) h1 ha (by decide) e1 e2 e3 (lt_V_si (lt_kB ha)) (fun _ h => lt_V_si_ne h)) (lt_low e3 h2) (lt_locs h3) h4
theorem jr_bastoreZ {a : Nat} {i v : Int32} (hF : lt_F X cc own nL R) (ha : lt_c σ a = 53) (hd : decode cc pc = .ok (.bastore, 1)) (hf : lt_ck i (lt_len σ a) g = some r) (kk : g = some r → lt_J X ce sl σ (lt_si w a i.toNatClampNeg (vp_nar .boolean v)) (pc + 1) lv st) : lt_J X ce sl σ w pc lv (.int v :: .int i :: .ref (lt_z X + a) :: st) := by
  obtain ⟨hi, hf⟩ := lt_ckE hf
  have kk := kk hf
  obtain ⟨p, l, e, R', s, m, args, below, meth, c, D, gA, s0, nL', Q⟩ := X
  intro H locs ls h1 h2 h3 h4
  exact W.zast hF.1 hF.2.1 (lt_acell h1 ha (by decide) (by decide)) ((hF.2.2.2.2.2.1.2 3 _ rfl).1 _ _) (fun q => by cases q) (by rw [arrV_size]; exact hi) rfl rfl hd fun H' e1 e2 e3 => kk H' _ ls (lt_stored (v := .int (vp_nar .boolean v)) h1 ha (by decide) e1 e2 e3 (lt_V_si (lt_kZ ha)) (fun _ h => lt_V_si_ne h)) (lt_low e3 h2) (lt_locs h3) h4
def lt_min (x y : Int32) : Int32 := if y < x then y else x
def lt_max (x y : Int32) : Int32 := if x < y then y else x
def lt_ush (x y : Int32) : Int32 := (x.toUInt32 >>> (y.toUInt32 &&& Int32.toUInt32 31)).toInt32
theorem jr_iushr {x y : Int32} (hF : lt_F X cc own nL R) (hd : decode cc pc = .ok (.iushr, 1)) (kk : lt_J X ce sl σ w (pc + 1) lv (.int (lt_ush x y) :: st)) : lt_J X ce sl σ w pc lv (.int y :: .int x :: st) := by
  obtain ⟨p, l, e, R', s, m, args, below, meth, c, D, gA, s0, nL', Q⟩ := X
  intro H locs ls h1 h2 h3 h4
  exact lv_iushr hF.1 hF.2.1 hd rfl (kk H locs ls h1 h2 h3 h4)
theorem jr_ldcw {idx : Nat} {v : Int32} (hF : lt_F X cc own nL R) (hd : decode cc pc = .ok (.ldc_w idx, 3)) (hv : Cond.constant own idx v ∈ lt_tb) (kk : lt_J X ce sl σ w (pc + 3) lv (.int v :: st)) : lt_J X ce sl σ w pc lv st := by
  obtain ⟨p, l, e, R', s, m, args, below, meth, c, D, gA, s0, nL', Q⟩ := X
  intro H locs ls h1 h2 h3 h4
  exact lv_ldcw hF.1 hF.2.1 hF.2.2.2.1 (hF.2.2.2.2.1 _ hv) hd (kk H locs ls h1 h2 h3 h4)
def lt_MM (own : String) (idx : Nat) (y : MethodName) (cy : ByteArray) : Prop := Cond.methodLink own idx y ∈ lt_tb ∧ Cond.static y ∈ lt_tb ∧ Cond.initialized "java/lang/Math" ∈ lt_tb ∧ Cond.code y cy 2 (some .int) ∈ lt_tb
theorem jr_min {x y : Int32} {idx : Nat} (hF : lt_F X cc own nL R) (hm : lt_MM own idx Lib.Math.min.name Lib.Math.min.code) (hR : 1 ≤ R.frames ∧ (st.map fun v => v.category).sum + 13 ≤ R.locals ∧ ce ≤ R.cells ∧ sl ≤ R.slots) (hd : decode cc pc = .ok (.invokestatic idx, 3)) (kk : lt_J X ce sl σ w (pc + 3) lv (.int (lt_min x y) :: st)) : lt_J X ce sl σ w pc lv (.int y :: .int x :: st) := by
  obtain ⟨p, l, e, R', s, m, args, below, meth, c, D, gA, s0, nL', Q⟩ := X
  obtain ⟨hx, hb, ⟨hml, hnl, hRR⟩, hown, hts, hK, hlk, hW, hG⟩ := hF
  obtain ⟨m1, m2, m3, m4⟩ := hm
  subst hRR; subst hnl
  intro H locs ls h1 h2 h3 h4
  exact va_mmin hx hb (hml.trans h4.1.symm) hown (hts _ m1) (hts _ m2) (hts _ m3) (hts _ m4) hR.1 hR.2.1 hR.2.2.1 hR.2.2.2 hd (kk H locs ls h1 h2 h3 h4)
theorem jr_max {x y : Int32} {idx : Nat} (hF : lt_F X cc own nL R) (hm : lt_MM own idx Lib.Math.max.name Lib.Math.max.code) (hR : 1 ≤ R.frames ∧ (st.map fun v => v.category).sum + 13 ≤ R.locals ∧ ce ≤ R.cells ∧ sl ≤ R.slots) (hd : decode cc pc = .ok (.invokestatic idx, 3)) (kk : lt_J X ce sl σ w (pc + 3) lv (.int (lt_max x y) :: st)) : lt_J X ce sl σ w pc lv (.int y :: .int x :: st) := by
  obtain ⟨p, l, e, R', s, m, args, below, meth, c, D, gA, s0, nL', Q⟩ := X
  obtain ⟨hx, hb, ⟨hml, hnl, hRR⟩, hown, hts, hK, hlk, hW, hG⟩ := hF
  obtain ⟨m1, m2, m3, m4⟩ := hm
  subst hRR; subst hnl
  intro H locs ls h1 h2 h3 h4
  exact va_mmax hx hb (hml.trans h4.1.symm) hown (hts _ m1) (hts _ m2) (hts _ m3) (hts _ m4) hR.1 hR.2.1 hR.2.2.1 hR.2.2.2 hd (kk H locs ls h1 h2 h3 h4)
def lt_AC (own : String) (idx : Nat) : Prop := Cond.methodLink own idx arraycopyName ∈ lt_tb ∧ Cond.native arraycopyName ∈ lt_tb ∧ Cond.static arraycopyName ∈ lt_tb ∧ Cond.initialized "java/lang/System" ∈ lt_tb
theorem lt_nn (z : Int32) (hz : ¬ z < 0) : z.toInt = (z.toNatClampNeg : Int) := by
  have hz0 : (0 : Int) ≤ z.toInt := by
    have := Int32.not_lt.mp hz
    simpa using Int32.le_iff_toInt_le.mp this
  show z.toInt = ((z.toInt.toNat : Nat) : Int)
  omega
/-- System.arraycopy of an array of a plain type, whatever it holds -/
theorem jr_copy {a b q idx c : Nat} {ty : FieldType} {w' : lt_W} {sp dp n : Int32} (hF : lt_F X cc own nL R) (hm : lt_AC own idx) (ha : lt_c σ a = c) (hb0 : lt_c σ b = c) (h5 : (Nat.ble 50 c && Nat.ble c 53) = true) (hq : (lt_tys (lt_XA X))[q]? = some (lt_XA X c, ty)) (hp : refKind ty = false) (hR : 1 ≤ R.frames ∧ (st.map fun v => v.category).sum + (nativeFrameWords "java/lang/System" "arraycopy" 5 + 11) ≤ R.locals) (hd : decode cc pc = .ok (.invokestatic idx, 3))
    (hf : lt_cc (lt_len σ a) (lt_len σ b) sp dp n g = some r) (hfit : ∀ j, fits ty (lt_V (lt_z X) σ w a j) = true) (hV : lt_V (lt_z X) σ w' b = va_cpy (lt_V (lt_z X) σ w a) (lt_V (lt_z X) σ w b) sp.toNatClampNeg dp.toNatClampNeg n.toNatClampNeg) (hV2 : ∀ x, x ≠ b → lt_V (lt_z X) σ w' x = lt_V (lt_z X) σ w x)
    (kk : g = some r → lt_J X ce sl σ w' (pc + 3) lv st) : lt_J X ce sl σ w pc lv (.int n :: .int dp :: .ref (lt_z X + b) :: .int sp :: .ref (lt_z X + a) :: st) := by
  obtain ⟨⟨g1, g2, g3, g4, g5⟩, hf⟩ := lt_ccE hf
  have kk := kk hf
  have h50 : 50 ≤ c := Nat.le_of_ble_eq_true (by simp only [Bool.and_eq_true] at h5; exact h5.1)
  have h53 : c ≤ 53 := Nat.le_of_ble_eq_true (by simp only [Bool.and_eq_true] at h5; exact h5.2)
  obtain ⟨p, l, e, R', s, m, args, below, meth, cd, D, gA, s0, nL', Q⟩ := X
  obtain ⟨hx, hb, ⟨hml, hnl, hRR⟩, hown, hts, hK, hlk, hW, hG⟩ := hF
  obtain ⟨m1, m2, m3, m4⟩ := hm
  subst hRR; subst hnl
  intro H locs ls h1 h2 h3 h4
  intro T hT X
  have hc0 := lt_acell h1 ha h50 (by omega)
  have hc1 := lt_acell h1 hb0 h50 (by omega)
  obtain ⟨-, k0, hk0, cm0, hkk0⟩ := (hK.2 q _ hq).1 (lt_len σ a) (lt_V s0.heap.size σ w a)
  obtain ⟨-, k1, hk1, cm1, hkk1⟩ := (hK.2 q _ hq).1 (lt_len σ b) (lt_V s0.heap.size σ w b)
  obtain ⟨vm', X', step⟩ := X.arraycopy hx hown (hts _ m1) (hts _ m2) (hts _ m3) (hts _ m4) (src := s0.heap.size + a) (dst := s0.heap.size + b) (cs := arrV (gA c) (lt_len σ a) (lt_V s0.heap.size σ w a)) (cd := arrV (gA c) (lt_len σ b) (lt_V s0.heap.size σ w b)) (srcPos := sp) (destPos := dp) (n := n) (by rw [hT]; exact hc0) (by rw [hT]; exact hc1)
    (fun _ h => by cases h) (fun _ h => by cases h) (fun h => by cases h) (fun h => by cases h) hk0 hk1 hkk0 hkk1 (by simp [hp]) g1 g2 g3
    (by rw [lt_nn sp g1, lt_nn n g3, arrV_size]; omega)
    (by rw [lt_nn dp g2, lt_nn n g3, arrV_size]; omega)
    (fun vm₁ _ i hi => by
      have e : (arrV (gA c) (lt_len σ a) (lt_V s0.heap.size σ w a)).slots.getD (sp.toNatClampNeg + i) .null = lt_V s0.heap.size σ w a (sp.toNatClampNeg + i) := by
        rw [Array.getD_eq_getD_getElem?, arrV_read _ _ (by omega)]
        rfl
      have e2 : ∀ j, ∃ z : Int32 ⊕ Int64, lt_V s0.heap.size σ w a j = (match z with | .inl x => .int x | .inr x => .long x) := fun j => by
        unfold lt_V lt_fv
        by_cases t0 : lt_k (lt_c σ a) j = 0
        · exact ⟨.inl (w.1 a j), by rw [if_pos t0]⟩
        · by_cases t1 : lt_k (lt_c σ a) j = 1
          · exact ⟨.inr (w.2 a j), by rw [if_neg t0, if_pos t1]⟩
          · refine absurd ?_ t1
            rw [ha] at t0 t1 ⊢
            unfold lt_k at t0 t1 ⊢
            rw [if_neg (by omega)] at t0 t1 ⊢
            by_cases c51 : c = 51
            · rw [if_pos c51]
            · rw [if_neg c51, if_pos (by omega)] at t0
              exact absurd rfl t0
      refine ⟨?_, ?_⟩
      · rw [e]
        exact hfit _
      · rw [e]
        obtain ⟨z, hz⟩ := e2 (sp.toNatClampNeg + i)
        rw [hz]
        cases z <;> exact trivial)
    (g := F0 m pc ls (.int n :: .int dp :: .ref (s0.heap.size + b) :: .int sp :: .ref (s0.heap.size + a) :: st)) rfl (by rw [hml]; exact h4.1) (rest := st) rfl (by rw [hb]; exact hd) hR.1 (by show 2 * 0 + _ + _ ≤ _; have := hR.2; omega)
  have e1 : copied (arrV (gA c) (lt_len σ a) (lt_V s0.heap.size σ w a)) (arrV (gA c) (lt_len σ b) (lt_V s0.heap.size σ w b)) sp dp n = arrV (gA c) (lt_len σ b) (lt_V s0.heap.size σ w' b) := by
    rw [show lt_V s0.heap.size σ w' b = _ from hV]
    exact va_copied (fun z => z) (gA c) (gA c) (lt_V s0.heap.size σ w a) (lt_V s0.heap.size σ w b) g4
  rw [e1] at X' step
  have hl : s0.heap.size + b < H.size := (Array.getElem?_eq_some_iff.mp hc1).1
  have hheap : ((T.setVm vm').setCell (s0.heap.size + b) (arrV (gA c) (lt_len σ b) (lt_V s0.heap.size σ w' b))).heap = H.setIfInBounds (s0.heap.size + b) (arrV (gA c) (lt_len σ b) (lt_V s0.heap.size σ w' b)) := by rw [← hT]; rfl
  have oq : ∀ q : Nat, q ≠ s0.heap.size + b → (H.setIfInBounds (s0.heap.size + b) (arrV (gA c) (lt_len σ b) (lt_V s0.heap.size σ w' b)))[q]? = H[q]? := fun q hq => by simp [Array.getElem?_setIfInBounds, Ne.symm hq]
  obtain ⟨t, a1, b1⟩ := kk _ _ ls (lt_H_upd (a := b) h1 (by simp) oq (lt_at_arr hb0 h50 (by simp [Array.getElem?_setIfInBounds, hl])) hV2) (lt_low oq h2) (fun q hq => by
      rcases List.mem_append.mp hq with h | h
      · exact h3 q h
      · obtain ⟨z, -, hz⟩ := List.mem_map.mp h
        rw [← hz]
        exact Nat.le_add_right _ _) h4 _ hheap X'
  exact ⟨t, step t a1, b1⟩
theorem jr_copyI {a b idx : Nat} {sp dp n : Int32} (hF : lt_F X cc own nL R) (hm : lt_AC own idx) (ha : lt_c σ a = 50) (hb : lt_c σ b = 50) (hR : 1 ≤ R.frames ∧ (st.map fun v => v.category).sum + (nativeFrameWords "java/lang/System" "arraycopy" 5 + 11) ≤ R.locals) (hd : decode cc pc = .ok (.invokestatic idx, 3)) (hf : lt_cc (lt_len σ a) (lt_len σ b) sp dp n g = some r) (kk : g = some r → lt_J X ce sl σ (lt_ci w a b sp.toNatClampNeg dp.toNatClampNeg n.toNatClampNeg) (pc + 3) lv st) : lt_J X ce sl σ w pc lv (.int n :: .int dp :: .ref (lt_z X + b) :: .int sp :: .ref (lt_z X + a) :: st) := by
  refine jr_copy (q := 0) hF hm ha hb rfl rfl rfl hR hd hf (fun j => by rw [lt_V0 (lt_kI ha)]; rfl) ?_ (fun x hx => ?_) kk
  · funext j
    rw [lt_V0 (lt_kI hb)]
    unfold va_cpy
    by_cases h : dp.toNatClampNeg ≤ j ∧ j < dp.toNatClampNeg + n.toNatClampNeg
    · rw [if_pos h, lt_V0 (lt_kI ha)]; simp [lt_gi, lt_ci, h]
    · rw [if_neg h, lt_V0 (lt_kI hb)]; simp [lt_gi, lt_ci, h]
  · funext j; simp [lt_V, lt_fv, lt_ci, hx]
theorem jr_copyL {a b idx : Nat} {sp dp n : Int32} (hF : lt_F X cc own nL R) (hm : lt_AC own idx) (ha : lt_c σ a = 51) (hb : lt_c σ b = 51) (hR : 1 ≤ R.frames ∧ (st.map fun v => v.category).sum + (nativeFrameWords "java/lang/System" "arraycopy" 5 + 11) ≤ R.locals) (hd : decode cc pc = .ok (.invokestatic idx, 3)) (hf : lt_cc (lt_len σ a) (lt_len σ b) sp dp n g = some r) (kk : g = some r → lt_J X ce sl σ (lt_cl w a b sp.toNatClampNeg dp.toNatClampNeg n.toNatClampNeg) (pc + 3) lv st) : lt_J X ce sl σ w pc lv (.int n :: .int dp :: .ref (lt_z X + b) :: .int sp :: .ref (lt_z X + a) :: st) := by
  refine jr_copy (q := 1) hF hm ha hb rfl rfl rfl hR hd hf (fun j => by rw [lt_V1 (lt_kL ha)]; rfl) ?_ (fun x hx => ?_) kk
  · funext j
    rw [lt_V1 (lt_kL hb)]
    unfold va_cpy
    by_cases h : dp.toNatClampNeg ≤ j ∧ j < dp.toNatClampNeg + n.toNatClampNeg
    · rw [if_pos h, lt_V1 (lt_kL ha)]; simp [lt_gl, lt_cl, h]
    · rw [if_neg h, lt_V1 (lt_kL hb)]; simp [lt_gl, lt_cl, h]
  · funext j; simp [lt_V, lt_fv, lt_cl, hx]
end LT6
