/-! an array of arrays, as a row -/
theorem lk_arr {c : ClassId} {n : Nat} {f g : Nat → Value} (h : ∀ j, j < n → f j = g j) : arrV c n f = arrV c n g := by
  unfold arrV
  congr 1
  apply Array.ext
  · simp
  · intro i h1 h2
    simp at h1
    simp [h i h1]
theorem lk_over {u U : State} {A B : Array Value} (hvm : u.vm.Alike U.vm) (h : (Cond.arrayOver (.array .int)).before A u = true) : (Cond.arrayOver (.array .int)).before B U = true := by
  obtain ⟨comp, c, k, h1, h2, h3, h4, h5⟩ := arrayOverA_spec h
  obtain ⟨k', hk', he⟩ := hvm.2.2 _ _ h3
  have hi : (U.vm.classes.findIdx? fun (x : Class) => match x.kind with | .array component _ => component == comp | _ => false) = some c := by
    refine (va_idx_bare U.vm comp).symm.trans ?_
    first | rw [hvm.bare_eq] | rw [← hvm.bare_eq]
    exact (va_idx_bare u.vm comp).trans h2
  have hkind : k'.kind = .array comp (.array .int) := by rw [he]; exact h4
  have f1 : U.vm.findClass (FieldType.array .int).toString = some comp := by rw [hvm.findClass]; exact h1
  have f2 : U.vm.findClass ("[" ++ (FieldType.array .int).toString) = some c := by rw [hvm.findClass]; exact h5
  unfold Cond.before Cond.holds
  simp only [Cond.value]
  rw [f1, Option.bind_some]
  refine (congrArg (fun o : Option Nat => (o.bind (fun c => (U.vm.classes[c]?).map fun (k : Class) => match k.kind with | .array _ ty => decide (ty = FieldType.array .int) && decide (U.vm.findClass ("[" ++ (FieldType.array .int).toString) = some c) | _ => false) == some true)) hi).trans ?_
  simp [hk', hkind, f2]
theorem jr_multi {X : lt_X} {cc : ByteArray} {own : String} {nL : Nat} {R : Room} {ce sl : Nat} {w : lt_W} {pc : Nat} {lv : List (Nat × Value)} {st : List Value} {T idx : Nat} (hF : lt_F X cc own nL R) (m1 : Cond.classLink own idx "[[I" ∈ lt_tb) (m2 : Cond.arrayOver (.array .int) ∈ lw_tbl) (m3 : Cond.arrayClass .int ∈ lt_tb) (hz : ly_z w 128) (hr : ce + 22 ≤ R.cells ∧ sl + 189 ≤ R.slots) (hd : decode cc pc = .ok (.multianewarray idx 2, 4)) (kk : lt_J X (ce + 22) (sl + 189) (ly_S 150 T) w (pc + 4) lv (.ref (lt_z X + 128) :: st)) : lt_J X ce sl (ly_S 128 T) w pc lv (.int 8 :: .int 21 :: st) := by
  obtain ⟨p, l, e, R', s, m, args, below, meth, c, D, gA, s0, nL', Q⟩ := X
  obtain ⟨hx, hb, ⟨hml, hnl, hRR⟩, hown, hts, hK, hlk, hW, hG⟩ := hF
  subst hRR
  intro H locs ls h1 h2 h3 h4 S hS XS
  subst hS
  have e21 : (21 : Int32).toNatClampNeg = 21 := by decide
  have e8 : (8 : Int32).toNatClampNeg = 8 := by decide
  obtain ⟨U, cA, comp, hA, hC, ⟨vm₁, ⟨L, hL, XU⟩, f1, f2, f3, f4, f5, f6⟩, hst⟩ := lk_multi XS hx hown (hts _ m1) (lk_over hW.alike (hG.choose_spec.2 _ m2)) (hts _ m3) (g := F0 m pc ls (.int 8 :: .int 21 :: st)) rfl (by rw [hb]; exact hd) (n := 21) (k := 8) (rest := st) rfl (by decide) (by decide) (by decide) (by decide) (by rw [e21]; omega) (by rw [e21, e8]; omega)
  rw [e21, e8] at XU f6
  rw [e21] at f2 f3 f4
  rw [e8] at f4
  have f2 : U.heap.size = S.heap.size + 1 + 21 := f2
  have f3 : U.heap[S.heap.size]? = some (arrV cA 21 (fun j => if j < 21 then .ref (S.heap.size + 1 + j) else .null)) := f3
  have f4 : ∀ j, j < 21 → U.heap[S.heap.size + 1 + j]? = some (lk_row comp 8 (.int 0)) := f4
  have f5 : ∀ q, q < S.heap.size → U.heap[q]? = S.heap[q]? := f5
  have hsz : S.heap.size = s0.heap.size + 128 := h1.1
  have eA : cA = gA 57 := Option.some.inj (hA.symm.trans (lt_arrOf hK 7 rfl).2)
  have eC : comp = gA 50 := Option.some.inj (hC.symm.trans (lt_arrOf hK 0 rfl).2)
  subst eA eC
  rw [hsz] at f2 f3 f4 f5 hst
  have hH : lt_H D gA s0.heap.size (ly_S 150 T) w U.heap := by
    refine ⟨by rw [f2]; rfl, fun a ha => ly_c9 ha, fun a ha => ?_⟩
    have ha : a < 150 := ha
    by_cases z : a < 128
    · exact ly_at (h1.2.2 a z) z (by decide) (f5 _ (by omega))
    · by_cases y : a = 128
      · subst y
        refine lt_at_arr ((ly_c (by decide)).trans (show lr_cl.getD 128 99 = 57 from rfl)) (by decide) ?_
        rw [f3]
        congr 1
      · have hc50 : ∀ a, a < 150 → ¬ a < 129 → lr_cl.getD a 99 = 50 ∧ lr_ln.getD a 0 = 8 := by decide +kernel
        obtain ⟨q1, q2⟩ := hc50 a ha (by omega)
        refine lt_at_arr ((ly_c ha).trans q1) (by decide) ?_
        have f4' := f4 (a - 129) (by omega)
        rw [show s0.heap.size + 128 + 1 + (a - 129) = s0.heap.size + a by omega] at f4'
        rw [f4']
        unfold lk_row
        rw [arrV_new]
        show _ = some (arrV (gA 50) (lr_ln.getD a 0) _)
        rw [q2]
        congr 1
        refine lk_arr fun j hj => ?_
        have hk : lt_k (lt_c (ly_S 150 T) a) j = 0 := by rw [(ly_c ha).trans q1]; rfl
        rw [lt_V0 hk]
        show _ = Value.int (w.1 a j)
        rw [(hz a j (by omega)).1]
  have XU' : Stand p l e R' s m args below meth c U (locs ++ L) (ce + 22) (sl + 189) := by
    have e1 : ce + 1 + 21 = ce + 22 := by omega
    have e2 : sl + 21 + 21 * 8 = sl + 189 := by omega
    rw [e1, e2] at XU
    exact XU
  obtain ⟨t, a1, b1⟩ := kk U.heap (locs ++ L) ls hH (fun q hq => (f5 q (by omega)).trans (h2 q hq)) (fun q hq => by
    rcases List.mem_append.mp hq with z | z
    · exact h3 q z
    · have z' : s0.heap.size + 128 ≤ q.base := by have := hL q z; rw [← hsz]; exact this
      omega) h4 U rfl XU'
  exact ⟨t, hst t a1, b1⟩
