/-! NEW CELLS: an array of arrays of ints -/
def lk_row (c : ClassId) (M : Nat) (v : Value) : Cell := { cls := c, slots := Array.replicate M v, vm := .none }
theorem lk_refFits {t : FieldType} (h : t.isReference = true) {v : Value} (hv : v = .null ∨ ∃ a, v = .ref a) : fits t v = true := by
  cases t <;> first | (simp [FieldType.isReference] at h; done) | (rcases hv with rfl | ⟨a, rfl⟩ <;> rfl)
section LMA
variable {E : CtlPost} {e : Env} {d : Bool} {acts : List Action} {u : State}
theorem lk_newArr {c comp : ClassId} {k : Class} {type : FieldType} {len : Nat} {init : Value} (hk : u.vm.classes[c]? = some k) (hkind : k.kind = .array comp type) (hlimit : ¬ len > e.platform.arrayLengthLimit) (hheap : ¬ len * componentBytes type > e.platform.maxHeapBytes) (hfit : fits type init = true) (h1 : u.heap.size < e.platform.maxCells) (h2 : u.slotsUsed + len ≤ e.platform.maxSlots) {Q : Addr → Pre} (hq : ∀ acts', Q u.heap.size d acts' (u.pushCell (lk_row c len init))) : wp (Jvm.newArray c len init) Q E e d acts u := by
  have hfits : ∀ i v, (Array.replicate len init)[i]? = some v → u.fitsSlot c .none i v = true := fun i v hv => by
    rw [Array.getElem?_replicate] at hv
    by_cases z : i < len
    · rw [if_pos z] at hv
      cases hv
      simp [State.fitsSlot, State.slotType?, hk, hkind, hfit]
    · rw [if_neg z] at hv; cases hv
  simp only [Jvm.newArray, Jvm.arrayFits, wp_bind', W.ask, W.ite, hlimit, if_false, wp_pure', W.theClass, hk, hkind, hheap, W.alloc, W.stop, Option.some.injEq, exists_eq_left', Array.size_replicate]
  rw [if_neg (by omega)]
  exact ⟨h1, h2, hfits, hq _⟩
theorem lk_make1 {comp cc : ClassId} {kc : Class} {type : FieldType} {m : Int32} (hkc : u.vm.classes[comp]? = some kc) (hkindc : kc.kind = .array cc type) (hm : ¬ m < 0) (hl2 : ¬ m.toNatClampNeg > e.platform.arrayLengthLimit) (hh2 : ¬ m.toNatClampNeg * componentBytes type > e.platform.maxHeapBytes) (hdf : fits type (defaultValue type) = true) (h1 : u.heap.size < e.platform.maxCells) (h2 : u.slotsUsed + m.toNatClampNeg ≤ e.platform.maxSlots) {Q : Addr → Pre} (hq : ∀ acts', Q u.heap.size d acts' (u.pushCell (lk_row comp m.toNatClampNeg (defaultValue type)))) : wp (multianewarray.make comp [m]) Q E e d acts u := by
  rw [multianewarray.make]
  simp only [wp_bind', W.ite, hm, if_false, wp_pure', W.theClass, hkc, hkindc, Option.some.injEq, exists_eq_left']
  exact lk_newArr hkc hkindc hl2 hh2 hdf h1 h2 hq
end LMA
section LMB
variable {p : Program} {l : Launch} {e : Env} {R : Room} {s : State} {m : MethodId} {args : Array Value} {below : List Frame} {meth : Method} {c : Code} {T : State} {locs : List Loc} {cells slots : Nat}
/-- i of the rows stand -/
def lk_I (p : Program) (l : Launch) (e : Env) (R : Room) (s : State) (m : MethodId) (args : Array Value) (below : List Frame) (meth : Method) (c : Code) (T : State) (locs : List Loc) (cells slots : Nat) (cA comp : ClassId) (N M : Nat) (i : Nat) (U : State) : Prop := (∃ L : List Loc, (∀ q ∈ L, T.heap.size ≤ q.base) ∧ Stand p l e R s m args below meth c U (locs ++ L) (cells + 1 + i) (slots + N + i * M)) ∧ U.vm = T.vm ∧ U.heap.size = T.heap.size + 1 + i ∧ U.heap[T.heap.size]? = some (arrV cA N (fun j => if j < i then .ref (T.heap.size + 1 + j) else .null)) ∧ (∀ j, j < i → U.heap[T.heap.size + 1 + j]? = some (lk_row comp M (.int 0))) ∧ (∀ q, q < T.heap.size → U.heap[q]? = T.heap[q]?) ∧ U.slotsUsed = T.slotsUsed + N + i * M
theorem lk_I0 (X : Stand p l e R s m args below meth c T locs cells slots) (cA comp : ClassId) (N M : Nat) : lk_I p l e R s m args below meth c T locs cells slots cA comp N M 0 (T.pushCell (lk_row cA N .null)) := by
  have h := X.pushed (lk_row cA N .null)
  have hsz : (lk_row cA N .null).slots.size = N := by simp [lk_row]
  rw [hsz] at h
  refine ⟨⟨[], (fun q hq => by cases hq), by simpa using h⟩, rfl, by simp, ?_, fun j hj => absurd hj (Nat.not_lt_zero _), fun q hq => State.heap_pushCell_of_lt _ _ hq, by simp [lk_row]⟩
  rw [State.heap_pushCell_size]
  congr 1
  show lk_row cA N .null = _
  unfold lk_row
  rw [arrV_new]
  congr 1
theorem lk_IS {cA comp : ClassId} {N M i : Nat} {U : State} (h : lk_I p l e R s m args below meth c T locs cells slots cA comp N M i U) : lk_I p l e R s m args below meth c T locs cells slots cA comp N M (i + 1) ((U.pushCell (lk_row comp M (.int 0))).setCell T.heap.size ((arrV cA N (fun j => if j < i then .ref (T.heap.size + 1 + j) else .null)).setSlot i (.ref (T.heap.size + 1 + i)))) := by
  obtain ⟨⟨L, hL, X⟩, h1, h2, h3, h4, h5, h6⟩ := h
  have hlt : T.heap.size < U.heap.size := by omega
  have hc : (U.pushCell (lk_row comp M (.int 0))).heap[T.heap.size]? = some (arrV cA N (fun j => if j < i then .ref (T.heap.size + 1 + j) else .null)) := by rw [State.heap_pushCell_of_lt (h := hlt)]; exact h3
  have hX := (X.pushed (lk_row comp M (.int 0))).stored hc i (.ref (T.heap.size + 1 + i))
  have hsz : (lk_row comp M (.int 0)).slots.size = M := by simp [lk_row]
  rw [hsz] at hX
  refine ⟨⟨L ++ [⟨T.heap.size, i⟩], fun q hq => ?_, ?_⟩, h1, ?_, ?_, fun j hj => ?_, fun q hq => ?_, ?_⟩
  · rcases List.mem_append.mp hq with z | z
    · exact hL q z
    · rw [List.mem_singleton.mp z]; exact Nat.le_refl _
  · rw [← List.append_assoc, Nat.succ_mul, show slots + N + (i * M + M) = slots + N + i * M + M by omega]
    exact hX
  · simp [State.setCell, h2]; omega
  · rw [State.heap_setCell_self hc, arrV_store]
    congr 2
    funext j
    unfold updV
    by_cases z : j = i
    · rw [if_pos z, z, if_pos (Nat.lt_succ_self i)]
    · rw [if_neg z]
      dsimp only
      by_cases y : j < i
      · rw [if_pos y, if_pos (by omega)]
      · rw [if_neg y, if_neg (by omega)]
  · rw [State.heap_setCell_other (show T.heap.size ≠ T.heap.size + 1 + j by omega)]
    by_cases z : j = i
    · rw [z, ← h2]; exact State.heap_pushCell_size _ _
    · have hj' : T.heap.size + 1 + j < U.heap.size := by omega
      rw [State.heap_pushCell_of_lt (h := hj')]; exact h4 j (by omega)
  · have hq' : q < U.heap.size := by omega
    rw [State.heap_setCell_other (Nat.ne_of_gt hq), State.heap_pushCell_of_lt (h := hq')]; exact h5 q hq
  · simp [h6, lk_row, Nat.succ_mul]; omega
/-- the instruction -/
theorem lk_multi (X : Stand p l e R s m args below meth c T locs cells slots) (hexec : p.tables.exec = Jvm.exec) {own : String} {index : Nat} (hown : s.vm.findClass own = some m.cls) (hclink : (Cond.classLink own index "[[I").before args s = true) (hover : (Cond.arrayOver (.array .int)).before args s = true) (harr : (Cond.arrayClass .int).before args s = true) {g : JFrame} (hg : g.method = m) (hdg : decode c.code g.pc = .ok (.multianewarray index 2, 4)) {n k : Int32} {rest : List Value} (hstack : g.stack = .int k :: .int n :: rest) (hn : ¬ n < 0) (hk : ¬ k < 0) (hb1 : n.toNatClampNeg * 4 ≤ 536870912) (hb2 : k.toNatClampNeg * 4 ≤ 536870912) (hcells : cells + (1 + n.toNatClampNeg) ≤ R.cells) (hslots : slots + (n.toNatClampNeg + n.toNatClampNeg * k.toNatClampNeg) ≤ R.slots) : ∃ (U : State) (cA comp : ClassId), s.vm.findClass "[[I" = some cA ∧ s.vm.findClass "[I" = some comp ∧ (∃ vm₁, lk_I p l e R s m args below meth c (T.setVm vm₁) locs cells slots cA comp n.toNatClampNeg k.toNatClampNeg n.toNatClampNeg U) ∧ ∀ target, Steps p.tables e below (U.setTop { g with pc := g.pc + 4, stack := .ref T.heap.size :: rest }) target → Steps p.tables e below (T.setTop g) target := by
  subst hg
  have hpl : e.platform.magicAccessors = ({} : Platform).magicAccessors := by rw [X.admits.platform]
  obtain ⟨comp, cA, kA, hcomp, -, hkA, hkindA, hnameA⟩ := arrayOverA_spec hover
  obtain ⟨comp', kC, cc, hcomp', hkC, hkindC⟩ := Cond.arrayClass_spec harr
  have ecomp : comp' = comp := Option.some.inj (hcomp'.symm.trans hcomp)
  subst ecomp
  obtain ⟨c0, hfc0, hcl⟩ := Cond.classLink_spec hown hclink e.platform hpl
  have hnameA : s.vm.findClass "[[I" = some cA := hnameA
  cases hnameA.symm.trans hfc0
  obtain ⟨hg₁, hwarm₁, hready₁⟩ := State.classEntry (e := e) X.warmed hcl
  generalize T.vm.noted g.method.cls index (.cls cA) = vm₁ at hg₁ hwarm₁ hready₁
  have hal : s.vm.Alike vm₁ := hwarm₁.alike
  obtain ⟨kA₁, hkA₁, heA⟩ := hal.2.2 _ _ hkA
  obtain ⟨kC₁, hkC₁, heC⟩ := hal.2.2 _ _ hkC
  have hkindA₁ : kA₁.kind = .array comp' (.array .int) := by rw [heA]; exact hkindA
  have hkindC₁ : kC₁.kind = .array cc .int := by rw [heC]; exact hkindC
  have X₁ := X.noted hwarm₁
  obtain ⟨hr1, hr2⟩ := X.roomAbove hcells hslots
  have hl1 : ¬ n.toNatClampNeg > e.platform.arrayLengthLimit := by rw [Launch.admits_arrayLengthLimit X.admits]; omega
  have hh1 : ¬ n.toNatClampNeg * componentBytes (.array .int) > e.platform.maxHeapBytes := by
    rw [Launch.admits_maxHeapBytes X.admits]; show ¬ n.toNatClampNeg * 4 > 536870912; omega
  have hl2 : ¬ k.toNatClampNeg > e.platform.arrayLengthLimit := by rw [Launch.admits_arrayLengthLimit X.admits]; omega
  have hh2 : ¬ k.toNatClampNeg * componentBytes .int > e.platform.maxHeapBytes := by
    rw [Launch.admits_maxHeapBytes X.admits]; show ¬ k.toNatClampNeg * 4 > 536870912; omega
  generalize hT1 : T.setVm vm₁ = T₁ at X₁
  have hv1 : T₁.vm = vm₁ := by rw [← hT1]; rfl
  have hz1 : T₁.heap = T.heap := by rw [← hT1]; rfl
  have hu1 : T₁.slotsUsed = T.slotsUsed := by rw [← hT1]; rfl
  let rows : Nat → State := fun i => Nat.rec (T₁.pushCell (lk_row cA n.toNatClampNeg .null)) (fun i U => (U.pushCell (lk_row comp' k.toNatClampNeg (.int 0))).setCell T₁.heap.size ((arrV cA n.toNatClampNeg (fun j => if j < i then .ref (T₁.heap.size + 1 + j) else .null)).setSlot i (.ref (T₁.heap.size + 1 + i)))) i
  have hI : ∀ i, lk_I p l e R s g.method args below meth c T₁ locs cells slots cA comp' n.toNatClampNeg k.toNatClampNeg i (rows i) := fun i => by
    induction i with
    | zero => exact lk_I0 X₁ cA comp' _ _
    | succ i ih => exact lk_IS ih
  refine ⟨rows n.toNatClampNeg, cA, comp', hnameA, hcomp', ⟨vm₁, by rw [hT1]; exact hI _⟩, fun target hrest => ?_⟩
  jvm_step X.here [hexec, hdg]
  simp only [multianewarray.sem, wp_bind', W.resolveClassAt_links (State.method?_setTop g X.here.top) hg₁]
  rw [W.popN, if_neg (by decide)]
  refine ⟨g, State.topJava?_setTop' (s := T.setVm vm₁) g X.here.top, [.int n, .int k], rest, rfl, hstack, ?_⟩
  simp only [List.mapM_cons, List.mapM_nil, wp_bind', wp_pure']
  have eS : ((T.setTop g).setVm vm₁).setTop { g with stack := rest } = T₁.setTop { g with stack := rest } := by
    rw [← hT1]
    show ((T.setVm vm₁).setTop g).setTop _ = _
    rw [State.setTop_setTop]
  rw [eS]
  have hfind : ([k].find? (· < 0)) = none := by simp [hk]
  rw [multianewarray.make]
  simp only [wp_bind', W.ite, hn, if_false, wp_pure', W.theClass, State.vm_setTop, hv1, hkA₁, hkindA₁, Option.some.injEq, exists_eq_left']
  refine lk_newArr (u := T₁.setTop { g with stack := rest }) (k := kA₁) (comp := comp') (type := .array .int) (by rw [State.vm_setTop, hv1]; exact hkA₁) hkindA₁ hl1 hh1 rfl (by show T₁.heap.size < _; rw [hz1]; omega) (by show T₁.slotsUsed + _ ≤ _; rw [hu1]; have := Nat.zero_le (n.toNatClampNeg * k.toNatClampNeg); omega) (fun acts1 => ?_)
  simp only [hfind]
  rw [ite_self, wp_bind', Std.Legacy.Range.forIn_eq_forIn_range']
  have hsz : ([:n.toNatClampNeg] : Std.Legacy.Range).size = n.toNatClampNeg := by simp [Std.Legacy.Range.size]
  rw [hsz]
  show wp (forIn (List.range' 0 n.toNatClampNeg 1) PUnit.unit _) _ _ e _ acts1 _
  refine wp_forIn_inv (fun rest' s' => ∃ i, i ≤ n.toNatClampNeg ∧ rest' = List.range' i (n.toNatClampNeg - i) ∧ s' = (rows i).setTop { g with stack := rest }) _ _ ⟨0, Nat.zero_le _, rfl, rfl⟩ ?_ ?_
  · rintro x rest' s' d' acts' Q' ⟨i, hi, hl, rfl⟩ hnext
    have hlt : i < n.toNatClampNeg := by
      rcases Nat.lt_or_ge i n.toNatClampNeg with h | h
      · exact h
      · rw [show n.toNatClampNeg - i = 0 from by omega] at hl; cases hl
    rw [show n.toNatClampNeg - i = (n.toNatClampNeg - (i + 1)) + 1 from by omega, List.range'_succ] at hl
    obtain ⟨rfl, hrest'⟩ := List.cons.inj hl
    obtain ⟨-, f1, f2, f3, f4, f5, f6⟩ := hI x
    have hmul : x * k.toNatClampNeg + k.toNatClampNeg ≤ n.toNatClampNeg * k.toNatClampNeg := by
      have := Nat.mul_le_mul_right k.toNatClampNeg (show x + 1 ≤ n.toNatClampNeg from hlt)
      rw [Nat.succ_mul] at this; exact this
    simp only [wp_bind']
    refine lk_make1 (kc := kC₁) (cc := cc) (type := .int) (by rw [State.vm_setTop, f1, hv1]; exact hkC₁) hkindC₁ hk hl2 hh2 rfl (by show (rows x).heap.size < _; rw [f2, hz1]; omega) (by show (rows x).slotsUsed + _ ≤ _; rw [f6, hu1]; omega) (fun acts2 => ?_)
    have hlt0 : T₁.heap.size < (rows x).heap.size := by rw [f2]; omega
    simp only [wp_bind', W.writeLoc, wp_pure']
    refine ⟨arrV cA n.toNatClampNeg (fun j => if j < x then .ref (T₁.heap.size + 1 + j) else .null), ?_, fun h => (by cases h), by rw [arrV_size]; exact hlt, ?_, hnext _ _ _ ⟨x + 1, hlt, hrest', ?_⟩⟩
    · show ((rows x).pushCell _).heap[T₁.heap.size]? = _
      rw [State.heap_pushCell_of_lt (h := hlt0)]; exact f3
    · show State.fitsSlot _ cA .none x _ = true
      simp [State.fitsSlot, State.slotType?, f1, hv1, hkA₁, hkindA₁, lk_refFits (t := .array .int) rfl (Or.inr ⟨_, rfl⟩)]
    · show _ = State.setTop (State.setCell (State.pushCell (rows x) _) T₁.heap.size _) _
      have f2' : ∀ g', ((rows x).setTop g').heap.size = T₁.heap.size + 1 + x := fun _ => f2
      rw [f2']; rfl
  · rintro s' d' acts' ⟨i, hi, hl, rfl⟩
    have hiN : i = n.toNatClampNeg := by
      rcases Nat.lt_or_ge i n.toNatClampNeg with h | h
      · rw [show n.toNatClampNeg - i = (n.toNatClampNeg - (i + 1)) + 1 from by omega, List.range'_succ] at hl; cases hl
      · omega
    subst hiN
    obtain ⟨⟨L, -, XF⟩, -⟩ := hI n.toNatClampNeg
    simp only [wp_pure', wp_bind', W.mark, W.pushRef, State.topJava?_setTop' _ XF.here.top, Option.some.injEq, exists_eq_left', State.setTop_setTop, State.heap_setTop, hz1]
    intro acts3
    simp [jvm, XF.here.top]
    exact hrest
end LMB