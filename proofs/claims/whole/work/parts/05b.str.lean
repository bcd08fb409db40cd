theorem lt_eqint {a0 : Array Value} {s0 : State} {t : Term} {v : Int32} (h : (Cond.eq t (.int v)).before a0 s0 = true) : t.eval a0 s0 none [] s0 = some (.int v) := by
  cases ht : t.eval a0 s0 none [] s0 with
  | none => simp [Cond.before, Cond.holds, Cond.value, ht] at h
  | some x =>
    cases x <;> simp [Cond.before, Cond.holds, Cond.value, ht, Term.eval] at h ⊢
    all_goals first | exact h | skip

def lt_sT (i : Nat) : Term := if i = 0 then .string "LoafTable$Tokens" 77 else .string "LoafTableModel" 190
def lt_slens : List Nat := [126, 127]
def lt_sbyt : List (List Int32) := [[111, 100, 100, 115, 32, 114, 101, 115, 111, 108, 118, 101, 32, 112, 114, 101, 115, 115, 32, 108, 111, 97, 102, 32, 115, 108, 105, 99, 101, 115, 32, 103, 117, 101, 115, 116, 32, 119, 105, 115, 104, 32, 98, 101, 97, 114, 115, 32, 100, 101, 97, 114, 32, 115, 116, 97, 121, 115, 32, 101, 110, 100, 32, 98, 117, 116, 116, 101, 114, 32, 100, 97, 121, 32, 99, 117, 116, 32, 115, 111, 117, 112, 32, 98, 97, 107, 101, 32, 97, 110, 121, 32, 119, 104, 101, 110, 32, 116, 104, 101, 114, 101, 32, 104, 117, 110, 103, 114, 121, 32, 98, 114, 101, 97, 100, 32, 108, 111, 111, 112, 32, 115, 116, 111, 112, 32], [32, 111, 100, 100, 115, 32, 114, 101, 115, 111, 108, 118, 101, 32, 112, 114, 101, 115, 115, 32, 108, 111, 97, 102, 32, 115, 108, 105, 99, 101, 115, 32, 103, 117, 101, 115, 116, 32, 98, 117, 116, 116, 101, 114, 32, 119, 105, 115, 104, 32, 98, 101, 97, 114, 115, 32, 100, 101, 97, 114, 32, 115, 116, 97, 121, 115, 32, 100, 97, 121, 32, 99, 117, 116, 32, 115, 111, 117, 112, 32, 98, 97, 107, 101, 32, 97, 110, 121, 32, 119, 104, 101, 110, 32, 108, 111, 111, 112, 32, 101, 110, 100, 32, 115, 116, 111, 112, 32, 116, 104, 101, 114, 101, 32, 104, 117, 110, 103, 114, 121, 32, 98, 114, 101, 97, 100, 32]]
/-- how long a text is, and its sign at a place -/
def lt_sm (i : Nat) : Nat := lt_slens.getD i 0
def lt_sn (i : Nat) : Int32 := Int32.ofNat (lt_sm i)
def lt_sc (i k : Nat) : Int32 := (lt_sbyt.getD i []).getD k 0
/-- where a text lies -/
def lt_sa (s0 : State) (i : Nat) : Nat := match (lt_sT i).eval #[] s0 none [] s0 with
  | some (.ref a) => a
  | _ => 0
theorem lt_sT_args (i : Nat) (a b : Array Value) (s : State) : (lt_sT i).eval a s none [] s = (lt_sT i).eval b s none [] s := by
  unfold lt_sT
  by_cases h : i = 0
  · rw [if_pos h]; rfl
  · rw [if_neg h]; rfl
abbrev lt_fl : List Cond := flatC (Jvm.Cond.and given_1 narrow_1)
abbrev lt_se (i j : Nat) : Cond := Cond.eq (.elem (.field (lt_sT i) "java/lang/String" "value" "[B") (.int (Int32.ofNat j))) (.int ((lt_sbyt.getD i []).getD j 0))
set_option maxRecDepth 100000 in
theorem lt_sel0 : (lt_fl.drop 52).take 126 = (List.range 126).map (lt_se 0) := by decide +kernel
set_option maxRecDepth 100000 in
theorem lt_sel1 : (lt_fl.drop 182).take 127 = (List.range 127).map (lt_se 1) := by decide +kernel
theorem lt_sel : ∀ i, i < 2 → ∀ j, j < lt_slens.getD i 0 → lt_se i j ∈ lt_fl := by
  intro i hi j hj
  rcases (show i = 0 ∨ i = 1 by omega) with rfl | rfl
  · exact List.mem_of_mem_drop (List.mem_of_mem_take (by rw [lt_sel0]; exact List.mem_map.mpr ⟨j, List.mem_range.mpr hj, rfl⟩))
  · exact List.mem_of_mem_drop (List.mem_of_mem_take (by rw [lt_sel1]; exact List.mem_map.mpr ⟨j, List.mem_range.mpr hj, rfl⟩))
set_option maxRecDepth 100000 in
theorem lt_sfl : ∀ i, i < 2 → Cond.exactly (lt_sT i) "java/lang/String" ∈ flatC (Jvm.Cond.and given_1 narrow_1) ∧ Cond.eq (.field (lt_sT i) "java/lang/String" "coder" "B") (.int 0) ∈ flatC (Jvm.Cond.and given_1 narrow_1) ∧ Cond.arrayOf (.field (lt_sT i) "java/lang/String" "value" "[B") .byte ∈ flatC (Jvm.Cond.and given_1 narrow_1) ∧ Cond.eq (.length (.field (lt_sT i) "java/lang/String" "value" "[B")) (.int (Int32.ofNat (lt_slens.getD i 0))) ∈ flatC (Jvm.Cond.and given_1 narrow_1) := by decide +kernel
set_option maxRecDepth 100000 in
theorem lt_sne : Cond.not (Cond.eq (lt_sT 0) (lt_sT 1)) ∈ flatC (Jvm.Cond.and given_1 narrow_1) := by decide +kernel
set_option maxRecDepth 100000 in
theorem lt_scs : Cond.eq (.static "java/lang/String" "COMPACT_STRINGS" "Z") (.int 1) ∈ flatC (Jvm.Cond.and given_1 narrow_1) ∧ Cond.isRef (.static "jdk/internal/util/Preconditions" "SIOOBE_FORMATTER" "Ljava/util/function/BiFunction;") ∈ flatC (Jvm.Cond.and given_1 narrow_1) := by decide +kernel
abbrev lt_sA (s0 : State) : Nat → Prop := fun q => s0.heap.size ≤ q
theorem lt_strs {s0 : State} (hG : lt_G s0) : ∃ adV : Nat → Nat, vk_S 2 lt_slens lt_sbyt (lt_sa s0) adV (lt_sA s0) s0 s0.heap ∧ vk_R "LoafTable$Tokens" 77 "odds resolve press loaf slices guest wish bears dear stays end butter day cut soup bake any when there hungry bread loop stop " (lt_sa s0 0) s0 ∧ vk_R "LoafTableModel" 190 " odds resolve press loaf slices guest butter wish bears dear stays day cut soup bake any when loop end stop there hungry bread " (lt_sa s0 1) s0 ∧ va_Z "java/lang/String" "COMPACT_STRINGS" "Z" (.int 1) (lt_sA s0) s0 s0.heap ∧ va_Zq "jdk/internal/util/Preconditions" "SIOOBE_FORMATTER" "Ljava/util/function/BiFunction;" (lt_sA s0) s0 s0.heap := by
  obtain ⟨a0, hn, hw⟩ := hG
  have hs := flat_of_before _ hn
  have hA : ∀ a : Nat, a < s0.heap.size → ¬ lt_sA s0 a := fun a h => Nat.not_le.mpr h
  obtain ⟨adK, adV, hS, hev⟩ := vk_Sof (N := 2) (tm := lt_sT) (len := lt_slens) (byt := lt_sbyt) (A := lt_sA s0) (args := a0) (s := s0) (by decide) (fun i hi => hs _ (lt_sfl i hi).1) (fun i hi => hs _ (lt_sfl i hi).2.1) (fun i hi => hs _ (lt_sfl i hi).2.2.1) (fun i hi => hs _ (lt_sfl i hi).2.2.2) (fun i hi j hj => hs _ (lt_sel i hi j hj)) (fun i j hi hj hij => by
    rcases (show (i = 0 ∧ j = 1) ∨ (i = 1 ∧ j = 0) by omega) with ⟨rfl, rfl⟩ | ⟨rfl, rfl⟩
    · exact Or.inl (hs _ lt_sne)
    · exact Or.inr (hs _ lt_sne)) hA
  have e : ∀ i, i < 2 → lt_sa s0 i = adK i := fun i hi => by
    unfold lt_sa
    rw [lt_sT_args i #[] a0 s0, hev i hi]
  have hS' : vk_S 2 lt_slens lt_sbyt (lt_sa s0) adV (lt_sA s0) s0 s0.heap := ⟨fun i hi => by rw [e i hi]; exact hS.1 i hi, fun i j hi hj h => hS.2 i j hi hj (by rw [← e i hi, ← e j hj]; exact h)⟩
  have hcs := hs _ lt_scs.1
  refine ⟨adV, hS', vk_R.of (A := a0) (hw _ (List.mem_of_getElem? (i := 728) (by decide +kernel))) (by rw [e 0 (by decide)]; exact hev 0 (by decide)), vk_R.of (A := a0) (hw _ (List.mem_of_getElem? (i := 1526) (by decide +kernel))) (by rw [e 1 (by decide)]; exact hev 1 (by decide)), va_Zof (hw _ (List.mem_of_getElem? (i := 738) (by decide +kernel))) (hw _ (List.mem_of_getElem? (i := 129) (by decide +kernel))) ?_ hA, va_Zqof (hw _ (List.mem_of_getElem? (i := 754) (by decide +kernel))) (hw _ (List.mem_of_getElem? (i := 131) (by decide +kernel))) (hs _ lt_scs.2) hA⟩
  exact lt_eqint hcs
section LT8
variable {X : lt_X} {cc : ByteArray} {own : String} {nL : Nat} {R : Room} {ce sl : Nat} {σ : lt_S} {w : lt_W} {pc : Nat} {lv : List (Nat × Value)} {st : List Value} {α : Type} {g : Option α} {r : α}
theorem jr_ldcS0 (hF : lt_F X cc RX7 nL R) (hd : decode cc pc = .ok (.ldc 77, 2)) (kk : lt_J X ce sl σ w (pc + 2) lv (.ref (lt_sa (lt_Xs X) 0) :: st)) : lt_J X ce sl σ w pc lv st := by
  obtain ⟨p, l, e, R', s, m, args, below, meth, c, D, gA, s0, nL', Q⟩ := X
  obtain ⟨hx, hb, -, hown, hts, hK, hlk, hW, hG⟩ := hF
  obtain ⟨adV, hS, h0, h1', -⟩ := lt_strs hG
  intro H locs ls h1 h2 h3 h4
  exact va_ldcS hx hb hown (vk_R.warm hW h0) hd (kk H locs ls h1 h2 h3 h4)
theorem jr_ldcS1 (hF : lt_F X cc RX12 nL R) (hd : decode cc pc = .ok (.ldc 190, 2)) (kk : lt_J X ce sl σ w (pc + 2) lv (.ref (lt_sa (lt_Xs X) 1) :: st)) : lt_J X ce sl σ w pc lv st := by
  obtain ⟨p, l, e, R', s, m, args, below, meth, c, D, gA, s0, nL', Q⟩ := X
  obtain ⟨hx, hb, -, hown, hts, hK, hlk, hW, hG⟩ := hF
  obtain ⟨adV, hS, h0, h1', -⟩ := lt_strs hG
  intro H locs ls h1 h2 h3 h4
  exact va_ldcS hx hb hown (vk_R.warm hW h1') hd (kk H locs ls h1 h2 h3 h4)
/-- where a text's bytes lie, by what the start gives -/
noncomputable def lt_sv (s0 : State) (hG : lt_G s0) : Nat → Nat := (lt_strs hG).choose
theorem lt_svs {s0 : State} (hG : lt_G s0) : vk_S 2 lt_slens lt_sbyt (lt_sa s0) (lt_sv s0 hG) (lt_sA s0) s0 s0.heap := (lt_strs hG).choose_spec.1
theorem lt_FG (hF : lt_F X cc own nL R) : lt_G (lt_Xs X) := by
  obtain ⟨p, l, e, R', s, m, args, below, meth, c, D, gA, s0, nL', Q⟩ := X
  exact hF.2.2.2.2.2.2.2.2
theorem jr_sget {i idx : Nat} {n d : String} {v : Value} (hF : lt_F X cc own nL R) (hl : Cond.fieldLink own idx "java/lang/String" n d ∈ lt_tb) (hE : va_OF "java/lang/String" n d v (lt_sa (lt_Xs X) i) (lt_sA (lt_Xs X)) (lt_Xs X) (lt_Xs X).heap) (hd : decode cc pc = .ok (.getfield idx, 3)) (kk : lt_J X ce sl σ w (pc + 3) lv (v :: st)) : lt_J X ce sl σ w pc lv (.ref (lt_sa (lt_Xs X) i) :: st) := by
  obtain ⟨p, l, e, R', s, m, args, below, meth, c, D, gA, s0, nL', Q⟩ := X
  obtain ⟨hx, hb, -, hown, hts, hK, hlk, hW, hG⟩ := hF
  intro H locs ls h1 h2 h3 h4
  obtain ⟨cf, kf, fi, f, cell, g1, g2, g3, g4, g5, g6⟩ := (va_OF.moved hW.alike hE).kept (fun a h _ => h2 a h)
  exact W.getf hx hb hown (hts _ hl) g1 g2 g3 g4 g5 rfl rfl hd (kk H locs ls h1 h2 h3 h4)
theorem jr_sgets {idx : Nat} {C n d : String} {v : Value} (hF : lt_F X cc own nL R) (hl : Cond.fieldLink own idx C n d ∈ lt_tb) (hZ : va_Z C n d v (lt_sA (lt_Xs X)) (lt_Xs X) (lt_Xs X).heap) (hd : decode cc pc = .ok (.getstatic idx, 3)) (kk : lt_J X ce sl σ w (pc + 3) lv (v :: st)) : lt_J X ce sl σ w pc lv st := by
  obtain ⟨p, l, e, R', s, m, args, below, meth, c, D, gA, s0, nL', Q⟩ := X
  obtain ⟨hx, hb, -, hown, hts, hK, hlk, hW, hG⟩ := hF
  intro H locs ls h1 h2 h3 h4
  obtain ⟨cf, kf, fi, f, a, cell, g1, g2, g3, g4, g5, g6, g7, g8⟩ := (va_Z.moved hW.alike hZ).kept (fun a h _ => h2 a h)
  exact W.gets hx hb hown (hts _ hl) g1 g2 g3 g4 g5 (fun e => by rw [e] at g6; cases g6) g7 rfl hd (kk H locs ls h1 h2 h3 h4)
theorem jr_salen {t n : Nat} {f : Nat → Value} (hF : lt_F X cc own nL R) (hT : va_T .byte t n f (lt_sA (lt_Xs X)) (lt_Xs X) (lt_Xs X).heap) (hd : decode cc pc = .ok (.arraylength, 1)) (kk : lt_J X ce sl σ w (pc + 1) lv (.int (Int32.ofNat n) :: st)) : lt_J X ce sl σ w pc lv (.ref t :: st) := by
  obtain ⟨p, l, e, R', s, m, args, below, meth, c, D, gA, s0, nL', Q⟩ := X
  obtain ⟨hx, hb, -, hown, hts, hK, hlk, hW, hG⟩ := hF
  intro H locs ls h1 h2 h3 h4
  obtain ⟨cell, g1, g2, g3, g4, g5, g6, g7⟩ := (va_T.moved hW.alike hT).kept (fun a h _ => h2 a h)
  exact W.alen hx hb g1 g2 g5 rfl rfl hd (kk H locs ls h1 h2 h3 h4)
theorem jr_sbald {t n : Nat} {f : Nat → Int32} {i : Int32} (hF : lt_F X cc own nL R) (hT : va_T .byte t n (fun j => .int (f j)) (lt_sA (lt_Xs X)) (lt_Xs X) (lt_Xs X).heap) (hi : vp_in i n) (hd : decode cc pc = .ok (.baload, 1)) (kk : lt_J X ce sl σ w (pc + 1) lv (.int (f i.toNatClampNeg) :: st)) : lt_J X ce sl σ w pc lv (.int i :: .ref t :: st) := by
  obtain ⟨p, l, e, R', s, m, args, below, meth, c, D, gA, s0, nL', Q⟩ := X
  obtain ⟨hx, hb, -, hown, hts, hK, hlk, hW, hG⟩ := hF
  intro H locs ls h1 h2 h3 h4
  obtain ⟨cell, g1, g2, g3, g4, g5, g6, g7⟩ := (va_T.moved hW.alike hT).kept (fun a h _ => h2 a h)
  exact W.bald hx hb g1 g2 g3 (fun z => hi (by rcases z with z | z; exact Or.inl z; exact Or.inr (Nat.le_trans g4 z))) (g6 _ (lt_ilt hi)) rfl rfl hd (kk H locs ls h1 h2 h3 h4)
theorem jr_nreturn {v : Int32} {ty : FieldType} (hF : lt_F X cc own nL R) (hE : lt_E X ce sl σ (some ty) (some (.int v)) w) (hv : narrow ty (.int v) = .int v) (hd : decode cc pc = .ok (.ireturn, 1)) : lt_J X ce sl σ w pc lv [.int v] := by
  obtain ⟨p, l, e, R', s, m, args, below, meth, c, D, gA, s0, nL', Q⟩ := X
  obtain ⟨hr, hQ⟩ := hE
  intro H locs ls h1 h2 h3 h4
  rw [hQ]
  exact W.zret hF.1 hF.2.1 hr hv (fun t ht _ => ⟨rfl, by rw [ht]; exact h1, fun q hq => by rw [ht]; exact h2 q hq⟩) h3 hd (hlocks := hF.2.2.2.2.2.2.1)
theorem jr_i2c {x : Int32} {v : Int32} (hF : lt_F X cc own nL R) (hd : decode cc pc = .ok (.i2c, 1)) (hv : x.toUInt32.toUInt16.toUInt32.toInt32 = v) (kk : lt_J X ce sl σ w (pc + 1) lv (.int v :: st)) : lt_J X ce sl σ w pc lv (.int x :: st) := by
  obtain ⟨p, l, e, R', s, m, args, below, meth, c, D, gA, s0, nL', Q⟩ := X
  intro H locs ls h1 h2 h3 h4
  exact lv_i2c hF.1 hF.2.1 hd hv (kk H locs ls h1 h2 h3 h4)
/-- a call of a String's own method -/
def lt_MQ (own : String) (idx : Nat) (y : MethodName) (cy : ByteArray) (maxL : Nat) (ret : Option FieldType) : Prop := Cond.methodLink own idx y ∈ lt_tb ∧ Cond.instanceMethod y ∈ lt_tb ∧ Cond.selects y.cls y y ∈ lt_tb ∧ Cond.initialized y.cls ∈ lt_tb ∧ Cond.code y cy maxL ret ∈ lt_tb
theorem jr_callQ {i idx n maxL : Nat} {y : MethodName} {cy : ByteArray} {ret : Option FieldType} {As : List Value} {rm : Room} {v : Value} (hF : lt_F X cc own nL R) (hi : i < 2) (hy : y.cls = "java/lang/String") (hm : lt_MQ own idx y cy maxL ret) (hn3 : (parseMethodDescriptor y.desc).map (fun d => d.parameters.length) = some n) (hc : lt_C (lt_Xl X) (lt_XD X) (lt_XA X) (lt_Xs X) y cy maxL ret rm (.ref (lt_sa (lt_Xs X) i) :: As) σ w σ (some v) w) (hn : As.length = n) (hR : rm.frames + 1 ≤ R.frames ∧ 8 + (maxL + 11) + rm.locals ≤ R.locals) (hf : ce + rm.cells ≤ R.cells ∧ sl + rm.slots ≤ R.slots) (hst : (st.map fun v => v.category).sum ≤ 8) (hd : decode cc pc = .ok (.invokevirtual idx, 3)) (kk : lt_J X (ce + rm.cells) (sl + rm.slots) σ w (pc + 3) lv (v :: st)) : lt_J X ce sl σ w pc lv (As.reverse ++ .ref (lt_sa (lt_Xs X) i) :: st) := by
  obtain ⟨p, l, e, R', s, m, args, below, meth, c, D, gA, s0, nL', Q⟩ := X
  obtain ⟨hx, hb, ⟨hml, hnl, hRR⟩, hown, hts, hK, hlk, hW, hG⟩ := hF
  obtain ⟨m1, m2, m3, m4, m5⟩ := hm
  subst hRR; subst hnl
  intro H locs ls h1 h2 h3 h4
  obtain ⟨cell, q1, q2, q3, -⟩ := (va_O.moved hW.alike ((lt_svs hG).1 i hi).1).kept (fun a h _ => h2 a h)
  have hG2 : GoodIn lt_tb (wsV own idx y.cls y (lt_ws y cy maxL ret)) := lt_goodIn fun w hw => by
    rcases List.mem_append.mp hw with h | h
    · simp only [List.mem_cons, List.not_mem_nil, or_false] at h
      rcases h with rfl | rfl | rfl | rfl
      · exact m1
      · exact m2
      · exact m3
      · exact m4
    · exact lt_ws_in m5 w h
  refine lt_back (va_runV (As := As) (rest := st) (b := lt_sa s0 i) ⟨hx, hb, hml, hown, hts⟩ hc (cwV n hts hG2 rfl rfl rfl ⟨rfl, by rw [hy]; decide, by rw [hy]; decide, hn3⟩ hR) ⟨lt_blind, ⟨cell, q1, q2, by rw [hy]; exact q3⟩, fun U hU hw => lt_pre hK hW hG h1 h2 hU hw⟩ rfl hn h4.1 rfl (by simpa using hst) hd hf) h3 h4 kk
end LT8
theorem lt_no {c : Prop} [Decidable c] (h : ¬ c) : (if c then (none : Option Unit) else some ()) = some () := if_neg h
theorem lt_yes {c : Prop} [Decidable c] (h : c) : (if c then some () else (none : Option Unit)) = some () := if_pos h
section LT9
variable {l : Launch} {D : va_G} {gA : Nat → ClassId} {s0 : State} {σ : lt_S} {w : lt_W}
theorem lt_svC (hG : lt_G s0) {i : Nat} (hi : i < 2) : va_OF "java/lang/String" "coder" "B" (.int 0) (lt_sa s0 i) (lt_sA s0) s0 s0.heap ∧ va_OF "java/lang/String" "value" "[B" (.ref (lt_sv s0 hG i)) (lt_sa s0 i) (lt_sA s0) s0 s0.heap ∧ va_T .byte (lt_sv s0 hG i) (lt_slens.getD i 0) (fun j => .int ((lt_sbyt.getD i []).getD j 0)) (lt_sA s0) s0 s0.heap := ((lt_svs hG).1 i hi).2
theorem lt_compact (hG : lt_G s0) : va_Z "java/lang/String" "COMPACT_STRINGS" "Z" (.int 1) (lt_sA s0) s0 s0.heap := (lt_strs hG).choose_spec.2.2.2.1
theorem lt_sioobe (hG : lt_G s0) : va_Zq "jdk/internal/util/Preconditions" "SIOOBE_FORMATTER" "Ljava/util/function/BiFunction;" (lt_sA s0) s0 s0.heap := (lt_strs hG).choose_spec.2.2.2.2
theorem c_coder {i : Nat} (hi : i < 2) : lt_C l D gA s0 yJ0_coder_7d493 cJ0_coder_7d493 1 (some .byte) (lt_rm 1) [.ref (lt_sa s0 i)] σ w σ (some (.int 0)) w := by
  refine lt_enter rfl (Nat.le_of_ble_eq_true rfl) (fun X e1 e2 e3 e4 hF hE => ?_)
  subst e1 e2 e3 e4
  have hG := lt_FG hF
  refine jr_sgets hF (lt_m3 144 rfl rfl) (lt_compact hG) dJ0_coder_7d493_0 ?_
  refine jr_if_eq (tgt := 13) hF dJ0_coder_7d493_3 rfl (lt_no (by decide)) (fun h => by cases h) (fun _ => ?_)
  refine jr_aload_n hF dJ0_coder_7d493_6 0 rfl rfl ?_
  refine jr_sget hF (lt_m8 170 rfl rfl) (lt_svC hG hi).1 dJ0_coder_7d493_7 ?_
  refine jr_goto (tgt := 14) hF dJ0_coder_7d493_10 rfl ?_
  exact jr_nreturn hF hE rfl dJ0_coder_7d493_14
theorem c_isLatin1 {i : Nat} (hi : i < 2) : lt_C l D gA s0 yJ0_isLatin1_aae02 cJ0_isLatin1_aae02 1 (some .boolean) (lt_rm 1) [.ref (lt_sa s0 i)] σ w σ (some (.int 1)) w := by
  refine lt_enter rfl (Nat.le_of_ble_eq_true rfl) (fun X e1 e2 e3 e4 hF hE => ?_)
  subst e1 e2 e3 e4
  have hG := lt_FG hF
  refine jr_sgets hF (lt_m3 144 rfl rfl) (lt_compact hG) dJ0_isLatin1_aae02_0 ?_
  refine jr_if_eq (tgt := 17) hF dJ0_isLatin1_aae02_3 rfl (lt_no (by decide)) (fun h => by cases h) (fun _ => ?_)
  refine jr_aload_n hF dJ0_isLatin1_aae02_6 0 rfl rfl ?_
  refine jr_sget hF (lt_m8 170 rfl rfl) (lt_svC hG hi).1 dJ0_isLatin1_aae02_7 ?_
  refine jr_if_ne (tgt := 17) hF dJ0_isLatin1_aae02_10 rfl (lt_yes (by decide)) (fun h => by cases h) (fun _ => ?_)
  refine jr_iconst (v := 1) hF dJ0_isLatin1_aae02_13 rfl ?_
  refine jr_goto (tgt := 18) hF dJ0_isLatin1_aae02_14 rfl ?_
  exact jr_nreturn hF hE rfl dJ0_isLatin1_aae02_18
theorem c_slen {i : Nat} (hi : i < 2) : lt_C l D gA s0 yJ0_length_8abf5 cJ0_length_8abf5 1 (some .int) (lt_rm 2) [.ref (lt_sa s0 i)] σ w σ (some (.int (lt_sn i))) w := by
  refine lt_enter rfl (Nat.le_of_ble_eq_true rfl) (fun X e1 e2 e3 e4 hF hE => ?_)
  subst e1 e2 e3 e4
  have hG := lt_FG hF
  refine jr_aload_n hF dJ0_length_8abf5_0 0 rfl rfl ?_
  refine jr_sget hF (lt_m8 169 rfl rfl) (lt_svC hG hi).2.1 dJ0_length_8abf5_1 ?_
  refine jr_salen hF (lt_svC hG hi).2.2 dJ0_length_8abf5_4 ?_
  refine jr_aload_n hF dJ0_length_8abf5_5 0 rfl rfl ?_
  refine jr_callQ (As := []) hF hi rfl ⟨(lt_m3 140 rfl rfl), (lt_m3 141 rfl rfl), (lt_m3 142 rfl rfl), (lt_m1 16 rfl rfl), (lt_m3 143 rfl rfl)⟩ (by decide +kernel) (c_coder hi) rfl ⟨Nat.le_of_ble_eq_true rfl, Nat.le_of_ble_eq_true rfl⟩ ⟨Nat.zero_le _, Nat.zero_le _⟩ (Nat.le_of_ble_eq_true rfl) dJ0_length_8abf5_6 ?_
  refine jr_ishr hF dJ0_length_8abf5_9 ?_
  have e : (Int32.ofNat (lt_slens.getD i 0)) >>> ((0 : Int32) &&& 31) = lt_sn i := by
    rcases (show i = 0 ∨ i = 1 by omega) with rfl | rfl <;> decide
  rw [e]
  exact jr_ireturn hF hE dJ0_length_8abf5_10
theorem c_preIndex {x n : Int32} {v : Value} (hv : v = .null ∨ ∃ t, v = .ref t) (h1 : ¬ x < 0) (h2 : x < n) : lt_C l D gA s0 yJ3_checkIndex_8e157 cJ3_checkIndex_8e157 3 (some .int) (lt_rm 1) [.int x, .int n, v] σ w σ (some (.int x)) w := by
  refine lt_enter rfl (by rcases hv with rfl | ⟨t, rfl⟩ <;> exact Nat.le_of_ble_eq_true rfl) (fun X e1 e2 e3 e4 hF hE => ?_)
  subst e1 e2 e3 e4
  have hl : lv_pick (lv_args 0 [.int x, .int n, v]) [0, 1] = [(0, .int x), (1, .int n)] := by rcases hv with rfl | ⟨t, rfl⟩ <;> rfl
  refine jr_sub [0, 1] hl ?_
  refine jr_iload_n hF dJ3_checkIndex_8e157_0 0 rfl rfl ?_
  refine jr_if_lt (tgt := 9) hF dJ3_checkIndex_8e157_1 rfl (lt_no h1) (fun h => by cases h) (fun _ => ?_)
  refine jr_iload_n hF dJ3_checkIndex_8e157_4 0 rfl rfl ?_
  refine jr_iload_n hF dJ3_checkIndex_8e157_5 1 rfl rfl ?_
  refine jr_icmp_lt (tgt := 16) hF dJ3_checkIndex_8e157_6 rfl (lt_yes h2) (fun _ => ?_) (fun h => by cases h)
  refine jr_iload_n hF dJ3_checkIndex_8e157_16 0 rfl rfl ?_
  exact jr_ireturn hF hE dJ3_checkIndex_8e157_17
theorem c_sIndex {x n : Int32} (h1 : ¬ x < 0) (h2 : x < n) : lt_C l D gA s0 yJ0_checkIndex_df160 cJ0_checkIndex_df160 2 none (lt_rm 2) [.int x, .int n] σ w σ none w := by
  refine lt_enter rfl (Nat.le_of_ble_eq_true rfl) (fun X e1 e2 e3 e4 hF hE => ?_)
  subst e1 e2 e3 e4
  have hG := lt_FG hF
  refine jr_iload_n hF dJ0_checkIndex_df160_0 0 rfl rfl ?_
  refine jr_iload_n hF dJ0_checkIndex_df160_1 1 rfl rfl ?_
  have key : ∀ v : Value, (v = .null ∨ ∃ t, v = .ref t) → va_Z "jdk/internal/util/Preconditions" "SIOOBE_FORMATTER" "Ljava/util/function/BiFunction;" v (lt_sA (lt_Xs X)) (lt_Xs X) (lt_Xs X).heap → lt_J X 0 0 σ w 2 [(0, .int x), (1, .int n)] [.int n, .int x] := fun v hv hZ => by
    refine jr_sgets hF (lt_m3 160 rfl rfl) hZ dJ0_checkIndex_df160_2 ?_
    refine jr_cS31 hF ml_J0_1059 (c_preIndex hv h1 h2) ⟨Nat.le_of_ble_eq_true rfl, Nat.le_of_ble_eq_true rfl⟩ (Nat.le_of_ble_eq_true rfl) dJ0_checkIndex_df160_5 ?_
    refine jr_pop hF dJ0_checkIndex_df160_8 rfl ?_
    exact jr_return hF hE dJ0_checkIndex_df160_9
  rcases lt_sioobe hG with h | ⟨t, h⟩
  · exact key _ (Or.inl rfl) h
  · exact key _ (Or.inr ⟨t, rfl⟩) h
theorem c_latin {t N : Nat} {f : Nat → Int32} {x : Int32} (hT : va_T .byte t N (fun j => .int (f j)) (lt_sA s0) s0 s0.heap) (hN : N < 1000) (hx : vp_in x N) (hb : ∀ j, j < N → (f j &&& 255).toUInt32.toUInt16.toUInt32.toInt32 = f j ∧ narrow .char (.int (f j)) = .int (f j)) : lt_C l D gA s0 yJ1_charAt_3b067 cJ1_charAt_3b067 2 (some .char) (lt_rm 3) [.ref t, .int x] σ w σ (some (.int (f x.toNatClampNeg))) w := by
  refine lt_enter rfl (Nat.le_of_ble_eq_true rfl) (fun X e1 e2 e3 e4 hF hE => ?_)
  subst e1 e2 e3 e4
  have h1 : ¬ x < 0 := fun z => hx (Or.inl z)
  have h2 : x < Int32.ofNat N := by
    have hl := lt_ilt hx
    have e1 := lt_nn x h1
    have e2 : (Int32.ofNat N).toInt = N := by
      rw [Int32.toInt_ofNat_of_lt (by omega)]
    rw [Int32.lt_iff_toInt_lt, e1, e2]
    omega
  refine jr_iload_n hF dJ1_charAt_3b067_0 1 rfl rfl ?_
  refine jr_aload_n hF dJ1_charAt_3b067_1 0 rfl rfl ?_
  refine jr_salen hF hT dJ1_charAt_3b067_2 ?_
  refine jr_cS2v hF ml_J1_9 (c_sIndex h1 h2) ⟨Nat.le_of_ble_eq_true rfl, Nat.le_of_ble_eq_true rfl⟩ (Nat.le_of_ble_eq_true rfl) dJ1_charAt_3b067_3 ?_
  refine jr_aload_n hF dJ1_charAt_3b067_6 0 rfl rfl ?_
  refine jr_iload_n hF dJ1_charAt_3b067_7 1 rfl rfl ?_
  refine jr_sbald hF hT hx dJ1_charAt_3b067_8 ?_
  refine jr_sipush (v := 255) hF dJ1_charAt_3b067_9 rfl ?_
  refine jr_iand hF dJ1_charAt_3b067_12 ?_
  refine jr_i2c hF dJ1_charAt_3b067_13 (hb _ (lt_ilt hx)).1 ?_
  exact jr_nreturn hF hE (hb _ (lt_ilt hx)).2 dJ1_charAt_3b067_14
theorem lt_sbOK : ∀ i, i < 2 → ∀ j, j < lt_slens.getD i 0 → (lt_sc i j &&& 255).toUInt32.toUInt16.toUInt32.toInt32 = lt_sc i j ∧ narrow .char (.int (lt_sc i j)) = .int (lt_sc i j) := by decide +kernel
theorem lt_slN : ∀ i, i < 2 → lt_slens.getD i 0 < 1000 := by decide
theorem c_schar {i : Nat} (hi : i < 2) {x : Int32} (hx : vp_in x (lt_sm i)) : lt_C l D gA s0 yJ0_charAt_5068e cJ0_charAt_5068e 2 (some .char) (lt_rm 4) [.ref (lt_sa s0 i), .int x] σ w σ (some (.int (lt_sc i x.toNatClampNeg))) w := by
  refine lt_enter rfl (Nat.le_of_ble_eq_true rfl) (fun X e1 e2 e3 e4 hF hE => ?_)
  subst e1 e2 e3 e4
  have hG := lt_FG hF
  refine jr_aload_n hF dJ0_charAt_5068e_0 0 rfl rfl ?_
  refine jr_callQ (As := []) hF hi rfl ⟨(lt_m3 150 rfl rfl), (lt_m3 151 rfl rfl), (lt_m3 152 rfl rfl), (lt_m1 16 rfl rfl), (lt_m3 153 rfl rfl)⟩ (by decide +kernel) (c_isLatin1 hi) rfl ⟨Nat.le_of_ble_eq_true rfl, Nat.le_of_ble_eq_true rfl⟩ ⟨Nat.zero_le _, Nat.zero_le _⟩ (Nat.le_of_ble_eq_true rfl) dJ0_charAt_5068e_1 ?_
  refine jr_if_eq (tgt := 16) hF dJ0_charAt_5068e_4 rfl (lt_no (by decide)) (fun h => by cases h) (fun _ => ?_)
  refine jr_aload_n hF dJ0_charAt_5068e_7 0 rfl rfl ?_
  refine jr_sget hF (lt_m8 169 rfl rfl) (lt_svC hG hi).2.1 dJ0_charAt_5068e_8 ?_
  refine jr_iload_n hF dJ0_charAt_5068e_11 1 rfl rfl ?_
  refine jr_cS21 hF ml_J0_495 (c_latin (f := lt_sc i) (lt_svC hG hi).2.2 (lt_slN i hi) hx (lt_sbOK i hi)) ⟨Nat.le_of_ble_eq_true rfl, Nat.le_of_ble_eq_true rfl⟩ (Nat.le_of_ble_eq_true rfl) dJ0_charAt_5068e_12 ?_
  exact jr_nreturn hF hE (lt_sbOK i hi _ (lt_ilt hx)).2 dJ0_charAt_5068e_15
end LT9
section LT10
variable {X : lt_X} {cc : ByteArray} {nL : Nat} {R : Room} {σ : lt_S} {w : lt_W} {pc : Nat} {lv : List (Nat × Value)} {st : List Value} {α : Type} {g : Option α} {r : α}
theorem jr_slen0 (hF : lt_F X cc RX7 nL R) (hR : (lt_rm 2).frames + 1 ≤ R.frames ∧ 8 + (1 + 11) + (lt_rm 2).locals ≤ R.locals) (hst : (st.map fun v => v.category).sum ≤ 8) (hd : decode cc pc = .ok (.invokevirtual 79, 3)) (kk : lt_J X 0 0 σ w (pc + 3) lv (.int (lt_sn 0) :: st)) : lt_J X 0 0 σ w pc lv (.ref (lt_sa (lt_Xs X) 0) :: st) :=
  jr_callQ (As := []) hF (by decide) rfl ⟨(lt_m3 136 rfl rfl), (lt_m3 137 rfl rfl), (lt_m3 138 rfl rfl), (lt_m1 16 rfl rfl), (lt_m3 139 rfl rfl)⟩ (by decide +kernel) (c_slen (by decide)) rfl hR ⟨Nat.zero_le _, Nat.zero_le _⟩ hst hd kk
theorem jr_schar0 {x : Int32} (hF : lt_F X cc RX7 nL R) (hR : (lt_rm 4).frames + 1 ≤ R.frames ∧ 8 + (2 + 11) + (lt_rm 4).locals ≤ R.locals) (hst : (st.map fun v => v.category).sum ≤ 8) (hd : decode cc pc = .ok (.invokevirtual 84, 3)) (hf : lt_ck x (lt_sm 0) g = some r) (kk : g = some r → lt_J X 0 0 σ w (pc + 3) lv (.int (lt_sc 0 x.toNatClampNeg) :: st)) : lt_J X 0 0 σ w pc lv (.int x :: .ref (lt_sa (lt_Xs X) 0) :: st) := by
  obtain ⟨hx, hf⟩ := lt_ckE hf
  exact jr_callQ (n := 1) (As := [.int x]) hF (by decide) rfl ⟨(lt_m3 146 rfl rfl), (lt_m3 147 rfl rfl), (lt_m3 148 rfl rfl), (lt_m1 16 rfl rfl), (lt_m3 149 rfl rfl)⟩ (by decide +kernel) (c_schar (by decide) hx) rfl hR ⟨Nat.zero_le _, Nat.zero_le _⟩ hst hd (kk hf)
theorem jr_slen1 (hF : lt_F X cc RX12 nL R) (hR : (lt_rm 2).frames + 1 ≤ R.frames ∧ 8 + (1 + 11) + (lt_rm 2).locals ≤ R.locals) (hst : (st.map fun v => v.category).sum ≤ 8) (hd : decode cc pc = .ok (.invokevirtual 157, 3)) (kk : lt_J X 0 0 σ w (pc + 3) lv (.int (lt_sn 1) :: st)) : lt_J X 0 0 σ w pc lv (.ref (lt_sa (lt_Xs X) 1) :: st) :=
  jr_callQ (As := []) hF (by decide) rfl ⟨(lt_m6 218 rfl rfl), (lt_m3 137 rfl rfl), (lt_m3 138 rfl rfl), (lt_m1 16 rfl rfl), (lt_m3 139 rfl rfl)⟩ (by decide +kernel) (c_slen (by decide)) rfl hR ⟨Nat.zero_le _, Nat.zero_le _⟩ hst hd kk
theorem jr_schar1 {x : Int32} (hF : lt_F X cc RX12 nL R) (hR : (lt_rm 4).frames + 1 ≤ R.frames ∧ 8 + (2 + 11) + (lt_rm 4).locals ≤ R.locals) (hst : (st.map fun v => v.category).sum ≤ 8) (hd : decode cc pc = .ok (.invokevirtual 163, 3)) (hf : lt_ck x (lt_sm 1) g = some r) (kk : g = some r → lt_J X 0 0 σ w (pc + 3) lv (.int (lt_sc 1 x.toNatClampNeg) :: st)) : lt_J X 0 0 σ w pc lv (.int x :: .ref (lt_sa (lt_Xs X) 1) :: st) := by
  obtain ⟨hx, hf⟩ := lt_ckE hf
  exact jr_callQ (n := 1) (As := [.int x]) hF (by decide) rfl ⟨(lt_m6 219 rfl rfl), (lt_m3 147 rfl rfl), (lt_m3 148 rfl rfl), (lt_m1 16 rfl rfl), (lt_m3 149 rfl rfl)⟩ (by decide +kernel) (c_schar (by decide) hx) rfl hR ⟨Nat.zero_le _, Nat.zero_le _⟩ hst hd (kk hf)
end LT10
