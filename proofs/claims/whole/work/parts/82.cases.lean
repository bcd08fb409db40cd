/-! THE LAW: its rows, its cases -/
theorem ly_F0 : lt_c ly_F 0 = 11 := ly_c (by decide)
theorem ly_F233 : lt_c ly_F 233 = 12 := ly_c (by decide)
def ll_X (X : lt_X) (b L : Nat) (xs : Nat → Int32) : Prop := match X with
  | (_, _, _, _, s, _, _, _, _, _, _, _, s0, _, _) => va_X b L xs s s0.heap ∧ b < s0.heap.size
def ll_v (i : Int32) (L : Nat) : Prop := vp_in i L ∧ vp_in (i + 1) L ∧ vp_in (i + 2) L ∧ vp_in (i + 3) L ∧ vp_in (i + 4) L ∧ vp_in (i + 5) L
theorem ll_cmp (x : Int64) : lg_cmp x x = 0 := by
  unfold lg_cmp
  simp
section LLAW
variable {X : lt_X} {cc : ByteArray} {own : String} {nL : Nat} {R : Room} {ce sl : Nat} {σ : lt_S} {w : lt_W} {pc : Nat} {lv : List (Nat × Value)} {st : List Value} {b L : Nat} {xs : Nat → Int32}
theorem jr_sl {i : Int32} (hF : lt_F X cc own nL R) (hX : ll_X X b L xs) (hin : vp_in i L) (hd : decode cc pc = .ok (.iaload, 1)) (kk : lt_J X ce sl σ w (pc + 1) lv (.int (xs i.toNatClampNeg) :: st)) : lt_J X ce sl σ w pc lv (.int i :: .ref b :: st) := by
  obtain ⟨p, l, e, R', s, m, args, below, meth, c, D, gA, s0, nL', Q⟩ := X
  obtain ⟨⟨scr, q1, q2, q3, q4, q5⟩, hbl⟩ := hX
  intro H locs ls h1 h2 h3 h4
  have hlt : i.toNatClampNeg < L := Nat.not_le.mp fun q => hin (Or.inr q)
  exact W.iald (v := .int (xs i.toNatClampNeg)) hF.1 hF.2.1 ((h2 b hbl).trans q1) q2 q3 (by rw [q4]; exact hin) (q5 _ hlt) rfl rfl hd (kk H locs ls h1 h2 h3 h4)
theorem jr_slen (hF : lt_F X cc own nL R) (hX : ll_X X b L xs) (hd : decode cc pc = .ok (.arraylength, 1)) (kk : lt_J X ce sl σ w (pc + 1) lv (.int (Int32.ofNat L) :: st)) : lt_J X ce sl σ w pc lv (.ref b :: st) := by
  obtain ⟨p, l, e, R', s, m, args, below, meth, c, D, gA, s0, nL', Q⟩ := X
  obtain ⟨⟨scr, q1, q2, q3, q4, q5⟩, hbl⟩ := hX
  intro H locs ls h1 h2 h3 h4
  exact W.alen (n := Int32.ofNat L) hF.1 hF.2.1 ((h2 b hbl).trans q1) q2 (by rw [q4] <;> rfl) rfl rfl hd (kk H locs ls h1 h2 h3 h4)
end LLAW
section LLCASES
variable {X : lt_X} {w : lt_W} {b L : Nat} {xs : Nat → Int32} {i : Int32}
set_option maxRecDepth 100000 in
theorem ll_0 (hF : lt_F X cL_law RL 4 room_1) (hX : ll_X X b L xs) (hv : ll_v i L) (hR : lr_R w) (kk : ∀ w', lr_R w' → lt_J X 255 10777 ly_F w' 1664 [(0, .ref b), (1, .ref (lt_z X + 0)), (2, .ref (lt_z X + 233)), (3, .int i)] []) : lt_J X 255 10777 ly_F w 244 [(0, .ref b), (1, .ref (lt_z X + 0)), (2, .ref (lt_z X + 233)), (3, .int i)] [] := by
  obtain ⟨r, e1⟩ : ∃ r, f_X11_status ly_F 0 w = some r := ⟨_, rfl⟩
  have e2 := (op_status (σ := ly_F) hR).trans e1
  have hR2 := hR
  refine jr_aload_n hF dL_law_244 1 rfl rfl ?_
  show lt_J X 255 10777 ly_F _ 245 [(0, .ref b), (1, .ref (lt_z X + 0)), (2, .ref (lt_z X + 233)), (3, .int i)] [.ref (lt_z X + 0)]
  refine jr_callV (As := []) (st := []) hF ml_L_13 (c_X11_status ly_F0 e1) ly_F0 rfl ⟨Nat.le_of_ble_eq_true rfl, Nat.le_of_ble_eq_true rfl⟩ ⟨Nat.le_of_ble_eq_true rfl, Nat.le_of_ble_eq_true rfl⟩ (Nat.le_of_ble_eq_true rfl) dL_law_245 ?_
  show lt_J X 255 10777 ly_F _ 248 [(0, .ref b), (1, .ref (lt_z X + 0)), (2, .ref (lt_z X + 233)), (3, .int i)] [.int r]
  refine jr_aload_n hF dL_law_248 2 rfl rfl ?_
  show lt_J X 255 10777 ly_F _ 249 [(0, .ref b), (1, .ref (lt_z X + 0)), (2, .ref (lt_z X + 233)), (3, .int i)] [.ref (lt_z X + 233), .int r]
  refine jr_callV (As := []) (st := [.int r]) hF ml_L_17 (c_X12_status ly_F233 e2) ly_F233 rfl ⟨Nat.le_of_ble_eq_true rfl, Nat.le_of_ble_eq_true rfl⟩ ⟨Nat.le_of_ble_eq_true rfl, Nat.le_of_ble_eq_true rfl⟩ (Nat.le_of_ble_eq_true rfl) dL_law_249 ?_
  show lt_J X 255 10777 ly_F _ 252 [(0, .ref b), (1, .ref (lt_z X + 0)), (2, .ref (lt_z X + 233)), (3, .int i)] [.int r, .int r]
  exact jr_icmp_eq (tgt := 1664) (g1 := some ()) (g2 := none) (r := ()) hF dL_law_252 rfl (if_pos rfl) (fun _ => kk _ hR2) (fun z => by cases z)
set_option maxRecDepth 100000 in
theorem ll_1 (hF : lt_F X cL_law RL 4 room_1) (hX : ll_X X b L xs) (hv : ll_v i L) (hR : lr_R w) (kk : ∀ w', lr_R w' → lt_J X 255 10777 ly_F w' 1664 [(0, .ref b), (1, .ref (lt_z X + 0)), (2, .ref (lt_z X + 233)), (3, .int i)] []) : lt_J X 255 10777 ly_F w 257 [(0, .ref b), (1, .ref (lt_z X + 0)), (2, .ref (lt_z X + 233)), (3, .int i)] [] := by
  obtain ⟨r, e1⟩ : ∃ r, f_X11_top ly_F 0 w = some r := ⟨_, rfl⟩
  have e2 := (op_top (σ := ly_F) hR).trans e1
  have hR2 := hR
  refine jr_aload_n hF dL_law_257 1 rfl rfl ?_
  show lt_J X 255 10777 ly_F _ 258 [(0, .ref b), (1, .ref (lt_z X + 0)), (2, .ref (lt_z X + 233)), (3, .int i)] [.ref (lt_z X + 0)]
  refine jr_callV (As := []) (st := []) hF ml_L_18 (c_X11_top ly_F0 e1) ly_F0 rfl ⟨Nat.le_of_ble_eq_true rfl, Nat.le_of_ble_eq_true rfl⟩ ⟨Nat.le_of_ble_eq_true rfl, Nat.le_of_ble_eq_true rfl⟩ (Nat.le_of_ble_eq_true rfl) dL_law_258 ?_
  show lt_J X 255 10777 ly_F _ 261 [(0, .ref b), (1, .ref (lt_z X + 0)), (2, .ref (lt_z X + 233)), (3, .int i)] [.long r]
  refine jr_aload_n hF dL_law_261 2 rfl rfl ?_
  show lt_J X 255 10777 ly_F _ 262 [(0, .ref b), (1, .ref (lt_z X + 0)), (2, .ref (lt_z X + 233)), (3, .int i)] [.ref (lt_z X + 233), .long r]
  refine jr_callV (As := []) (st := [.long r]) hF ml_L_22 (c_X12_top ly_F233 e2) ly_F233 rfl ⟨Nat.le_of_ble_eq_true rfl, Nat.le_of_ble_eq_true rfl⟩ ⟨Nat.le_of_ble_eq_true rfl, Nat.le_of_ble_eq_true rfl⟩ (Nat.le_of_ble_eq_true rfl) dL_law_262 ?_
  show lt_J X 255 10777 ly_F _ 265 [(0, .ref b), (1, .ref (lt_z X + 0)), (2, .ref (lt_z X + 233)), (3, .int i)] [.long r, .long r]
  refine jr_lcmp hF dL_law_265 ?_
  show lt_J X 255 10777 ly_F _ 266 [(0, .ref b), (1, .ref (lt_z X + 0)), (2, .ref (lt_z X + 233)), (3, .int i)] [.int (lg_cmp r r)]
  exact jr_if_eq (tgt := 1664) (g1 := some ()) (g2 := none) (r := ()) hF dL_law_266 rfl (if_pos (ll_cmp r)) (fun _ => kk _ hR2) (fun z => by cases z)
set_option maxRecDepth 100000 in
theorem ll_2 (hF : lt_F X cL_law RL 4 room_1) (hX : ll_X X b L xs) (hv : ll_v i L) (hR : lr_R w) (kk : ∀ w', lr_R w' → lt_J X 255 10777 ly_F w' 1664 [(0, .ref b), (1, .ref (lt_z X + 0)), (2, .ref (lt_z X + 233)), (3, .int i)] []) : lt_J X 255 10777 ly_F w 271 [(0, .ref b), (1, .ref (lt_z X + 0)), (2, .ref (lt_z X + 233)), (3, .int i)] [] := by
  obtain ⟨r, e1⟩ : ∃ r, f_X11_bottom ly_F 0 w = some r := ⟨_, rfl⟩
  have e2 := (op_bottom (σ := ly_F) hR).trans e1
  have hR2 := hR
  refine jr_aload_n hF dL_law_271 1 rfl rfl ?_
  show lt_J X 255 10777 ly_F _ 272 [(0, .ref b), (1, .ref (lt_z X + 0)), (2, .ref (lt_z X + 233)), (3, .int i)] [.ref (lt_z X + 0)]
  refine jr_callV (As := []) (st := []) hF ml_L_23 (c_X11_bottom ly_F0 e1) ly_F0 rfl ⟨Nat.le_of_ble_eq_true rfl, Nat.le_of_ble_eq_true rfl⟩ ⟨Nat.le_of_ble_eq_true rfl, Nat.le_of_ble_eq_true rfl⟩ (Nat.le_of_ble_eq_true rfl) dL_law_272 ?_
  show lt_J X 255 10777 ly_F _ 275 [(0, .ref b), (1, .ref (lt_z X + 0)), (2, .ref (lt_z X + 233)), (3, .int i)] [.long r]
  refine jr_aload_n hF dL_law_275 2 rfl rfl ?_
  show lt_J X 255 10777 ly_F _ 276 [(0, .ref b), (1, .ref (lt_z X + 0)), (2, .ref (lt_z X + 233)), (3, .int i)] [.ref (lt_z X + 233), .long r]
  refine jr_callV (As := []) (st := [.long r]) hF ml_L_26 (c_X12_bottom ly_F233 e2) ly_F233 rfl ⟨Nat.le_of_ble_eq_true rfl, Nat.le_of_ble_eq_true rfl⟩ ⟨Nat.le_of_ble_eq_true rfl, Nat.le_of_ble_eq_true rfl⟩ (Nat.le_of_ble_eq_true rfl) dL_law_276 ?_
  show lt_J X 255 10777 ly_F _ 279 [(0, .ref b), (1, .ref (lt_z X + 0)), (2, .ref (lt_z X + 233)), (3, .int i)] [.long r, .long r]
  refine jr_lcmp hF dL_law_279 ?_
  show lt_J X 255 10777 ly_F _ 280 [(0, .ref b), (1, .ref (lt_z X + 0)), (2, .ref (lt_z X + 233)), (3, .int i)] [.int (lg_cmp r r)]
  exact jr_if_eq (tgt := 1664) (g1 := some ()) (g2 := none) (r := ()) hF dL_law_280 rfl (if_pos (ll_cmp r)) (fun _ => kk _ hR2) (fun z => by cases z)
set_option maxRecDepth 100000 in
theorem ll_3 (hF : lt_F X cL_law RL 4 room_1) (hX : ll_X X b L xs) (hv : ll_v i L) (hR : lr_R w) (kk : ∀ w', lr_R w' → lt_J X 255 10777 ly_F w' 1664 [(0, .ref b), (1, .ref (lt_z X + 0)), (2, .ref (lt_z X + 233)), (3, .int i)] []) : lt_J X 255 10777 ly_F w 285 [(0, .ref b), (1, .ref (lt_z X + 0)), (2, .ref (lt_z X + 233)), (3, .int i)] [] := by
  obtain ⟨hst, A, h⟩ := id hR
  obtain ⟨r, w1, w2, e1, e2, hR2⟩ := op_tray ly_FS h ((xs ((i + 1)).toNatClampNeg)) ((xs ((i + 2)).toNatClampNeg)) ((xs ((i + 3)).toNatClampNeg))
  refine jr_aload_n hF dL_law_285 1 rfl rfl ?_
  show lt_J X 255 10777 ly_F _ 286 [(0, .ref b), (1, .ref (lt_z X + 0)), (2, .ref (lt_z X + 233)), (3, .int i)] [.ref (lt_z X + 0)]
  refine jr_aload_n hF dL_law_286 0 rfl rfl ?_
  show lt_J X 255 10777 ly_F _ 287 [(0, .ref b), (1, .ref (lt_z X + 0)), (2, .ref (lt_z X + 233)), (3, .int i)] [.ref b, .ref (lt_z X + 0)]
  refine jr_iload_n hF dL_law_287 3 rfl rfl ?_
  show lt_J X 255 10777 ly_F _ 288 [(0, .ref b), (1, .ref (lt_z X + 0)), (2, .ref (lt_z X + 233)), (3, .int i)] [.int i, .ref b, .ref (lt_z X + 0)]
  refine jr_iconst (v := 1) hF dL_law_288 rfl ?_
  show lt_J X 255 10777 ly_F _ 289 [(0, .ref b), (1, .ref (lt_z X + 0)), (2, .ref (lt_z X + 233)), (3, .int i)] [.int (1), .int i, .ref b, .ref (lt_z X + 0)]
  refine jr_iadd hF dL_law_289 ?_
  show lt_J X 255 10777 ly_F _ 290 [(0, .ref b), (1, .ref (lt_z X + 0)), (2, .ref (lt_z X + 233)), (3, .int i)] [.int (i + 1), .ref b, .ref (lt_z X + 0)]
  refine jr_sl hF hX hv.2.1 dL_law_290 ?_
  show lt_J X 255 10777 ly_F _ 291 [(0, .ref b), (1, .ref (lt_z X + 0)), (2, .ref (lt_z X + 233)), (3, .int i)] [.int (xs ((i + 1)).toNatClampNeg), .ref (lt_z X + 0)]
  refine jr_aload_n hF dL_law_291 0 rfl rfl ?_
  show lt_J X 255 10777 ly_F _ 292 [(0, .ref b), (1, .ref (lt_z X + 0)), (2, .ref (lt_z X + 233)), (3, .int i)] [.ref b, .int (xs ((i + 1)).toNatClampNeg), .ref (lt_z X + 0)]
  refine jr_iload_n hF dL_law_292 3 rfl rfl ?_
  show lt_J X 255 10777 ly_F _ 293 [(0, .ref b), (1, .ref (lt_z X + 0)), (2, .ref (lt_z X + 233)), (3, .int i)] [.int i, .ref b, .int (xs ((i + 1)).toNatClampNeg), .ref (lt_z X + 0)]
  refine jr_iconst (v := 2) hF dL_law_293 rfl ?_
  show lt_J X 255 10777 ly_F _ 294 [(0, .ref b), (1, .ref (lt_z X + 0)), (2, .ref (lt_z X + 233)), (3, .int i)] [.int (2), .int i, .ref b, .int (xs ((i + 1)).toNatClampNeg), .ref (lt_z X + 0)]
  refine jr_iadd hF dL_law_294 ?_
  show lt_J X 255 10777 ly_F _ 295 [(0, .ref b), (1, .ref (lt_z X + 0)), (2, .ref (lt_z X + 233)), (3, .int i)] [.int (i + 2), .ref b, .int (xs ((i + 1)).toNatClampNeg), .ref (lt_z X + 0)]
  refine jr_sl hF hX hv.2.2.1 dL_law_295 ?_
  show lt_J X 255 10777 ly_F _ 296 [(0, .ref b), (1, .ref (lt_z X + 0)), (2, .ref (lt_z X + 233)), (3, .int i)] [.int (xs ((i + 2)).toNatClampNeg), .int (xs ((i + 1)).toNatClampNeg), .ref (lt_z X + 0)]
  refine jr_aload_n hF dL_law_296 0 rfl rfl ?_
  show lt_J X 255 10777 ly_F _ 297 [(0, .ref b), (1, .ref (lt_z X + 0)), (2, .ref (lt_z X + 233)), (3, .int i)] [.ref b, .int (xs ((i + 2)).toNatClampNeg), .int (xs ((i + 1)).toNatClampNeg), .ref (lt_z X + 0)]
  refine jr_iload_n hF dL_law_297 3 rfl rfl ?_
  show lt_J X 255 10777 ly_F _ 298 [(0, .ref b), (1, .ref (lt_z X + 0)), (2, .ref (lt_z X + 233)), (3, .int i)] [.int i, .ref b, .int (xs ((i + 2)).toNatClampNeg), .int (xs ((i + 1)).toNatClampNeg), .ref (lt_z X + 0)]
  refine jr_iconst (v := 3) hF dL_law_298 rfl ?_
  show lt_J X 255 10777 ly_F _ 299 [(0, .ref b), (1, .ref (lt_z X + 0)), (2, .ref (lt_z X + 233)), (3, .int i)] [.int (3), .int i, .ref b, .int (xs ((i + 2)).toNatClampNeg), .int (xs ((i + 1)).toNatClampNeg), .ref (lt_z X + 0)]
  refine jr_iadd hF dL_law_299 ?_
  show lt_J X 255 10777 ly_F _ 300 [(0, .ref b), (1, .ref (lt_z X + 0)), (2, .ref (lt_z X + 233)), (3, .int i)] [.int (i + 3), .ref b, .int (xs ((i + 2)).toNatClampNeg), .int (xs ((i + 1)).toNatClampNeg), .ref (lt_z X + 0)]
  refine jr_sl hF hX hv.2.2.2.1 dL_law_300 ?_
  show lt_J X 255 10777 ly_F _ 301 [(0, .ref b), (1, .ref (lt_z X + 0)), (2, .ref (lt_z X + 233)), (3, .int i)] [.int (xs ((i + 3)).toNatClampNeg), .int (xs ((i + 2)).toNatClampNeg), .int (xs ((i + 1)).toNatClampNeg), .ref (lt_z X + 0)]
  refine jr_callV (As := [.int (xs ((i + 1)).toNatClampNeg), .int (xs ((i + 2)).toNatClampNeg), .int (xs ((i + 3)).toNatClampNeg)]) (st := []) hF ml_L_27 (c_X11_tray ly_FT ly_F0 e1) ly_F0 rfl ⟨Nat.le_of_ble_eq_true rfl, Nat.le_of_ble_eq_true rfl⟩ ⟨Nat.le_of_ble_eq_true rfl, Nat.le_of_ble_eq_true rfl⟩ (Nat.le_of_ble_eq_true rfl) dL_law_301 ?_
  show lt_J X 255 10777 ly_F _ 304 [(0, .ref b), (1, .ref (lt_z X + 0)), (2, .ref (lt_z X + 233)), (3, .int i)] [.int r]
  refine jr_aload_n hF dL_law_304 2 rfl rfl ?_
  show lt_J X 255 10777 ly_F _ 305 [(0, .ref b), (1, .ref (lt_z X + 0)), (2, .ref (lt_z X + 233)), (3, .int i)] [.ref (lt_z X + 233), .int r]
  refine jr_aload_n hF dL_law_305 0 rfl rfl ?_
  show lt_J X 255 10777 ly_F _ 306 [(0, .ref b), (1, .ref (lt_z X + 0)), (2, .ref (lt_z X + 233)), (3, .int i)] [.ref b, .ref (lt_z X + 233), .int r]
  refine jr_iload_n hF dL_law_306 3 rfl rfl ?_
  show lt_J X 255 10777 ly_F _ 307 [(0, .ref b), (1, .ref (lt_z X + 0)), (2, .ref (lt_z X + 233)), (3, .int i)] [.int i, .ref b, .ref (lt_z X + 233), .int r]
  refine jr_iconst (v := 1) hF dL_law_307 rfl ?_
  show lt_J X 255 10777 ly_F _ 308 [(0, .ref b), (1, .ref (lt_z X + 0)), (2, .ref (lt_z X + 233)), (3, .int i)] [.int (1), .int i, .ref b, .ref (lt_z X + 233), .int r]
  refine jr_iadd hF dL_law_308 ?_
  show lt_J X 255 10777 ly_F _ 309 [(0, .ref b), (1, .ref (lt_z X + 0)), (2, .ref (lt_z X + 233)), (3, .int i)] [.int (i + 1), .ref b, .ref (lt_z X + 233), .int r]
  refine jr_sl hF hX hv.2.1 dL_law_309 ?_
  show lt_J X 255 10777 ly_F _ 310 [(0, .ref b), (1, .ref (lt_z X + 0)), (2, .ref (lt_z X + 233)), (3, .int i)] [.int (xs ((i + 1)).toNatClampNeg), .ref (lt_z X + 233), .int r]
  refine jr_aload_n hF dL_law_310 0 rfl rfl ?_
  show lt_J X 255 10777 ly_F _ 311 [(0, .ref b), (1, .ref (lt_z X + 0)), (2, .ref (lt_z X + 233)), (3, .int i)] [.ref b, .int (xs ((i + 1)).toNatClampNeg), .ref (lt_z X + 233), .int r]
  refine jr_iload_n hF dL_law_311 3 rfl rfl ?_
  show lt_J X 255 10777 ly_F _ 312 [(0, .ref b), (1, .ref (lt_z X + 0)), (2, .ref (lt_z X + 233)), (3, .int i)] [.int i, .ref b, .int (xs ((i + 1)).toNatClampNeg), .ref (lt_z X + 233), .int r]
  refine jr_iconst (v := 2) hF dL_law_312 rfl ?_
  show lt_J X 255 10777 ly_F _ 313 [(0, .ref b), (1, .ref (lt_z X + 0)), (2, .ref (lt_z X + 233)), (3, .int i)] [.int (2), .int i, .ref b, .int (xs ((i + 1)).toNatClampNeg), .ref (lt_z X + 233), .int r]
  refine jr_iadd hF dL_law_313 ?_
  show lt_J X 255 10777 ly_F _ 314 [(0, .ref b), (1, .ref (lt_z X + 0)), (2, .ref (lt_z X + 233)), (3, .int i)] [.int (i + 2), .ref b, .int (xs ((i + 1)).toNatClampNeg), .ref (lt_z X + 233), .int r]
  refine jr_sl hF hX hv.2.2.1 dL_law_314 ?_
  show lt_J X 255 10777 ly_F _ 315 [(0, .ref b), (1, .ref (lt_z X + 0)), (2, .ref (lt_z X + 233)), (3, .int i)] [.int (xs ((i + 2)).toNatClampNeg), .int (xs ((i + 1)).toNatClampNeg), .ref (lt_z X + 233), .int r]
  refine jr_aload_n hF dL_law_315 0 rfl rfl ?_
  show lt_J X 255 10777 ly_F _ 316 [(0, .ref b), (1, .ref (lt_z X + 0)), (2, .ref (lt_z X + 233)), (3, .int i)] [.ref b, .int (xs ((i + 2)).toNatClampNeg), .int (xs ((i + 1)).toNatClampNeg), .ref (lt_z X + 233), .int r]
  refine jr_iload_n hF dL_law_316 3 rfl rfl ?_
  show lt_J X 255 10777 ly_F _ 317 [(0, .ref b), (1, .ref (lt_z X + 0)), (2, .ref (lt_z X + 233)), (3, .int i)] [.int i, .ref b, .int (xs ((i + 2)).toNatClampNeg), .int (xs ((i + 1)).toNatClampNeg), .ref (lt_z X + 233), .int r]
  refine jr_iconst (v := 3) hF dL_law_317 rfl ?_
  show lt_J X 255 10777 ly_F _ 318 [(0, .ref b), (1, .ref (lt_z X + 0)), (2, .ref (lt_z X + 233)), (3, .int i)] [.int (3), .int i, .ref b, .int (xs ((i + 2)).toNatClampNeg), .int (xs ((i + 1)).toNatClampNeg), .ref (lt_z X + 233), .int r]
  refine jr_iadd hF dL_law_318 ?_
  show lt_J X 255 10777 ly_F _ 319 [(0, .ref b), (1, .ref (lt_z X + 0)), (2, .ref (lt_z X + 233)), (3, .int i)] [.int (i + 3), .ref b, .int (xs ((i + 2)).toNatClampNeg), .int (xs ((i + 1)).toNatClampNeg), .ref (lt_z X + 233), .int r]
  refine jr_sl hF hX hv.2.2.2.1 dL_law_319 ?_
  show lt_J X 255 10777 ly_F _ 320 [(0, .ref b), (1, .ref (lt_z X + 0)), (2, .ref (lt_z X + 233)), (3, .int i)] [.int (xs ((i + 3)).toNatClampNeg), .int (xs ((i + 2)).toNatClampNeg), .int (xs ((i + 1)).toNatClampNeg), .ref (lt_z X + 233), .int r]
  refine jr_callV (As := [.int (xs ((i + 1)).toNatClampNeg), .int (xs ((i + 2)).toNatClampNeg), .int (xs ((i + 3)).toNatClampNeg)]) (st := [.int r]) hF ml_L_31 (c_X12_tray ly_FT ly_F233 e2) ly_F233 rfl ⟨Nat.le_of_ble_eq_true rfl, Nat.le_of_ble_eq_true rfl⟩ ⟨Nat.le_of_ble_eq_true rfl, Nat.le_of_ble_eq_true rfl⟩ (Nat.le_of_ble_eq_true rfl) dL_law_320 ?_
  show lt_J X 255 10777 ly_F _ 323 [(0, .ref b), (1, .ref (lt_z X + 0)), (2, .ref (lt_z X + 233)), (3, .int i)] [.int r, .int r]
  exact jr_icmp_eq (tgt := 1664) (g1 := some ()) (g2 := none) (r := ()) hF dL_law_323 rfl (if_pos rfl) (fun _ => kk _ hR2) (fun z => by cases z)
set_option maxRecDepth 100000 in
theorem ll_4 (hF : lt_F X cL_law RL 4 room_1) (hX : ll_X X b L xs) (hv : ll_v i L) (hR : lr_R w) (kk : ∀ w', lr_R w' → lt_J X 255 10777 ly_F w' 1664 [(0, .ref b), (1, .ref (lt_z X + 0)), (2, .ref (lt_z X + 233)), (3, .int i)] []) : lt_J X 255 10777 ly_F w 328 [(0, .ref b), (1, .ref (lt_z X + 0)), (2, .ref (lt_z X + 233)), (3, .int i)] [] := by
  obtain ⟨hst, A, h⟩ := id hR
  obtain ⟨r, w1, w2, e1, e2, hR2⟩ := op_write ly_FS h ((xs ((i + 1)).toNatClampNeg)) ((xs ((i + 2)).toNatClampNeg)) (((((xs ((i + 3)).toNatClampNeg).toInt64) <<< (((32) : Int32).toInt64 &&& 63)) ||| (((xs ((i + 4)).toNatClampNeg).toInt64) &&& (4294967295))))
  refine jr_aload_n hF dL_law_328 1 rfl rfl ?_
  show lt_J X 255 10777 ly_F _ 329 [(0, .ref b), (1, .ref (lt_z X + 0)), (2, .ref (lt_z X + 233)), (3, .int i)] [.ref (lt_z X + 0)]
  refine jr_aload_n hF dL_law_329 0 rfl rfl ?_
  show lt_J X 255 10777 ly_F _ 330 [(0, .ref b), (1, .ref (lt_z X + 0)), (2, .ref (lt_z X + 233)), (3, .int i)] [.ref b, .ref (lt_z X + 0)]
  refine jr_iload_n hF dL_law_330 3 rfl rfl ?_
  show lt_J X 255 10777 ly_F _ 331 [(0, .ref b), (1, .ref (lt_z X + 0)), (2, .ref (lt_z X + 233)), (3, .int i)] [.int i, .ref b, .ref (lt_z X + 0)]
  refine jr_iconst (v := 1) hF dL_law_331 rfl ?_
  show lt_J X 255 10777 ly_F _ 332 [(0, .ref b), (1, .ref (lt_z X + 0)), (2, .ref (lt_z X + 233)), (3, .int i)] [.int (1), .int i, .ref b, .ref (lt_z X + 0)]
  refine jr_iadd hF dL_law_332 ?_
  show lt_J X 255 10777 ly_F _ 333 [(0, .ref b), (1, .ref (lt_z X + 0)), (2, .ref (lt_z X + 233)), (3, .int i)] [.int (i + 1), .ref b, .ref (lt_z X + 0)]
  refine jr_sl hF hX hv.2.1 dL_law_333 ?_
  show lt_J X 255 10777 ly_F _ 334 [(0, .ref b), (1, .ref (lt_z X + 0)), (2, .ref (lt_z X + 233)), (3, .int i)] [.int (xs ((i + 1)).toNatClampNeg), .ref (lt_z X + 0)]
  refine jr_aload_n hF dL_law_334 0 rfl rfl ?_
  show lt_J X 255 10777 ly_F _ 335 [(0, .ref b), (1, .ref (lt_z X + 0)), (2, .ref (lt_z X + 233)), (3, .int i)] [.ref b, .int (xs ((i + 1)).toNatClampNeg), .ref (lt_z X + 0)]
  refine jr_iload_n hF dL_law_335 3 rfl rfl ?_
  show lt_J X 255 10777 ly_F _ 336 [(0, .ref b), (1, .ref (lt_z X + 0)), (2, .ref (lt_z X + 233)), (3, .int i)] [.int i, .ref b, .int (xs ((i + 1)).toNatClampNeg), .ref (lt_z X + 0)]
  refine jr_iconst (v := 2) hF dL_law_336 rfl ?_
  show lt_J X 255 10777 ly_F _ 337 [(0, .ref b), (1, .ref (lt_z X + 0)), (2, .ref (lt_z X + 233)), (3, .int i)] [.int (2), .int i, .ref b, .int (xs ((i + 1)).toNatClampNeg), .ref (lt_z X + 0)]
  refine jr_iadd hF dL_law_337 ?_
  show lt_J X 255 10777 ly_F _ 338 [(0, .ref b), (1, .ref (lt_z X + 0)), (2, .ref (lt_z X + 233)), (3, .int i)] [.int (i + 2), .ref b, .int (xs ((i + 1)).toNatClampNeg), .ref (lt_z X + 0)]
  refine jr_sl hF hX hv.2.2.1 dL_law_338 ?_
  show lt_J X 255 10777 ly_F _ 339 [(0, .ref b), (1, .ref (lt_z X + 0)), (2, .ref (lt_z X + 233)), (3, .int i)] [.int (xs ((i + 2)).toNatClampNeg), .int (xs ((i + 1)).toNatClampNeg), .ref (lt_z X + 0)]
  refine jr_aload_n hF dL_law_339 0 rfl rfl ?_
  show lt_J X 255 10777 ly_F _ 340 [(0, .ref b), (1, .ref (lt_z X + 0)), (2, .ref (lt_z X + 233)), (3, .int i)] [.ref b, .int (xs ((i + 2)).toNatClampNeg), .int (xs ((i + 1)).toNatClampNeg), .ref (lt_z X + 0)]
  refine jr_iload_n hF dL_law_340 3 rfl rfl ?_
  show lt_J X 255 10777 ly_F _ 341 [(0, .ref b), (1, .ref (lt_z X + 0)), (2, .ref (lt_z X + 233)), (3, .int i)] [.int i, .ref b, .int (xs ((i + 2)).toNatClampNeg), .int (xs ((i + 1)).toNatClampNeg), .ref (lt_z X + 0)]
  refine jr_iconst (v := 3) hF dL_law_341 rfl ?_
  show lt_J X 255 10777 ly_F _ 342 [(0, .ref b), (1, .ref (lt_z X + 0)), (2, .ref (lt_z X + 233)), (3, .int i)] [.int (3), .int i, .ref b, .int (xs ((i + 2)).toNatClampNeg), .int (xs ((i + 1)).toNatClampNeg), .ref (lt_z X + 0)]
  refine jr_iadd hF dL_law_342 ?_
  show lt_J X 255 10777 ly_F _ 343 [(0, .ref b), (1, .ref (lt_z X + 0)), (2, .ref (lt_z X + 233)), (3, .int i)] [.int (i + 3), .ref b, .int (xs ((i + 2)).toNatClampNeg), .int (xs ((i + 1)).toNatClampNeg), .ref (lt_z X + 0)]
  refine jr_sl hF hX hv.2.2.2.1 dL_law_343 ?_
  show lt_J X 255 10777 ly_F _ 344 [(0, .ref b), (1, .ref (lt_z X + 0)), (2, .ref (lt_z X + 233)), (3, .int i)] [.int (xs ((i + 3)).toNatClampNeg), .int (xs ((i + 2)).toNatClampNeg), .int (xs ((i + 1)).toNatClampNeg), .ref (lt_z X + 0)]
  refine jr_i2l hF dL_law_344 ?_
  show lt_J X 255 10777 ly_F _ 345 [(0, .ref b), (1, .ref (lt_z X + 0)), (2, .ref (lt_z X + 233)), (3, .int i)] [.long ((xs ((i + 3)).toNatClampNeg).toInt64), .int (xs ((i + 2)).toNatClampNeg), .int (xs ((i + 1)).toNatClampNeg), .ref (lt_z X + 0)]
  refine jr_bipush (v := 32) hF dL_law_345 rfl ?_
  show lt_J X 255 10777 ly_F _ 347 [(0, .ref b), (1, .ref (lt_z X + 0)), (2, .ref (lt_z X + 233)), (3, .int i)] [.int (32), .long ((xs ((i + 3)).toNatClampNeg).toInt64), .int (xs ((i + 2)).toNatClampNeg), .int (xs ((i + 1)).toNatClampNeg), .ref (lt_z X + 0)]
  refine jr_lshl hF dL_law_347 ?_
  show lt_J X 255 10777 ly_F _ 348 [(0, .ref b), (1, .ref (lt_z X + 0)), (2, .ref (lt_z X + 233)), (3, .int i)] [.long (((xs ((i + 3)).toNatClampNeg).toInt64) <<< (((32) : Int32).toInt64 &&& 63)), .int (xs ((i + 2)).toNatClampNeg), .int (xs ((i + 1)).toNatClampNeg), .ref (lt_z X + 0)]
  refine jr_aload_n hF dL_law_348 0 rfl rfl ?_
  show lt_J X 255 10777 ly_F _ 349 [(0, .ref b), (1, .ref (lt_z X + 0)), (2, .ref (lt_z X + 233)), (3, .int i)] [.ref b, .long (((xs ((i + 3)).toNatClampNeg).toInt64) <<< (((32) : Int32).toInt64 &&& 63)), .int (xs ((i + 2)).toNatClampNeg), .int (xs ((i + 1)).toNatClampNeg), .ref (lt_z X + 0)]
  refine jr_iload_n hF dL_law_349 3 rfl rfl ?_
  show lt_J X 255 10777 ly_F _ 350 [(0, .ref b), (1, .ref (lt_z X + 0)), (2, .ref (lt_z X + 233)), (3, .int i)] [.int i, .ref b, .long (((xs ((i + 3)).toNatClampNeg).toInt64) <<< (((32) : Int32).toInt64 &&& 63)), .int (xs ((i + 2)).toNatClampNeg), .int (xs ((i + 1)).toNatClampNeg), .ref (lt_z X + 0)]
  refine jr_iconst (v := 4) hF dL_law_350 rfl ?_
  show lt_J X 255 10777 ly_F _ 351 [(0, .ref b), (1, .ref (lt_z X + 0)), (2, .ref (lt_z X + 233)), (3, .int i)] [.int (4), .int i, .ref b, .long (((xs ((i + 3)).toNatClampNeg).toInt64) <<< (((32) : Int32).toInt64 &&& 63)), .int (xs ((i + 2)).toNatClampNeg), .int (xs ((i + 1)).toNatClampNeg), .ref (lt_z X + 0)]
  refine jr_iadd hF dL_law_351 ?_
  show lt_J X 255 10777 ly_F _ 352 [(0, .ref b), (1, .ref (lt_z X + 0)), (2, .ref (lt_z X + 233)), (3, .int i)] [.int (i + 4), .ref b, .long (((xs ((i + 3)).toNatClampNeg).toInt64) <<< (((32) : Int32).toInt64 &&& 63)), .int (xs ((i + 2)).toNatClampNeg), .int (xs ((i + 1)).toNatClampNeg), .ref (lt_z X + 0)]
  refine jr_sl hF hX hv.2.2.2.2.1 dL_law_352 ?_
  show lt_J X 255 10777 ly_F _ 353 [(0, .ref b), (1, .ref (lt_z X + 0)), (2, .ref (lt_z X + 233)), (3, .int i)] [.int (xs ((i + 4)).toNatClampNeg), .long (((xs ((i + 3)).toNatClampNeg).toInt64) <<< (((32) : Int32).toInt64 &&& 63)), .int (xs ((i + 2)).toNatClampNeg), .int (xs ((i + 1)).toNatClampNeg), .ref (lt_z X + 0)]
  refine jr_i2l hF dL_law_353 ?_
  show lt_J X 255 10777 ly_F _ 354 [(0, .ref b), (1, .ref (lt_z X + 0)), (2, .ref (lt_z X + 233)), (3, .int i)] [.long ((xs ((i + 4)).toNatClampNeg).toInt64), .long (((xs ((i + 3)).toNatClampNeg).toInt64) <<< (((32) : Int32).toInt64 &&& 63)), .int (xs ((i + 2)).toNatClampNeg), .int (xs ((i + 1)).toNatClampNeg), .ref (lt_z X + 0)]
  refine jr_ldc2 (v := 4294967295) hF dL_law_354 (lt_m8 168 rfl rfl) ?_
  show lt_J X 255 10777 ly_F _ 357 [(0, .ref b), (1, .ref (lt_z X + 0)), (2, .ref (lt_z X + 233)), (3, .int i)] [.long (4294967295), .long ((xs ((i + 4)).toNatClampNeg).toInt64), .long (((xs ((i + 3)).toNatClampNeg).toInt64) <<< (((32) : Int32).toInt64 &&& 63)), .int (xs ((i + 2)).toNatClampNeg), .int (xs ((i + 1)).toNatClampNeg), .ref (lt_z X + 0)]
  refine jr_land hF dL_law_357 ?_
  show lt_J X 255 10777 ly_F _ 358 [(0, .ref b), (1, .ref (lt_z X + 0)), (2, .ref (lt_z X + 233)), (3, .int i)] [.long (((xs ((i + 4)).toNatClampNeg).toInt64) &&& (4294967295)), .long (((xs ((i + 3)).toNatClampNeg).toInt64) <<< (((32) : Int32).toInt64 &&& 63)), .int (xs ((i + 2)).toNatClampNeg), .int (xs ((i + 1)).toNatClampNeg), .ref (lt_z X + 0)]
  refine jr_lor hF dL_law_358 ?_
  show lt_J X 255 10777 ly_F _ 359 [(0, .ref b), (1, .ref (lt_z X + 0)), (2, .ref (lt_z X + 233)), (3, .int i)] [.long ((((xs ((i + 3)).toNatClampNeg).toInt64) <<< (((32) : Int32).toInt64 &&& 63)) ||| (((xs ((i + 4)).toNatClampNeg).toInt64) &&& (4294967295))), .int (xs ((i + 2)).toNatClampNeg), .int (xs ((i + 1)).toNatClampNeg), .ref (lt_z X + 0)]
  refine jr_callV (As := [.int (xs ((i + 1)).toNatClampNeg), .int (xs ((i + 2)).toNatClampNeg), .long ((((xs ((i + 3)).toNatClampNeg).toInt64) <<< (((32) : Int32).toInt64 &&& 63)) ||| (((xs ((i + 4)).toNatClampNeg).toInt64) &&& (4294967295)))]) (st := []) hF ml_L_34 (c_X11_write ly_FT ly_F0 e1) ly_F0 rfl ⟨Nat.le_of_ble_eq_true rfl, Nat.le_of_ble_eq_true rfl⟩ ⟨Nat.le_of_ble_eq_true rfl, Nat.le_of_ble_eq_true rfl⟩ (Nat.le_of_ble_eq_true rfl) dL_law_359 ?_
  show lt_J X 255 10777 ly_F _ 362 [(0, .ref b), (1, .ref (lt_z X + 0)), (2, .ref (lt_z X + 233)), (3, .int i)] [.int r]
  refine jr_aload_n hF dL_law_362 2 rfl rfl ?_
  show lt_J X 255 10777 ly_F _ 363 [(0, .ref b), (1, .ref (lt_z X + 0)), (2, .ref (lt_z X + 233)), (3, .int i)] [.ref (lt_z X + 233), .int r]
  refine jr_aload_n hF dL_law_363 0 rfl rfl ?_
  show lt_J X 255 10777 ly_F _ 364 [(0, .ref b), (1, .ref (lt_z X + 0)), (2, .ref (lt_z X + 233)), (3, .int i)] [.ref b, .ref (lt_z X + 233), .int r]
  refine jr_iload_n hF dL_law_364 3 rfl rfl ?_
  show lt_J X 255 10777 ly_F _ 365 [(0, .ref b), (1, .ref (lt_z X + 0)), (2, .ref (lt_z X + 233)), (3, .int i)] [.int i, .ref b, .ref (lt_z X + 233), .int r]
  refine jr_iconst (v := 1) hF dL_law_365 rfl ?_
  show lt_J X 255 10777 ly_F _ 366 [(0, .ref b), (1, .ref (lt_z X + 0)), (2, .ref (lt_z X + 233)), (3, .int i)] [.int (1), .int i, .ref b, .ref (lt_z X + 233), .int r]
  refine jr_iadd hF dL_law_366 ?_
  show lt_J X 255 10777 ly_F _ 367 [(0, .ref b), (1, .ref (lt_z X + 0)), (2, .ref (lt_z X + 233)), (3, .int i)] [.int (i + 1), .ref b, .ref (lt_z X + 233), .int r]
  refine jr_sl hF hX hv.2.1 dL_law_367 ?_
  show lt_J X 255 10777 ly_F _ 368 [(0, .ref b), (1, .ref (lt_z X + 0)), (2, .ref (lt_z X + 233)), (3, .int i)] [.int (xs ((i + 1)).toNatClampNeg), .ref (lt_z X + 233), .int r]
  refine jr_aload_n hF dL_law_368 0 rfl rfl ?_
  show lt_J X 255 10777 ly_F _ 369 [(0, .ref b), (1, .ref (lt_z X + 0)), (2, .ref (lt_z X + 233)), (3, .int i)] [.ref b, .int (xs ((i + 1)).toNatClampNeg), .ref (lt_z X + 233), .int r]
  refine jr_iload_n hF dL_law_369 3 rfl rfl ?_
  show lt_J X 255 10777 ly_F _ 370 [(0, .ref b), (1, .ref (lt_z X + 0)), (2, .ref (lt_z X + 233)), (3, .int i)] [.int i, .ref b, .int (xs ((i + 1)).toNatClampNeg), .ref (lt_z X + 233), .int r]
  refine jr_iconst (v := 2) hF dL_law_370 rfl ?_
  show lt_J X 255 10777 ly_F _ 371 [(0, .ref b), (1, .ref (lt_z X + 0)), (2, .ref (lt_z X + 233)), (3, .int i)] [.int (2), .int i, .ref b, .int (xs ((i + 1)).toNatClampNeg), .ref (lt_z X + 233), .int r]
  refine jr_iadd hF dL_law_371 ?_
  show lt_J X 255 10777 ly_F _ 372 [(0, .ref b), (1, .ref (lt_z X + 0)), (2, .ref (lt_z X + 233)), (3, .int i)] [.int (i + 2), .ref b, .int (xs ((i + 1)).toNatClampNeg), .ref (lt_z X + 233), .int r]
  refine jr_sl hF hX hv.2.2.1 dL_law_372 ?_
  show lt_J X 255 10777 ly_F _ 373 [(0, .ref b), (1, .ref (lt_z X + 0)), (2, .ref (lt_z X + 233)), (3, .int i)] [.int (xs ((i + 2)).toNatClampNeg), .int (xs ((i + 1)).toNatClampNeg), .ref (lt_z X + 233), .int r]
  refine jr_aload_n hF dL_law_373 0 rfl rfl ?_
  show lt_J X 255 10777 ly_F _ 374 [(0, .ref b), (1, .ref (lt_z X + 0)), (2, .ref (lt_z X + 233)), (3, .int i)] [.ref b, .int (xs ((i + 2)).toNatClampNeg), .int (xs ((i + 1)).toNatClampNeg), .ref (lt_z X + 233), .int r]
  refine jr_iload_n hF dL_law_374 3 rfl rfl ?_
  show lt_J X 255 10777 ly_F _ 375 [(0, .ref b), (1, .ref (lt_z X + 0)), (2, .ref (lt_z X + 233)), (3, .int i)] [.int i, .ref b, .int (xs ((i + 2)).toNatClampNeg), .int (xs ((i + 1)).toNatClampNeg), .ref (lt_z X + 233), .int r]
  refine jr_iconst (v := 3) hF dL_law_375 rfl ?_
  show lt_J X 255 10777 ly_F _ 376 [(0, .ref b), (1, .ref (lt_z X + 0)), (2, .ref (lt_z X + 233)), (3, .int i)] [.int (3), .int i, .ref b, .int (xs ((i + 2)).toNatClampNeg), .int (xs ((i + 1)).toNatClampNeg), .ref (lt_z X + 233), .int r]
  refine jr_iadd hF dL_law_376 ?_
  show lt_J X 255 10777 ly_F _ 377 [(0, .ref b), (1, .ref (lt_z X + 0)), (2, .ref (lt_z X + 233)), (3, .int i)] [.int (i + 3), .ref b, .int (xs ((i + 2)).toNatClampNeg), .int (xs ((i + 1)).toNatClampNeg), .ref (lt_z X + 233), .int r]
  refine jr_sl hF hX hv.2.2.2.1 dL_law_377 ?_
  show lt_J X 255 10777 ly_F _ 378 [(0, .ref b), (1, .ref (lt_z X + 0)), (2, .ref (lt_z X + 233)), (3, .int i)] [.int (xs ((i + 3)).toNatClampNeg), .int (xs ((i + 2)).toNatClampNeg), .int (xs ((i + 1)).toNatClampNeg), .ref (lt_z X + 233), .int r]
  refine jr_i2l hF dL_law_378 ?_
  show lt_J X 255 10777 ly_F _ 379 [(0, .ref b), (1, .ref (lt_z X + 0)), (2, .ref (lt_z X + 233)), (3, .int i)] [.long ((xs ((i + 3)).toNatClampNeg).toInt64), .int (xs ((i + 2)).toNatClampNeg), .int (xs ((i + 1)).toNatClampNeg), .ref (lt_z X + 233), .int r]
  refine jr_bipush (v := 32) hF dL_law_379 rfl ?_
  show lt_J X 255 10777 ly_F _ 381 [(0, .ref b), (1, .ref (lt_z X + 0)), (2, .ref (lt_z X + 233)), (3, .int i)] [.int (32), .long ((xs ((i + 3)).toNatClampNeg).toInt64), .int (xs ((i + 2)).toNatClampNeg), .int (xs ((i + 1)).toNatClampNeg), .ref (lt_z X + 233), .int r]
  refine jr_lshl hF dL_law_381 ?_
  show lt_J X 255 10777 ly_F _ 382 [(0, .ref b), (1, .ref (lt_z X + 0)), (2, .ref (lt_z X + 233)), (3, .int i)] [.long (((xs ((i + 3)).toNatClampNeg).toInt64) <<< (((32) : Int32).toInt64 &&& 63)), .int (xs ((i + 2)).toNatClampNeg), .int (xs ((i + 1)).toNatClampNeg), .ref (lt_z X + 233), .int r]
  refine jr_aload_n hF dL_law_382 0 rfl rfl ?_
  show lt_J X 255 10777 ly_F _ 383 [(0, .ref b), (1, .ref (lt_z X + 0)), (2, .ref (lt_z X + 233)), (3, .int i)] [.ref b, .long (((xs ((i + 3)).toNatClampNeg).toInt64) <<< (((32) : Int32).toInt64 &&& 63)), .int (xs ((i + 2)).toNatClampNeg), .int (xs ((i + 1)).toNatClampNeg), .ref (lt_z X + 233), .int r]
  refine jr_iload_n hF dL_law_383 3 rfl rfl ?_
  show lt_J X 255 10777 ly_F _ 384 [(0, .ref b), (1, .ref (lt_z X + 0)), (2, .ref (lt_z X + 233)), (3, .int i)] [.int i, .ref b, .long (((xs ((i + 3)).toNatClampNeg).toInt64) <<< (((32) : Int32).toInt64 &&& 63)), .int (xs ((i + 2)).toNatClampNeg), .int (xs ((i + 1)).toNatClampNeg), .ref (lt_z X + 233), .int r]
  refine jr_iconst (v := 4) hF dL_law_384 rfl ?_
  show lt_J X 255 10777 ly_F _ 385 [(0, .ref b), (1, .ref (lt_z X + 0)), (2, .ref (lt_z X + 233)), (3, .int i)] [.int (4), .int i, .ref b, .long (((xs ((i + 3)).toNatClampNeg).toInt64) <<< (((32) : Int32).toInt64 &&& 63)), .int (xs ((i + 2)).toNatClampNeg), .int (xs ((i + 1)).toNatClampNeg), .ref (lt_z X + 233), .int r]
  refine jr_iadd hF dL_law_385 ?_
  show lt_J X 255 10777 ly_F _ 386 [(0, .ref b), (1, .ref (lt_z X + 0)), (2, .ref (lt_z X + 233)), (3, .int i)] [.int (i + 4), .ref b, .long (((xs ((i + 3)).toNatClampNeg).toInt64) <<< (((32) : Int32).toInt64 &&& 63)), .int (xs ((i + 2)).toNatClampNeg), .int (xs ((i + 1)).toNatClampNeg), .ref (lt_z X + 233), .int r]
  refine jr_sl hF hX hv.2.2.2.2.1 dL_law_386 ?_
  show lt_J X 255 10777 ly_F _ 387 [(0, .ref b), (1, .ref (lt_z X + 0)), (2, .ref (lt_z X + 233)), (3, .int i)] [.int (xs ((i + 4)).toNatClampNeg), .long (((xs ((i + 3)).toNatClampNeg).toInt64) <<< (((32) : Int32).toInt64 &&& 63)), .int (xs ((i + 2)).toNatClampNeg), .int (xs ((i + 1)).toNatClampNeg), .ref (lt_z X + 233), .int r]
  refine jr_i2l hF dL_law_387 ?_
  show lt_J X 255 10777 ly_F _ 388 [(0, .ref b), (1, .ref (lt_z X + 0)), (2, .ref (lt_z X + 233)), (3, .int i)] [.long ((xs ((i + 4)).toNatClampNeg).toInt64), .long (((xs ((i + 3)).toNatClampNeg).toInt64) <<< (((32) : Int32).toInt64 &&& 63)), .int (xs ((i + 2)).toNatClampNeg), .int (xs ((i + 1)).toNatClampNeg), .ref (lt_z X + 233), .int r]
  refine jr_ldc2 (v := 4294967295) hF dL_law_388 (lt_m8 168 rfl rfl) ?_
  show lt_J X 255 10777 ly_F _ 391 [(0, .ref b), (1, .ref (lt_z X + 0)), (2, .ref (lt_z X + 233)), (3, .int i)] [.long (4294967295), .long ((xs ((i + 4)).toNatClampNeg).toInt64), .long (((xs ((i + 3)).toNatClampNeg).toInt64) <<< (((32) : Int32).toInt64 &&& 63)), .int (xs ((i + 2)).toNatClampNeg), .int (xs ((i + 1)).toNatClampNeg), .ref (lt_z X + 233), .int r]
  refine jr_land hF dL_law_391 ?_
  show lt_J X 255 10777 ly_F _ 392 [(0, .ref b), (1, .ref (lt_z X + 0)), (2, .ref (lt_z X + 233)), (3, .int i)] [.long (((xs ((i + 4)).toNatClampNeg).toInt64) &&& (4294967295)), .long (((xs ((i + 3)).toNatClampNeg).toInt64) <<< (((32) : Int32).toInt64 &&& 63)), .int (xs ((i + 2)).toNatClampNeg), .int (xs ((i + 1)).toNatClampNeg), .ref (lt_z X + 233), .int r]
  refine jr_lor hF dL_law_392 ?_
  show lt_J X 255 10777 ly_F _ 393 [(0, .ref b), (1, .ref (lt_z X + 0)), (2, .ref (lt_z X + 233)), (3, .int i)] [.long ((((xs ((i + 3)).toNatClampNeg).toInt64) <<< (((32) : Int32).toInt64 &&& 63)) ||| (((xs ((i + 4)).toNatClampNeg).toInt64) &&& (4294967295))), .int (xs ((i + 2)).toNatClampNeg), .int (xs ((i + 1)).toNatClampNeg), .ref (lt_z X + 233), .int r]
  refine jr_callV (As := [.int (xs ((i + 1)).toNatClampNeg), .int (xs ((i + 2)).toNatClampNeg), .long ((((xs ((i + 3)).toNatClampNeg).toInt64) <<< (((32) : Int32).toInt64 &&& 63)) ||| (((xs ((i + 4)).toNatClampNeg).toInt64) &&& (4294967295)))]) (st := [.int r]) hF ml_L_38 (c_X12_write ly_FT ly_F233 e2) ly_F233 rfl ⟨Nat.le_of_ble_eq_true rfl, Nat.le_of_ble_eq_true rfl⟩ ⟨Nat.le_of_ble_eq_true rfl, Nat.le_of_ble_eq_true rfl⟩ (Nat.le_of_ble_eq_true rfl) dL_law_393 ?_
  show lt_J X 255 10777 ly_F _ 396 [(0, .ref b), (1, .ref (lt_z X + 0)), (2, .ref (lt_z X + 233)), (3, .int i)] [.int r, .int r]
  exact jr_icmp_eq (tgt := 1664) (g1 := some ()) (g2 := none) (r := ()) hF dL_law_396 rfl (if_pos rfl) (fun _ => kk _ hR2) (fun z => by cases z)
set_option maxRecDepth 100000 in
theorem ll_5 (hF : lt_F X cL_law RL 4 room_1) (hX : ll_X X b L xs) (hv : ll_v i L) (hR : lr_R w) (kk : ∀ w', lr_R w' → lt_J X 255 10777 ly_F w' 1664 [(0, .ref b), (1, .ref (lt_z X + 0)), (2, .ref (lt_z X + 233)), (3, .int i)] []) : lt_J X 255 10777 ly_F w 401 [(0, .ref b), (1, .ref (lt_z X + 0)), (2, .ref (lt_z X + 233)), (3, .int i)] [] := by
  obtain ⟨hst, A, h⟩ := id hR
  obtain ⟨r, w1, w2, e1, e2, hR2⟩ := op_read ly_FS h ((xs ((i + 1)).toNatClampNeg)) ((xs ((i + 2)).toNatClampNeg))
  refine jr_aload_n hF dL_law_401 1 rfl rfl ?_
  show lt_J X 255 10777 ly_F _ 402 [(0, .ref b), (1, .ref (lt_z X + 0)), (2, .ref (lt_z X + 233)), (3, .int i)] [.ref (lt_z X + 0)]
  refine jr_aload_n hF dL_law_402 0 rfl rfl ?_
  show lt_J X 255 10777 ly_F _ 403 [(0, .ref b), (1, .ref (lt_z X + 0)), (2, .ref (lt_z X + 233)), (3, .int i)] [.ref b, .ref (lt_z X + 0)]
  refine jr_iload_n hF dL_law_403 3 rfl rfl ?_
  show lt_J X 255 10777 ly_F _ 404 [(0, .ref b), (1, .ref (lt_z X + 0)), (2, .ref (lt_z X + 233)), (3, .int i)] [.int i, .ref b, .ref (lt_z X + 0)]
  refine jr_iconst (v := 1) hF dL_law_404 rfl ?_
  show lt_J X 255 10777 ly_F _ 405 [(0, .ref b), (1, .ref (lt_z X + 0)), (2, .ref (lt_z X + 233)), (3, .int i)] [.int (1), .int i, .ref b, .ref (lt_z X + 0)]
  refine jr_iadd hF dL_law_405 ?_
  show lt_J X 255 10777 ly_F _ 406 [(0, .ref b), (1, .ref (lt_z X + 0)), (2, .ref (lt_z X + 233)), (3, .int i)] [.int (i + 1), .ref b, .ref (lt_z X + 0)]
  refine jr_sl hF hX hv.2.1 dL_law_406 ?_
  show lt_J X 255 10777 ly_F _ 407 [(0, .ref b), (1, .ref (lt_z X + 0)), (2, .ref (lt_z X + 233)), (3, .int i)] [.int (xs ((i + 1)).toNatClampNeg), .ref (lt_z X + 0)]
  refine jr_aload_n hF dL_law_407 0 rfl rfl ?_
  show lt_J X 255 10777 ly_F _ 408 [(0, .ref b), (1, .ref (lt_z X + 0)), (2, .ref (lt_z X + 233)), (3, .int i)] [.ref b, .int (xs ((i + 1)).toNatClampNeg), .ref (lt_z X + 0)]
  refine jr_iload_n hF dL_law_408 3 rfl rfl ?_
  show lt_J X 255 10777 ly_F _ 409 [(0, .ref b), (1, .ref (lt_z X + 0)), (2, .ref (lt_z X + 233)), (3, .int i)] [.int i, .ref b, .int (xs ((i + 1)).toNatClampNeg), .ref (lt_z X + 0)]
  refine jr_iconst (v := 2) hF dL_law_409 rfl ?_
  show lt_J X 255 10777 ly_F _ 410 [(0, .ref b), (1, .ref (lt_z X + 0)), (2, .ref (lt_z X + 233)), (3, .int i)] [.int (2), .int i, .ref b, .int (xs ((i + 1)).toNatClampNeg), .ref (lt_z X + 0)]
  refine jr_iadd hF dL_law_410 ?_
  show lt_J X 255 10777 ly_F _ 411 [(0, .ref b), (1, .ref (lt_z X + 0)), (2, .ref (lt_z X + 233)), (3, .int i)] [.int (i + 2), .ref b, .int (xs ((i + 1)).toNatClampNeg), .ref (lt_z X + 0)]
  refine jr_sl hF hX hv.2.2.1 dL_law_411 ?_
  show lt_J X 255 10777 ly_F _ 412 [(0, .ref b), (1, .ref (lt_z X + 0)), (2, .ref (lt_z X + 233)), (3, .int i)] [.int (xs ((i + 2)).toNatClampNeg), .int (xs ((i + 1)).toNatClampNeg), .ref (lt_z X + 0)]
  refine jr_callV (As := [.int (xs ((i + 1)).toNatClampNeg), .int (xs ((i + 2)).toNatClampNeg)]) (st := []) hF ml_L_39 (c_X11_read ly_FT ly_F0 e1) ly_F0 rfl ⟨Nat.le_of_ble_eq_true rfl, Nat.le_of_ble_eq_true rfl⟩ ⟨Nat.le_of_ble_eq_true rfl, Nat.le_of_ble_eq_true rfl⟩ (Nat.le_of_ble_eq_true rfl) dL_law_412 ?_
  show lt_J X 255 10777 ly_F _ 415 [(0, .ref b), (1, .ref (lt_z X + 0)), (2, .ref (lt_z X + 233)), (3, .int i)] [.long r]
  refine jr_aload_n hF dL_law_415 2 rfl rfl ?_
  show lt_J X 255 10777 ly_F _ 416 [(0, .ref b), (1, .ref (lt_z X + 0)), (2, .ref (lt_z X + 233)), (3, .int i)] [.ref (lt_z X + 233), .long r]
  refine jr_aload_n hF dL_law_416 0 rfl rfl ?_
  show lt_J X 255 10777 ly_F _ 417 [(0, .ref b), (1, .ref (lt_z X + 0)), (2, .ref (lt_z X + 233)), (3, .int i)] [.ref b, .ref (lt_z X + 233), .long r]
  refine jr_iload_n hF dL_law_417 3 rfl rfl ?_
  show lt_J X 255 10777 ly_F _ 418 [(0, .ref b), (1, .ref (lt_z X + 0)), (2, .ref (lt_z X + 233)), (3, .int i)] [.int i, .ref b, .ref (lt_z X + 233), .long r]
  refine jr_iconst (v := 1) hF dL_law_418 rfl ?_
  show lt_J X 255 10777 ly_F _ 419 [(0, .ref b), (1, .ref (lt_z X + 0)), (2, .ref (lt_z X + 233)), (3, .int i)] [.int (1), .int i, .ref b, .ref (lt_z X + 233), .long r]
  refine jr_iadd hF dL_law_419 ?_
  show lt_J X 255 10777 ly_F _ 420 [(0, .ref b), (1, .ref (lt_z X + 0)), (2, .ref (lt_z X + 233)), (3, .int i)] [.int (i + 1), .ref b, .ref (lt_z X + 233), .long r]
  refine jr_sl hF hX hv.2.1 dL_law_420 ?_
  show lt_J X 255 10777 ly_F _ 421 [(0, .ref b), (1, .ref (lt_z X + 0)), (2, .ref (lt_z X + 233)), (3, .int i)] [.int (xs ((i + 1)).toNatClampNeg), .ref (lt_z X + 233), .long r]
  refine jr_aload_n hF dL_law_421 0 rfl rfl ?_
  show lt_J X 255 10777 ly_F _ 422 [(0, .ref b), (1, .ref (lt_z X + 0)), (2, .ref (lt_z X + 233)), (3, .int i)] [.ref b, .int (xs ((i + 1)).toNatClampNeg), .ref (lt_z X + 233), .long r]
  refine jr_iload_n hF dL_law_422 3 rfl rfl ?_
  show lt_J X 255 10777 ly_F _ 423 [(0, .ref b), (1, .ref (lt_z X + 0)), (2, .ref (lt_z X + 233)), (3, .int i)] [.int i, .ref b, .int (xs ((i + 1)).toNatClampNeg), .ref (lt_z X + 233), .long r]
  refine jr_iconst (v := 2) hF dL_law_423 rfl ?_
  show lt_J X 255 10777 ly_F _ 424 [(0, .ref b), (1, .ref (lt_z X + 0)), (2, .ref (lt_z X + 233)), (3, .int i)] [.int (2), .int i, .ref b, .int (xs ((i + 1)).toNatClampNeg), .ref (lt_z X + 233), .long r]
  refine jr_iadd hF dL_law_424 ?_
  show lt_J X 255 10777 ly_F _ 425 [(0, .ref b), (1, .ref (lt_z X + 0)), (2, .ref (lt_z X + 233)), (3, .int i)] [.int (i + 2), .ref b, .int (xs ((i + 1)).toNatClampNeg), .ref (lt_z X + 233), .long r]
  refine jr_sl hF hX hv.2.2.1 dL_law_425 ?_
  show lt_J X 255 10777 ly_F _ 426 [(0, .ref b), (1, .ref (lt_z X + 0)), (2, .ref (lt_z X + 233)), (3, .int i)] [.int (xs ((i + 2)).toNatClampNeg), .int (xs ((i + 1)).toNatClampNeg), .ref (lt_z X + 233), .long r]
  refine jr_callV (As := [.int (xs ((i + 1)).toNatClampNeg), .int (xs ((i + 2)).toNatClampNeg)]) (st := [.long r]) hF ml_L_43 (c_X12_read ly_FT ly_F233 e2) ly_F233 rfl ⟨Nat.le_of_ble_eq_true rfl, Nat.le_of_ble_eq_true rfl⟩ ⟨Nat.le_of_ble_eq_true rfl, Nat.le_of_ble_eq_true rfl⟩ (Nat.le_of_ble_eq_true rfl) dL_law_426 ?_
  show lt_J X 255 10777 ly_F _ 429 [(0, .ref b), (1, .ref (lt_z X + 0)), (2, .ref (lt_z X + 233)), (3, .int i)] [.long r, .long r]
  refine jr_lcmp hF dL_law_429 ?_
  show lt_J X 255 10777 ly_F _ 430 [(0, .ref b), (1, .ref (lt_z X + 0)), (2, .ref (lt_z X + 233)), (3, .int i)] [.int (lg_cmp r r)]
  exact jr_if_eq (tgt := 1664) (g1 := some ()) (g2 := none) (r := ()) hF dL_law_430 rfl (if_pos (ll_cmp r)) (fun _ => kk _ hR2) (fun z => by cases z)
set_option maxRecDepth 100000 in
theorem ll_6 (hF : lt_F X cL_law RL 4 room_1) (hX : ll_X X b L xs) (hv : ll_v i L) (hR : lr_R w) (kk : ∀ w', lr_R w' → lt_J X 255 10777 ly_F w' 1664 [(0, .ref b), (1, .ref (lt_z X + 0)), (2, .ref (lt_z X + 233)), (3, .int i)] []) : lt_J X 255 10777 ly_F w 435 [(0, .ref b), (1, .ref (lt_z X + 0)), (2, .ref (lt_z X + 233)), (3, .int i)] [] := by
  obtain ⟨hst, A, h⟩ := id hR
  obtain ⟨r, w1, w2, e1, e2, hR2⟩ := op_pour ly_FS h ((xs ((i + 1)).toNatClampNeg)) ((xs ((i + 2)).toNatClampNeg)) ((xs ((i + 3)).toNatClampNeg)) ((xs ((i + 4)).toNatClampNeg)) ((xs ((i + 5)).toNatClampNeg))
  refine jr_aload_n hF dL_law_435 1 rfl rfl ?_
  show lt_J X 255 10777 ly_F _ 436 [(0, .ref b), (1, .ref (lt_z X + 0)), (2, .ref (lt_z X + 233)), (3, .int i)] [.ref (lt_z X + 0)]
  refine jr_aload_n hF dL_law_436 0 rfl rfl ?_
  show lt_J X 255 10777 ly_F _ 437 [(0, .ref b), (1, .ref (lt_z X + 0)), (2, .ref (lt_z X + 233)), (3, .int i)] [.ref b, .ref (lt_z X + 0)]
  refine jr_iload_n hF dL_law_437 3 rfl rfl ?_
  show lt_J X 255 10777 ly_F _ 438 [(0, .ref b), (1, .ref (lt_z X + 0)), (2, .ref (lt_z X + 233)), (3, .int i)] [.int i, .ref b, .ref (lt_z X + 0)]
  refine jr_iconst (v := 1) hF dL_law_438 rfl ?_
  show lt_J X 255 10777 ly_F _ 439 [(0, .ref b), (1, .ref (lt_z X + 0)), (2, .ref (lt_z X + 233)), (3, .int i)] [.int (1), .int i, .ref b, .ref (lt_z X + 0)]
  refine jr_iadd hF dL_law_439 ?_
  show lt_J X 255 10777 ly_F _ 440 [(0, .ref b), (1, .ref (lt_z X + 0)), (2, .ref (lt_z X + 233)), (3, .int i)] [.int (i + 1), .ref b, .ref (lt_z X + 0)]
  refine jr_sl hF hX hv.2.1 dL_law_440 ?_
  show lt_J X 255 10777 ly_F _ 441 [(0, .ref b), (1, .ref (lt_z X + 0)), (2, .ref (lt_z X + 233)), (3, .int i)] [.int (xs ((i + 1)).toNatClampNeg), .ref (lt_z X + 0)]
  refine jr_aload_n hF dL_law_441 0 rfl rfl ?_
  show lt_J X 255 10777 ly_F _ 442 [(0, .ref b), (1, .ref (lt_z X + 0)), (2, .ref (lt_z X + 233)), (3, .int i)] [.ref b, .int (xs ((i + 1)).toNatClampNeg), .ref (lt_z X + 0)]
  refine jr_iload_n hF dL_law_442 3 rfl rfl ?_
  show lt_J X 255 10777 ly_F _ 443 [(0, .ref b), (1, .ref (lt_z X + 0)), (2, .ref (lt_z X + 233)), (3, .int i)] [.int i, .ref b, .int (xs ((i + 1)).toNatClampNeg), .ref (lt_z X + 0)]
  refine jr_iconst (v := 2) hF dL_law_443 rfl ?_
  show lt_J X 255 10777 ly_F _ 444 [(0, .ref b), (1, .ref (lt_z X + 0)), (2, .ref (lt_z X + 233)), (3, .int i)] [.int (2), .int i, .ref b, .int (xs ((i + 1)).toNatClampNeg), .ref (lt_z X + 0)]
  refine jr_iadd hF dL_law_444 ?_
  show lt_J X 255 10777 ly_F _ 445 [(0, .ref b), (1, .ref (lt_z X + 0)), (2, .ref (lt_z X + 233)), (3, .int i)] [.int (i + 2), .ref b, .int (xs ((i + 1)).toNatClampNeg), .ref (lt_z X + 0)]
  refine jr_sl hF hX hv.2.2.1 dL_law_445 ?_
  show lt_J X 255 10777 ly_F _ 446 [(0, .ref b), (1, .ref (lt_z X + 0)), (2, .ref (lt_z X + 233)), (3, .int i)] [.int (xs ((i + 2)).toNatClampNeg), .int (xs ((i + 1)).toNatClampNeg), .ref (lt_z X + 0)]
  refine jr_aload_n hF dL_law_446 0 rfl rfl ?_
  show lt_J X 255 10777 ly_F _ 447 [(0, .ref b), (1, .ref (lt_z X + 0)), (2, .ref (lt_z X + 233)), (3, .int i)] [.ref b, .int (xs ((i + 2)).toNatClampNeg), .int (xs ((i + 1)).toNatClampNeg), .ref (lt_z X + 0)]
  refine jr_iload_n hF dL_law_447 3 rfl rfl ?_
  show lt_J X 255 10777 ly_F _ 448 [(0, .ref b), (1, .ref (lt_z X + 0)), (2, .ref (lt_z X + 233)), (3, .int i)] [.int i, .ref b, .int (xs ((i + 2)).toNatClampNeg), .int (xs ((i + 1)).toNatClampNeg), .ref (lt_z X + 0)]
  refine jr_iconst (v := 3) hF dL_law_448 rfl ?_
  show lt_J X 255 10777 ly_F _ 449 [(0, .ref b), (1, .ref (lt_z X + 0)), (2, .ref (lt_z X + 233)), (3, .int i)] [.int (3), .int i, .ref b, .int (xs ((i + 2)).toNatClampNeg), .int (xs ((i + 1)).toNatClampNeg), .ref (lt_z X + 0)]
  refine jr_iadd hF dL_law_449 ?_
  show lt_J X 255 10777 ly_F _ 450 [(0, .ref b), (1, .ref (lt_z X + 0)), (2, .ref (lt_z X + 233)), (3, .int i)] [.int (i + 3), .ref b, .int (xs ((i + 2)).toNatClampNeg), .int (xs ((i + 1)).toNatClampNeg), .ref (lt_z X + 0)]
  refine jr_sl hF hX hv.2.2.2.1 dL_law_450 ?_
  show lt_J X 255 10777 ly_F _ 451 [(0, .ref b), (1, .ref (lt_z X + 0)), (2, .ref (lt_z X + 233)), (3, .int i)] [.int (xs ((i + 3)).toNatClampNeg), .int (xs ((i + 2)).toNatClampNeg), .int (xs ((i + 1)).toNatClampNeg), .ref (lt_z X + 0)]
  refine jr_aload_n hF dL_law_451 0 rfl rfl ?_
  show lt_J X 255 10777 ly_F _ 452 [(0, .ref b), (1, .ref (lt_z X + 0)), (2, .ref (lt_z X + 233)), (3, .int i)] [.ref b, .int (xs ((i + 3)).toNatClampNeg), .int (xs ((i + 2)).toNatClampNeg), .int (xs ((i + 1)).toNatClampNeg), .ref (lt_z X + 0)]
  refine jr_iload_n hF dL_law_452 3 rfl rfl ?_
  show lt_J X 255 10777 ly_F _ 453 [(0, .ref b), (1, .ref (lt_z X + 0)), (2, .ref (lt_z X + 233)), (3, .int i)] [.int i, .ref b, .int (xs ((i + 3)).toNatClampNeg), .int (xs ((i + 2)).toNatClampNeg), .int (xs ((i + 1)).toNatClampNeg), .ref (lt_z X + 0)]
  refine jr_iconst (v := 4) hF dL_law_453 rfl ?_
  show lt_J X 255 10777 ly_F _ 454 [(0, .ref b), (1, .ref (lt_z X + 0)), (2, .ref (lt_z X + 233)), (3, .int i)] [.int (4), .int i, .ref b, .int (xs ((i + 3)).toNatClampNeg), .int (xs ((i + 2)).toNatClampNeg), .int (xs ((i + 1)).toNatClampNeg), .ref (lt_z X + 0)]
  refine jr_iadd hF dL_law_454 ?_
  show lt_J X 255 10777 ly_F _ 455 [(0, .ref b), (1, .ref (lt_z X + 0)), (2, .ref (lt_z X + 233)), (3, .int i)] [.int (i + 4), .ref b, .int (xs ((i + 3)).toNatClampNeg), .int (xs ((i + 2)).toNatClampNeg), .int (xs ((i + 1)).toNatClampNeg), .ref (lt_z X + 0)]
  refine jr_sl hF hX hv.2.2.2.2.1 dL_law_455 ?_
  show lt_J X 255 10777 ly_F _ 456 [(0, .ref b), (1, .ref (lt_z X + 0)), (2, .ref (lt_z X + 233)), (3, .int i)] [.int (xs ((i + 4)).toNatClampNeg), .int (xs ((i + 3)).toNatClampNeg), .int (xs ((i + 2)).toNatClampNeg), .int (xs ((i + 1)).toNatClampNeg), .ref (lt_z X + 0)]
  refine jr_aload_n hF dL_law_456 0 rfl rfl ?_
  show lt_J X 255 10777 ly_F _ 457 [(0, .ref b), (1, .ref (lt_z X + 0)), (2, .ref (lt_z X + 233)), (3, .int i)] [.ref b, .int (xs ((i + 4)).toNatClampNeg), .int (xs ((i + 3)).toNatClampNeg), .int (xs ((i + 2)).toNatClampNeg), .int (xs ((i + 1)).toNatClampNeg), .ref (lt_z X + 0)]
  refine jr_iload_n hF dL_law_457 3 rfl rfl ?_
  show lt_J X 255 10777 ly_F _ 458 [(0, .ref b), (1, .ref (lt_z X + 0)), (2, .ref (lt_z X + 233)), (3, .int i)] [.int i, .ref b, .int (xs ((i + 4)).toNatClampNeg), .int (xs ((i + 3)).toNatClampNeg), .int (xs ((i + 2)).toNatClampNeg), .int (xs ((i + 1)).toNatClampNeg), .ref (lt_z X + 0)]
  refine jr_iconst (v := 5) hF dL_law_458 rfl ?_
  show lt_J X 255 10777 ly_F _ 459 [(0, .ref b), (1, .ref (lt_z X + 0)), (2, .ref (lt_z X + 233)), (3, .int i)] [.int (5), .int i, .ref b, .int (xs ((i + 4)).toNatClampNeg), .int (xs ((i + 3)).toNatClampNeg), .int (xs ((i + 2)).toNatClampNeg), .int (xs ((i + 1)).toNatClampNeg), .ref (lt_z X + 0)]
  refine jr_iadd hF dL_law_459 ?_
  show lt_J X 255 10777 ly_F _ 460 [(0, .ref b), (1, .ref (lt_z X + 0)), (2, .ref (lt_z X + 233)), (3, .int i)] [.int (i + 5), .ref b, .int (xs ((i + 4)).toNatClampNeg), .int (xs ((i + 3)).toNatClampNeg), .int (xs ((i + 2)).toNatClampNeg), .int (xs ((i + 1)).toNatClampNeg), .ref (lt_z X + 0)]
  refine jr_sl hF hX hv.2.2.2.2.2 dL_law_460 ?_
  show lt_J X 255 10777 ly_F _ 461 [(0, .ref b), (1, .ref (lt_z X + 0)), (2, .ref (lt_z X + 233)), (3, .int i)] [.int (xs ((i + 5)).toNatClampNeg), .int (xs ((i + 4)).toNatClampNeg), .int (xs ((i + 3)).toNatClampNeg), .int (xs ((i + 2)).toNatClampNeg), .int (xs ((i + 1)).toNatClampNeg), .ref (lt_z X + 0)]
  refine jr_callV (As := [.int (xs ((i + 1)).toNatClampNeg), .int (xs ((i + 2)).toNatClampNeg), .int (xs ((i + 3)).toNatClampNeg), .int (xs ((i + 4)).toNatClampNeg), .int (xs ((i + 5)).toNatClampNeg)]) (st := []) hF ml_L_44 (c_X11_pour ly_FT ly_F0 e1) ly_F0 rfl ⟨Nat.le_of_ble_eq_true rfl, Nat.le_of_ble_eq_true rfl⟩ ⟨Nat.le_of_ble_eq_true rfl, Nat.le_of_ble_eq_true rfl⟩ (Nat.le_of_ble_eq_true rfl) dL_law_461 ?_
  show lt_J X 255 10777 ly_F _ 464 [(0, .ref b), (1, .ref (lt_z X + 0)), (2, .ref (lt_z X + 233)), (3, .int i)] [.int r]
  refine jr_aload_n hF dL_law_464 2 rfl rfl ?_
  show lt_J X 255 10777 ly_F _ 465 [(0, .ref b), (1, .ref (lt_z X + 0)), (2, .ref (lt_z X + 233)), (3, .int i)] [.ref (lt_z X + 233), .int r]
  refine jr_aload_n hF dL_law_465 0 rfl rfl ?_
  show lt_J X 255 10777 ly_F _ 466 [(0, .ref b), (1, .ref (lt_z X + 0)), (2, .ref (lt_z X + 233)), (3, .int i)] [.ref b, .ref (lt_z X + 233), .int r]
  refine jr_iload_n hF dL_law_466 3 rfl rfl ?_
  show lt_J X 255 10777 ly_F _ 467 [(0, .ref b), (1, .ref (lt_z X + 0)), (2, .ref (lt_z X + 233)), (3, .int i)] [.int i, .ref b, .ref (lt_z X + 233), .int r]
  refine jr_iconst (v := 1) hF dL_law_467 rfl ?_
  show lt_J X 255 10777 ly_F _ 468 [(0, .ref b), (1, .ref (lt_z X + 0)), (2, .ref (lt_z X + 233)), (3, .int i)] [.int (1), .int i, .ref b, .ref (lt_z X + 233), .int r]
  refine jr_iadd hF dL_law_468 ?_
  show lt_J X 255 10777 ly_F _ 469 [(0, .ref b), (1, .ref (lt_z X + 0)), (2, .ref (lt_z X + 233)), (3, .int i)] [.int (i + 1), .ref b, .ref (lt_z X + 233), .int r]
  refine jr_sl hF hX hv.2.1 dL_law_469 ?_
  show lt_J X 255 10777 ly_F _ 470 [(0, .ref b), (1, .ref (lt_z X + 0)), (2, .ref (lt_z X + 233)), (3, .int i)] [.int (xs ((i + 1)).toNatClampNeg), .ref (lt_z X + 233), .int r]
  refine jr_aload_n hF dL_law_470 0 rfl rfl ?_
  show lt_J X 255 10777 ly_F _ 471 [(0, .ref b), (1, .ref (lt_z X + 0)), (2, .ref (lt_z X + 233)), (3, .int i)] [.ref b, .int (xs ((i + 1)).toNatClampNeg), .ref (lt_z X + 233), .int r]
  refine jr_iload_n hF dL_law_471 3 rfl rfl ?_
  show lt_J X 255 10777 ly_F _ 472 [(0, .ref b), (1, .ref (lt_z X + 0)), (2, .ref (lt_z X + 233)), (3, .int i)] [.int i, .ref b, .int (xs ((i + 1)).toNatClampNeg), .ref (lt_z X + 233), .int r]
  refine jr_iconst (v := 2) hF dL_law_472 rfl ?_
  show lt_J X 255 10777 ly_F _ 473 [(0, .ref b), (1, .ref (lt_z X + 0)), (2, .ref (lt_z X + 233)), (3, .int i)] [.int (2), .int i, .ref b, .int (xs ((i + 1)).toNatClampNeg), .ref (lt_z X + 233), .int r]
  refine jr_iadd hF dL_law_473 ?_
  show lt_J X 255 10777 ly_F _ 474 [(0, .ref b), (1, .ref (lt_z X + 0)), (2, .ref (lt_z X + 233)), (3, .int i)] [.int (i + 2), .ref b, .int (xs ((i + 1)).toNatClampNeg), .ref (lt_z X + 233), .int r]
  refine jr_sl hF hX hv.2.2.1 dL_law_474 ?_
  show lt_J X 255 10777 ly_F _ 475 [(0, .ref b), (1, .ref (lt_z X + 0)), (2, .ref (lt_z X + 233)), (3, .int i)] [.int (xs ((i + 2)).toNatClampNeg), .int (xs ((i + 1)).toNatClampNeg), .ref (lt_z X + 233), .int r]
  refine jr_aload_n hF dL_law_475 0 rfl rfl ?_
  show lt_J X 255 10777 ly_F _ 476 [(0, .ref b), (1, .ref (lt_z X + 0)), (2, .ref (lt_z X + 233)), (3, .int i)] [.ref b, .int (xs ((i + 2)).toNatClampNeg), .int (xs ((i + 1)).toNatClampNeg), .ref (lt_z X + 233), .int r]
  refine jr_iload_n hF dL_law_476 3 rfl rfl ?_
  show lt_J X 255 10777 ly_F _ 477 [(0, .ref b), (1, .ref (lt_z X + 0)), (2, .ref (lt_z X + 233)), (3, .int i)] [.int i, .ref b, .int (xs ((i + 2)).toNatClampNeg), .int (xs ((i + 1)).toNatClampNeg), .ref (lt_z X + 233), .int r]
  refine jr_iconst (v := 3) hF dL_law_477 rfl ?_
  show lt_J X 255 10777 ly_F _ 478 [(0, .ref b), (1, .ref (lt_z X + 0)), (2, .ref (lt_z X + 233)), (3, .int i)] [.int (3), .int i, .ref b, .int (xs ((i + 2)).toNatClampNeg), .int (xs ((i + 1)).toNatClampNeg), .ref (lt_z X + 233), .int r]
  refine jr_iadd hF dL_law_478 ?_
  show lt_J X 255 10777 ly_F _ 479 [(0, .ref b), (1, .ref (lt_z X + 0)), (2, .ref (lt_z X + 233)), (3, .int i)] [.int (i + 3), .ref b, .int (xs ((i + 2)).toNatClampNeg), .int (xs ((i + 1)).toNatClampNeg), .ref (lt_z X + 233), .int r]
  refine jr_sl hF hX hv.2.2.2.1 dL_law_479 ?_
  show lt_J X 255 10777 ly_F _ 480 [(0, .ref b), (1, .ref (lt_z X + 0)), (2, .ref (lt_z X + 233)), (3, .int i)] [.int (xs ((i + 3)).toNatClampNeg), .int (xs ((i + 2)).toNatClampNeg), .int (xs ((i + 1)).toNatClampNeg), .ref (lt_z X + 233), .int r]
  refine jr_aload_n hF dL_law_480 0 rfl rfl ?_
  show lt_J X 255 10777 ly_F _ 481 [(0, .ref b), (1, .ref (lt_z X + 0)), (2, .ref (lt_z X + 233)), (3, .int i)] [.ref b, .int (xs ((i + 3)).toNatClampNeg), .int (xs ((i + 2)).toNatClampNeg), .int (xs ((i + 1)).toNatClampNeg), .ref (lt_z X + 233), .int r]
  refine jr_iload_n hF dL_law_481 3 rfl rfl ?_
  show lt_J X 255 10777 ly_F _ 482 [(0, .ref b), (1, .ref (lt_z X + 0)), (2, .ref (lt_z X + 233)), (3, .int i)] [.int i, .ref b, .int (xs ((i + 3)).toNatClampNeg), .int (xs ((i + 2)).toNatClampNeg), .int (xs ((i + 1)).toNatClampNeg), .ref (lt_z X + 233), .int r]
  refine jr_iconst (v := 4) hF dL_law_482 rfl ?_
  show lt_J X 255 10777 ly_F _ 483 [(0, .ref b), (1, .ref (lt_z X + 0)), (2, .ref (lt_z X + 233)), (3, .int i)] [.int (4), .int i, .ref b, .int (xs ((i + 3)).toNatClampNeg), .int (xs ((i + 2)).toNatClampNeg), .int (xs ((i + 1)).toNatClampNeg), .ref (lt_z X + 233), .int r]
  refine jr_iadd hF dL_law_483 ?_
  show lt_J X 255 10777 ly_F _ 484 [(0, .ref b), (1, .ref (lt_z X + 0)), (2, .ref (lt_z X + 233)), (3, .int i)] [.int (i + 4), .ref b, .int (xs ((i + 3)).toNatClampNeg), .int (xs ((i + 2)).toNatClampNeg), .int (xs ((i + 1)).toNatClampNeg), .ref (lt_z X + 233), .int r]
  refine jr_sl hF hX hv.2.2.2.2.1 dL_law_484 ?_
  show lt_J X 255 10777 ly_F _ 485 [(0, .ref b), (1, .ref (lt_z X + 0)), (2, .ref (lt_z X + 233)), (3, .int i)] [.int (xs ((i + 4)).toNatClampNeg), .int (xs ((i + 3)).toNatClampNeg), .int (xs ((i + 2)).toNatClampNeg), .int (xs ((i + 1)).toNatClampNeg), .ref (lt_z X + 233), .int r]
  refine jr_aload_n hF dL_law_485 0 rfl rfl ?_
  show lt_J X 255 10777 ly_F _ 486 [(0, .ref b), (1, .ref (lt_z X + 0)), (2, .ref (lt_z X + 233)), (3, .int i)] [.ref b, .int (xs ((i + 4)).toNatClampNeg), .int (xs ((i + 3)).toNatClampNeg), .int (xs ((i + 2)).toNatClampNeg), .int (xs ((i + 1)).toNatClampNeg), .ref (lt_z X + 233), .int r]
  refine jr_iload_n hF dL_law_486 3 rfl rfl ?_
  show lt_J X 255 10777 ly_F _ 487 [(0, .ref b), (1, .ref (lt_z X + 0)), (2, .ref (lt_z X + 233)), (3, .int i)] [.int i, .ref b, .int (xs ((i + 4)).toNatClampNeg), .int (xs ((i + 3)).toNatClampNeg), .int (xs ((i + 2)).toNatClampNeg), .int (xs ((i + 1)).toNatClampNeg), .ref (lt_z X + 233), .int r]
  refine jr_iconst (v := 5) hF dL_law_487 rfl ?_
  show lt_J X 255 10777 ly_F _ 488 [(0, .ref b), (1, .ref (lt_z X + 0)), (2, .ref (lt_z X + 233)), (3, .int i)] [.int (5), .int i, .ref b, .int (xs ((i + 4)).toNatClampNeg), .int (xs ((i + 3)).toNatClampNeg), .int (xs ((i + 2)).toNatClampNeg), .int (xs ((i + 1)).toNatClampNeg), .ref (lt_z X + 233), .int r]
  refine jr_iadd hF dL_law_488 ?_
  show lt_J X 255 10777 ly_F _ 489 [(0, .ref b), (1, .ref (lt_z X + 0)), (2, .ref (lt_z X + 233)), (3, .int i)] [.int (i + 5), .ref b, .int (xs ((i + 4)).toNatClampNeg), .int (xs ((i + 3)).toNatClampNeg), .int (xs ((i + 2)).toNatClampNeg), .int (xs ((i + 1)).toNatClampNeg), .ref (lt_z X + 233), .int r]
  refine jr_sl hF hX hv.2.2.2.2.2 dL_law_489 ?_
  show lt_J X 255 10777 ly_F _ 490 [(0, .ref b), (1, .ref (lt_z X + 0)), (2, .ref (lt_z X + 233)), (3, .int i)] [.int (xs ((i + 5)).toNatClampNeg), .int (xs ((i + 4)).toNatClampNeg), .int (xs ((i + 3)).toNatClampNeg), .int (xs ((i + 2)).toNatClampNeg), .int (xs ((i + 1)).toNatClampNeg), .ref (lt_z X + 233), .int r]
  refine jr_callV (As := [.int (xs ((i + 1)).toNatClampNeg), .int (xs ((i + 2)).toNatClampNeg), .int (xs ((i + 3)).toNatClampNeg), .int (xs ((i + 4)).toNatClampNeg), .int (xs ((i + 5)).toNatClampNeg)]) (st := [.int r]) hF ml_L_48 (c_X12_pour ly_FT ly_F233 e2) ly_F233 rfl ⟨Nat.le_of_ble_eq_true rfl, Nat.le_of_ble_eq_true rfl⟩ ⟨Nat.le_of_ble_eq_true rfl, Nat.le_of_ble_eq_true rfl⟩ (Nat.le_of_ble_eq_true rfl) dL_law_490 ?_
  show lt_J X 255 10777 ly_F _ 493 [(0, .ref b), (1, .ref (lt_z X + 0)), (2, .ref (lt_z X + 233)), (3, .int i)] [.int r, .int r]
  exact jr_icmp_eq (tgt := 1664) (g1 := some ()) (g2 := none) (r := ()) hF dL_law_493 rfl (if_pos rfl) (fun _ => kk _ hR2) (fun z => by cases z)
set_option maxRecDepth 100000 in
theorem ll_7 (hF : lt_F X cL_law RL 4 room_1) (hX : ll_X X b L xs) (hv : ll_v i L) (hR : lr_R w) (kk : ∀ w', lr_R w' → lt_J X 255 10777 ly_F w' 1664 [(0, .ref b), (1, .ref (lt_z X + 0)), (2, .ref (lt_z X + 233)), (3, .int i)] []) : lt_J X 255 10777 ly_F w 498 [(0, .ref b), (1, .ref (lt_z X + 0)), (2, .ref (lt_z X + 233)), (3, .int i)] [] := by
  obtain ⟨hst, A, h⟩ := id hR
  obtain ⟨r, w1, w2, e1, e2, hR2⟩ := op_feed ly_FS hR ((xs ((i + 1)).toNatClampNeg)) ((xs ((i + 2)).toNatClampNeg)) ((xs ((i + 3)).toNatClampNeg)) ((xs ((i + 4)).toNatClampNeg)) ((xs ((i + 5)).toNatClampNeg))
  refine jr_aload_n hF dL_law_498 1 rfl rfl ?_
  show lt_J X 255 10777 ly_F _ 499 [(0, .ref b), (1, .ref (lt_z X + 0)), (2, .ref (lt_z X + 233)), (3, .int i)] [.ref (lt_z X + 0)]
  refine jr_aload_n hF dL_law_499 0 rfl rfl ?_
  show lt_J X 255 10777 ly_F _ 500 [(0, .ref b), (1, .ref (lt_z X + 0)), (2, .ref (lt_z X + 233)), (3, .int i)] [.ref b, .ref (lt_z X + 0)]
  refine jr_iload_n hF dL_law_500 3 rfl rfl ?_
  show lt_J X 255 10777 ly_F _ 501 [(0, .ref b), (1, .ref (lt_z X + 0)), (2, .ref (lt_z X + 233)), (3, .int i)] [.int i, .ref b, .ref (lt_z X + 0)]
  refine jr_iconst (v := 1) hF dL_law_501 rfl ?_
  show lt_J X 255 10777 ly_F _ 502 [(0, .ref b), (1, .ref (lt_z X + 0)), (2, .ref (lt_z X + 233)), (3, .int i)] [.int (1), .int i, .ref b, .ref (lt_z X + 0)]
  refine jr_iadd hF dL_law_502 ?_
  show lt_J X 255 10777 ly_F _ 503 [(0, .ref b), (1, .ref (lt_z X + 0)), (2, .ref (lt_z X + 233)), (3, .int i)] [.int (i + 1), .ref b, .ref (lt_z X + 0)]
  refine jr_sl hF hX hv.2.1 dL_law_503 ?_
  show lt_J X 255 10777 ly_F _ 504 [(0, .ref b), (1, .ref (lt_z X + 0)), (2, .ref (lt_z X + 233)), (3, .int i)] [.int (xs ((i + 1)).toNatClampNeg), .ref (lt_z X + 0)]
  refine jr_aload_n hF dL_law_504 0 rfl rfl ?_
  show lt_J X 255 10777 ly_F _ 505 [(0, .ref b), (1, .ref (lt_z X + 0)), (2, .ref (lt_z X + 233)), (3, .int i)] [.ref b, .int (xs ((i + 1)).toNatClampNeg), .ref (lt_z X + 0)]
  refine jr_iload_n hF dL_law_505 3 rfl rfl ?_
  show lt_J X 255 10777 ly_F _ 506 [(0, .ref b), (1, .ref (lt_z X + 0)), (2, .ref (lt_z X + 233)), (3, .int i)] [.int i, .ref b, .int (xs ((i + 1)).toNatClampNeg), .ref (lt_z X + 0)]
  refine jr_iconst (v := 2) hF dL_law_506 rfl ?_
  show lt_J X 255 10777 ly_F _ 507 [(0, .ref b), (1, .ref (lt_z X + 0)), (2, .ref (lt_z X + 233)), (3, .int i)] [.int (2), .int i, .ref b, .int (xs ((i + 1)).toNatClampNeg), .ref (lt_z X + 0)]
  refine jr_iadd hF dL_law_507 ?_
  show lt_J X 255 10777 ly_F _ 508 [(0, .ref b), (1, .ref (lt_z X + 0)), (2, .ref (lt_z X + 233)), (3, .int i)] [.int (i + 2), .ref b, .int (xs ((i + 1)).toNatClampNeg), .ref (lt_z X + 0)]
  refine jr_sl hF hX hv.2.2.1 dL_law_508 ?_
  show lt_J X 255 10777 ly_F _ 509 [(0, .ref b), (1, .ref (lt_z X + 0)), (2, .ref (lt_z X + 233)), (3, .int i)] [.int (xs ((i + 2)).toNatClampNeg), .int (xs ((i + 1)).toNatClampNeg), .ref (lt_z X + 0)]
  refine jr_aload_n hF dL_law_509 0 rfl rfl ?_
  show lt_J X 255 10777 ly_F _ 510 [(0, .ref b), (1, .ref (lt_z X + 0)), (2, .ref (lt_z X + 233)), (3, .int i)] [.ref b, .int (xs ((i + 2)).toNatClampNeg), .int (xs ((i + 1)).toNatClampNeg), .ref (lt_z X + 0)]
  refine jr_iload_n hF dL_law_510 3 rfl rfl ?_
  show lt_J X 255 10777 ly_F _ 511 [(0, .ref b), (1, .ref (lt_z X + 0)), (2, .ref (lt_z X + 233)), (3, .int i)] [.int i, .ref b, .int (xs ((i + 2)).toNatClampNeg), .int (xs ((i + 1)).toNatClampNeg), .ref (lt_z X + 0)]
  refine jr_iconst (v := 3) hF dL_law_511 rfl ?_
  show lt_J X 255 10777 ly_F _ 512 [(0, .ref b), (1, .ref (lt_z X + 0)), (2, .ref (lt_z X + 233)), (3, .int i)] [.int (3), .int i, .ref b, .int (xs ((i + 2)).toNatClampNeg), .int (xs ((i + 1)).toNatClampNeg), .ref (lt_z X + 0)]
  refine jr_iadd hF dL_law_512 ?_
  show lt_J X 255 10777 ly_F _ 513 [(0, .ref b), (1, .ref (lt_z X + 0)), (2, .ref (lt_z X + 233)), (3, .int i)] [.int (i + 3), .ref b, .int (xs ((i + 2)).toNatClampNeg), .int (xs ((i + 1)).toNatClampNeg), .ref (lt_z X + 0)]
  refine jr_sl hF hX hv.2.2.2.1 dL_law_513 ?_
  show lt_J X 255 10777 ly_F _ 514 [(0, .ref b), (1, .ref (lt_z X + 0)), (2, .ref (lt_z X + 233)), (3, .int i)] [.int (xs ((i + 3)).toNatClampNeg), .int (xs ((i + 2)).toNatClampNeg), .int (xs ((i + 1)).toNatClampNeg), .ref (lt_z X + 0)]
  refine jr_aload_n hF dL_law_514 0 rfl rfl ?_
  show lt_J X 255 10777 ly_F _ 515 [(0, .ref b), (1, .ref (lt_z X + 0)), (2, .ref (lt_z X + 233)), (3, .int i)] [.ref b, .int (xs ((i + 3)).toNatClampNeg), .int (xs ((i + 2)).toNatClampNeg), .int (xs ((i + 1)).toNatClampNeg), .ref (lt_z X + 0)]
  refine jr_iload_n hF dL_law_515 3 rfl rfl ?_
  show lt_J X 255 10777 ly_F _ 516 [(0, .ref b), (1, .ref (lt_z X + 0)), (2, .ref (lt_z X + 233)), (3, .int i)] [.int i, .ref b, .int (xs ((i + 3)).toNatClampNeg), .int (xs ((i + 2)).toNatClampNeg), .int (xs ((i + 1)).toNatClampNeg), .ref (lt_z X + 0)]
  refine jr_iconst (v := 4) hF dL_law_516 rfl ?_
  show lt_J X 255 10777 ly_F _ 517 [(0, .ref b), (1, .ref (lt_z X + 0)), (2, .ref (lt_z X + 233)), (3, .int i)] [.int (4), .int i, .ref b, .int (xs ((i + 3)).toNatClampNeg), .int (xs ((i + 2)).toNatClampNeg), .int (xs ((i + 1)).toNatClampNeg), .ref (lt_z X + 0)]
  refine jr_iadd hF dL_law_517 ?_
  show lt_J X 255 10777 ly_F _ 518 [(0, .ref b), (1, .ref (lt_z X + 0)), (2, .ref (lt_z X + 233)), (3, .int i)] [.int (i + 4), .ref b, .int (xs ((i + 3)).toNatClampNeg), .int (xs ((i + 2)).toNatClampNeg), .int (xs ((i + 1)).toNatClampNeg), .ref (lt_z X + 0)]
  refine jr_sl hF hX hv.2.2.2.2.1 dL_law_518 ?_
  show lt_J X 255 10777 ly_F _ 519 [(0, .ref b), (1, .ref (lt_z X + 0)), (2, .ref (lt_z X + 233)), (3, .int i)] [.int (xs ((i + 4)).toNatClampNeg), .int (xs ((i + 3)).toNatClampNeg), .int (xs ((i + 2)).toNatClampNeg), .int (xs ((i + 1)).toNatClampNeg), .ref (lt_z X + 0)]
  refine jr_aload_n hF dL_law_519 0 rfl rfl ?_
  show lt_J X 255 10777 ly_F _ 520 [(0, .ref b), (1, .ref (lt_z X + 0)), (2, .ref (lt_z X + 233)), (3, .int i)] [.ref b, .int (xs ((i + 4)).toNatClampNeg), .int (xs ((i + 3)).toNatClampNeg), .int (xs ((i + 2)).toNatClampNeg), .int (xs ((i + 1)).toNatClampNeg), .ref (lt_z X + 0)]
  refine jr_iload_n hF dL_law_520 3 rfl rfl ?_
  show lt_J X 255 10777 ly_F _ 521 [(0, .ref b), (1, .ref (lt_z X + 0)), (2, .ref (lt_z X + 233)), (3, .int i)] [.int i, .ref b, .int (xs ((i + 4)).toNatClampNeg), .int (xs ((i + 3)).toNatClampNeg), .int (xs ((i + 2)).toNatClampNeg), .int (xs ((i + 1)).toNatClampNeg), .ref (lt_z X + 0)]
  refine jr_iconst (v := 5) hF dL_law_521 rfl ?_
  show lt_J X 255 10777 ly_F _ 522 [(0, .ref b), (1, .ref (lt_z X + 0)), (2, .ref (lt_z X + 233)), (3, .int i)] [.int (5), .int i, .ref b, .int (xs ((i + 4)).toNatClampNeg), .int (xs ((i + 3)).toNatClampNeg), .int (xs ((i + 2)).toNatClampNeg), .int (xs ((i + 1)).toNatClampNeg), .ref (lt_z X + 0)]
  refine jr_iadd hF dL_law_522 ?_
  show lt_J X 255 10777 ly_F _ 523 [(0, .ref b), (1, .ref (lt_z X + 0)), (2, .ref (lt_z X + 233)), (3, .int i)] [.int (i + 5), .ref b, .int (xs ((i + 4)).toNatClampNeg), .int (xs ((i + 3)).toNatClampNeg), .int (xs ((i + 2)).toNatClampNeg), .int (xs ((i + 1)).toNatClampNeg), .ref (lt_z X + 0)]
  refine jr_sl hF hX hv.2.2.2.2.2 dL_law_523 ?_
  show lt_J X 255 10777 ly_F _ 524 [(0, .ref b), (1, .ref (lt_z X + 0)), (2, .ref (lt_z X + 233)), (3, .int i)] [.int (xs ((i + 5)).toNatClampNeg), .int (xs ((i + 4)).toNatClampNeg), .int (xs ((i + 3)).toNatClampNeg), .int (xs ((i + 2)).toNatClampNeg), .int (xs ((i + 1)).toNatClampNeg), .ref (lt_z X + 0)]
  refine jr_callV (As := [.int (xs ((i + 1)).toNatClampNeg), .int (xs ((i + 2)).toNatClampNeg), .int (xs ((i + 3)).toNatClampNeg), .int (xs ((i + 4)).toNatClampNeg), .int (xs ((i + 5)).toNatClampNeg)]) (st := []) hF ml_L_49 (c_X11_feed ly_FT ly_F0 e1) ly_F0 rfl ⟨Nat.le_of_ble_eq_true rfl, Nat.le_of_ble_eq_true rfl⟩ ⟨Nat.le_of_ble_eq_true rfl, Nat.le_of_ble_eq_true rfl⟩ (Nat.le_of_ble_eq_true rfl) dL_law_524 ?_
  show lt_J X 255 10777 ly_F _ 527 [(0, .ref b), (1, .ref (lt_z X + 0)), (2, .ref (lt_z X + 233)), (3, .int i)] [.int r]
  refine jr_aload_n hF dL_law_527 2 rfl rfl ?_
  show lt_J X 255 10777 ly_F _ 528 [(0, .ref b), (1, .ref (lt_z X + 0)), (2, .ref (lt_z X + 233)), (3, .int i)] [.ref (lt_z X + 233), .int r]
  refine jr_aload_n hF dL_law_528 0 rfl rfl ?_
  show lt_J X 255 10777 ly_F _ 529 [(0, .ref b), (1, .ref (lt_z X + 0)), (2, .ref (lt_z X + 233)), (3, .int i)] [.ref b, .ref (lt_z X + 233), .int r]
  refine jr_iload_n hF dL_law_529 3 rfl rfl ?_
  show lt_J X 255 10777 ly_F _ 530 [(0, .ref b), (1, .ref (lt_z X + 0)), (2, .ref (lt_z X + 233)), (3, .int i)] [.int i, .ref b, .ref (lt_z X + 233), .int r]
  refine jr_iconst (v := 1) hF dL_law_530 rfl ?_
  show lt_J X 255 10777 ly_F _ 531 [(0, .ref b), (1, .ref (lt_z X + 0)), (2, .ref (lt_z X + 233)), (3, .int i)] [.int (1), .int i, .ref b, .ref (lt_z X + 233), .int r]
  refine jr_iadd hF dL_law_531 ?_
  show lt_J X 255 10777 ly_F _ 532 [(0, .ref b), (1, .ref (lt_z X + 0)), (2, .ref (lt_z X + 233)), (3, .int i)] [.int (i + 1), .ref b, .ref (lt_z X + 233), .int r]
  refine jr_sl hF hX hv.2.1 dL_law_532 ?_
  show lt_J X 255 10777 ly_F _ 533 [(0, .ref b), (1, .ref (lt_z X + 0)), (2, .ref (lt_z X + 233)), (3, .int i)] [.int (xs ((i + 1)).toNatClampNeg), .ref (lt_z X + 233), .int r]
  refine jr_aload_n hF dL_law_533 0 rfl rfl ?_
  show lt_J X 255 10777 ly_F _ 534 [(0, .ref b), (1, .ref (lt_z X + 0)), (2, .ref (lt_z X + 233)), (3, .int i)] [.ref b, .int (xs ((i + 1)).toNatClampNeg), .ref (lt_z X + 233), .int r]
  refine jr_iload_n hF dL_law_534 3 rfl rfl ?_
  show lt_J X 255 10777 ly_F _ 535 [(0, .ref b), (1, .ref (lt_z X + 0)), (2, .ref (lt_z X + 233)), (3, .int i)] [.int i, .ref b, .int (xs ((i + 1)).toNatClampNeg), .ref (lt_z X + 233), .int r]
  refine jr_iconst (v := 2) hF dL_law_535 rfl ?_
  show lt_J X 255 10777 ly_F _ 536 [(0, .ref b), (1, .ref (lt_z X + 0)), (2, .ref (lt_z X + 233)), (3, .int i)] [.int (2), .int i, .ref b, .int (xs ((i + 1)).toNatClampNeg), .ref (lt_z X + 233), .int r]
  refine jr_iadd hF dL_law_536 ?_
  show lt_J X 255 10777 ly_F _ 537 [(0, .ref b), (1, .ref (lt_z X + 0)), (2, .ref (lt_z X + 233)), (3, .int i)] [.int (i + 2), .ref b, .int (xs ((i + 1)).toNatClampNeg), .ref (lt_z X + 233), .int r]
  refine jr_sl hF hX hv.2.2.1 dL_law_537 ?_
  show lt_J X 255 10777 ly_F _ 538 [(0, .ref b), (1, .ref (lt_z X + 0)), (2, .ref (lt_z X + 233)), (3, .int i)] [.int (xs ((i + 2)).toNatClampNeg), .int (xs ((i + 1)).toNatClampNeg), .ref (lt_z X + 233), .int r]
  refine jr_aload_n hF dL_law_538 0 rfl rfl ?_
  show lt_J X 255 10777 ly_F _ 539 [(0, .ref b), (1, .ref (lt_z X + 0)), (2, .ref (lt_z X + 233)), (3, .int i)] [.ref b, .int (xs ((i + 2)).toNatClampNeg), .int (xs ((i + 1)).toNatClampNeg), .ref (lt_z X + 233), .int r]
  refine jr_iload_n hF dL_law_539 3 rfl rfl ?_
  show lt_J X 255 10777 ly_F _ 540 [(0, .ref b), (1, .ref (lt_z X + 0)), (2, .ref (lt_z X + 233)), (3, .int i)] [.int i, .ref b, .int (xs ((i + 2)).toNatClampNeg), .int (xs ((i + 1)).toNatClampNeg), .ref (lt_z X + 233), .int r]
  refine jr_iconst (v := 3) hF dL_law_540 rfl ?_
  show lt_J X 255 10777 ly_F _ 541 [(0, .ref b), (1, .ref (lt_z X + 0)), (2, .ref (lt_z X + 233)), (3, .int i)] [.int (3), .int i, .ref b, .int (xs ((i + 2)).toNatClampNeg), .int (xs ((i + 1)).toNatClampNeg), .ref (lt_z X + 233), .int r]
  refine jr_iadd hF dL_law_541 ?_
  show lt_J X 255 10777 ly_F _ 542 [(0, .ref b), (1, .ref (lt_z X + 0)), (2, .ref (lt_z X + 233)), (3, .int i)] [.int (i + 3), .ref b, .int (xs ((i + 2)).toNatClampNeg), .int (xs ((i + 1)).toNatClampNeg), .ref (lt_z X + 233), .int r]
  refine jr_sl hF hX hv.2.2.2.1 dL_law_542 ?_
  show lt_J X 255 10777 ly_F _ 543 [(0, .ref b), (1, .ref (lt_z X + 0)), (2, .ref (lt_z X + 233)), (3, .int i)] [.int (xs ((i + 3)).toNatClampNeg), .int (xs ((i + 2)).toNatClampNeg), .int (xs ((i + 1)).toNatClampNeg), .ref (lt_z X + 233), .int r]
  refine jr_aload_n hF dL_law_543 0 rfl rfl ?_
  show lt_J X 255 10777 ly_F _ 544 [(0, .ref b), (1, .ref (lt_z X + 0)), (2, .ref (lt_z X + 233)), (3, .int i)] [.ref b, .int (xs ((i + 3)).toNatClampNeg), .int (xs ((i + 2)).toNatClampNeg), .int (xs ((i + 1)).toNatClampNeg), .ref (lt_z X + 233), .int r]
  refine jr_iload_n hF dL_law_544 3 rfl rfl ?_
  show lt_J X 255 10777 ly_F _ 545 [(0, .ref b), (1, .ref (lt_z X + 0)), (2, .ref (lt_z X + 233)), (3, .int i)] [.int i, .ref b, .int (xs ((i + 3)).toNatClampNeg), .int (xs ((i + 2)).toNatClampNeg), .int (xs ((i + 1)).toNatClampNeg), .ref (lt_z X + 233), .int r]
  refine jr_iconst (v := 4) hF dL_law_545 rfl ?_
  show lt_J X 255 10777 ly_F _ 546 [(0, .ref b), (1, .ref (lt_z X + 0)), (2, .ref (lt_z X + 233)), (3, .int i)] [.int (4), .int i, .ref b, .int (xs ((i + 3)).toNatClampNeg), .int (xs ((i + 2)).toNatClampNeg), .int (xs ((i + 1)).toNatClampNeg), .ref (lt_z X + 233), .int r]
  refine jr_iadd hF dL_law_546 ?_
  show lt_J X 255 10777 ly_F _ 547 [(0, .ref b), (1, .ref (lt_z X + 0)), (2, .ref (lt_z X + 233)), (3, .int i)] [.int (i + 4), .ref b, .int (xs ((i + 3)).toNatClampNeg), .int (xs ((i + 2)).toNatClampNeg), .int (xs ((i + 1)).toNatClampNeg), .ref (lt_z X + 233), .int r]
  refine jr_sl hF hX hv.2.2.2.2.1 dL_law_547 ?_
  show lt_J X 255 10777 ly_F _ 548 [(0, .ref b), (1, .ref (lt_z X + 0)), (2, .ref (lt_z X + 233)), (3, .int i)] [.int (xs ((i + 4)).toNatClampNeg), .int (xs ((i + 3)).toNatClampNeg), .int (xs ((i + 2)).toNatClampNeg), .int (xs ((i + 1)).toNatClampNeg), .ref (lt_z X + 233), .int r]
  refine jr_aload_n hF dL_law_548 0 rfl rfl ?_
  show lt_J X 255 10777 ly_F _ 549 [(0, .ref b), (1, .ref (lt_z X + 0)), (2, .ref (lt_z X + 233)), (3, .int i)] [.ref b, .int (xs ((i + 4)).toNatClampNeg), .int (xs ((i + 3)).toNatClampNeg), .int (xs ((i + 2)).toNatClampNeg), .int (xs ((i + 1)).toNatClampNeg), .ref (lt_z X + 233), .int r]
  refine jr_iload_n hF dL_law_549 3 rfl rfl ?_
  show lt_J X 255 10777 ly_F _ 550 [(0, .ref b), (1, .ref (lt_z X + 0)), (2, .ref (lt_z X + 233)), (3, .int i)] [.int i, .ref b, .int (xs ((i + 4)).toNatClampNeg), .int (xs ((i + 3)).toNatClampNeg), .int (xs ((i + 2)).toNatClampNeg), .int (xs ((i + 1)).toNatClampNeg), .ref (lt_z X + 233), .int r]
  refine jr_iconst (v := 5) hF dL_law_550 rfl ?_
  show lt_J X 255 10777 ly_F _ 551 [(0, .ref b), (1, .ref (lt_z X + 0)), (2, .ref (lt_z X + 233)), (3, .int i)] [.int (5), .int i, .ref b, .int (xs ((i + 4)).toNatClampNeg), .int (xs ((i + 3)).toNatClampNeg), .int (xs ((i + 2)).toNatClampNeg), .int (xs ((i + 1)).toNatClampNeg), .ref (lt_z X + 233), .int r]
  refine jr_iadd hF dL_law_551 ?_
  show lt_J X 255 10777 ly_F _ 552 [(0, .ref b), (1, .ref (lt_z X + 0)), (2, .ref (lt_z X + 233)), (3, .int i)] [.int (i + 5), .ref b, .int (xs ((i + 4)).toNatClampNeg), .int (xs ((i + 3)).toNatClampNeg), .int (xs ((i + 2)).toNatClampNeg), .int (xs ((i + 1)).toNatClampNeg), .ref (lt_z X + 233), .int r]
  refine jr_sl hF hX hv.2.2.2.2.2 dL_law_552 ?_
  show lt_J X 255 10777 ly_F _ 553 [(0, .ref b), (1, .ref (lt_z X + 0)), (2, .ref (lt_z X + 233)), (3, .int i)] [.int (xs ((i + 5)).toNatClampNeg), .int (xs ((i + 4)).toNatClampNeg), .int (xs ((i + 3)).toNatClampNeg), .int (xs ((i + 2)).toNatClampNeg), .int (xs ((i + 1)).toNatClampNeg), .ref (lt_z X + 233), .int r]
  refine jr_callV (As := [.int (xs ((i + 1)).toNatClampNeg), .int (xs ((i + 2)).toNatClampNeg), .int (xs ((i + 3)).toNatClampNeg), .int (xs ((i + 4)).toNatClampNeg), .int (xs ((i + 5)).toNatClampNeg)]) (st := [.int r]) hF ml_L_53 (c_X12_feed ly_FT ly_F233 e2) ly_F233 rfl ⟨Nat.le_of_ble_eq_true rfl, Nat.le_of_ble_eq_true rfl⟩ ⟨Nat.le_of_ble_eq_true rfl, Nat.le_of_ble_eq_true rfl⟩ (Nat.le_of_ble_eq_true rfl) dL_law_553 ?_
  show lt_J X 255 10777 ly_F _ 556 [(0, .ref b), (1, .ref (lt_z X + 0)), (2, .ref (lt_z X + 233)), (3, .int i)] [.int r, .int r]
  exact jr_icmp_eq (tgt := 1664) (g1 := some ()) (g2 := none) (r := ()) hF dL_law_556 rfl (if_pos rfl) (fun _ => kk _ hR2) (fun z => by cases z)
set_option maxRecDepth 100000 in
theorem ll_8 (hF : lt_F X cL_law RL 4 room_1) (hX : ll_X X b L xs) (hv : ll_v i L) (hR : lr_R w) (kk : ∀ w', lr_R w' → lt_J X 255 10777 ly_F w' 1664 [(0, .ref b), (1, .ref (lt_z X + 0)), (2, .ref (lt_z X + 233)), (3, .int i)] []) : lt_J X 255 10777 ly_F w 561 [(0, .ref b), (1, .ref (lt_z X + 0)), (2, .ref (lt_z X + 233)), (3, .int i)] [] := by
  obtain ⟨hst, A, h⟩ := id hR
  obtain ⟨r, w1, w2, e1, e2, hR2⟩ := op_table ly_FS h ((xs ((i + 1)).toNatClampNeg))
  refine jr_aload_n hF dL_law_561 1 rfl rfl ?_
  show lt_J X 255 10777 ly_F _ 562 [(0, .ref b), (1, .ref (lt_z X + 0)), (2, .ref (lt_z X + 233)), (3, .int i)] [.ref (lt_z X + 0)]
  refine jr_aload_n hF dL_law_562 0 rfl rfl ?_
  show lt_J X 255 10777 ly_F _ 563 [(0, .ref b), (1, .ref (lt_z X + 0)), (2, .ref (lt_z X + 233)), (3, .int i)] [.ref b, .ref (lt_z X + 0)]
  refine jr_iload_n hF dL_law_563 3 rfl rfl ?_
  show lt_J X 255 10777 ly_F _ 564 [(0, .ref b), (1, .ref (lt_z X + 0)), (2, .ref (lt_z X + 233)), (3, .int i)] [.int i, .ref b, .ref (lt_z X + 0)]
  refine jr_iconst (v := 1) hF dL_law_564 rfl ?_
  show lt_J X 255 10777 ly_F _ 565 [(0, .ref b), (1, .ref (lt_z X + 0)), (2, .ref (lt_z X + 233)), (3, .int i)] [.int (1), .int i, .ref b, .ref (lt_z X + 0)]
  refine jr_iadd hF dL_law_565 ?_
  show lt_J X 255 10777 ly_F _ 566 [(0, .ref b), (1, .ref (lt_z X + 0)), (2, .ref (lt_z X + 233)), (3, .int i)] [.int (i + 1), .ref b, .ref (lt_z X + 0)]
  refine jr_sl hF hX hv.2.1 dL_law_566 ?_
  show lt_J X 255 10777 ly_F _ 567 [(0, .ref b), (1, .ref (lt_z X + 0)), (2, .ref (lt_z X + 233)), (3, .int i)] [.int (xs ((i + 1)).toNatClampNeg), .ref (lt_z X + 0)]
  refine jr_callV (As := [.int (xs ((i + 1)).toNatClampNeg)]) (st := []) hF ml_L_54 (c_X11_table ly_FT ly_F0 e1) ly_F0 rfl ⟨Nat.le_of_ble_eq_true rfl, Nat.le_of_ble_eq_true rfl⟩ ⟨Nat.le_of_ble_eq_true rfl, Nat.le_of_ble_eq_true rfl⟩ (Nat.le_of_ble_eq_true rfl) dL_law_567 ?_
  show lt_J X 255 10777 ly_F _ 570 [(0, .ref b), (1, .ref (lt_z X + 0)), (2, .ref (lt_z X + 233)), (3, .int i)] [.int r]
  refine jr_aload_n hF dL_law_570 2 rfl rfl ?_
  show lt_J X 255 10777 ly_F _ 571 [(0, .ref b), (1, .ref (lt_z X + 0)), (2, .ref (lt_z X + 233)), (3, .int i)] [.ref (lt_z X + 233), .int r]
  refine jr_aload_n hF dL_law_571 0 rfl rfl ?_
  show lt_J X 255 10777 ly_F _ 572 [(0, .ref b), (1, .ref (lt_z X + 0)), (2, .ref (lt_z X + 233)), (3, .int i)] [.ref b, .ref (lt_z X + 233), .int r]
  refine jr_iload_n hF dL_law_572 3 rfl rfl ?_
  show lt_J X 255 10777 ly_F _ 573 [(0, .ref b), (1, .ref (lt_z X + 0)), (2, .ref (lt_z X + 233)), (3, .int i)] [.int i, .ref b, .ref (lt_z X + 233), .int r]
  refine jr_iconst (v := 1) hF dL_law_573 rfl ?_
  show lt_J X 255 10777 ly_F _ 574 [(0, .ref b), (1, .ref (lt_z X + 0)), (2, .ref (lt_z X + 233)), (3, .int i)] [.int (1), .int i, .ref b, .ref (lt_z X + 233), .int r]
  refine jr_iadd hF dL_law_574 ?_
  show lt_J X 255 10777 ly_F _ 575 [(0, .ref b), (1, .ref (lt_z X + 0)), (2, .ref (lt_z X + 233)), (3, .int i)] [.int (i + 1), .ref b, .ref (lt_z X + 233), .int r]
  refine jr_sl hF hX hv.2.1 dL_law_575 ?_
  show lt_J X 255 10777 ly_F _ 576 [(0, .ref b), (1, .ref (lt_z X + 0)), (2, .ref (lt_z X + 233)), (3, .int i)] [.int (xs ((i + 1)).toNatClampNeg), .ref (lt_z X + 233), .int r]
  refine jr_callV (As := [.int (xs ((i + 1)).toNatClampNeg)]) (st := [.int r]) hF ml_L_58 (c_X12_table ly_FT ly_F233 e2) ly_F233 rfl ⟨Nat.le_of_ble_eq_true rfl, Nat.le_of_ble_eq_true rfl⟩ ⟨Nat.le_of_ble_eq_true rfl, Nat.le_of_ble_eq_true rfl⟩ (Nat.le_of_ble_eq_true rfl) dL_law_576 ?_
  show lt_J X 255 10777 ly_F _ 579 [(0, .ref b), (1, .ref (lt_z X + 0)), (2, .ref (lt_z X + 233)), (3, .int i)] [.int r, .int r]
  exact jr_icmp_eq (tgt := 1664) (g1 := some ()) (g2 := none) (r := ()) hF dL_law_579 rfl (if_pos rfl) (fun _ => kk _ hR2) (fun z => by cases z)
set_option maxRecDepth 100000 in
theorem ll_9 (hF : lt_F X cL_law RL 4 room_1) (hX : ll_X X b L xs) (hv : ll_v i L) (hR : lr_R w) (kk : ∀ w', lr_R w' → lt_J X 255 10777 ly_F w' 1664 [(0, .ref b), (1, .ref (lt_z X + 0)), (2, .ref (lt_z X + 233)), (3, .int i)] []) : lt_J X 255 10777 ly_F w 584 [(0, .ref b), (1, .ref (lt_z X + 0)), (2, .ref (lt_z X + 233)), (3, .int i)] [] := by
  obtain ⟨hst, A, h⟩ := id hR
  obtain ⟨r, w1, w2, e1, e2, hR2⟩ := op_weeks ly_FS h ((xs ((i + 1)).toNatClampNeg))
  refine jr_aload_n hF dL_law_584 1 rfl rfl ?_
  show lt_J X 255 10777 ly_F _ 585 [(0, .ref b), (1, .ref (lt_z X + 0)), (2, .ref (lt_z X + 233)), (3, .int i)] [.ref (lt_z X + 0)]
  refine jr_aload_n hF dL_law_585 0 rfl rfl ?_
  show lt_J X 255 10777 ly_F _ 586 [(0, .ref b), (1, .ref (lt_z X + 0)), (2, .ref (lt_z X + 233)), (3, .int i)] [.ref b, .ref (lt_z X + 0)]
  refine jr_iload_n hF dL_law_586 3 rfl rfl ?_
  show lt_J X 255 10777 ly_F _ 587 [(0, .ref b), (1, .ref (lt_z X + 0)), (2, .ref (lt_z X + 233)), (3, .int i)] [.int i, .ref b, .ref (lt_z X + 0)]
  refine jr_iconst (v := 1) hF dL_law_587 rfl ?_
  show lt_J X 255 10777 ly_F _ 588 [(0, .ref b), (1, .ref (lt_z X + 0)), (2, .ref (lt_z X + 233)), (3, .int i)] [.int (1), .int i, .ref b, .ref (lt_z X + 0)]
  refine jr_iadd hF dL_law_588 ?_
  show lt_J X 255 10777 ly_F _ 589 [(0, .ref b), (1, .ref (lt_z X + 0)), (2, .ref (lt_z X + 233)), (3, .int i)] [.int (i + 1), .ref b, .ref (lt_z X + 0)]
  refine jr_sl hF hX hv.2.1 dL_law_589 ?_
  show lt_J X 255 10777 ly_F _ 590 [(0, .ref b), (1, .ref (lt_z X + 0)), (2, .ref (lt_z X + 233)), (3, .int i)] [.int (xs ((i + 1)).toNatClampNeg), .ref (lt_z X + 0)]
  refine jr_callV (As := [.int (xs ((i + 1)).toNatClampNeg)]) (st := []) hF ml_L_59 (c_X11_weeks ly_FT ly_F0 e1) ly_F0 rfl ⟨Nat.le_of_ble_eq_true rfl, Nat.le_of_ble_eq_true rfl⟩ ⟨Nat.le_of_ble_eq_true rfl, Nat.le_of_ble_eq_true rfl⟩ (Nat.le_of_ble_eq_true rfl) dL_law_590 ?_
  show lt_J X 255 10777 ly_F _ 593 [(0, .ref b), (1, .ref (lt_z X + 0)), (2, .ref (lt_z X + 233)), (3, .int i)] [.int r]
  refine jr_aload_n hF dL_law_593 2 rfl rfl ?_
  show lt_J X 255 10777 ly_F _ 594 [(0, .ref b), (1, .ref (lt_z X + 0)), (2, .ref (lt_z X + 233)), (3, .int i)] [.ref (lt_z X + 233), .int r]
  refine jr_aload_n hF dL_law_594 0 rfl rfl ?_
  show lt_J X 255 10777 ly_F _ 595 [(0, .ref b), (1, .ref (lt_z X + 0)), (2, .ref (lt_z X + 233)), (3, .int i)] [.ref b, .ref (lt_z X + 233), .int r]
  refine jr_iload_n hF dL_law_595 3 rfl rfl ?_
  show lt_J X 255 10777 ly_F _ 596 [(0, .ref b), (1, .ref (lt_z X + 0)), (2, .ref (lt_z X + 233)), (3, .int i)] [.int i, .ref b, .ref (lt_z X + 233), .int r]
  refine jr_iconst (v := 1) hF dL_law_596 rfl ?_
  show lt_J X 255 10777 ly_F _ 597 [(0, .ref b), (1, .ref (lt_z X + 0)), (2, .ref (lt_z X + 233)), (3, .int i)] [.int (1), .int i, .ref b, .ref (lt_z X + 233), .int r]
  refine jr_iadd hF dL_law_597 ?_
  show lt_J X 255 10777 ly_F _ 598 [(0, .ref b), (1, .ref (lt_z X + 0)), (2, .ref (lt_z X + 233)), (3, .int i)] [.int (i + 1), .ref b, .ref (lt_z X + 233), .int r]
  refine jr_sl hF hX hv.2.1 dL_law_598 ?_
  show lt_J X 255 10777 ly_F _ 599 [(0, .ref b), (1, .ref (lt_z X + 0)), (2, .ref (lt_z X + 233)), (3, .int i)] [.int (xs ((i + 1)).toNatClampNeg), .ref (lt_z X + 233), .int r]
  refine jr_callV (As := [.int (xs ((i + 1)).toNatClampNeg)]) (st := [.int r]) hF ml_L_62 (c_X12_weeks ly_FT ly_F233 e2) ly_F233 rfl ⟨Nat.le_of_ble_eq_true rfl, Nat.le_of_ble_eq_true rfl⟩ ⟨Nat.le_of_ble_eq_true rfl, Nat.le_of_ble_eq_true rfl⟩ (Nat.le_of_ble_eq_true rfl) dL_law_599 ?_
  show lt_J X 255 10777 ly_F _ 602 [(0, .ref b), (1, .ref (lt_z X + 0)), (2, .ref (lt_z X + 233)), (3, .int i)] [.int r, .int r]
  exact jr_icmp_eq (tgt := 1664) (g1 := some ()) (g2 := none) (r := ()) hF dL_law_602 rfl (if_pos rfl) (fun _ => kk _ hR2) (fun z => by cases z)
set_option maxRecDepth 100000 in
theorem ll_10 (hF : lt_F X cL_law RL 4 room_1) (hX : ll_X X b L xs) (hv : ll_v i L) (hR : lr_R w) (kk : ∀ w', lr_R w' → lt_J X 255 10777 ly_F w' 1664 [(0, .ref b), (1, .ref (lt_z X + 0)), (2, .ref (lt_z X + 233)), (3, .int i)] []) : lt_J X 255 10777 ly_F w 607 [(0, .ref b), (1, .ref (lt_z X + 0)), (2, .ref (lt_z X + 233)), (3, .int i)] [] := by
  obtain ⟨r, e1⟩ : ∃ r, f_X11_fault ly_F 0 ((xs ((i + 1)).toNatClampNeg)) w = some r := by
    unfold f_X11_fault fb_X11_fault_0
    split
    · exact ⟨_, rfl⟩
    · split <;> exact ⟨_, rfl⟩
  have e2 := (op_fault ly_FS hR ((xs ((i + 1)).toNatClampNeg))).trans e1
  have hR2 := hR
  refine jr_aload_n hF dL_law_607 1 rfl rfl ?_
  show lt_J X 255 10777 ly_F _ 608 [(0, .ref b), (1, .ref (lt_z X + 0)), (2, .ref (lt_z X + 233)), (3, .int i)] [.ref (lt_z X + 0)]
  refine jr_aload_n hF dL_law_608 0 rfl rfl ?_
  show lt_J X 255 10777 ly_F _ 609 [(0, .ref b), (1, .ref (lt_z X + 0)), (2, .ref (lt_z X + 233)), (3, .int i)] [.ref b, .ref (lt_z X + 0)]
  refine jr_iload_n hF dL_law_609 3 rfl rfl ?_
  show lt_J X 255 10777 ly_F _ 610 [(0, .ref b), (1, .ref (lt_z X + 0)), (2, .ref (lt_z X + 233)), (3, .int i)] [.int i, .ref b, .ref (lt_z X + 0)]
  refine jr_iconst (v := 1) hF dL_law_610 rfl ?_
  show lt_J X 255 10777 ly_F _ 611 [(0, .ref b), (1, .ref (lt_z X + 0)), (2, .ref (lt_z X + 233)), (3, .int i)] [.int (1), .int i, .ref b, .ref (lt_z X + 0)]
  refine jr_iadd hF dL_law_611 ?_
  show lt_J X 255 10777 ly_F _ 612 [(0, .ref b), (1, .ref (lt_z X + 0)), (2, .ref (lt_z X + 233)), (3, .int i)] [.int (i + 1), .ref b, .ref (lt_z X + 0)]
  refine jr_sl hF hX hv.2.1 dL_law_612 ?_
  show lt_J X 255 10777 ly_F _ 613 [(0, .ref b), (1, .ref (lt_z X + 0)), (2, .ref (lt_z X + 233)), (3, .int i)] [.int (xs ((i + 1)).toNatClampNeg), .ref (lt_z X + 0)]
  refine jr_callV (As := [.int (xs ((i + 1)).toNatClampNeg)]) (st := []) hF ml_L_63 (c_X11_fault ly_FT ly_F0 e1) ly_F0 rfl ⟨Nat.le_of_ble_eq_true rfl, Nat.le_of_ble_eq_true rfl⟩ ⟨Nat.le_of_ble_eq_true rfl, Nat.le_of_ble_eq_true rfl⟩ (Nat.le_of_ble_eq_true rfl) dL_law_613 ?_
  show lt_J X 255 10777 ly_F _ 616 [(0, .ref b), (1, .ref (lt_z X + 0)), (2, .ref (lt_z X + 233)), (3, .int i)] [.int r]
  refine jr_aload_n hF dL_law_616 2 rfl rfl ?_
  show lt_J X 255 10777 ly_F _ 617 [(0, .ref b), (1, .ref (lt_z X + 0)), (2, .ref (lt_z X + 233)), (3, .int i)] [.ref (lt_z X + 233), .int r]
  refine jr_aload_n hF dL_law_617 0 rfl rfl ?_
  show lt_J X 255 10777 ly_F _ 618 [(0, .ref b), (1, .ref (lt_z X + 0)), (2, .ref (lt_z X + 233)), (3, .int i)] [.ref b, .ref (lt_z X + 233), .int r]
  refine jr_iload_n hF dL_law_618 3 rfl rfl ?_
  show lt_J X 255 10777 ly_F _ 619 [(0, .ref b), (1, .ref (lt_z X + 0)), (2, .ref (lt_z X + 233)), (3, .int i)] [.int i, .ref b, .ref (lt_z X + 233), .int r]
  refine jr_iconst (v := 1) hF dL_law_619 rfl ?_
  show lt_J X 255 10777 ly_F _ 620 [(0, .ref b), (1, .ref (lt_z X + 0)), (2, .ref (lt_z X + 233)), (3, .int i)] [.int (1), .int i, .ref b, .ref (lt_z X + 233), .int r]
  refine jr_iadd hF dL_law_620 ?_
  show lt_J X 255 10777 ly_F _ 621 [(0, .ref b), (1, .ref (lt_z X + 0)), (2, .ref (lt_z X + 233)), (3, .int i)] [.int (i + 1), .ref b, .ref (lt_z X + 233), .int r]
  refine jr_sl hF hX hv.2.1 dL_law_621 ?_
  show lt_J X 255 10777 ly_F _ 622 [(0, .ref b), (1, .ref (lt_z X + 0)), (2, .ref (lt_z X + 233)), (3, .int i)] [.int (xs ((i + 1)).toNatClampNeg), .ref (lt_z X + 233), .int r]
  refine jr_callV (As := [.int (xs ((i + 1)).toNatClampNeg)]) (st := [.int r]) hF ml_L_66 (c_X12_fault ly_F233 e2) ly_F233 rfl ⟨Nat.le_of_ble_eq_true rfl, Nat.le_of_ble_eq_true rfl⟩ ⟨Nat.le_of_ble_eq_true rfl, Nat.le_of_ble_eq_true rfl⟩ (Nat.le_of_ble_eq_true rfl) dL_law_622 ?_
  show lt_J X 255 10777 ly_F _ 625 [(0, .ref b), (1, .ref (lt_z X + 0)), (2, .ref (lt_z X + 233)), (3, .int i)] [.int r, .int r]
  exact jr_icmp_eq (tgt := 1664) (g1 := some ()) (g2 := none) (r := ()) hF dL_law_625 rfl (if_pos rfl) (fun _ => kk _ hR2) (fun z => by cases z)
set_option maxRecDepth 100000 in
theorem ll_11 (hF : lt_F X cL_law RL 4 room_1) (hX : ll_X X b L xs) (hv : ll_v i L) (hR : lr_R w) (kk : ∀ w', lr_R w' → lt_J X 255 10777 ly_F w' 1664 [(0, .ref b), (1, .ref (lt_z X + 0)), (2, .ref (lt_z X + 233)), (3, .int i)] []) : lt_J X 255 10777 ly_F w 630 [(0, .ref b), (1, .ref (lt_z X + 0)), (2, .ref (lt_z X + 233)), (3, .int i)] [] := by
  obtain ⟨hst, A, h⟩ := id hR
  obtain ⟨r, w1, w2, e1, e2, hR2⟩ := op_told ly_FS h ((xs ((i + 1)).toNatClampNeg))
  refine jr_aload_n hF dL_law_630 1 rfl rfl ?_
  show lt_J X 255 10777 ly_F _ 631 [(0, .ref b), (1, .ref (lt_z X + 0)), (2, .ref (lt_z X + 233)), (3, .int i)] [.ref (lt_z X + 0)]
  refine jr_aload_n hF dL_law_631 0 rfl rfl ?_
  show lt_J X 255 10777 ly_F _ 632 [(0, .ref b), (1, .ref (lt_z X + 0)), (2, .ref (lt_z X + 233)), (3, .int i)] [.ref b, .ref (lt_z X + 0)]
  refine jr_iload_n hF dL_law_632 3 rfl rfl ?_
  show lt_J X 255 10777 ly_F _ 633 [(0, .ref b), (1, .ref (lt_z X + 0)), (2, .ref (lt_z X + 233)), (3, .int i)] [.int i, .ref b, .ref (lt_z X + 0)]
  refine jr_iconst (v := 1) hF dL_law_633 rfl ?_
  show lt_J X 255 10777 ly_F _ 634 [(0, .ref b), (1, .ref (lt_z X + 0)), (2, .ref (lt_z X + 233)), (3, .int i)] [.int (1), .int i, .ref b, .ref (lt_z X + 0)]
  refine jr_iadd hF dL_law_634 ?_
  show lt_J X 255 10777 ly_F _ 635 [(0, .ref b), (1, .ref (lt_z X + 0)), (2, .ref (lt_z X + 233)), (3, .int i)] [.int (i + 1), .ref b, .ref (lt_z X + 0)]
  refine jr_sl hF hX hv.2.1 dL_law_635 ?_
  show lt_J X 255 10777 ly_F _ 636 [(0, .ref b), (1, .ref (lt_z X + 0)), (2, .ref (lt_z X + 233)), (3, .int i)] [.int (xs ((i + 1)).toNatClampNeg), .ref (lt_z X + 0)]
  refine jr_callV (As := [.int (xs ((i + 1)).toNatClampNeg)]) (st := []) hF ml_L_67 (c_X11_told ly_FT ly_F0 e1) ly_F0 rfl ⟨Nat.le_of_ble_eq_true rfl, Nat.le_of_ble_eq_true rfl⟩ ⟨Nat.le_of_ble_eq_true rfl, Nat.le_of_ble_eq_true rfl⟩ (Nat.le_of_ble_eq_true rfl) dL_law_636 ?_
  show lt_J X 255 10777 ly_F _ 639 [(0, .ref b), (1, .ref (lt_z X + 0)), (2, .ref (lt_z X + 233)), (3, .int i)] [.int r]
  refine jr_aload_n hF dL_law_639 2 rfl rfl ?_
  show lt_J X 255 10777 ly_F _ 640 [(0, .ref b), (1, .ref (lt_z X + 0)), (2, .ref (lt_z X + 233)), (3, .int i)] [.ref (lt_z X + 233), .int r]
  refine jr_aload_n hF dL_law_640 0 rfl rfl ?_
  show lt_J X 255 10777 ly_F _ 641 [(0, .ref b), (1, .ref (lt_z X + 0)), (2, .ref (lt_z X + 233)), (3, .int i)] [.ref b, .ref (lt_z X + 233), .int r]
  refine jr_iload_n hF dL_law_641 3 rfl rfl ?_
  show lt_J X 255 10777 ly_F _ 642 [(0, .ref b), (1, .ref (lt_z X + 0)), (2, .ref (lt_z X + 233)), (3, .int i)] [.int i, .ref b, .ref (lt_z X + 233), .int r]
  refine jr_iconst (v := 1) hF dL_law_642 rfl ?_
  show lt_J X 255 10777 ly_F _ 643 [(0, .ref b), (1, .ref (lt_z X + 0)), (2, .ref (lt_z X + 233)), (3, .int i)] [.int (1), .int i, .ref b, .ref (lt_z X + 233), .int r]
  refine jr_iadd hF dL_law_643 ?_
  show lt_J X 255 10777 ly_F _ 644 [(0, .ref b), (1, .ref (lt_z X + 0)), (2, .ref (lt_z X + 233)), (3, .int i)] [.int (i + 1), .ref b, .ref (lt_z X + 233), .int r]
  refine jr_sl hF hX hv.2.1 dL_law_644 ?_
  show lt_J X 255 10777 ly_F _ 645 [(0, .ref b), (1, .ref (lt_z X + 0)), (2, .ref (lt_z X + 233)), (3, .int i)] [.int (xs ((i + 1)).toNatClampNeg), .ref (lt_z X + 233), .int r]
  refine jr_callV (As := [.int (xs ((i + 1)).toNatClampNeg)]) (st := [.int r]) hF ml_L_70 (c_X12_told ly_FT ly_F233 e2) ly_F233 rfl ⟨Nat.le_of_ble_eq_true rfl, Nat.le_of_ble_eq_true rfl⟩ ⟨Nat.le_of_ble_eq_true rfl, Nat.le_of_ble_eq_true rfl⟩ (Nat.le_of_ble_eq_true rfl) dL_law_645 ?_
  show lt_J X 255 10777 ly_F _ 648 [(0, .ref b), (1, .ref (lt_z X + 0)), (2, .ref (lt_z X + 233)), (3, .int i)] [.int r, .int r]
  exact jr_icmp_eq (tgt := 1664) (g1 := some ()) (g2 := none) (r := ()) hF dL_law_648 rfl (if_pos rfl) (fun _ => kk _ hR2) (fun z => by cases z)
set_option maxRecDepth 100000 in
theorem ll_12 (hF : lt_F X cL_law RL 4 room_1) (hX : ll_X X b L xs) (hv : ll_v i L) (hR : lr_R w) (kk : ∀ w', lr_R w' → lt_J X 255 10777 ly_F w' 1664 [(0, .ref b), (1, .ref (lt_z X + 0)), (2, .ref (lt_z X + 233)), (3, .int i)] []) : lt_J X 255 10777 ly_F w 653 [(0, .ref b), (1, .ref (lt_z X + 0)), (2, .ref (lt_z X + 233)), (3, .int i)] [] := by
  obtain ⟨hst, A, h⟩ := id hR
  obtain ⟨r, w1, w2, e1, e2, hR2⟩ := op_guest ly_FS h ((xs ((i + 1)).toNatClampNeg)) ((xs ((i + 2)).toNatClampNeg))
  refine jr_aload_n hF dL_law_653 1 rfl rfl ?_
  show lt_J X 255 10777 ly_F _ 654 [(0, .ref b), (1, .ref (lt_z X + 0)), (2, .ref (lt_z X + 233)), (3, .int i)] [.ref (lt_z X + 0)]
  refine jr_aload_n hF dL_law_654 0 rfl rfl ?_
  show lt_J X 255 10777 ly_F _ 655 [(0, .ref b), (1, .ref (lt_z X + 0)), (2, .ref (lt_z X + 233)), (3, .int i)] [.ref b, .ref (lt_z X + 0)]
  refine jr_iload_n hF dL_law_655 3 rfl rfl ?_
  show lt_J X 255 10777 ly_F _ 656 [(0, .ref b), (1, .ref (lt_z X + 0)), (2, .ref (lt_z X + 233)), (3, .int i)] [.int i, .ref b, .ref (lt_z X + 0)]
  refine jr_iconst (v := 1) hF dL_law_656 rfl ?_
  show lt_J X 255 10777 ly_F _ 657 [(0, .ref b), (1, .ref (lt_z X + 0)), (2, .ref (lt_z X + 233)), (3, .int i)] [.int (1), .int i, .ref b, .ref (lt_z X + 0)]
  refine jr_iadd hF dL_law_657 ?_
  show lt_J X 255 10777 ly_F _ 658 [(0, .ref b), (1, .ref (lt_z X + 0)), (2, .ref (lt_z X + 233)), (3, .int i)] [.int (i + 1), .ref b, .ref (lt_z X + 0)]
  refine jr_sl hF hX hv.2.1 dL_law_658 ?_
  show lt_J X 255 10777 ly_F _ 659 [(0, .ref b), (1, .ref (lt_z X + 0)), (2, .ref (lt_z X + 233)), (3, .int i)] [.int (xs ((i + 1)).toNatClampNeg), .ref (lt_z X + 0)]
  refine jr_aload_n hF dL_law_659 0 rfl rfl ?_
  show lt_J X 255 10777 ly_F _ 660 [(0, .ref b), (1, .ref (lt_z X + 0)), (2, .ref (lt_z X + 233)), (3, .int i)] [.ref b, .int (xs ((i + 1)).toNatClampNeg), .ref (lt_z X + 0)]
  refine jr_iload_n hF dL_law_660 3 rfl rfl ?_
  show lt_J X 255 10777 ly_F _ 661 [(0, .ref b), (1, .ref (lt_z X + 0)), (2, .ref (lt_z X + 233)), (3, .int i)] [.int i, .ref b, .int (xs ((i + 1)).toNatClampNeg), .ref (lt_z X + 0)]
  refine jr_iconst (v := 2) hF dL_law_661 rfl ?_
  show lt_J X 255 10777 ly_F _ 662 [(0, .ref b), (1, .ref (lt_z X + 0)), (2, .ref (lt_z X + 233)), (3, .int i)] [.int (2), .int i, .ref b, .int (xs ((i + 1)).toNatClampNeg), .ref (lt_z X + 0)]
  refine jr_iadd hF dL_law_662 ?_
  show lt_J X 255 10777 ly_F _ 663 [(0, .ref b), (1, .ref (lt_z X + 0)), (2, .ref (lt_z X + 233)), (3, .int i)] [.int (i + 2), .ref b, .int (xs ((i + 1)).toNatClampNeg), .ref (lt_z X + 0)]
  refine jr_sl hF hX hv.2.2.1 dL_law_663 ?_
  show lt_J X 255 10777 ly_F _ 664 [(0, .ref b), (1, .ref (lt_z X + 0)), (2, .ref (lt_z X + 233)), (3, .int i)] [.int (xs ((i + 2)).toNatClampNeg), .int (xs ((i + 1)).toNatClampNeg), .ref (lt_z X + 0)]
  refine jr_callV (As := [.int (xs ((i + 1)).toNatClampNeg), .int (xs ((i + 2)).toNatClampNeg)]) (st := []) hF ml_L_71 (c_X11_guest ly_FT ly_F0 e1) ly_F0 rfl ⟨Nat.le_of_ble_eq_true rfl, Nat.le_of_ble_eq_true rfl⟩ ⟨Nat.le_of_ble_eq_true rfl, Nat.le_of_ble_eq_true rfl⟩ (Nat.le_of_ble_eq_true rfl) dL_law_664 ?_
  show lt_J X 255 10777 ly_F _ 667 [(0, .ref b), (1, .ref (lt_z X + 0)), (2, .ref (lt_z X + 233)), (3, .int i)] [.int r]
  refine jr_aload_n hF dL_law_667 2 rfl rfl ?_
  show lt_J X 255 10777 ly_F _ 668 [(0, .ref b), (1, .ref (lt_z X + 0)), (2, .ref (lt_z X + 233)), (3, .int i)] [.ref (lt_z X + 233), .int r]
  refine jr_aload_n hF dL_law_668 0 rfl rfl ?_
  show lt_J X 255 10777 ly_F _ 669 [(0, .ref b), (1, .ref (lt_z X + 0)), (2, .ref (lt_z X + 233)), (3, .int i)] [.ref b, .ref (lt_z X + 233), .int r]
  refine jr_iload_n hF dL_law_669 3 rfl rfl ?_
  show lt_J X 255 10777 ly_F _ 670 [(0, .ref b), (1, .ref (lt_z X + 0)), (2, .ref (lt_z X + 233)), (3, .int i)] [.int i, .ref b, .ref (lt_z X + 233), .int r]
  refine jr_iconst (v := 1) hF dL_law_670 rfl ?_
  show lt_J X 255 10777 ly_F _ 671 [(0, .ref b), (1, .ref (lt_z X + 0)), (2, .ref (lt_z X + 233)), (3, .int i)] [.int (1), .int i, .ref b, .ref (lt_z X + 233), .int r]
  refine jr_iadd hF dL_law_671 ?_
  show lt_J X 255 10777 ly_F _ 672 [(0, .ref b), (1, .ref (lt_z X + 0)), (2, .ref (lt_z X + 233)), (3, .int i)] [.int (i + 1), .ref b, .ref (lt_z X + 233), .int r]
  refine jr_sl hF hX hv.2.1 dL_law_672 ?_
  show lt_J X 255 10777 ly_F _ 673 [(0, .ref b), (1, .ref (lt_z X + 0)), (2, .ref (lt_z X + 233)), (3, .int i)] [.int (xs ((i + 1)).toNatClampNeg), .ref (lt_z X + 233), .int r]
  refine jr_aload_n hF dL_law_673 0 rfl rfl ?_
  show lt_J X 255 10777 ly_F _ 674 [(0, .ref b), (1, .ref (lt_z X + 0)), (2, .ref (lt_z X + 233)), (3, .int i)] [.ref b, .int (xs ((i + 1)).toNatClampNeg), .ref (lt_z X + 233), .int r]
  refine jr_iload_n hF dL_law_674 3 rfl rfl ?_
  show lt_J X 255 10777 ly_F _ 675 [(0, .ref b), (1, .ref (lt_z X + 0)), (2, .ref (lt_z X + 233)), (3, .int i)] [.int i, .ref b, .int (xs ((i + 1)).toNatClampNeg), .ref (lt_z X + 233), .int r]
  refine jr_iconst (v := 2) hF dL_law_675 rfl ?_
  show lt_J X 255 10777 ly_F _ 676 [(0, .ref b), (1, .ref (lt_z X + 0)), (2, .ref (lt_z X + 233)), (3, .int i)] [.int (2), .int i, .ref b, .int (xs ((i + 1)).toNatClampNeg), .ref (lt_z X + 233), .int r]
  refine jr_iadd hF dL_law_676 ?_
  show lt_J X 255 10777 ly_F _ 677 [(0, .ref b), (1, .ref (lt_z X + 0)), (2, .ref (lt_z X + 233)), (3, .int i)] [.int (i + 2), .ref b, .int (xs ((i + 1)).toNatClampNeg), .ref (lt_z X + 233), .int r]
  refine jr_sl hF hX hv.2.2.1 dL_law_677 ?_
  show lt_J X 255 10777 ly_F _ 678 [(0, .ref b), (1, .ref (lt_z X + 0)), (2, .ref (lt_z X + 233)), (3, .int i)] [.int (xs ((i + 2)).toNatClampNeg), .int (xs ((i + 1)).toNatClampNeg), .ref (lt_z X + 233), .int r]
  refine jr_callV (As := [.int (xs ((i + 1)).toNatClampNeg), .int (xs ((i + 2)).toNatClampNeg)]) (st := [.int r]) hF ml_L_75 (c_X12_guest ly_FT ly_F233 e2) ly_F233 rfl ⟨Nat.le_of_ble_eq_true rfl, Nat.le_of_ble_eq_true rfl⟩ ⟨Nat.le_of_ble_eq_true rfl, Nat.le_of_ble_eq_true rfl⟩ (Nat.le_of_ble_eq_true rfl) dL_law_678 ?_
  show lt_J X 255 10777 ly_F _ 681 [(0, .ref b), (1, .ref (lt_z X + 0)), (2, .ref (lt_z X + 233)), (3, .int i)] [.int r, .int r]
  exact jr_icmp_eq (tgt := 1664) (g1 := some ()) (g2 := none) (r := ()) hF dL_law_681 rfl (if_pos rfl) (fun _ => kk _ hR2) (fun z => by cases z)
set_option maxRecDepth 100000 in
theorem ll_13 (hF : lt_F X cL_law RL 4 room_1) (hX : ll_X X b L xs) (hv : ll_v i L) (hR : lr_R w) (kk : ∀ w', lr_R w' → lt_J X 255 10777 ly_F w' 1664 [(0, .ref b), (1, .ref (lt_z X + 0)), (2, .ref (lt_z X + 233)), (3, .int i)] []) : lt_J X 255 10777 ly_F w 686 [(0, .ref b), (1, .ref (lt_z X + 0)), (2, .ref (lt_z X + 233)), (3, .int i)] [] := by
  obtain ⟨hst, A, h⟩ := id hR
  obtain ⟨r, w1, w2, e1, e2, hR2⟩ := op_cutter ly_FS h
  refine jr_aload_n hF dL_law_686 1 rfl rfl ?_
  show lt_J X 255 10777 ly_F _ 687 [(0, .ref b), (1, .ref (lt_z X + 0)), (2, .ref (lt_z X + 233)), (3, .int i)] [.ref (lt_z X + 0)]
  refine jr_callV (As := []) (st := []) hF ml_L_76 (c_X11_cutter ly_FT ly_F0 e1) ly_F0 rfl ⟨Nat.le_of_ble_eq_true rfl, Nat.le_of_ble_eq_true rfl⟩ ⟨Nat.le_of_ble_eq_true rfl, Nat.le_of_ble_eq_true rfl⟩ (Nat.le_of_ble_eq_true rfl) dL_law_687 ?_
  show lt_J X 255 10777 ly_F _ 690 [(0, .ref b), (1, .ref (lt_z X + 0)), (2, .ref (lt_z X + 233)), (3, .int i)] [.int r]
  refine jr_aload_n hF dL_law_690 2 rfl rfl ?_
  show lt_J X 255 10777 ly_F _ 691 [(0, .ref b), (1, .ref (lt_z X + 0)), (2, .ref (lt_z X + 233)), (3, .int i)] [.ref (lt_z X + 233), .int r]
  refine jr_callV (As := []) (st := [.int r]) hF ml_L_79 (c_X12_cutter ly_FT ly_F233 e2) ly_F233 rfl ⟨Nat.le_of_ble_eq_true rfl, Nat.le_of_ble_eq_true rfl⟩ ⟨Nat.le_of_ble_eq_true rfl, Nat.le_of_ble_eq_true rfl⟩ (Nat.le_of_ble_eq_true rfl) dL_law_691 ?_
  show lt_J X 255 10777 ly_F _ 694 [(0, .ref b), (1, .ref (lt_z X + 0)), (2, .ref (lt_z X + 233)), (3, .int i)] [.int r, .int r]
  exact jr_icmp_eq (tgt := 1664) (g1 := some ()) (g2 := none) (r := ()) hF dL_law_694 rfl (if_pos rfl) (fun _ => kk _ hR2) (fun z => by cases z)
set_option maxRecDepth 100000 in
theorem ll_14 (hF : lt_F X cL_law RL 4 room_1) (hX : ll_X X b L xs) (hv : ll_v i L) (hR : lr_R w) (kk : ∀ w', lr_R w' → lt_J X 255 10777 ly_F w' 1664 [(0, .ref b), (1, .ref (lt_z X + 0)), (2, .ref (lt_z X + 233)), (3, .int i)] []) : lt_J X 255 10777 ly_F w 699 [(0, .ref b), (1, .ref (lt_z X + 0)), (2, .ref (lt_z X + 233)), (3, .int i)] [] := by
  obtain ⟨hst, A, h⟩ := id hR
  obtain ⟨r, w1, w2, e1, e2, hR2⟩ := op_wanted ly_FS h
  refine jr_aload_n hF dL_law_699 1 rfl rfl ?_
  show lt_J X 255 10777 ly_F _ 700 [(0, .ref b), (1, .ref (lt_z X + 0)), (2, .ref (lt_z X + 233)), (3, .int i)] [.ref (lt_z X + 0)]
  refine jr_callV (As := []) (st := []) hF ml_L_80 (c_X11_wanted ly_FT ly_F0 e1) ly_F0 rfl ⟨Nat.le_of_ble_eq_true rfl, Nat.le_of_ble_eq_true rfl⟩ ⟨Nat.le_of_ble_eq_true rfl, Nat.le_of_ble_eq_true rfl⟩ (Nat.le_of_ble_eq_true rfl) dL_law_700 ?_
  show lt_J X 255 10777 ly_F _ 703 [(0, .ref b), (1, .ref (lt_z X + 0)), (2, .ref (lt_z X + 233)), (3, .int i)] [.int r]
  refine jr_aload_n hF dL_law_703 2 rfl rfl ?_
  show lt_J X 255 10777 ly_F _ 704 [(0, .ref b), (1, .ref (lt_z X + 0)), (2, .ref (lt_z X + 233)), (3, .int i)] [.ref (lt_z X + 233), .int r]
  refine jr_callV (As := []) (st := [.int r]) hF ml_L_83 (c_X12_wanted ly_FT ly_F233 e2) ly_F233 rfl ⟨Nat.le_of_ble_eq_true rfl, Nat.le_of_ble_eq_true rfl⟩ ⟨Nat.le_of_ble_eq_true rfl, Nat.le_of_ble_eq_true rfl⟩ (Nat.le_of_ble_eq_true rfl) dL_law_704 ?_
  show lt_J X 255 10777 ly_F _ 707 [(0, .ref b), (1, .ref (lt_z X + 0)), (2, .ref (lt_z X + 233)), (3, .int i)] [.int r, .int r]
  exact jr_icmp_eq (tgt := 1664) (g1 := some ()) (g2 := none) (r := ()) hF dL_law_707 rfl (if_pos rfl) (fun _ => kk _ hR2) (fun z => by cases z)
set_option maxRecDepth 100000 in
theorem ll_15 (hF : lt_F X cL_law RL 4 room_1) (hX : ll_X X b L xs) (hv : ll_v i L) (hR : lr_R w) (kk : ∀ w', lr_R w' → lt_J X 255 10777 ly_F w' 1664 [(0, .ref b), (1, .ref (lt_z X + 0)), (2, .ref (lt_z X + 233)), (3, .int i)] []) : lt_J X 255 10777 ly_F w 712 [(0, .ref b), (1, .ref (lt_z X + 0)), (2, .ref (lt_z X + 233)), (3, .int i)] [] := by
  obtain ⟨hst, A, h⟩ := id hR
  obtain ⟨r, w1, w2, e1, e2, hR2⟩ := op_day ly_FS h ((xs ((i + 1)).toNatClampNeg))
  refine jr_aload_n hF dL_law_712 1 rfl rfl ?_
  show lt_J X 255 10777 ly_F _ 713 [(0, .ref b), (1, .ref (lt_z X + 0)), (2, .ref (lt_z X + 233)), (3, .int i)] [.ref (lt_z X + 0)]
  refine jr_aload_n hF dL_law_713 0 rfl rfl ?_
  show lt_J X 255 10777 ly_F _ 714 [(0, .ref b), (1, .ref (lt_z X + 0)), (2, .ref (lt_z X + 233)), (3, .int i)] [.ref b, .ref (lt_z X + 0)]
  refine jr_iload_n hF dL_law_714 3 rfl rfl ?_
  show lt_J X 255 10777 ly_F _ 715 [(0, .ref b), (1, .ref (lt_z X + 0)), (2, .ref (lt_z X + 233)), (3, .int i)] [.int i, .ref b, .ref (lt_z X + 0)]
  refine jr_iconst (v := 1) hF dL_law_715 rfl ?_
  show lt_J X 255 10777 ly_F _ 716 [(0, .ref b), (1, .ref (lt_z X + 0)), (2, .ref (lt_z X + 233)), (3, .int i)] [.int (1), .int i, .ref b, .ref (lt_z X + 0)]
  refine jr_iadd hF dL_law_716 ?_
  show lt_J X 255 10777 ly_F _ 717 [(0, .ref b), (1, .ref (lt_z X + 0)), (2, .ref (lt_z X + 233)), (3, .int i)] [.int (i + 1), .ref b, .ref (lt_z X + 0)]
  refine jr_sl hF hX hv.2.1 dL_law_717 ?_
  show lt_J X 255 10777 ly_F _ 718 [(0, .ref b), (1, .ref (lt_z X + 0)), (2, .ref (lt_z X + 233)), (3, .int i)] [.int (xs ((i + 1)).toNatClampNeg), .ref (lt_z X + 0)]
  refine jr_callV (As := [.int (xs ((i + 1)).toNatClampNeg)]) (st := []) hF ml_L_84 (c_X11_day ly_FT ly_F0 e1) ly_F0 rfl ⟨Nat.le_of_ble_eq_true rfl, Nat.le_of_ble_eq_true rfl⟩ ⟨Nat.le_of_ble_eq_true rfl, Nat.le_of_ble_eq_true rfl⟩ (Nat.le_of_ble_eq_true rfl) dL_law_718 ?_
  show lt_J X 255 10777 ly_F _ 721 [(0, .ref b), (1, .ref (lt_z X + 0)), (2, .ref (lt_z X + 233)), (3, .int i)] [.int r]
  refine jr_aload_n hF dL_law_721 2 rfl rfl ?_
  show lt_J X 255 10777 ly_F _ 722 [(0, .ref b), (1, .ref (lt_z X + 0)), (2, .ref (lt_z X + 233)), (3, .int i)] [.ref (lt_z X + 233), .int r]
  refine jr_aload_n hF dL_law_722 0 rfl rfl ?_
  show lt_J X 255 10777 ly_F _ 723 [(0, .ref b), (1, .ref (lt_z X + 0)), (2, .ref (lt_z X + 233)), (3, .int i)] [.ref b, .ref (lt_z X + 233), .int r]
  refine jr_iload_n hF dL_law_723 3 rfl rfl ?_
  show lt_J X 255 10777 ly_F _ 724 [(0, .ref b), (1, .ref (lt_z X + 0)), (2, .ref (lt_z X + 233)), (3, .int i)] [.int i, .ref b, .ref (lt_z X + 233), .int r]
  refine jr_iconst (v := 1) hF dL_law_724 rfl ?_
  show lt_J X 255 10777 ly_F _ 725 [(0, .ref b), (1, .ref (lt_z X + 0)), (2, .ref (lt_z X + 233)), (3, .int i)] [.int (1), .int i, .ref b, .ref (lt_z X + 233), .int r]
  refine jr_iadd hF dL_law_725 ?_
  show lt_J X 255 10777 ly_F _ 726 [(0, .ref b), (1, .ref (lt_z X + 0)), (2, .ref (lt_z X + 233)), (3, .int i)] [.int (i + 1), .ref b, .ref (lt_z X + 233), .int r]
  refine jr_sl hF hX hv.2.1 dL_law_726 ?_
  show lt_J X 255 10777 ly_F _ 727 [(0, .ref b), (1, .ref (lt_z X + 0)), (2, .ref (lt_z X + 233)), (3, .int i)] [.int (xs ((i + 1)).toNatClampNeg), .ref (lt_z X + 233), .int r]
  refine jr_callV (As := [.int (xs ((i + 1)).toNatClampNeg)]) (st := [.int r]) hF ml_L_87 (c_X12_day ly_FT ly_F233 e2) ly_F233 rfl ⟨Nat.le_of_ble_eq_true rfl, Nat.le_of_ble_eq_true rfl⟩ ⟨Nat.le_of_ble_eq_true rfl, Nat.le_of_ble_eq_true rfl⟩ (Nat.le_of_ble_eq_true rfl) dL_law_727 ?_
  show lt_J X 255 10777 ly_F _ 730 [(0, .ref b), (1, .ref (lt_z X + 0)), (2, .ref (lt_z X + 233)), (3, .int i)] [.int r, .int r]
  exact jr_icmp_eq (tgt := 1664) (g1 := some ()) (g2 := none) (r := ()) hF dL_law_730 rfl (if_pos rfl) (fun _ => kk _ hR2) (fun z => by cases z)
set_option maxRecDepth 100000 in
theorem ll_16 (hF : lt_F X cL_law RL 4 room_1) (hX : ll_X X b L xs) (hv : ll_v i L) (hR : lr_R w) (kk : ∀ w', lr_R w' → lt_J X 255 10777 ly_F w' 1664 [(0, .ref b), (1, .ref (lt_z X + 0)), (2, .ref (lt_z X + 233)), (3, .int i)] []) : lt_J X 255 10777 ly_F w 735 [(0, .ref b), (1, .ref (lt_z X + 0)), (2, .ref (lt_z X + 233)), (3, .int i)] [] := by
  obtain ⟨hst, A, h⟩ := id hR
  obtain ⟨r, w1, w2, e1, e2, hR2⟩ := op_cut ly_FS h ((xs ((i + 1)).toNatClampNeg))
  refine jr_aload_n hF dL_law_735 1 rfl rfl ?_
  show lt_J X 255 10777 ly_F _ 736 [(0, .ref b), (1, .ref (lt_z X + 0)), (2, .ref (lt_z X + 233)), (3, .int i)] [.ref (lt_z X + 0)]
  refine jr_aload_n hF dL_law_736 0 rfl rfl ?_
  show lt_J X 255 10777 ly_F _ 737 [(0, .ref b), (1, .ref (lt_z X + 0)), (2, .ref (lt_z X + 233)), (3, .int i)] [.ref b, .ref (lt_z X + 0)]
  refine jr_iload_n hF dL_law_737 3 rfl rfl ?_
  show lt_J X 255 10777 ly_F _ 738 [(0, .ref b), (1, .ref (lt_z X + 0)), (2, .ref (lt_z X + 233)), (3, .int i)] [.int i, .ref b, .ref (lt_z X + 0)]
  refine jr_iconst (v := 1) hF dL_law_738 rfl ?_
  show lt_J X 255 10777 ly_F _ 739 [(0, .ref b), (1, .ref (lt_z X + 0)), (2, .ref (lt_z X + 233)), (3, .int i)] [.int (1), .int i, .ref b, .ref (lt_z X + 0)]
  refine jr_iadd hF dL_law_739 ?_
  show lt_J X 255 10777 ly_F _ 740 [(0, .ref b), (1, .ref (lt_z X + 0)), (2, .ref (lt_z X + 233)), (3, .int i)] [.int (i + 1), .ref b, .ref (lt_z X + 0)]
  refine jr_sl hF hX hv.2.1 dL_law_740 ?_
  show lt_J X 255 10777 ly_F _ 741 [(0, .ref b), (1, .ref (lt_z X + 0)), (2, .ref (lt_z X + 233)), (3, .int i)] [.int (xs ((i + 1)).toNatClampNeg), .ref (lt_z X + 0)]
  refine jr_callV (As := [.int (xs ((i + 1)).toNatClampNeg)]) (st := []) hF ml_L_88 (c_X11_cut ly_FT ly_F0 e1) ly_F0 rfl ⟨Nat.le_of_ble_eq_true rfl, Nat.le_of_ble_eq_true rfl⟩ ⟨Nat.le_of_ble_eq_true rfl, Nat.le_of_ble_eq_true rfl⟩ (Nat.le_of_ble_eq_true rfl) dL_law_741 ?_
  show lt_J X 255 10777 ly_F _ 744 [(0, .ref b), (1, .ref (lt_z X + 0)), (2, .ref (lt_z X + 233)), (3, .int i)] [.int r]
  refine jr_aload_n hF dL_law_744 2 rfl rfl ?_
  show lt_J X 255 10777 ly_F _ 745 [(0, .ref b), (1, .ref (lt_z X + 0)), (2, .ref (lt_z X + 233)), (3, .int i)] [.ref (lt_z X + 233), .int r]
  refine jr_aload_n hF dL_law_745 0 rfl rfl ?_
  show lt_J X 255 10777 ly_F _ 746 [(0, .ref b), (1, .ref (lt_z X + 0)), (2, .ref (lt_z X + 233)), (3, .int i)] [.ref b, .ref (lt_z X + 233), .int r]
  refine jr_iload_n hF dL_law_746 3 rfl rfl ?_
  show lt_J X 255 10777 ly_F _ 747 [(0, .ref b), (1, .ref (lt_z X + 0)), (2, .ref (lt_z X + 233)), (3, .int i)] [.int i, .ref b, .ref (lt_z X + 233), .int r]
  refine jr_iconst (v := 1) hF dL_law_747 rfl ?_
  show lt_J X 255 10777 ly_F _ 748 [(0, .ref b), (1, .ref (lt_z X + 0)), (2, .ref (lt_z X + 233)), (3, .int i)] [.int (1), .int i, .ref b, .ref (lt_z X + 233), .int r]
  refine jr_iadd hF dL_law_748 ?_
  show lt_J X 255 10777 ly_F _ 749 [(0, .ref b), (1, .ref (lt_z X + 0)), (2, .ref (lt_z X + 233)), (3, .int i)] [.int (i + 1), .ref b, .ref (lt_z X + 233), .int r]
  refine jr_sl hF hX hv.2.1 dL_law_749 ?_
  show lt_J X 255 10777 ly_F _ 750 [(0, .ref b), (1, .ref (lt_z X + 0)), (2, .ref (lt_z X + 233)), (3, .int i)] [.int (xs ((i + 1)).toNatClampNeg), .ref (lt_z X + 233), .int r]
  refine jr_callV (As := [.int (xs ((i + 1)).toNatClampNeg)]) (st := [.int r]) hF ml_L_91 (c_X12_cut ly_FT ly_F233 e2) ly_F233 rfl ⟨Nat.le_of_ble_eq_true rfl, Nat.le_of_ble_eq_true rfl⟩ ⟨Nat.le_of_ble_eq_true rfl, Nat.le_of_ble_eq_true rfl⟩ (Nat.le_of_ble_eq_true rfl) dL_law_750 ?_
  show lt_J X 255 10777 ly_F _ 753 [(0, .ref b), (1, .ref (lt_z X + 0)), (2, .ref (lt_z X + 233)), (3, .int i)] [.int r, .int r]
  exact jr_icmp_eq (tgt := 1664) (g1 := some ()) (g2 := none) (r := ()) hF dL_law_753 rfl (if_pos rfl) (fun _ => kk _ hR2) (fun z => by cases z)
set_option maxRecDepth 100000 in
theorem ll_17 (hF : lt_F X cL_law RL 4 room_1) (hX : ll_X X b L xs) (hv : ll_v i L) (hR : lr_R w) (kk : ∀ w', lr_R w' → lt_J X 255 10777 ly_F w' 1664 [(0, .ref b), (1, .ref (lt_z X + 0)), (2, .ref (lt_z X + 233)), (3, .int i)] []) : lt_J X 255 10777 ly_F w 758 [(0, .ref b), (1, .ref (lt_z X + 0)), (2, .ref (lt_z X + 233)), (3, .int i)] [] := by
  obtain ⟨hst, A, h⟩ := id hR
  obtain ⟨r, w1, w2, e1, e2, hR2⟩ := op_butter ly_FS h ((xs ((i + 1)).toNatClampNeg)) ((xs ((i + 2)).toNatClampNeg))
  refine jr_aload_n hF dL_law_758 1 rfl rfl ?_
  show lt_J X 255 10777 ly_F _ 759 [(0, .ref b), (1, .ref (lt_z X + 0)), (2, .ref (lt_z X + 233)), (3, .int i)] [.ref (lt_z X + 0)]
  refine jr_aload_n hF dL_law_759 0 rfl rfl ?_
  show lt_J X 255 10777 ly_F _ 760 [(0, .ref b), (1, .ref (lt_z X + 0)), (2, .ref (lt_z X + 233)), (3, .int i)] [.ref b, .ref (lt_z X + 0)]
  refine jr_iload_n hF dL_law_760 3 rfl rfl ?_
  show lt_J X 255 10777 ly_F _ 761 [(0, .ref b), (1, .ref (lt_z X + 0)), (2, .ref (lt_z X + 233)), (3, .int i)] [.int i, .ref b, .ref (lt_z X + 0)]
  refine jr_iconst (v := 1) hF dL_law_761 rfl ?_
  show lt_J X 255 10777 ly_F _ 762 [(0, .ref b), (1, .ref (lt_z X + 0)), (2, .ref (lt_z X + 233)), (3, .int i)] [.int (1), .int i, .ref b, .ref (lt_z X + 0)]
  refine jr_iadd hF dL_law_762 ?_
  show lt_J X 255 10777 ly_F _ 763 [(0, .ref b), (1, .ref (lt_z X + 0)), (2, .ref (lt_z X + 233)), (3, .int i)] [.int (i + 1), .ref b, .ref (lt_z X + 0)]
  refine jr_sl hF hX hv.2.1 dL_law_763 ?_
  show lt_J X 255 10777 ly_F _ 764 [(0, .ref b), (1, .ref (lt_z X + 0)), (2, .ref (lt_z X + 233)), (3, .int i)] [.int (xs ((i + 1)).toNatClampNeg), .ref (lt_z X + 0)]
  refine jr_aload_n hF dL_law_764 0 rfl rfl ?_
  show lt_J X 255 10777 ly_F _ 765 [(0, .ref b), (1, .ref (lt_z X + 0)), (2, .ref (lt_z X + 233)), (3, .int i)] [.ref b, .int (xs ((i + 1)).toNatClampNeg), .ref (lt_z X + 0)]
  refine jr_iload_n hF dL_law_765 3 rfl rfl ?_
  show lt_J X 255 10777 ly_F _ 766 [(0, .ref b), (1, .ref (lt_z X + 0)), (2, .ref (lt_z X + 233)), (3, .int i)] [.int i, .ref b, .int (xs ((i + 1)).toNatClampNeg), .ref (lt_z X + 0)]
  refine jr_iconst (v := 2) hF dL_law_766 rfl ?_
  show lt_J X 255 10777 ly_F _ 767 [(0, .ref b), (1, .ref (lt_z X + 0)), (2, .ref (lt_z X + 233)), (3, .int i)] [.int (2), .int i, .ref b, .int (xs ((i + 1)).toNatClampNeg), .ref (lt_z X + 0)]
  refine jr_iadd hF dL_law_767 ?_
  show lt_J X 255 10777 ly_F _ 768 [(0, .ref b), (1, .ref (lt_z X + 0)), (2, .ref (lt_z X + 233)), (3, .int i)] [.int (i + 2), .ref b, .int (xs ((i + 1)).toNatClampNeg), .ref (lt_z X + 0)]
  refine jr_sl hF hX hv.2.2.1 dL_law_768 ?_
  show lt_J X 255 10777 ly_F _ 769 [(0, .ref b), (1, .ref (lt_z X + 0)), (2, .ref (lt_z X + 233)), (3, .int i)] [.int (xs ((i + 2)).toNatClampNeg), .int (xs ((i + 1)).toNatClampNeg), .ref (lt_z X + 0)]
  refine jr_callV (As := [.int (xs ((i + 1)).toNatClampNeg), .int (xs ((i + 2)).toNatClampNeg)]) (st := []) hF ml_L_92 (c_X11_butter ly_FT ly_F0 e1) ly_F0 rfl ⟨Nat.le_of_ble_eq_true rfl, Nat.le_of_ble_eq_true rfl⟩ ⟨Nat.le_of_ble_eq_true rfl, Nat.le_of_ble_eq_true rfl⟩ (Nat.le_of_ble_eq_true rfl) dL_law_769 ?_
  show lt_J X 255 10777 ly_F _ 772 [(0, .ref b), (1, .ref (lt_z X + 0)), (2, .ref (lt_z X + 233)), (3, .int i)] [.int r]
  refine jr_aload_n hF dL_law_772 2 rfl rfl ?_
  show lt_J X 255 10777 ly_F _ 773 [(0, .ref b), (1, .ref (lt_z X + 0)), (2, .ref (lt_z X + 233)), (3, .int i)] [.ref (lt_z X + 233), .int r]
  refine jr_aload_n hF dL_law_773 0 rfl rfl ?_
  show lt_J X 255 10777 ly_F _ 774 [(0, .ref b), (1, .ref (lt_z X + 0)), (2, .ref (lt_z X + 233)), (3, .int i)] [.ref b, .ref (lt_z X + 233), .int r]
  refine jr_iload_n hF dL_law_774 3 rfl rfl ?_
  show lt_J X 255 10777 ly_F _ 775 [(0, .ref b), (1, .ref (lt_z X + 0)), (2, .ref (lt_z X + 233)), (3, .int i)] [.int i, .ref b, .ref (lt_z X + 233), .int r]
  refine jr_iconst (v := 1) hF dL_law_775 rfl ?_
  show lt_J X 255 10777 ly_F _ 776 [(0, .ref b), (1, .ref (lt_z X + 0)), (2, .ref (lt_z X + 233)), (3, .int i)] [.int (1), .int i, .ref b, .ref (lt_z X + 233), .int r]
  refine jr_iadd hF dL_law_776 ?_
  show lt_J X 255 10777 ly_F _ 777 [(0, .ref b), (1, .ref (lt_z X + 0)), (2, .ref (lt_z X + 233)), (3, .int i)] [.int (i + 1), .ref b, .ref (lt_z X + 233), .int r]
  refine jr_sl hF hX hv.2.1 dL_law_777 ?_
  show lt_J X 255 10777 ly_F _ 778 [(0, .ref b), (1, .ref (lt_z X + 0)), (2, .ref (lt_z X + 233)), (3, .int i)] [.int (xs ((i + 1)).toNatClampNeg), .ref (lt_z X + 233), .int r]
  refine jr_aload_n hF dL_law_778 0 rfl rfl ?_
  show lt_J X 255 10777 ly_F _ 779 [(0, .ref b), (1, .ref (lt_z X + 0)), (2, .ref (lt_z X + 233)), (3, .int i)] [.ref b, .int (xs ((i + 1)).toNatClampNeg), .ref (lt_z X + 233), .int r]
  refine jr_iload_n hF dL_law_779 3 rfl rfl ?_
  show lt_J X 255 10777 ly_F _ 780 [(0, .ref b), (1, .ref (lt_z X + 0)), (2, .ref (lt_z X + 233)), (3, .int i)] [.int i, .ref b, .int (xs ((i + 1)).toNatClampNeg), .ref (lt_z X + 233), .int r]
  refine jr_iconst (v := 2) hF dL_law_780 rfl ?_
  show lt_J X 255 10777 ly_F _ 781 [(0, .ref b), (1, .ref (lt_z X + 0)), (2, .ref (lt_z X + 233)), (3, .int i)] [.int (2), .int i, .ref b, .int (xs ((i + 1)).toNatClampNeg), .ref (lt_z X + 233), .int r]
  refine jr_iadd hF dL_law_781 ?_
  show lt_J X 255 10777 ly_F _ 782 [(0, .ref b), (1, .ref (lt_z X + 0)), (2, .ref (lt_z X + 233)), (3, .int i)] [.int (i + 2), .ref b, .int (xs ((i + 1)).toNatClampNeg), .ref (lt_z X + 233), .int r]
  refine jr_sl hF hX hv.2.2.1 dL_law_782 ?_
  show lt_J X 255 10777 ly_F _ 783 [(0, .ref b), (1, .ref (lt_z X + 0)), (2, .ref (lt_z X + 233)), (3, .int i)] [.int (xs ((i + 2)).toNatClampNeg), .int (xs ((i + 1)).toNatClampNeg), .ref (lt_z X + 233), .int r]
  refine jr_callV (As := [.int (xs ((i + 1)).toNatClampNeg), .int (xs ((i + 2)).toNatClampNeg)]) (st := [.int r]) hF ml_L_95 (c_X12_butter ly_FT ly_F233 e2) ly_F233 rfl ⟨Nat.le_of_ble_eq_true rfl, Nat.le_of_ble_eq_true rfl⟩ ⟨Nat.le_of_ble_eq_true rfl, Nat.le_of_ble_eq_true rfl⟩ (Nat.le_of_ble_eq_true rfl) dL_law_783 ?_
  show lt_J X 255 10777 ly_F _ 786 [(0, .ref b), (1, .ref (lt_z X + 0)), (2, .ref (lt_z X + 233)), (3, .int i)] [.int r, .int r]
  exact jr_icmp_eq (tgt := 1664) (g1 := some ()) (g2 := none) (r := ()) hF dL_law_786 rfl (if_pos rfl) (fun _ => kk _ hR2) (fun z => by cases z)
set_option maxRecDepth 100000 in
theorem ll_18 (hF : lt_F X cL_law RL 4 room_1) (hX : ll_X X b L xs) (hv : ll_v i L) (hR : lr_R w) (kk : ∀ w', lr_R w' → lt_J X 255 10777 ly_F w' 1664 [(0, .ref b), (1, .ref (lt_z X + 0)), (2, .ref (lt_z X + 233)), (3, .int i)] []) : lt_J X 255 10777 ly_F w 791 [(0, .ref b), (1, .ref (lt_z X + 0)), (2, .ref (lt_z X + 233)), (3, .int i)] [] := by
  obtain ⟨hst, A, h⟩ := id hR
  obtain ⟨r, w1, w2, e1, e2, hR2⟩ := op_soup ly_FS h ((xs ((i + 1)).toNatClampNeg))
  refine jr_aload_n hF dL_law_791 1 rfl rfl ?_
  show lt_J X 255 10777 ly_F _ 792 [(0, .ref b), (1, .ref (lt_z X + 0)), (2, .ref (lt_z X + 233)), (3, .int i)] [.ref (lt_z X + 0)]
  refine jr_aload_n hF dL_law_792 0 rfl rfl ?_
  show lt_J X 255 10777 ly_F _ 793 [(0, .ref b), (1, .ref (lt_z X + 0)), (2, .ref (lt_z X + 233)), (3, .int i)] [.ref b, .ref (lt_z X + 0)]
  refine jr_iload_n hF dL_law_793 3 rfl rfl ?_
  show lt_J X 255 10777 ly_F _ 794 [(0, .ref b), (1, .ref (lt_z X + 0)), (2, .ref (lt_z X + 233)), (3, .int i)] [.int i, .ref b, .ref (lt_z X + 0)]
  refine jr_iconst (v := 1) hF dL_law_794 rfl ?_
  show lt_J X 255 10777 ly_F _ 795 [(0, .ref b), (1, .ref (lt_z X + 0)), (2, .ref (lt_z X + 233)), (3, .int i)] [.int (1), .int i, .ref b, .ref (lt_z X + 0)]
  refine jr_iadd hF dL_law_795 ?_
  show lt_J X 255 10777 ly_F _ 796 [(0, .ref b), (1, .ref (lt_z X + 0)), (2, .ref (lt_z X + 233)), (3, .int i)] [.int (i + 1), .ref b, .ref (lt_z X + 0)]
  refine jr_sl hF hX hv.2.1 dL_law_796 ?_
  show lt_J X 255 10777 ly_F _ 797 [(0, .ref b), (1, .ref (lt_z X + 0)), (2, .ref (lt_z X + 233)), (3, .int i)] [.int (xs ((i + 1)).toNatClampNeg), .ref (lt_z X + 0)]
  refine jr_callV (As := [.int (xs ((i + 1)).toNatClampNeg)]) (st := []) hF ml_L_96 (c_X11_soup ly_FT ly_F0 e1) ly_F0 rfl ⟨Nat.le_of_ble_eq_true rfl, Nat.le_of_ble_eq_true rfl⟩ ⟨Nat.le_of_ble_eq_true rfl, Nat.le_of_ble_eq_true rfl⟩ (Nat.le_of_ble_eq_true rfl) dL_law_797 ?_
  show lt_J X 255 10777 ly_F _ 800 [(0, .ref b), (1, .ref (lt_z X + 0)), (2, .ref (lt_z X + 233)), (3, .int i)] [.int r]
  refine jr_aload_n hF dL_law_800 2 rfl rfl ?_
  show lt_J X 255 10777 ly_F _ 801 [(0, .ref b), (1, .ref (lt_z X + 0)), (2, .ref (lt_z X + 233)), (3, .int i)] [.ref (lt_z X + 233), .int r]
  refine jr_aload_n hF dL_law_801 0 rfl rfl ?_
  show lt_J X 255 10777 ly_F _ 802 [(0, .ref b), (1, .ref (lt_z X + 0)), (2, .ref (lt_z X + 233)), (3, .int i)] [.ref b, .ref (lt_z X + 233), .int r]
  refine jr_iload_n hF dL_law_802 3 rfl rfl ?_
  show lt_J X 255 10777 ly_F _ 803 [(0, .ref b), (1, .ref (lt_z X + 0)), (2, .ref (lt_z X + 233)), (3, .int i)] [.int i, .ref b, .ref (lt_z X + 233), .int r]
  refine jr_iconst (v := 1) hF dL_law_803 rfl ?_
  show lt_J X 255 10777 ly_F _ 804 [(0, .ref b), (1, .ref (lt_z X + 0)), (2, .ref (lt_z X + 233)), (3, .int i)] [.int (1), .int i, .ref b, .ref (lt_z X + 233), .int r]
  refine jr_iadd hF dL_law_804 ?_
  show lt_J X 255 10777 ly_F _ 805 [(0, .ref b), (1, .ref (lt_z X + 0)), (2, .ref (lt_z X + 233)), (3, .int i)] [.int (i + 1), .ref b, .ref (lt_z X + 233), .int r]
  refine jr_sl hF hX hv.2.1 dL_law_805 ?_
  show lt_J X 255 10777 ly_F _ 806 [(0, .ref b), (1, .ref (lt_z X + 0)), (2, .ref (lt_z X + 233)), (3, .int i)] [.int (xs ((i + 1)).toNatClampNeg), .ref (lt_z X + 233), .int r]
  refine jr_callV (As := [.int (xs ((i + 1)).toNatClampNeg)]) (st := [.int r]) hF ml_L_99 (c_X12_soup ly_FT ly_F233 e2) ly_F233 rfl ⟨Nat.le_of_ble_eq_true rfl, Nat.le_of_ble_eq_true rfl⟩ ⟨Nat.le_of_ble_eq_true rfl, Nat.le_of_ble_eq_true rfl⟩ (Nat.le_of_ble_eq_true rfl) dL_law_806 ?_
  show lt_J X 255 10777 ly_F _ 809 [(0, .ref b), (1, .ref (lt_z X + 0)), (2, .ref (lt_z X + 233)), (3, .int i)] [.int r, .int r]
  exact jr_icmp_eq (tgt := 1664) (g1 := some ()) (g2 := none) (r := ()) hF dL_law_809 rfl (if_pos rfl) (fun _ => kk _ hR2) (fun z => by cases z)
set_option maxRecDepth 100000 in
theorem ll_19 (hF : lt_F X cL_law RL 4 room_1) (hX : ll_X X b L xs) (hv : ll_v i L) (hR : lr_R w) (kk : ∀ w', lr_R w' → lt_J X 255 10777 ly_F w' 1664 [(0, .ref b), (1, .ref (lt_z X + 0)), (2, .ref (lt_z X + 233)), (3, .int i)] []) : lt_J X 255 10777 ly_F w 814 [(0, .ref b), (1, .ref (lt_z X + 0)), (2, .ref (lt_z X + 233)), (3, .int i)] [] := by
  obtain ⟨hst, A, h⟩ := id hR
  obtain ⟨r, w1, w2, e1, e2, hR2⟩ := op_bake ly_FS h ((xs ((i + 1)).toNatClampNeg))
  refine jr_aload_n hF dL_law_814 1 rfl rfl ?_
  show lt_J X 255 10777 ly_F _ 815 [(0, .ref b), (1, .ref (lt_z X + 0)), (2, .ref (lt_z X + 233)), (3, .int i)] [.ref (lt_z X + 0)]
  refine jr_aload_n hF dL_law_815 0 rfl rfl ?_
  show lt_J X 255 10777 ly_F _ 816 [(0, .ref b), (1, .ref (lt_z X + 0)), (2, .ref (lt_z X + 233)), (3, .int i)] [.ref b, .ref (lt_z X + 0)]
  refine jr_iload_n hF dL_law_816 3 rfl rfl ?_
  show lt_J X 255 10777 ly_F _ 817 [(0, .ref b), (1, .ref (lt_z X + 0)), (2, .ref (lt_z X + 233)), (3, .int i)] [.int i, .ref b, .ref (lt_z X + 0)]
  refine jr_iconst (v := 1) hF dL_law_817 rfl ?_
  show lt_J X 255 10777 ly_F _ 818 [(0, .ref b), (1, .ref (lt_z X + 0)), (2, .ref (lt_z X + 233)), (3, .int i)] [.int (1), .int i, .ref b, .ref (lt_z X + 0)]
  refine jr_iadd hF dL_law_818 ?_
  show lt_J X 255 10777 ly_F _ 819 [(0, .ref b), (1, .ref (lt_z X + 0)), (2, .ref (lt_z X + 233)), (3, .int i)] [.int (i + 1), .ref b, .ref (lt_z X + 0)]
  refine jr_sl hF hX hv.2.1 dL_law_819 ?_
  show lt_J X 255 10777 ly_F _ 820 [(0, .ref b), (1, .ref (lt_z X + 0)), (2, .ref (lt_z X + 233)), (3, .int i)] [.int (xs ((i + 1)).toNatClampNeg), .ref (lt_z X + 0)]
  refine jr_callV (As := [.int (xs ((i + 1)).toNatClampNeg)]) (st := []) hF ml_L_100 (c_X11_bake ly_FT ly_F0 e1) ly_F0 rfl ⟨Nat.le_of_ble_eq_true rfl, Nat.le_of_ble_eq_true rfl⟩ ⟨Nat.le_of_ble_eq_true rfl, Nat.le_of_ble_eq_true rfl⟩ (Nat.le_of_ble_eq_true rfl) dL_law_820 ?_
  show lt_J X 255 10777 ly_F _ 823 [(0, .ref b), (1, .ref (lt_z X + 0)), (2, .ref (lt_z X + 233)), (3, .int i)] [.int r]
  refine jr_aload_n hF dL_law_823 2 rfl rfl ?_
  show lt_J X 255 10777 ly_F _ 824 [(0, .ref b), (1, .ref (lt_z X + 0)), (2, .ref (lt_z X + 233)), (3, .int i)] [.ref (lt_z X + 233), .int r]
  refine jr_aload_n hF dL_law_824 0 rfl rfl ?_
  show lt_J X 255 10777 ly_F _ 825 [(0, .ref b), (1, .ref (lt_z X + 0)), (2, .ref (lt_z X + 233)), (3, .int i)] [.ref b, .ref (lt_z X + 233), .int r]
  refine jr_iload_n hF dL_law_825 3 rfl rfl ?_
  show lt_J X 255 10777 ly_F _ 826 [(0, .ref b), (1, .ref (lt_z X + 0)), (2, .ref (lt_z X + 233)), (3, .int i)] [.int i, .ref b, .ref (lt_z X + 233), .int r]
  refine jr_iconst (v := 1) hF dL_law_826 rfl ?_
  show lt_J X 255 10777 ly_F _ 827 [(0, .ref b), (1, .ref (lt_z X + 0)), (2, .ref (lt_z X + 233)), (3, .int i)] [.int (1), .int i, .ref b, .ref (lt_z X + 233), .int r]
  refine jr_iadd hF dL_law_827 ?_
  show lt_J X 255 10777 ly_F _ 828 [(0, .ref b), (1, .ref (lt_z X + 0)), (2, .ref (lt_z X + 233)), (3, .int i)] [.int (i + 1), .ref b, .ref (lt_z X + 233), .int r]
  refine jr_sl hF hX hv.2.1 dL_law_828 ?_
  show lt_J X 255 10777 ly_F _ 829 [(0, .ref b), (1, .ref (lt_z X + 0)), (2, .ref (lt_z X + 233)), (3, .int i)] [.int (xs ((i + 1)).toNatClampNeg), .ref (lt_z X + 233), .int r]
  refine jr_callV (As := [.int (xs ((i + 1)).toNatClampNeg)]) (st := [.int r]) hF ml_L_103 (c_X12_bake ly_FT ly_F233 e2) ly_F233 rfl ⟨Nat.le_of_ble_eq_true rfl, Nat.le_of_ble_eq_true rfl⟩ ⟨Nat.le_of_ble_eq_true rfl, Nat.le_of_ble_eq_true rfl⟩ (Nat.le_of_ble_eq_true rfl) dL_law_829 ?_
  show lt_J X 255 10777 ly_F _ 832 [(0, .ref b), (1, .ref (lt_z X + 0)), (2, .ref (lt_z X + 233)), (3, .int i)] [.int r, .int r]
  exact jr_icmp_eq (tgt := 1664) (g1 := some ()) (g2 := none) (r := ()) hF dL_law_832 rfl (if_pos rfl) (fun _ => kk _ hR2) (fun z => by cases z)
set_option maxRecDepth 100000 in
theorem ll_20 (hF : lt_F X cL_law RL 4 room_1) (hX : ll_X X b L xs) (hv : ll_v i L) (hR : lr_R w) (kk : ∀ w', lr_R w' → lt_J X 255 10777 ly_F w' 1664 [(0, .ref b), (1, .ref (lt_z X + 0)), (2, .ref (lt_z X + 233)), (3, .int i)] []) : lt_J X 255 10777 ly_F w 837 [(0, .ref b), (1, .ref (lt_z X + 0)), (2, .ref (lt_z X + 233)), (3, .int i)] [] := by
  obtain ⟨hst, A, h⟩ := id hR
  obtain ⟨r, w1, w2, e1, e2, hR2⟩ := op_sway ly_FS h ((xs ((i + 1)).toNatClampNeg)) ((xs ((i + 2)).toNatClampNeg))
  refine jr_aload_n hF dL_law_837 1 rfl rfl ?_
  show lt_J X 255 10777 ly_F _ 838 [(0, .ref b), (1, .ref (lt_z X + 0)), (2, .ref (lt_z X + 233)), (3, .int i)] [.ref (lt_z X + 0)]
  refine jr_aload_n hF dL_law_838 0 rfl rfl ?_
  show lt_J X 255 10777 ly_F _ 839 [(0, .ref b), (1, .ref (lt_z X + 0)), (2, .ref (lt_z X + 233)), (3, .int i)] [.ref b, .ref (lt_z X + 0)]
  refine jr_iload_n hF dL_law_839 3 rfl rfl ?_
  show lt_J X 255 10777 ly_F _ 840 [(0, .ref b), (1, .ref (lt_z X + 0)), (2, .ref (lt_z X + 233)), (3, .int i)] [.int i, .ref b, .ref (lt_z X + 0)]
  refine jr_iconst (v := 1) hF dL_law_840 rfl ?_
  show lt_J X 255 10777 ly_F _ 841 [(0, .ref b), (1, .ref (lt_z X + 0)), (2, .ref (lt_z X + 233)), (3, .int i)] [.int (1), .int i, .ref b, .ref (lt_z X + 0)]
  refine jr_iadd hF dL_law_841 ?_
  show lt_J X 255 10777 ly_F _ 842 [(0, .ref b), (1, .ref (lt_z X + 0)), (2, .ref (lt_z X + 233)), (3, .int i)] [.int (i + 1), .ref b, .ref (lt_z X + 0)]
  refine jr_sl hF hX hv.2.1 dL_law_842 ?_
  show lt_J X 255 10777 ly_F _ 843 [(0, .ref b), (1, .ref (lt_z X + 0)), (2, .ref (lt_z X + 233)), (3, .int i)] [.int (xs ((i + 1)).toNatClampNeg), .ref (lt_z X + 0)]
  refine jr_aload_n hF dL_law_843 0 rfl rfl ?_
  show lt_J X 255 10777 ly_F _ 844 [(0, .ref b), (1, .ref (lt_z X + 0)), (2, .ref (lt_z X + 233)), (3, .int i)] [.ref b, .int (xs ((i + 1)).toNatClampNeg), .ref (lt_z X + 0)]
  refine jr_iload_n hF dL_law_844 3 rfl rfl ?_
  show lt_J X 255 10777 ly_F _ 845 [(0, .ref b), (1, .ref (lt_z X + 0)), (2, .ref (lt_z X + 233)), (3, .int i)] [.int i, .ref b, .int (xs ((i + 1)).toNatClampNeg), .ref (lt_z X + 0)]
  refine jr_iconst (v := 2) hF dL_law_845 rfl ?_
  show lt_J X 255 10777 ly_F _ 846 [(0, .ref b), (1, .ref (lt_z X + 0)), (2, .ref (lt_z X + 233)), (3, .int i)] [.int (2), .int i, .ref b, .int (xs ((i + 1)).toNatClampNeg), .ref (lt_z X + 0)]
  refine jr_iadd hF dL_law_846 ?_
  show lt_J X 255 10777 ly_F _ 847 [(0, .ref b), (1, .ref (lt_z X + 0)), (2, .ref (lt_z X + 233)), (3, .int i)] [.int (i + 2), .ref b, .int (xs ((i + 1)).toNatClampNeg), .ref (lt_z X + 0)]
  refine jr_sl hF hX hv.2.2.1 dL_law_847 ?_
  show lt_J X 255 10777 ly_F _ 848 [(0, .ref b), (1, .ref (lt_z X + 0)), (2, .ref (lt_z X + 233)), (3, .int i)] [.int (xs ((i + 2)).toNatClampNeg), .int (xs ((i + 1)).toNatClampNeg), .ref (lt_z X + 0)]
  refine jr_callV (As := [.int (xs ((i + 1)).toNatClampNeg), .int (xs ((i + 2)).toNatClampNeg)]) (st := []) hF ml_L_104 (c_X11_sway ly_FT ly_F0 e1) ly_F0 rfl ⟨Nat.le_of_ble_eq_true rfl, Nat.le_of_ble_eq_true rfl⟩ ⟨Nat.le_of_ble_eq_true rfl, Nat.le_of_ble_eq_true rfl⟩ (Nat.le_of_ble_eq_true rfl) dL_law_848 ?_
  show lt_J X 255 10777 ly_F _ 851 [(0, .ref b), (1, .ref (lt_z X + 0)), (2, .ref (lt_z X + 233)), (3, .int i)] [.int r]
  refine jr_aload_n hF dL_law_851 2 rfl rfl ?_
  show lt_J X 255 10777 ly_F _ 852 [(0, .ref b), (1, .ref (lt_z X + 0)), (2, .ref (lt_z X + 233)), (3, .int i)] [.ref (lt_z X + 233), .int r]
  refine jr_aload_n hF dL_law_852 0 rfl rfl ?_
  show lt_J X 255 10777 ly_F _ 853 [(0, .ref b), (1, .ref (lt_z X + 0)), (2, .ref (lt_z X + 233)), (3, .int i)] [.ref b, .ref (lt_z X + 233), .int r]
  refine jr_iload_n hF dL_law_853 3 rfl rfl ?_
  show lt_J X 255 10777 ly_F _ 854 [(0, .ref b), (1, .ref (lt_z X + 0)), (2, .ref (lt_z X + 233)), (3, .int i)] [.int i, .ref b, .ref (lt_z X + 233), .int r]
  refine jr_iconst (v := 1) hF dL_law_854 rfl ?_
  show lt_J X 255 10777 ly_F _ 855 [(0, .ref b), (1, .ref (lt_z X + 0)), (2, .ref (lt_z X + 233)), (3, .int i)] [.int (1), .int i, .ref b, .ref (lt_z X + 233), .int r]
  refine jr_iadd hF dL_law_855 ?_
  show lt_J X 255 10777 ly_F _ 856 [(0, .ref b), (1, .ref (lt_z X + 0)), (2, .ref (lt_z X + 233)), (3, .int i)] [.int (i + 1), .ref b, .ref (lt_z X + 233), .int r]
  refine jr_sl hF hX hv.2.1 dL_law_856 ?_
  show lt_J X 255 10777 ly_F _ 857 [(0, .ref b), (1, .ref (lt_z X + 0)), (2, .ref (lt_z X + 233)), (3, .int i)] [.int (xs ((i + 1)).toNatClampNeg), .ref (lt_z X + 233), .int r]
  refine jr_aload_n hF dL_law_857 0 rfl rfl ?_
  show lt_J X 255 10777 ly_F _ 858 [(0, .ref b), (1, .ref (lt_z X + 0)), (2, .ref (lt_z X + 233)), (3, .int i)] [.ref b, .int (xs ((i + 1)).toNatClampNeg), .ref (lt_z X + 233), .int r]
  refine jr_iload_n hF dL_law_858 3 rfl rfl ?_
  show lt_J X 255 10777 ly_F _ 859 [(0, .ref b), (1, .ref (lt_z X + 0)), (2, .ref (lt_z X + 233)), (3, .int i)] [.int i, .ref b, .int (xs ((i + 1)).toNatClampNeg), .ref (lt_z X + 233), .int r]
  refine jr_iconst (v := 2) hF dL_law_859 rfl ?_
  show lt_J X 255 10777 ly_F _ 860 [(0, .ref b), (1, .ref (lt_z X + 0)), (2, .ref (lt_z X + 233)), (3, .int i)] [.int (2), .int i, .ref b, .int (xs ((i + 1)).toNatClampNeg), .ref (lt_z X + 233), .int r]
  refine jr_iadd hF dL_law_860 ?_
  show lt_J X 255 10777 ly_F _ 861 [(0, .ref b), (1, .ref (lt_z X + 0)), (2, .ref (lt_z X + 233)), (3, .int i)] [.int (i + 2), .ref b, .int (xs ((i + 1)).toNatClampNeg), .ref (lt_z X + 233), .int r]
  refine jr_sl hF hX hv.2.2.1 dL_law_861 ?_
  show lt_J X 255 10777 ly_F _ 862 [(0, .ref b), (1, .ref (lt_z X + 0)), (2, .ref (lt_z X + 233)), (3, .int i)] [.int (xs ((i + 2)).toNatClampNeg), .int (xs ((i + 1)).toNatClampNeg), .ref (lt_z X + 233), .int r]
  refine jr_callV (As := [.int (xs ((i + 1)).toNatClampNeg), .int (xs ((i + 2)).toNatClampNeg)]) (st := [.int r]) hF ml_L_107 (c_X12_sway ly_FT ly_F233 e2) ly_F233 rfl ⟨Nat.le_of_ble_eq_true rfl, Nat.le_of_ble_eq_true rfl⟩ ⟨Nat.le_of_ble_eq_true rfl, Nat.le_of_ble_eq_true rfl⟩ (Nat.le_of_ble_eq_true rfl) dL_law_862 ?_
  show lt_J X 255 10777 ly_F _ 865 [(0, .ref b), (1, .ref (lt_z X + 0)), (2, .ref (lt_z X + 233)), (3, .int i)] [.int r, .int r]
  exact jr_icmp_eq (tgt := 1664) (g1 := some ()) (g2 := none) (r := ()) hF dL_law_865 rfl (if_pos rfl) (fun _ => kk _ hR2) (fun z => by cases z)
set_option maxRecDepth 100000 in
theorem ll_21 (hF : lt_F X cL_law RL 4 room_1) (hX : ll_X X b L xs) (hv : ll_v i L) (hR : lr_R w) (kk : ∀ w', lr_R w' → lt_J X 255 10777 ly_F w' 1664 [(0, .ref b), (1, .ref (lt_z X + 0)), (2, .ref (lt_z X + 233)), (3, .int i)] []) : lt_J X 255 10777 ly_F w 870 [(0, .ref b), (1, .ref (lt_z X + 0)), (2, .ref (lt_z X + 233)), (3, .int i)] [] := by
  obtain ⟨hst, A, h⟩ := id hR
  obtain ⟨r, w1, w2, e1, e2, hR2⟩ := op_sit ly_FS h ((xs ((i + 1)).toNatClampNeg)) ((xs ((i + 2)).toNatClampNeg)) ((xs ((i + 3)).toNatClampNeg)) ((xs ((i + 4)).toNatClampNeg))
  refine jr_aload_n hF dL_law_870 1 rfl rfl ?_
  show lt_J X 255 10777 ly_F _ 871 [(0, .ref b), (1, .ref (lt_z X + 0)), (2, .ref (lt_z X + 233)), (3, .int i)] [.ref (lt_z X + 0)]
  refine jr_aload_n hF dL_law_871 0 rfl rfl ?_
  show lt_J X 255 10777 ly_F _ 872 [(0, .ref b), (1, .ref (lt_z X + 0)), (2, .ref (lt_z X + 233)), (3, .int i)] [.ref b, .ref (lt_z X + 0)]
  refine jr_iload_n hF dL_law_872 3 rfl rfl ?_
  show lt_J X 255 10777 ly_F _ 873 [(0, .ref b), (1, .ref (lt_z X + 0)), (2, .ref (lt_z X + 233)), (3, .int i)] [.int i, .ref b, .ref (lt_z X + 0)]
  refine jr_iconst (v := 1) hF dL_law_873 rfl ?_
  show lt_J X 255 10777 ly_F _ 874 [(0, .ref b), (1, .ref (lt_z X + 0)), (2, .ref (lt_z X + 233)), (3, .int i)] [.int (1), .int i, .ref b, .ref (lt_z X + 0)]
  refine jr_iadd hF dL_law_874 ?_
  show lt_J X 255 10777 ly_F _ 875 [(0, .ref b), (1, .ref (lt_z X + 0)), (2, .ref (lt_z X + 233)), (3, .int i)] [.int (i + 1), .ref b, .ref (lt_z X + 0)]
  refine jr_sl hF hX hv.2.1 dL_law_875 ?_
  show lt_J X 255 10777 ly_F _ 876 [(0, .ref b), (1, .ref (lt_z X + 0)), (2, .ref (lt_z X + 233)), (3, .int i)] [.int (xs ((i + 1)).toNatClampNeg), .ref (lt_z X + 0)]
  refine jr_aload_n hF dL_law_876 0 rfl rfl ?_
  show lt_J X 255 10777 ly_F _ 877 [(0, .ref b), (1, .ref (lt_z X + 0)), (2, .ref (lt_z X + 233)), (3, .int i)] [.ref b, .int (xs ((i + 1)).toNatClampNeg), .ref (lt_z X + 0)]
  refine jr_iload_n hF dL_law_877 3 rfl rfl ?_
  show lt_J X 255 10777 ly_F _ 878 [(0, .ref b), (1, .ref (lt_z X + 0)), (2, .ref (lt_z X + 233)), (3, .int i)] [.int i, .ref b, .int (xs ((i + 1)).toNatClampNeg), .ref (lt_z X + 0)]
  refine jr_iconst (v := 2) hF dL_law_878 rfl ?_
  show lt_J X 255 10777 ly_F _ 879 [(0, .ref b), (1, .ref (lt_z X + 0)), (2, .ref (lt_z X + 233)), (3, .int i)] [.int (2), .int i, .ref b, .int (xs ((i + 1)).toNatClampNeg), .ref (lt_z X + 0)]
  refine jr_iadd hF dL_law_879 ?_
  show lt_J X 255 10777 ly_F _ 880 [(0, .ref b), (1, .ref (lt_z X + 0)), (2, .ref (lt_z X + 233)), (3, .int i)] [.int (i + 2), .ref b, .int (xs ((i + 1)).toNatClampNeg), .ref (lt_z X + 0)]
  refine jr_sl hF hX hv.2.2.1 dL_law_880 ?_
  show lt_J X 255 10777 ly_F _ 881 [(0, .ref b), (1, .ref (lt_z X + 0)), (2, .ref (lt_z X + 233)), (3, .int i)] [.int (xs ((i + 2)).toNatClampNeg), .int (xs ((i + 1)).toNatClampNeg), .ref (lt_z X + 0)]
  refine jr_aload_n hF dL_law_881 0 rfl rfl ?_
  show lt_J X 255 10777 ly_F _ 882 [(0, .ref b), (1, .ref (lt_z X + 0)), (2, .ref (lt_z X + 233)), (3, .int i)] [.ref b, .int (xs ((i + 2)).toNatClampNeg), .int (xs ((i + 1)).toNatClampNeg), .ref (lt_z X + 0)]
  refine jr_iload_n hF dL_law_882 3 rfl rfl ?_
  show lt_J X 255 10777 ly_F _ 883 [(0, .ref b), (1, .ref (lt_z X + 0)), (2, .ref (lt_z X + 233)), (3, .int i)] [.int i, .ref b, .int (xs ((i + 2)).toNatClampNeg), .int (xs ((i + 1)).toNatClampNeg), .ref (lt_z X + 0)]
  refine jr_iconst (v := 3) hF dL_law_883 rfl ?_
  show lt_J X 255 10777 ly_F _ 884 [(0, .ref b), (1, .ref (lt_z X + 0)), (2, .ref (lt_z X + 233)), (3, .int i)] [.int (3), .int i, .ref b, .int (xs ((i + 2)).toNatClampNeg), .int (xs ((i + 1)).toNatClampNeg), .ref (lt_z X + 0)]
  refine jr_iadd hF dL_law_884 ?_
  show lt_J X 255 10777 ly_F _ 885 [(0, .ref b), (1, .ref (lt_z X + 0)), (2, .ref (lt_z X + 233)), (3, .int i)] [.int (i + 3), .ref b, .int (xs ((i + 2)).toNatClampNeg), .int (xs ((i + 1)).toNatClampNeg), .ref (lt_z X + 0)]
  refine jr_sl hF hX hv.2.2.2.1 dL_law_885 ?_
  show lt_J X 255 10777 ly_F _ 886 [(0, .ref b), (1, .ref (lt_z X + 0)), (2, .ref (lt_z X + 233)), (3, .int i)] [.int (xs ((i + 3)).toNatClampNeg), .int (xs ((i + 2)).toNatClampNeg), .int (xs ((i + 1)).toNatClampNeg), .ref (lt_z X + 0)]
  refine jr_aload_n hF dL_law_886 0 rfl rfl ?_
  show lt_J X 255 10777 ly_F _ 887 [(0, .ref b), (1, .ref (lt_z X + 0)), (2, .ref (lt_z X + 233)), (3, .int i)] [.ref b, .int (xs ((i + 3)).toNatClampNeg), .int (xs ((i + 2)).toNatClampNeg), .int (xs ((i + 1)).toNatClampNeg), .ref (lt_z X + 0)]
  refine jr_iload_n hF dL_law_887 3 rfl rfl ?_
  show lt_J X 255 10777 ly_F _ 888 [(0, .ref b), (1, .ref (lt_z X + 0)), (2, .ref (lt_z X + 233)), (3, .int i)] [.int i, .ref b, .int (xs ((i + 3)).toNatClampNeg), .int (xs ((i + 2)).toNatClampNeg), .int (xs ((i + 1)).toNatClampNeg), .ref (lt_z X + 0)]
  refine jr_iconst (v := 4) hF dL_law_888 rfl ?_
  show lt_J X 255 10777 ly_F _ 889 [(0, .ref b), (1, .ref (lt_z X + 0)), (2, .ref (lt_z X + 233)), (3, .int i)] [.int (4), .int i, .ref b, .int (xs ((i + 3)).toNatClampNeg), .int (xs ((i + 2)).toNatClampNeg), .int (xs ((i + 1)).toNatClampNeg), .ref (lt_z X + 0)]
  refine jr_iadd hF dL_law_889 ?_
  show lt_J X 255 10777 ly_F _ 890 [(0, .ref b), (1, .ref (lt_z X + 0)), (2, .ref (lt_z X + 233)), (3, .int i)] [.int (i + 4), .ref b, .int (xs ((i + 3)).toNatClampNeg), .int (xs ((i + 2)).toNatClampNeg), .int (xs ((i + 1)).toNatClampNeg), .ref (lt_z X + 0)]
  refine jr_sl hF hX hv.2.2.2.2.1 dL_law_890 ?_
  show lt_J X 255 10777 ly_F _ 891 [(0, .ref b), (1, .ref (lt_z X + 0)), (2, .ref (lt_z X + 233)), (3, .int i)] [.int (xs ((i + 4)).toNatClampNeg), .int (xs ((i + 3)).toNatClampNeg), .int (xs ((i + 2)).toNatClampNeg), .int (xs ((i + 1)).toNatClampNeg), .ref (lt_z X + 0)]
  refine jr_callV (As := [.int (xs ((i + 1)).toNatClampNeg), .int (xs ((i + 2)).toNatClampNeg), .int (xs ((i + 3)).toNatClampNeg), .int (xs ((i + 4)).toNatClampNeg)]) (st := []) hF ml_L_108 (c_X11_sit ly_FT ly_F0 e1) ly_F0 rfl ⟨Nat.le_of_ble_eq_true rfl, Nat.le_of_ble_eq_true rfl⟩ ⟨Nat.le_of_ble_eq_true rfl, Nat.le_of_ble_eq_true rfl⟩ (Nat.le_of_ble_eq_true rfl) dL_law_891 ?_
  show lt_J X 255 10777 ly_F _ 894 [(0, .ref b), (1, .ref (lt_z X + 0)), (2, .ref (lt_z X + 233)), (3, .int i)] [.int r]
  refine jr_aload_n hF dL_law_894 2 rfl rfl ?_
  show lt_J X 255 10777 ly_F _ 895 [(0, .ref b), (1, .ref (lt_z X + 0)), (2, .ref (lt_z X + 233)), (3, .int i)] [.ref (lt_z X + 233), .int r]
  refine jr_aload_n hF dL_law_895 0 rfl rfl ?_
  show lt_J X 255 10777 ly_F _ 896 [(0, .ref b), (1, .ref (lt_z X + 0)), (2, .ref (lt_z X + 233)), (3, .int i)] [.ref b, .ref (lt_z X + 233), .int r]
  refine jr_iload_n hF dL_law_896 3 rfl rfl ?_
  show lt_J X 255 10777 ly_F _ 897 [(0, .ref b), (1, .ref (lt_z X + 0)), (2, .ref (lt_z X + 233)), (3, .int i)] [.int i, .ref b, .ref (lt_z X + 233), .int r]
  refine jr_iconst (v := 1) hF dL_law_897 rfl ?_
  show lt_J X 255 10777 ly_F _ 898 [(0, .ref b), (1, .ref (lt_z X + 0)), (2, .ref (lt_z X + 233)), (3, .int i)] [.int (1), .int i, .ref b, .ref (lt_z X + 233), .int r]
  refine jr_iadd hF dL_law_898 ?_
  show lt_J X 255 10777 ly_F _ 899 [(0, .ref b), (1, .ref (lt_z X + 0)), (2, .ref (lt_z X + 233)), (3, .int i)] [.int (i + 1), .ref b, .ref (lt_z X + 233), .int r]
  refine jr_sl hF hX hv.2.1 dL_law_899 ?_
  show lt_J X 255 10777 ly_F _ 900 [(0, .ref b), (1, .ref (lt_z X + 0)), (2, .ref (lt_z X + 233)), (3, .int i)] [.int (xs ((i + 1)).toNatClampNeg), .ref (lt_z X + 233), .int r]
  refine jr_aload_n hF dL_law_900 0 rfl rfl ?_
  show lt_J X 255 10777 ly_F _ 901 [(0, .ref b), (1, .ref (lt_z X + 0)), (2, .ref (lt_z X + 233)), (3, .int i)] [.ref b, .int (xs ((i + 1)).toNatClampNeg), .ref (lt_z X + 233), .int r]
  refine jr_iload_n hF dL_law_901 3 rfl rfl ?_
  show lt_J X 255 10777 ly_F _ 902 [(0, .ref b), (1, .ref (lt_z X + 0)), (2, .ref (lt_z X + 233)), (3, .int i)] [.int i, .ref b, .int (xs ((i + 1)).toNatClampNeg), .ref (lt_z X + 233), .int r]
  refine jr_iconst (v := 2) hF dL_law_902 rfl ?_
  show lt_J X 255 10777 ly_F _ 903 [(0, .ref b), (1, .ref (lt_z X + 0)), (2, .ref (lt_z X + 233)), (3, .int i)] [.int (2), .int i, .ref b, .int (xs ((i + 1)).toNatClampNeg), .ref (lt_z X + 233), .int r]
  refine jr_iadd hF dL_law_903 ?_
  show lt_J X 255 10777 ly_F _ 904 [(0, .ref b), (1, .ref (lt_z X + 0)), (2, .ref (lt_z X + 233)), (3, .int i)] [.int (i + 2), .ref b, .int (xs ((i + 1)).toNatClampNeg), .ref (lt_z X + 233), .int r]
  refine jr_sl hF hX hv.2.2.1 dL_law_904 ?_
  show lt_J X 255 10777 ly_F _ 905 [(0, .ref b), (1, .ref (lt_z X + 0)), (2, .ref (lt_z X + 233)), (3, .int i)] [.int (xs ((i + 2)).toNatClampNeg), .int (xs ((i + 1)).toNatClampNeg), .ref (lt_z X + 233), .int r]
  refine jr_aload_n hF dL_law_905 0 rfl rfl ?_
  show lt_J X 255 10777 ly_F _ 906 [(0, .ref b), (1, .ref (lt_z X + 0)), (2, .ref (lt_z X + 233)), (3, .int i)] [.ref b, .int (xs ((i + 2)).toNatClampNeg), .int (xs ((i + 1)).toNatClampNeg), .ref (lt_z X + 233), .int r]
  refine jr_iload_n hF dL_law_906 3 rfl rfl ?_
  show lt_J X 255 10777 ly_F _ 907 [(0, .ref b), (1, .ref (lt_z X + 0)), (2, .ref (lt_z X + 233)), (3, .int i)] [.int i, .ref b, .int (xs ((i + 2)).toNatClampNeg), .int (xs ((i + 1)).toNatClampNeg), .ref (lt_z X + 233), .int r]
  refine jr_iconst (v := 3) hF dL_law_907 rfl ?_
  show lt_J X 255 10777 ly_F _ 908 [(0, .ref b), (1, .ref (lt_z X + 0)), (2, .ref (lt_z X + 233)), (3, .int i)] [.int (3), .int i, .ref b, .int (xs ((i + 2)).toNatClampNeg), .int (xs ((i + 1)).toNatClampNeg), .ref (lt_z X + 233), .int r]
  refine jr_iadd hF dL_law_908 ?_
  show lt_J X 255 10777 ly_F _ 909 [(0, .ref b), (1, .ref (lt_z X + 0)), (2, .ref (lt_z X + 233)), (3, .int i)] [.int (i + 3), .ref b, .int (xs ((i + 2)).toNatClampNeg), .int (xs ((i + 1)).toNatClampNeg), .ref (lt_z X + 233), .int r]
  refine jr_sl hF hX hv.2.2.2.1 dL_law_909 ?_
  show lt_J X 255 10777 ly_F _ 910 [(0, .ref b), (1, .ref (lt_z X + 0)), (2, .ref (lt_z X + 233)), (3, .int i)] [.int (xs ((i + 3)).toNatClampNeg), .int (xs ((i + 2)).toNatClampNeg), .int (xs ((i + 1)).toNatClampNeg), .ref (lt_z X + 233), .int r]
  refine jr_aload_n hF dL_law_910 0 rfl rfl ?_
  show lt_J X 255 10777 ly_F _ 911 [(0, .ref b), (1, .ref (lt_z X + 0)), (2, .ref (lt_z X + 233)), (3, .int i)] [.ref b, .int (xs ((i + 3)).toNatClampNeg), .int (xs ((i + 2)).toNatClampNeg), .int (xs ((i + 1)).toNatClampNeg), .ref (lt_z X + 233), .int r]
  refine jr_iload_n hF dL_law_911 3 rfl rfl ?_
  show lt_J X 255 10777 ly_F _ 912 [(0, .ref b), (1, .ref (lt_z X + 0)), (2, .ref (lt_z X + 233)), (3, .int i)] [.int i, .ref b, .int (xs ((i + 3)).toNatClampNeg), .int (xs ((i + 2)).toNatClampNeg), .int (xs ((i + 1)).toNatClampNeg), .ref (lt_z X + 233), .int r]
  refine jr_iconst (v := 4) hF dL_law_912 rfl ?_
  show lt_J X 255 10777 ly_F _ 913 [(0, .ref b), (1, .ref (lt_z X + 0)), (2, .ref (lt_z X + 233)), (3, .int i)] [.int (4), .int i, .ref b, .int (xs ((i + 3)).toNatClampNeg), .int (xs ((i + 2)).toNatClampNeg), .int (xs ((i + 1)).toNatClampNeg), .ref (lt_z X + 233), .int r]
  refine jr_iadd hF dL_law_913 ?_
  show lt_J X 255 10777 ly_F _ 914 [(0, .ref b), (1, .ref (lt_z X + 0)), (2, .ref (lt_z X + 233)), (3, .int i)] [.int (i + 4), .ref b, .int (xs ((i + 3)).toNatClampNeg), .int (xs ((i + 2)).toNatClampNeg), .int (xs ((i + 1)).toNatClampNeg), .ref (lt_z X + 233), .int r]
  refine jr_sl hF hX hv.2.2.2.2.1 dL_law_914 ?_
  show lt_J X 255 10777 ly_F _ 915 [(0, .ref b), (1, .ref (lt_z X + 0)), (2, .ref (lt_z X + 233)), (3, .int i)] [.int (xs ((i + 4)).toNatClampNeg), .int (xs ((i + 3)).toNatClampNeg), .int (xs ((i + 2)).toNatClampNeg), .int (xs ((i + 1)).toNatClampNeg), .ref (lt_z X + 233), .int r]
  refine jr_callV (As := [.int (xs ((i + 1)).toNatClampNeg), .int (xs ((i + 2)).toNatClampNeg), .int (xs ((i + 3)).toNatClampNeg), .int (xs ((i + 4)).toNatClampNeg)]) (st := [.int r]) hF ml_L_112 (c_X12_sit ly_FT ly_F233 e2) ly_F233 rfl ⟨Nat.le_of_ble_eq_true rfl, Nat.le_of_ble_eq_true rfl⟩ ⟨Nat.le_of_ble_eq_true rfl, Nat.le_of_ble_eq_true rfl⟩ (Nat.le_of_ble_eq_true rfl) dL_law_915 ?_
  show lt_J X 255 10777 ly_F _ 918 [(0, .ref b), (1, .ref (lt_z X + 0)), (2, .ref (lt_z X + 233)), (3, .int i)] [.int r, .int r]
  exact jr_icmp_eq (tgt := 1664) (g1 := some ()) (g2 := none) (r := ()) hF dL_law_918 rfl (if_pos rfl) (fun _ => kk _ hR2) (fun z => by cases z)
set_option maxRecDepth 100000 in
theorem ll_22 (hF : lt_F X cL_law RL 4 room_1) (hX : ll_X X b L xs) (hv : ll_v i L) (hR : lr_R w) (kk : ∀ w', lr_R w' → lt_J X 255 10777 ly_F w' 1664 [(0, .ref b), (1, .ref (lt_z X + 0)), (2, .ref (lt_z X + 233)), (3, .int i)] []) : lt_J X 255 10777 ly_F w 923 [(0, .ref b), (1, .ref (lt_z X + 0)), (2, .ref (lt_z X + 233)), (3, .int i)] [] := by
  obtain ⟨hst, A, h⟩ := id hR
  obtain ⟨r, w1, w2, e1, e2, hR2⟩ := op_come ly_FS h ((xs ((i + 1)).toNatClampNeg))
  refine jr_aload_n hF dL_law_923 1 rfl rfl ?_
  show lt_J X 255 10777 ly_F _ 924 [(0, .ref b), (1, .ref (lt_z X + 0)), (2, .ref (lt_z X + 233)), (3, .int i)] [.ref (lt_z X + 0)]
  refine jr_aload_n hF dL_law_924 0 rfl rfl ?_
  show lt_J X 255 10777 ly_F _ 925 [(0, .ref b), (1, .ref (lt_z X + 0)), (2, .ref (lt_z X + 233)), (3, .int i)] [.ref b, .ref (lt_z X + 0)]
  refine jr_iload_n hF dL_law_925 3 rfl rfl ?_
  show lt_J X 255 10777 ly_F _ 926 [(0, .ref b), (1, .ref (lt_z X + 0)), (2, .ref (lt_z X + 233)), (3, .int i)] [.int i, .ref b, .ref (lt_z X + 0)]
  refine jr_iconst (v := 1) hF dL_law_926 rfl ?_
  show lt_J X 255 10777 ly_F _ 927 [(0, .ref b), (1, .ref (lt_z X + 0)), (2, .ref (lt_z X + 233)), (3, .int i)] [.int (1), .int i, .ref b, .ref (lt_z X + 0)]
  refine jr_iadd hF dL_law_927 ?_
  show lt_J X 255 10777 ly_F _ 928 [(0, .ref b), (1, .ref (lt_z X + 0)), (2, .ref (lt_z X + 233)), (3, .int i)] [.int (i + 1), .ref b, .ref (lt_z X + 0)]
  refine jr_sl hF hX hv.2.1 dL_law_928 ?_
  show lt_J X 255 10777 ly_F _ 929 [(0, .ref b), (1, .ref (lt_z X + 0)), (2, .ref (lt_z X + 233)), (3, .int i)] [.int (xs ((i + 1)).toNatClampNeg), .ref (lt_z X + 0)]
  refine jr_callV (As := [.int (xs ((i + 1)).toNatClampNeg)]) (st := []) hF ml_L_113 (c_X11_come ly_FT ly_F0 e1) ly_F0 rfl ⟨Nat.le_of_ble_eq_true rfl, Nat.le_of_ble_eq_true rfl⟩ ⟨Nat.le_of_ble_eq_true rfl, Nat.le_of_ble_eq_true rfl⟩ (Nat.le_of_ble_eq_true rfl) dL_law_929 ?_
  show lt_J X 255 10777 ly_F _ 932 [(0, .ref b), (1, .ref (lt_z X + 0)), (2, .ref (lt_z X + 233)), (3, .int i)] [.int r]
  refine jr_aload_n hF dL_law_932 2 rfl rfl ?_
  show lt_J X 255 10777 ly_F _ 933 [(0, .ref b), (1, .ref (lt_z X + 0)), (2, .ref (lt_z X + 233)), (3, .int i)] [.ref (lt_z X + 233), .int r]
  refine jr_aload_n hF dL_law_933 0 rfl rfl ?_
  show lt_J X 255 10777 ly_F _ 934 [(0, .ref b), (1, .ref (lt_z X + 0)), (2, .ref (lt_z X + 233)), (3, .int i)] [.ref b, .ref (lt_z X + 233), .int r]
  refine jr_iload_n hF dL_law_934 3 rfl rfl ?_
  show lt_J X 255 10777 ly_F _ 935 [(0, .ref b), (1, .ref (lt_z X + 0)), (2, .ref (lt_z X + 233)), (3, .int i)] [.int i, .ref b, .ref (lt_z X + 233), .int r]
  refine jr_iconst (v := 1) hF dL_law_935 rfl ?_
  show lt_J X 255 10777 ly_F _ 936 [(0, .ref b), (1, .ref (lt_z X + 0)), (2, .ref (lt_z X + 233)), (3, .int i)] [.int (1), .int i, .ref b, .ref (lt_z X + 233), .int r]
  refine jr_iadd hF dL_law_936 ?_
  show lt_J X 255 10777 ly_F _ 937 [(0, .ref b), (1, .ref (lt_z X + 0)), (2, .ref (lt_z X + 233)), (3, .int i)] [.int (i + 1), .ref b, .ref (lt_z X + 233), .int r]
  refine jr_sl hF hX hv.2.1 dL_law_937 ?_
  show lt_J X 255 10777 ly_F _ 938 [(0, .ref b), (1, .ref (lt_z X + 0)), (2, .ref (lt_z X + 233)), (3, .int i)] [.int (xs ((i + 1)).toNatClampNeg), .ref (lt_z X + 233), .int r]
  refine jr_callV (As := [.int (xs ((i + 1)).toNatClampNeg)]) (st := [.int r]) hF ml_L_116 (c_X12_come ly_FT ly_F233 e2) ly_F233 rfl ⟨Nat.le_of_ble_eq_true rfl, Nat.le_of_ble_eq_true rfl⟩ ⟨Nat.le_of_ble_eq_true rfl, Nat.le_of_ble_eq_true rfl⟩ (Nat.le_of_ble_eq_true rfl) dL_law_938 ?_
  show lt_J X 255 10777 ly_F _ 941 [(0, .ref b), (1, .ref (lt_z X + 0)), (2, .ref (lt_z X + 233)), (3, .int i)] [.int r, .int r]
  exact jr_icmp_eq (tgt := 1664) (g1 := some ()) (g2 := none) (r := ()) hF dL_law_941 rfl (if_pos rfl) (fun _ => kk _ hR2) (fun z => by cases z)
set_option maxRecDepth 100000 in
theorem ll_23 (hF : lt_F X cL_law RL 4 room_1) (hX : ll_X X b L xs) (hv : ll_v i L) (hR : lr_R w) (kk : ∀ w', lr_R w' → lt_J X 255 10777 ly_F w' 1664 [(0, .ref b), (1, .ref (lt_z X + 0)), (2, .ref (lt_z X + 233)), (3, .int i)] []) : lt_J X 255 10777 ly_F w 946 [(0, .ref b), (1, .ref (lt_z X + 0)), (2, .ref (lt_z X + 233)), (3, .int i)] [] := by
  obtain ⟨hst, A, h⟩ := id hR
  obtain ⟨r, w1, w2, e1, e2, hR2⟩ := op_rule ly_FS h ((xs ((i + 1)).toNatClampNeg)) ((xs ((i + 2)).toNatClampNeg))
  refine jr_aload_n hF dL_law_946 1 rfl rfl ?_
  show lt_J X 255 10777 ly_F _ 947 [(0, .ref b), (1, .ref (lt_z X + 0)), (2, .ref (lt_z X + 233)), (3, .int i)] [.ref (lt_z X + 0)]
  refine jr_aload_n hF dL_law_947 0 rfl rfl ?_
  show lt_J X 255 10777 ly_F _ 948 [(0, .ref b), (1, .ref (lt_z X + 0)), (2, .ref (lt_z X + 233)), (3, .int i)] [.ref b, .ref (lt_z X + 0)]
  refine jr_iload_n hF dL_law_948 3 rfl rfl ?_
  show lt_J X 255 10777 ly_F _ 949 [(0, .ref b), (1, .ref (lt_z X + 0)), (2, .ref (lt_z X + 233)), (3, .int i)] [.int i, .ref b, .ref (lt_z X + 0)]
  refine jr_iconst (v := 1) hF dL_law_949 rfl ?_
  show lt_J X 255 10777 ly_F _ 950 [(0, .ref b), (1, .ref (lt_z X + 0)), (2, .ref (lt_z X + 233)), (3, .int i)] [.int (1), .int i, .ref b, .ref (lt_z X + 0)]
  refine jr_iadd hF dL_law_950 ?_
  show lt_J X 255 10777 ly_F _ 951 [(0, .ref b), (1, .ref (lt_z X + 0)), (2, .ref (lt_z X + 233)), (3, .int i)] [.int (i + 1), .ref b, .ref (lt_z X + 0)]
  refine jr_sl hF hX hv.2.1 dL_law_951 ?_
  show lt_J X 255 10777 ly_F _ 952 [(0, .ref b), (1, .ref (lt_z X + 0)), (2, .ref (lt_z X + 233)), (3, .int i)] [.int (xs ((i + 1)).toNatClampNeg), .ref (lt_z X + 0)]
  refine jr_aload_n hF dL_law_952 0 rfl rfl ?_
  show lt_J X 255 10777 ly_F _ 953 [(0, .ref b), (1, .ref (lt_z X + 0)), (2, .ref (lt_z X + 233)), (3, .int i)] [.ref b, .int (xs ((i + 1)).toNatClampNeg), .ref (lt_z X + 0)]
  refine jr_iload_n hF dL_law_953 3 rfl rfl ?_
  show lt_J X 255 10777 ly_F _ 954 [(0, .ref b), (1, .ref (lt_z X + 0)), (2, .ref (lt_z X + 233)), (3, .int i)] [.int i, .ref b, .int (xs ((i + 1)).toNatClampNeg), .ref (lt_z X + 0)]
  refine jr_iconst (v := 2) hF dL_law_954 rfl ?_
  show lt_J X 255 10777 ly_F _ 955 [(0, .ref b), (1, .ref (lt_z X + 0)), (2, .ref (lt_z X + 233)), (3, .int i)] [.int (2), .int i, .ref b, .int (xs ((i + 1)).toNatClampNeg), .ref (lt_z X + 0)]
  refine jr_iadd hF dL_law_955 ?_
  show lt_J X 255 10777 ly_F _ 956 [(0, .ref b), (1, .ref (lt_z X + 0)), (2, .ref (lt_z X + 233)), (3, .int i)] [.int (i + 2), .ref b, .int (xs ((i + 1)).toNatClampNeg), .ref (lt_z X + 0)]
  refine jr_sl hF hX hv.2.2.1 dL_law_956 ?_
  show lt_J X 255 10777 ly_F _ 957 [(0, .ref b), (1, .ref (lt_z X + 0)), (2, .ref (lt_z X + 233)), (3, .int i)] [.int (xs ((i + 2)).toNatClampNeg), .int (xs ((i + 1)).toNatClampNeg), .ref (lt_z X + 0)]
  refine jr_callV (As := [.int (xs ((i + 1)).toNatClampNeg), .int (xs ((i + 2)).toNatClampNeg)]) (st := []) hF ml_L_117 (c_X11_rule ly_FT ly_F0 e1) ly_F0 rfl ⟨Nat.le_of_ble_eq_true rfl, Nat.le_of_ble_eq_true rfl⟩ ⟨Nat.le_of_ble_eq_true rfl, Nat.le_of_ble_eq_true rfl⟩ (Nat.le_of_ble_eq_true rfl) dL_law_957 ?_
  show lt_J X 255 10777 ly_F _ 960 [(0, .ref b), (1, .ref (lt_z X + 0)), (2, .ref (lt_z X + 233)), (3, .int i)] [.int r]
  refine jr_aload_n hF dL_law_960 2 rfl rfl ?_
  show lt_J X 255 10777 ly_F _ 961 [(0, .ref b), (1, .ref (lt_z X + 0)), (2, .ref (lt_z X + 233)), (3, .int i)] [.ref (lt_z X + 233), .int r]
  refine jr_aload_n hF dL_law_961 0 rfl rfl ?_
  show lt_J X 255 10777 ly_F _ 962 [(0, .ref b), (1, .ref (lt_z X + 0)), (2, .ref (lt_z X + 233)), (3, .int i)] [.ref b, .ref (lt_z X + 233), .int r]
  refine jr_iload_n hF dL_law_962 3 rfl rfl ?_
  show lt_J X 255 10777 ly_F _ 963 [(0, .ref b), (1, .ref (lt_z X + 0)), (2, .ref (lt_z X + 233)), (3, .int i)] [.int i, .ref b, .ref (lt_z X + 233), .int r]
  refine jr_iconst (v := 1) hF dL_law_963 rfl ?_
  show lt_J X 255 10777 ly_F _ 964 [(0, .ref b), (1, .ref (lt_z X + 0)), (2, .ref (lt_z X + 233)), (3, .int i)] [.int (1), .int i, .ref b, .ref (lt_z X + 233), .int r]
  refine jr_iadd hF dL_law_964 ?_
  show lt_J X 255 10777 ly_F _ 965 [(0, .ref b), (1, .ref (lt_z X + 0)), (2, .ref (lt_z X + 233)), (3, .int i)] [.int (i + 1), .ref b, .ref (lt_z X + 233), .int r]
  refine jr_sl hF hX hv.2.1 dL_law_965 ?_
  show lt_J X 255 10777 ly_F _ 966 [(0, .ref b), (1, .ref (lt_z X + 0)), (2, .ref (lt_z X + 233)), (3, .int i)] [.int (xs ((i + 1)).toNatClampNeg), .ref (lt_z X + 233), .int r]
  refine jr_aload_n hF dL_law_966 0 rfl rfl ?_
  show lt_J X 255 10777 ly_F _ 967 [(0, .ref b), (1, .ref (lt_z X + 0)), (2, .ref (lt_z X + 233)), (3, .int i)] [.ref b, .int (xs ((i + 1)).toNatClampNeg), .ref (lt_z X + 233), .int r]
  refine jr_iload_n hF dL_law_967 3 rfl rfl ?_
  show lt_J X 255 10777 ly_F _ 968 [(0, .ref b), (1, .ref (lt_z X + 0)), (2, .ref (lt_z X + 233)), (3, .int i)] [.int i, .ref b, .int (xs ((i + 1)).toNatClampNeg), .ref (lt_z X + 233), .int r]
  refine jr_iconst (v := 2) hF dL_law_968 rfl ?_
  show lt_J X 255 10777 ly_F _ 969 [(0, .ref b), (1, .ref (lt_z X + 0)), (2, .ref (lt_z X + 233)), (3, .int i)] [.int (2), .int i, .ref b, .int (xs ((i + 1)).toNatClampNeg), .ref (lt_z X + 233), .int r]
  refine jr_iadd hF dL_law_969 ?_
  show lt_J X 255 10777 ly_F _ 970 [(0, .ref b), (1, .ref (lt_z X + 0)), (2, .ref (lt_z X + 233)), (3, .int i)] [.int (i + 2), .ref b, .int (xs ((i + 1)).toNatClampNeg), .ref (lt_z X + 233), .int r]
  refine jr_sl hF hX hv.2.2.1 dL_law_970 ?_
  show lt_J X 255 10777 ly_F _ 971 [(0, .ref b), (1, .ref (lt_z X + 0)), (2, .ref (lt_z X + 233)), (3, .int i)] [.int (xs ((i + 2)).toNatClampNeg), .int (xs ((i + 1)).toNatClampNeg), .ref (lt_z X + 233), .int r]
  refine jr_callV (As := [.int (xs ((i + 1)).toNatClampNeg), .int (xs ((i + 2)).toNatClampNeg)]) (st := [.int r]) hF ml_L_121 (c_X12_rule ly_FT ly_F233 e2) ly_F233 rfl ⟨Nat.le_of_ble_eq_true rfl, Nat.le_of_ble_eq_true rfl⟩ ⟨Nat.le_of_ble_eq_true rfl, Nat.le_of_ble_eq_true rfl⟩ (Nat.le_of_ble_eq_true rfl) dL_law_971 ?_
  show lt_J X 255 10777 ly_F _ 974 [(0, .ref b), (1, .ref (lt_z X + 0)), (2, .ref (lt_z X + 233)), (3, .int i)] [.int r, .int r]
  exact jr_icmp_eq (tgt := 1664) (g1 := some ()) (g2 := none) (r := ()) hF dL_law_974 rfl (if_pos rfl) (fun _ => kk _ hR2) (fun z => by cases z)
set_option maxRecDepth 100000 in
theorem ll_24 (hF : lt_F X cL_law RL 4 room_1) (hX : ll_X X b L xs) (hv : ll_v i L) (hR : lr_R w) (kk : ∀ w', lr_R w' → lt_J X 255 10777 ly_F w' 1664 [(0, .ref b), (1, .ref (lt_z X + 0)), (2, .ref (lt_z X + 233)), (3, .int i)] []) : lt_J X 255 10777 ly_F w 979 [(0, .ref b), (1, .ref (lt_z X + 0)), (2, .ref (lt_z X + 233)), (3, .int i)] [] := by
  obtain ⟨hst, A, h⟩ := id hR
  obtain ⟨r, w1, w2, e1, e2, hR2⟩ := op_thereIn ly_FS h ((xs ((i + 1)).toNatClampNeg))
  refine jr_aload_n hF dL_law_979 1 rfl rfl ?_
  show lt_J X 255 10777 ly_F _ 980 [(0, .ref b), (1, .ref (lt_z X + 0)), (2, .ref (lt_z X + 233)), (3, .int i)] [.ref (lt_z X + 0)]
  refine jr_aload_n hF dL_law_980 0 rfl rfl ?_
  show lt_J X 255 10777 ly_F _ 981 [(0, .ref b), (1, .ref (lt_z X + 0)), (2, .ref (lt_z X + 233)), (3, .int i)] [.ref b, .ref (lt_z X + 0)]
  refine jr_iload_n hF dL_law_981 3 rfl rfl ?_
  show lt_J X 255 10777 ly_F _ 982 [(0, .ref b), (1, .ref (lt_z X + 0)), (2, .ref (lt_z X + 233)), (3, .int i)] [.int i, .ref b, .ref (lt_z X + 0)]
  refine jr_iconst (v := 1) hF dL_law_982 rfl ?_
  show lt_J X 255 10777 ly_F _ 983 [(0, .ref b), (1, .ref (lt_z X + 0)), (2, .ref (lt_z X + 233)), (3, .int i)] [.int (1), .int i, .ref b, .ref (lt_z X + 0)]
  refine jr_iadd hF dL_law_983 ?_
  show lt_J X 255 10777 ly_F _ 984 [(0, .ref b), (1, .ref (lt_z X + 0)), (2, .ref (lt_z X + 233)), (3, .int i)] [.int (i + 1), .ref b, .ref (lt_z X + 0)]
  refine jr_sl hF hX hv.2.1 dL_law_984 ?_
  show lt_J X 255 10777 ly_F _ 985 [(0, .ref b), (1, .ref (lt_z X + 0)), (2, .ref (lt_z X + 233)), (3, .int i)] [.int (xs ((i + 1)).toNatClampNeg), .ref (lt_z X + 0)]
  refine jr_callV (As := [.int (xs ((i + 1)).toNatClampNeg)]) (st := []) hF ml_L_122 (c_X11_thereIn ly_FT ly_F0 e1) ly_F0 rfl ⟨Nat.le_of_ble_eq_true rfl, Nat.le_of_ble_eq_true rfl⟩ ⟨Nat.le_of_ble_eq_true rfl, Nat.le_of_ble_eq_true rfl⟩ (Nat.le_of_ble_eq_true rfl) dL_law_985 ?_
  show lt_J X 255 10777 ly_F _ 988 [(0, .ref b), (1, .ref (lt_z X + 0)), (2, .ref (lt_z X + 233)), (3, .int i)] [.int r]
  refine jr_aload_n hF dL_law_988 2 rfl rfl ?_
  show lt_J X 255 10777 ly_F _ 989 [(0, .ref b), (1, .ref (lt_z X + 0)), (2, .ref (lt_z X + 233)), (3, .int i)] [.ref (lt_z X + 233), .int r]
  refine jr_aload_n hF dL_law_989 0 rfl rfl ?_
  show lt_J X 255 10777 ly_F _ 990 [(0, .ref b), (1, .ref (lt_z X + 0)), (2, .ref (lt_z X + 233)), (3, .int i)] [.ref b, .ref (lt_z X + 233), .int r]
  refine jr_iload_n hF dL_law_990 3 rfl rfl ?_
  show lt_J X 255 10777 ly_F _ 991 [(0, .ref b), (1, .ref (lt_z X + 0)), (2, .ref (lt_z X + 233)), (3, .int i)] [.int i, .ref b, .ref (lt_z X + 233), .int r]
  refine jr_iconst (v := 1) hF dL_law_991 rfl ?_
  show lt_J X 255 10777 ly_F _ 992 [(0, .ref b), (1, .ref (lt_z X + 0)), (2, .ref (lt_z X + 233)), (3, .int i)] [.int (1), .int i, .ref b, .ref (lt_z X + 233), .int r]
  refine jr_iadd hF dL_law_992 ?_
  show lt_J X 255 10777 ly_F _ 993 [(0, .ref b), (1, .ref (lt_z X + 0)), (2, .ref (lt_z X + 233)), (3, .int i)] [.int (i + 1), .ref b, .ref (lt_z X + 233), .int r]
  refine jr_sl hF hX hv.2.1 dL_law_993 ?_
  show lt_J X 255 10777 ly_F _ 994 [(0, .ref b), (1, .ref (lt_z X + 0)), (2, .ref (lt_z X + 233)), (3, .int i)] [.int (xs ((i + 1)).toNatClampNeg), .ref (lt_z X + 233), .int r]
  refine jr_callV (As := [.int (xs ((i + 1)).toNatClampNeg)]) (st := [.int r]) hF ml_L_125 (c_X12_thereIn ly_FT ly_F233 e2) ly_F233 rfl ⟨Nat.le_of_ble_eq_true rfl, Nat.le_of_ble_eq_true rfl⟩ ⟨Nat.le_of_ble_eq_true rfl, Nat.le_of_ble_eq_true rfl⟩ (Nat.le_of_ble_eq_true rfl) dL_law_994 ?_
  show lt_J X 255 10777 ly_F _ 997 [(0, .ref b), (1, .ref (lt_z X + 0)), (2, .ref (lt_z X + 233)), (3, .int i)] [.int r, .int r]
  exact jr_icmp_eq (tgt := 1664) (g1 := some ()) (g2 := none) (r := ()) hF dL_law_997 rfl (if_pos rfl) (fun _ => kk _ hR2) (fun z => by cases z)
set_option maxRecDepth 100000 in
theorem ll_25 (hF : lt_F X cL_law RL 4 room_1) (hX : ll_X X b L xs) (hv : ll_v i L) (hR : lr_R w) (kk : ∀ w', lr_R w' → lt_J X 255 10777 ly_F w' 1664 [(0, .ref b), (1, .ref (lt_z X + 0)), (2, .ref (lt_z X + 233)), (3, .int i)] []) : lt_J X 255 10777 ly_F w 1002 [(0, .ref b), (1, .ref (lt_z X + 0)), (2, .ref (lt_z X + 233)), (3, .int i)] [] := by
  obtain ⟨hst, A, h⟩ := id hR
  obtain ⟨r, w1, w2, e1, e2, hR2⟩ := op_slicesIn ly_FS h ((xs ((i + 1)).toNatClampNeg))
  refine jr_aload_n hF dL_law_1002 1 rfl rfl ?_
  show lt_J X 255 10777 ly_F _ 1003 [(0, .ref b), (1, .ref (lt_z X + 0)), (2, .ref (lt_z X + 233)), (3, .int i)] [.ref (lt_z X + 0)]
  refine jr_aload_n hF dL_law_1003 0 rfl rfl ?_
  show lt_J X 255 10777 ly_F _ 1004 [(0, .ref b), (1, .ref (lt_z X + 0)), (2, .ref (lt_z X + 233)), (3, .int i)] [.ref b, .ref (lt_z X + 0)]
  refine jr_iload_n hF dL_law_1004 3 rfl rfl ?_
  show lt_J X 255 10777 ly_F _ 1005 [(0, .ref b), (1, .ref (lt_z X + 0)), (2, .ref (lt_z X + 233)), (3, .int i)] [.int i, .ref b, .ref (lt_z X + 0)]
  refine jr_iconst (v := 1) hF dL_law_1005 rfl ?_
  show lt_J X 255 10777 ly_F _ 1006 [(0, .ref b), (1, .ref (lt_z X + 0)), (2, .ref (lt_z X + 233)), (3, .int i)] [.int (1), .int i, .ref b, .ref (lt_z X + 0)]
  refine jr_iadd hF dL_law_1006 ?_
  show lt_J X 255 10777 ly_F _ 1007 [(0, .ref b), (1, .ref (lt_z X + 0)), (2, .ref (lt_z X + 233)), (3, .int i)] [.int (i + 1), .ref b, .ref (lt_z X + 0)]
  refine jr_sl hF hX hv.2.1 dL_law_1007 ?_
  show lt_J X 255 10777 ly_F _ 1008 [(0, .ref b), (1, .ref (lt_z X + 0)), (2, .ref (lt_z X + 233)), (3, .int i)] [.int (xs ((i + 1)).toNatClampNeg), .ref (lt_z X + 0)]
  refine jr_callV (As := [.int (xs ((i + 1)).toNatClampNeg)]) (st := []) hF ml_L_126 (c_X11_slicesIn ly_FT ly_F0 e1) ly_F0 rfl ⟨Nat.le_of_ble_eq_true rfl, Nat.le_of_ble_eq_true rfl⟩ ⟨Nat.le_of_ble_eq_true rfl, Nat.le_of_ble_eq_true rfl⟩ (Nat.le_of_ble_eq_true rfl) dL_law_1008 ?_
  show lt_J X 255 10777 ly_F _ 1011 [(0, .ref b), (1, .ref (lt_z X + 0)), (2, .ref (lt_z X + 233)), (3, .int i)] [.int r]
  refine jr_aload_n hF dL_law_1011 2 rfl rfl ?_
  show lt_J X 255 10777 ly_F _ 1012 [(0, .ref b), (1, .ref (lt_z X + 0)), (2, .ref (lt_z X + 233)), (3, .int i)] [.ref (lt_z X + 233), .int r]
  refine jr_aload_n hF dL_law_1012 0 rfl rfl ?_
  show lt_J X 255 10777 ly_F _ 1013 [(0, .ref b), (1, .ref (lt_z X + 0)), (2, .ref (lt_z X + 233)), (3, .int i)] [.ref b, .ref (lt_z X + 233), .int r]
  refine jr_iload_n hF dL_law_1013 3 rfl rfl ?_
  show lt_J X 255 10777 ly_F _ 1014 [(0, .ref b), (1, .ref (lt_z X + 0)), (2, .ref (lt_z X + 233)), (3, .int i)] [.int i, .ref b, .ref (lt_z X + 233), .int r]
  refine jr_iconst (v := 1) hF dL_law_1014 rfl ?_
  show lt_J X 255 10777 ly_F _ 1015 [(0, .ref b), (1, .ref (lt_z X + 0)), (2, .ref (lt_z X + 233)), (3, .int i)] [.int (1), .int i, .ref b, .ref (lt_z X + 233), .int r]
  refine jr_iadd hF dL_law_1015 ?_
  show lt_J X 255 10777 ly_F _ 1016 [(0, .ref b), (1, .ref (lt_z X + 0)), (2, .ref (lt_z X + 233)), (3, .int i)] [.int (i + 1), .ref b, .ref (lt_z X + 233), .int r]
  refine jr_sl hF hX hv.2.1 dL_law_1016 ?_
  show lt_J X 255 10777 ly_F _ 1017 [(0, .ref b), (1, .ref (lt_z X + 0)), (2, .ref (lt_z X + 233)), (3, .int i)] [.int (xs ((i + 1)).toNatClampNeg), .ref (lt_z X + 233), .int r]
  refine jr_callV (As := [.int (xs ((i + 1)).toNatClampNeg)]) (st := [.int r]) hF ml_L_129 (c_X12_slicesIn ly_FT ly_F233 e2) ly_F233 rfl ⟨Nat.le_of_ble_eq_true rfl, Nat.le_of_ble_eq_true rfl⟩ ⟨Nat.le_of_ble_eq_true rfl, Nat.le_of_ble_eq_true rfl⟩ (Nat.le_of_ble_eq_true rfl) dL_law_1017 ?_
  show lt_J X 255 10777 ly_F _ 1020 [(0, .ref b), (1, .ref (lt_z X + 0)), (2, .ref (lt_z X + 233)), (3, .int i)] [.int r, .int r]
  exact jr_icmp_eq (tgt := 1664) (g1 := some ()) (g2 := none) (r := ()) hF dL_law_1020 rfl (if_pos rfl) (fun _ => kk _ hR2) (fun z => by cases z)
set_option maxRecDepth 100000 in
theorem ll_26 (hF : lt_F X cL_law RL 4 room_1) (hX : ll_X X b L xs) (hv : ll_v i L) (hR : lr_R w) (kk : ∀ w', lr_R w' → lt_J X 255 10777 ly_F w' 1664 [(0, .ref b), (1, .ref (lt_z X + 0)), (2, .ref (lt_z X + 233)), (3, .int i)] []) : lt_J X 255 10777 ly_F w 1025 [(0, .ref b), (1, .ref (lt_z X + 0)), (2, .ref (lt_z X + 233)), (3, .int i)] [] := by
  obtain ⟨hst, A, h⟩ := id hR
  obtain ⟨r, w1, w2, e1, e2, hR2⟩ := op_guestIn ly_FS h ((xs ((i + 1)).toNatClampNeg)) ((xs ((i + 2)).toNatClampNeg)) ((xs ((i + 3)).toNatClampNeg))
  refine jr_aload_n hF dL_law_1025 1 rfl rfl ?_
  show lt_J X 255 10777 ly_F _ 1026 [(0, .ref b), (1, .ref (lt_z X + 0)), (2, .ref (lt_z X + 233)), (3, .int i)] [.ref (lt_z X + 0)]
  refine jr_aload_n hF dL_law_1026 0 rfl rfl ?_
  show lt_J X 255 10777 ly_F _ 1027 [(0, .ref b), (1, .ref (lt_z X + 0)), (2, .ref (lt_z X + 233)), (3, .int i)] [.ref b, .ref (lt_z X + 0)]
  refine jr_iload_n hF dL_law_1027 3 rfl rfl ?_
  show lt_J X 255 10777 ly_F _ 1028 [(0, .ref b), (1, .ref (lt_z X + 0)), (2, .ref (lt_z X + 233)), (3, .int i)] [.int i, .ref b, .ref (lt_z X + 0)]
  refine jr_iconst (v := 1) hF dL_law_1028 rfl ?_
  show lt_J X 255 10777 ly_F _ 1029 [(0, .ref b), (1, .ref (lt_z X + 0)), (2, .ref (lt_z X + 233)), (3, .int i)] [.int (1), .int i, .ref b, .ref (lt_z X + 0)]
  refine jr_iadd hF dL_law_1029 ?_
  show lt_J X 255 10777 ly_F _ 1030 [(0, .ref b), (1, .ref (lt_z X + 0)), (2, .ref (lt_z X + 233)), (3, .int i)] [.int (i + 1), .ref b, .ref (lt_z X + 0)]
  refine jr_sl hF hX hv.2.1 dL_law_1030 ?_
  show lt_J X 255 10777 ly_F _ 1031 [(0, .ref b), (1, .ref (lt_z X + 0)), (2, .ref (lt_z X + 233)), (3, .int i)] [.int (xs ((i + 1)).toNatClampNeg), .ref (lt_z X + 0)]
  refine jr_aload_n hF dL_law_1031 0 rfl rfl ?_
  show lt_J X 255 10777 ly_F _ 1032 [(0, .ref b), (1, .ref (lt_z X + 0)), (2, .ref (lt_z X + 233)), (3, .int i)] [.ref b, .int (xs ((i + 1)).toNatClampNeg), .ref (lt_z X + 0)]
  refine jr_iload_n hF dL_law_1032 3 rfl rfl ?_
  show lt_J X 255 10777 ly_F _ 1033 [(0, .ref b), (1, .ref (lt_z X + 0)), (2, .ref (lt_z X + 233)), (3, .int i)] [.int i, .ref b, .int (xs ((i + 1)).toNatClampNeg), .ref (lt_z X + 0)]
  refine jr_iconst (v := 2) hF dL_law_1033 rfl ?_
  show lt_J X 255 10777 ly_F _ 1034 [(0, .ref b), (1, .ref (lt_z X + 0)), (2, .ref (lt_z X + 233)), (3, .int i)] [.int (2), .int i, .ref b, .int (xs ((i + 1)).toNatClampNeg), .ref (lt_z X + 0)]
  refine jr_iadd hF dL_law_1034 ?_
  show lt_J X 255 10777 ly_F _ 1035 [(0, .ref b), (1, .ref (lt_z X + 0)), (2, .ref (lt_z X + 233)), (3, .int i)] [.int (i + 2), .ref b, .int (xs ((i + 1)).toNatClampNeg), .ref (lt_z X + 0)]
  refine jr_sl hF hX hv.2.2.1 dL_law_1035 ?_
  show lt_J X 255 10777 ly_F _ 1036 [(0, .ref b), (1, .ref (lt_z X + 0)), (2, .ref (lt_z X + 233)), (3, .int i)] [.int (xs ((i + 2)).toNatClampNeg), .int (xs ((i + 1)).toNatClampNeg), .ref (lt_z X + 0)]
  refine jr_aload_n hF dL_law_1036 0 rfl rfl ?_
  show lt_J X 255 10777 ly_F _ 1037 [(0, .ref b), (1, .ref (lt_z X + 0)), (2, .ref (lt_z X + 233)), (3, .int i)] [.ref b, .int (xs ((i + 2)).toNatClampNeg), .int (xs ((i + 1)).toNatClampNeg), .ref (lt_z X + 0)]
  refine jr_iload_n hF dL_law_1037 3 rfl rfl ?_
  show lt_J X 255 10777 ly_F _ 1038 [(0, .ref b), (1, .ref (lt_z X + 0)), (2, .ref (lt_z X + 233)), (3, .int i)] [.int i, .ref b, .int (xs ((i + 2)).toNatClampNeg), .int (xs ((i + 1)).toNatClampNeg), .ref (lt_z X + 0)]
  refine jr_iconst (v := 3) hF dL_law_1038 rfl ?_
  show lt_J X 255 10777 ly_F _ 1039 [(0, .ref b), (1, .ref (lt_z X + 0)), (2, .ref (lt_z X + 233)), (3, .int i)] [.int (3), .int i, .ref b, .int (xs ((i + 2)).toNatClampNeg), .int (xs ((i + 1)).toNatClampNeg), .ref (lt_z X + 0)]
  refine jr_iadd hF dL_law_1039 ?_
  show lt_J X 255 10777 ly_F _ 1040 [(0, .ref b), (1, .ref (lt_z X + 0)), (2, .ref (lt_z X + 233)), (3, .int i)] [.int (i + 3), .ref b, .int (xs ((i + 2)).toNatClampNeg), .int (xs ((i + 1)).toNatClampNeg), .ref (lt_z X + 0)]
  refine jr_sl hF hX hv.2.2.2.1 dL_law_1040 ?_
  show lt_J X 255 10777 ly_F _ 1041 [(0, .ref b), (1, .ref (lt_z X + 0)), (2, .ref (lt_z X + 233)), (3, .int i)] [.int (xs ((i + 3)).toNatClampNeg), .int (xs ((i + 2)).toNatClampNeg), .int (xs ((i + 1)).toNatClampNeg), .ref (lt_z X + 0)]
  refine jr_callV (As := [.int (xs ((i + 1)).toNatClampNeg), .int (xs ((i + 2)).toNatClampNeg), .int (xs ((i + 3)).toNatClampNeg)]) (st := []) hF ml_L_130 (c_X11_guestIn ly_FT ly_F0 e1) ly_F0 rfl ⟨Nat.le_of_ble_eq_true rfl, Nat.le_of_ble_eq_true rfl⟩ ⟨Nat.le_of_ble_eq_true rfl, Nat.le_of_ble_eq_true rfl⟩ (Nat.le_of_ble_eq_true rfl) dL_law_1041 ?_
  show lt_J X 255 10777 ly_F _ 1044 [(0, .ref b), (1, .ref (lt_z X + 0)), (2, .ref (lt_z X + 233)), (3, .int i)] [.int r]
  refine jr_aload_n hF dL_law_1044 2 rfl rfl ?_
  show lt_J X 255 10777 ly_F _ 1045 [(0, .ref b), (1, .ref (lt_z X + 0)), (2, .ref (lt_z X + 233)), (3, .int i)] [.ref (lt_z X + 233), .int r]
  refine jr_aload_n hF dL_law_1045 0 rfl rfl ?_
  show lt_J X 255 10777 ly_F _ 1046 [(0, .ref b), (1, .ref (lt_z X + 0)), (2, .ref (lt_z X + 233)), (3, .int i)] [.ref b, .ref (lt_z X + 233), .int r]
  refine jr_iload_n hF dL_law_1046 3 rfl rfl ?_
  show lt_J X 255 10777 ly_F _ 1047 [(0, .ref b), (1, .ref (lt_z X + 0)), (2, .ref (lt_z X + 233)), (3, .int i)] [.int i, .ref b, .ref (lt_z X + 233), .int r]
  refine jr_iconst (v := 1) hF dL_law_1047 rfl ?_
  show lt_J X 255 10777 ly_F _ 1048 [(0, .ref b), (1, .ref (lt_z X + 0)), (2, .ref (lt_z X + 233)), (3, .int i)] [.int (1), .int i, .ref b, .ref (lt_z X + 233), .int r]
  refine jr_iadd hF dL_law_1048 ?_
  show lt_J X 255 10777 ly_F _ 1049 [(0, .ref b), (1, .ref (lt_z X + 0)), (2, .ref (lt_z X + 233)), (3, .int i)] [.int (i + 1), .ref b, .ref (lt_z X + 233), .int r]
  refine jr_sl hF hX hv.2.1 dL_law_1049 ?_
  show lt_J X 255 10777 ly_F _ 1050 [(0, .ref b), (1, .ref (lt_z X + 0)), (2, .ref (lt_z X + 233)), (3, .int i)] [.int (xs ((i + 1)).toNatClampNeg), .ref (lt_z X + 233), .int r]
  refine jr_aload_n hF dL_law_1050 0 rfl rfl ?_
  show lt_J X 255 10777 ly_F _ 1051 [(0, .ref b), (1, .ref (lt_z X + 0)), (2, .ref (lt_z X + 233)), (3, .int i)] [.ref b, .int (xs ((i + 1)).toNatClampNeg), .ref (lt_z X + 233), .int r]
  refine jr_iload_n hF dL_law_1051 3 rfl rfl ?_
  show lt_J X 255 10777 ly_F _ 1052 [(0, .ref b), (1, .ref (lt_z X + 0)), (2, .ref (lt_z X + 233)), (3, .int i)] [.int i, .ref b, .int (xs ((i + 1)).toNatClampNeg), .ref (lt_z X + 233), .int r]
  refine jr_iconst (v := 2) hF dL_law_1052 rfl ?_
  show lt_J X 255 10777 ly_F _ 1053 [(0, .ref b), (1, .ref (lt_z X + 0)), (2, .ref (lt_z X + 233)), (3, .int i)] [.int (2), .int i, .ref b, .int (xs ((i + 1)).toNatClampNeg), .ref (lt_z X + 233), .int r]
  refine jr_iadd hF dL_law_1053 ?_
  show lt_J X 255 10777 ly_F _ 1054 [(0, .ref b), (1, .ref (lt_z X + 0)), (2, .ref (lt_z X + 233)), (3, .int i)] [.int (i + 2), .ref b, .int (xs ((i + 1)).toNatClampNeg), .ref (lt_z X + 233), .int r]
  refine jr_sl hF hX hv.2.2.1 dL_law_1054 ?_
  show lt_J X 255 10777 ly_F _ 1055 [(0, .ref b), (1, .ref (lt_z X + 0)), (2, .ref (lt_z X + 233)), (3, .int i)] [.int (xs ((i + 2)).toNatClampNeg), .int (xs ((i + 1)).toNatClampNeg), .ref (lt_z X + 233), .int r]
  refine jr_aload_n hF dL_law_1055 0 rfl rfl ?_
  show lt_J X 255 10777 ly_F _ 1056 [(0, .ref b), (1, .ref (lt_z X + 0)), (2, .ref (lt_z X + 233)), (3, .int i)] [.ref b, .int (xs ((i + 2)).toNatClampNeg), .int (xs ((i + 1)).toNatClampNeg), .ref (lt_z X + 233), .int r]
  refine jr_iload_n hF dL_law_1056 3 rfl rfl ?_
  show lt_J X 255 10777 ly_F _ 1057 [(0, .ref b), (1, .ref (lt_z X + 0)), (2, .ref (lt_z X + 233)), (3, .int i)] [.int i, .ref b, .int (xs ((i + 2)).toNatClampNeg), .int (xs ((i + 1)).toNatClampNeg), .ref (lt_z X + 233), .int r]
  refine jr_iconst (v := 3) hF dL_law_1057 rfl ?_
  show lt_J X 255 10777 ly_F _ 1058 [(0, .ref b), (1, .ref (lt_z X + 0)), (2, .ref (lt_z X + 233)), (3, .int i)] [.int (3), .int i, .ref b, .int (xs ((i + 2)).toNatClampNeg), .int (xs ((i + 1)).toNatClampNeg), .ref (lt_z X + 233), .int r]
  refine jr_iadd hF dL_law_1058 ?_
  show lt_J X 255 10777 ly_F _ 1059 [(0, .ref b), (1, .ref (lt_z X + 0)), (2, .ref (lt_z X + 233)), (3, .int i)] [.int (i + 3), .ref b, .int (xs ((i + 2)).toNatClampNeg), .int (xs ((i + 1)).toNatClampNeg), .ref (lt_z X + 233), .int r]
  refine jr_sl hF hX hv.2.2.2.1 dL_law_1059 ?_
  show lt_J X 255 10777 ly_F _ 1060 [(0, .ref b), (1, .ref (lt_z X + 0)), (2, .ref (lt_z X + 233)), (3, .int i)] [.int (xs ((i + 3)).toNatClampNeg), .int (xs ((i + 2)).toNatClampNeg), .int (xs ((i + 1)).toNatClampNeg), .ref (lt_z X + 233), .int r]
  refine jr_callV (As := [.int (xs ((i + 1)).toNatClampNeg), .int (xs ((i + 2)).toNatClampNeg), .int (xs ((i + 3)).toNatClampNeg)]) (st := [.int r]) hF ml_L_134 (c_X12_guestIn ly_FT ly_F233 e2) ly_F233 rfl ⟨Nat.le_of_ble_eq_true rfl, Nat.le_of_ble_eq_true rfl⟩ ⟨Nat.le_of_ble_eq_true rfl, Nat.le_of_ble_eq_true rfl⟩ (Nat.le_of_ble_eq_true rfl) dL_law_1060 ?_
  show lt_J X 255 10777 ly_F _ 1063 [(0, .ref b), (1, .ref (lt_z X + 0)), (2, .ref (lt_z X + 233)), (3, .int i)] [.int r, .int r]
  exact jr_icmp_eq (tgt := 1664) (g1 := some ()) (g2 := none) (r := ()) hF dL_law_1063 rfl (if_pos rfl) (fun _ => kk _ hR2) (fun z => by cases z)
set_option maxRecDepth 100000 in
theorem ll_27 (hF : lt_F X cL_law RL 4 room_1) (hX : ll_X X b L xs) (hv : ll_v i L) (hR : lr_R w) (kk : ∀ w', lr_R w' → lt_J X 255 10777 ly_F w' 1664 [(0, .ref b), (1, .ref (lt_z X + 0)), (2, .ref (lt_z X + 233)), (3, .int i)] []) : lt_J X 255 10777 ly_F w 1068 [(0, .ref b), (1, .ref (lt_z X + 0)), (2, .ref (lt_z X + 233)), (3, .int i)] [] := by
  obtain ⟨hst, A, h⟩ := id hR
  obtain ⟨r, w1, w2, e1, e2, hR2⟩ := op_next ly_FS h
  refine jr_aload_n hF dL_law_1068 1 rfl rfl ?_
  show lt_J X 255 10777 ly_F _ 1069 [(0, .ref b), (1, .ref (lt_z X + 0)), (2, .ref (lt_z X + 233)), (3, .int i)] [.ref (lt_z X + 0)]
  refine jr_callV (As := []) (st := []) hF ml_L_135 (c_X11_next ly_FT ly_F0 e1) ly_F0 rfl ⟨Nat.le_of_ble_eq_true rfl, Nat.le_of_ble_eq_true rfl⟩ ⟨Nat.le_of_ble_eq_true rfl, Nat.le_of_ble_eq_true rfl⟩ (Nat.le_of_ble_eq_true rfl) dL_law_1069 ?_
  show lt_J X 255 10777 ly_F _ 1072 [(0, .ref b), (1, .ref (lt_z X + 0)), (2, .ref (lt_z X + 233)), (3, .int i)] [.int r]
  refine jr_aload_n hF dL_law_1072 2 rfl rfl ?_
  show lt_J X 255 10777 ly_F _ 1073 [(0, .ref b), (1, .ref (lt_z X + 0)), (2, .ref (lt_z X + 233)), (3, .int i)] [.ref (lt_z X + 233), .int r]
  refine jr_callV (As := []) (st := [.int r]) hF ml_L_138 (c_X12_next ly_FT ly_F233 e2) ly_F233 rfl ⟨Nat.le_of_ble_eq_true rfl, Nat.le_of_ble_eq_true rfl⟩ ⟨Nat.le_of_ble_eq_true rfl, Nat.le_of_ble_eq_true rfl⟩ (Nat.le_of_ble_eq_true rfl) dL_law_1073 ?_
  show lt_J X 255 10777 ly_F _ 1076 [(0, .ref b), (1, .ref (lt_z X + 0)), (2, .ref (lt_z X + 233)), (3, .int i)] [.int r, .int r]
  exact jr_icmp_eq (tgt := 1664) (g1 := some ()) (g2 := none) (r := ()) hF dL_law_1076 rfl (if_pos rfl) (fun _ => kk _ hR2) (fun z => by cases z)
set_option maxRecDepth 100000 in
theorem ll_28 (hF : lt_F X cL_law RL 4 room_1) (hX : ll_X X b L xs) (hv : ll_v i L) (hR : lr_R w) (kk : ∀ w', lr_R w' → lt_J X 255 10777 ly_F w' 1664 [(0, .ref b), (1, .ref (lt_z X + 0)), (2, .ref (lt_z X + 233)), (3, .int i)] []) : lt_J X 255 10777 ly_F w 1081 [(0, .ref b), (1, .ref (lt_z X + 0)), (2, .ref (lt_z X + 233)), (3, .int i)] [] := by
  obtain ⟨hst, A, h⟩ := id hR
  obtain ⟨r, w1, w2, e1, e2, hR2⟩ := op_nextBy ly_FS h
  refine jr_aload_n hF dL_law_1081 1 rfl rfl ?_
  show lt_J X 255 10777 ly_F _ 1082 [(0, .ref b), (1, .ref (lt_z X + 0)), (2, .ref (lt_z X + 233)), (3, .int i)] [.ref (lt_z X + 0)]
  refine jr_callV (As := []) (st := []) hF ml_L_139 (c_X11_nextBy ly_FT ly_F0 e1) ly_F0 rfl ⟨Nat.le_of_ble_eq_true rfl, Nat.le_of_ble_eq_true rfl⟩ ⟨Nat.le_of_ble_eq_true rfl, Nat.le_of_ble_eq_true rfl⟩ (Nat.le_of_ble_eq_true rfl) dL_law_1082 ?_
  show lt_J X 255 10777 ly_F _ 1085 [(0, .ref b), (1, .ref (lt_z X + 0)), (2, .ref (lt_z X + 233)), (3, .int i)] [.int r]
  refine jr_aload_n hF dL_law_1085 2 rfl rfl ?_
  show lt_J X 255 10777 ly_F _ 1086 [(0, .ref b), (1, .ref (lt_z X + 0)), (2, .ref (lt_z X + 233)), (3, .int i)] [.ref (lt_z X + 233), .int r]
  refine jr_callV (As := []) (st := [.int r]) hF ml_L_142 (c_X12_nextBy ly_FT ly_F233 e2) ly_F233 rfl ⟨Nat.le_of_ble_eq_true rfl, Nat.le_of_ble_eq_true rfl⟩ ⟨Nat.le_of_ble_eq_true rfl, Nat.le_of_ble_eq_true rfl⟩ (Nat.le_of_ble_eq_true rfl) dL_law_1086 ?_
  show lt_J X 255 10777 ly_F _ 1089 [(0, .ref b), (1, .ref (lt_z X + 0)), (2, .ref (lt_z X + 233)), (3, .int i)] [.int r, .int r]
  exact jr_icmp_eq (tgt := 1664) (g1 := some ()) (g2 := none) (r := ()) hF dL_law_1089 rfl (if_pos rfl) (fun _ => kk _ hR2) (fun z => by cases z)
set_option maxRecDepth 100000 in
theorem ll_29 (hF : lt_F X cL_law RL 4 room_1) (hX : ll_X X b L xs) (hv : ll_v i L) (hR : lr_R w) (kk : ∀ w', lr_R w' → lt_J X 255 10777 ly_F w' 1664 [(0, .ref b), (1, .ref (lt_z X + 0)), (2, .ref (lt_z X + 233)), (3, .int i)] []) : lt_J X 255 10777 ly_F w 1094 [(0, .ref b), (1, .ref (lt_z X + 0)), (2, .ref (lt_z X + 233)), (3, .int i)] [] := by
  obtain ⟨hst, A, h⟩ := id hR
  obtain ⟨r, w1, w2, e1, e2, hR2⟩ := op_hangs ly_FS h
  refine jr_aload_n hF dL_law_1094 1 rfl rfl ?_
  show lt_J X 255 10777 ly_F _ 1095 [(0, .ref b), (1, .ref (lt_z X + 0)), (2, .ref (lt_z X + 233)), (3, .int i)] [.ref (lt_z X + 0)]
  refine jr_callV (As := []) (st := []) hF ml_L_143 (c_X11_hangs ly_FT ly_F0 e1) ly_F0 rfl ⟨Nat.le_of_ble_eq_true rfl, Nat.le_of_ble_eq_true rfl⟩ ⟨Nat.le_of_ble_eq_true rfl, Nat.le_of_ble_eq_true rfl⟩ (Nat.le_of_ble_eq_true rfl) dL_law_1095 ?_
  show lt_J X 255 10777 ly_F _ 1098 [(0, .ref b), (1, .ref (lt_z X + 0)), (2, .ref (lt_z X + 233)), (3, .int i)] [.int r]
  refine jr_aload_n hF dL_law_1098 2 rfl rfl ?_
  show lt_J X 255 10777 ly_F _ 1099 [(0, .ref b), (1, .ref (lt_z X + 0)), (2, .ref (lt_z X + 233)), (3, .int i)] [.ref (lt_z X + 233), .int r]
  refine jr_callV (As := []) (st := [.int r]) hF ml_L_146 (c_X12_hangs ly_FT ly_F233 e2) ly_F233 rfl ⟨Nat.le_of_ble_eq_true rfl, Nat.le_of_ble_eq_true rfl⟩ ⟨Nat.le_of_ble_eq_true rfl, Nat.le_of_ble_eq_true rfl⟩ (Nat.le_of_ble_eq_true rfl) dL_law_1099 ?_
  show lt_J X 255 10777 ly_F _ 1102 [(0, .ref b), (1, .ref (lt_z X + 0)), (2, .ref (lt_z X + 233)), (3, .int i)] [.int r, .int r]
  exact jr_icmp_eq (tgt := 1664) (g1 := some ()) (g2 := none) (r := ()) hF dL_law_1102 rfl (if_pos rfl) (fun _ => kk _ hR2) (fun z => by cases z)
set_option maxRecDepth 100000 in
theorem ll_30 (hF : lt_F X cL_law RL 4 room_1) (hX : ll_X X b L xs) (hv : ll_v i L) (hR : lr_R w) (kk : ∀ w', lr_R w' → lt_J X 255 10777 ly_F w' 1664 [(0, .ref b), (1, .ref (lt_z X + 0)), (2, .ref (lt_z X + 233)), (3, .int i)] []) : lt_J X 255 10777 ly_F w 1107 [(0, .ref b), (1, .ref (lt_z X + 0)), (2, .ref (lt_z X + 233)), (3, .int i)] [] := by
  obtain ⟨hst, A, h⟩ := id hR
  obtain ⟨r, w1, w2, e1, e2, hR2⟩ := op_starving ly_FS h
  refine jr_aload_n hF dL_law_1107 1 rfl rfl ?_
  show lt_J X 255 10777 ly_F _ 1108 [(0, .ref b), (1, .ref (lt_z X + 0)), (2, .ref (lt_z X + 233)), (3, .int i)] [.ref (lt_z X + 0)]
  refine jr_callV (As := []) (st := []) hF ml_L_147 (c_X11_starving ly_FT ly_F0 e1) ly_F0 rfl ⟨Nat.le_of_ble_eq_true rfl, Nat.le_of_ble_eq_true rfl⟩ ⟨Nat.le_of_ble_eq_true rfl, Nat.le_of_ble_eq_true rfl⟩ (Nat.le_of_ble_eq_true rfl) dL_law_1108 ?_
  show lt_J X 255 10777 ly_F _ 1111 [(0, .ref b), (1, .ref (lt_z X + 0)), (2, .ref (lt_z X + 233)), (3, .int i)] [.int r]
  refine jr_aload_n hF dL_law_1111 2 rfl rfl ?_
  show lt_J X 255 10777 ly_F _ 1112 [(0, .ref b), (1, .ref (lt_z X + 0)), (2, .ref (lt_z X + 233)), (3, .int i)] [.ref (lt_z X + 233), .int r]
  refine jr_callV (As := []) (st := [.int r]) hF ml_L_150 (c_X12_starving ly_FT ly_F233 e2) ly_F233 rfl ⟨Nat.le_of_ble_eq_true rfl, Nat.le_of_ble_eq_true rfl⟩ ⟨Nat.le_of_ble_eq_true rfl, Nat.le_of_ble_eq_true rfl⟩ (Nat.le_of_ble_eq_true rfl) dL_law_1112 ?_
  show lt_J X 255 10777 ly_F _ 1115 [(0, .ref b), (1, .ref (lt_z X + 0)), (2, .ref (lt_z X + 233)), (3, .int i)] [.int r, .int r]
  exact jr_icmp_eq (tgt := 1664) (g1 := some ()) (g2 := none) (r := ()) hF dL_law_1115 rfl (if_pos rfl) (fun _ => kk _ hR2) (fun z => by cases z)
set_option maxRecDepth 100000 in
theorem ll_31 (hF : lt_F X cL_law RL 4 room_1) (hX : ll_X X b L xs) (hv : ll_v i L) (hR : lr_R w) (kk : ∀ w', lr_R w' → lt_J X 255 10777 ly_F w' 1664 [(0, .ref b), (1, .ref (lt_z X + 0)), (2, .ref (lt_z X + 233)), (3, .int i)] []) : lt_J X 255 10777 ly_F w 1120 [(0, .ref b), (1, .ref (lt_z X + 0)), (2, .ref (lt_z X + 233)), (3, .int i)] [] := by
  obtain ⟨hst, A, h⟩ := id hR
  obtain ⟨r, w1, w2, e1, e2, hR2⟩ := op_least ly_FS h ((xs ((i + 1)).toNatClampNeg))
  refine jr_aload_n hF dL_law_1120 1 rfl rfl ?_
  show lt_J X 255 10777 ly_F _ 1121 [(0, .ref b), (1, .ref (lt_z X + 0)), (2, .ref (lt_z X + 233)), (3, .int i)] [.ref (lt_z X + 0)]
  refine jr_aload_n hF dL_law_1121 0 rfl rfl ?_
  show lt_J X 255 10777 ly_F _ 1122 [(0, .ref b), (1, .ref (lt_z X + 0)), (2, .ref (lt_z X + 233)), (3, .int i)] [.ref b, .ref (lt_z X + 0)]
  refine jr_iload_n hF dL_law_1122 3 rfl rfl ?_
  show lt_J X 255 10777 ly_F _ 1123 [(0, .ref b), (1, .ref (lt_z X + 0)), (2, .ref (lt_z X + 233)), (3, .int i)] [.int i, .ref b, .ref (lt_z X + 0)]
  refine jr_iconst (v := 1) hF dL_law_1123 rfl ?_
  show lt_J X 255 10777 ly_F _ 1124 [(0, .ref b), (1, .ref (lt_z X + 0)), (2, .ref (lt_z X + 233)), (3, .int i)] [.int (1), .int i, .ref b, .ref (lt_z X + 0)]
  refine jr_iadd hF dL_law_1124 ?_
  show lt_J X 255 10777 ly_F _ 1125 [(0, .ref b), (1, .ref (lt_z X + 0)), (2, .ref (lt_z X + 233)), (3, .int i)] [.int (i + 1), .ref b, .ref (lt_z X + 0)]
  refine jr_sl hF hX hv.2.1 dL_law_1125 ?_
  show lt_J X 255 10777 ly_F _ 1126 [(0, .ref b), (1, .ref (lt_z X + 0)), (2, .ref (lt_z X + 233)), (3, .int i)] [.int (xs ((i + 1)).toNatClampNeg), .ref (lt_z X + 0)]
  refine jr_callV (As := [.int (xs ((i + 1)).toNatClampNeg)]) (st := []) hF ml_L_151 (c_X11_least ly_FT ly_F0 e1) ly_F0 rfl ⟨Nat.le_of_ble_eq_true rfl, Nat.le_of_ble_eq_true rfl⟩ ⟨Nat.le_of_ble_eq_true rfl, Nat.le_of_ble_eq_true rfl⟩ (Nat.le_of_ble_eq_true rfl) dL_law_1126 ?_
  show lt_J X 255 10777 ly_F _ 1129 [(0, .ref b), (1, .ref (lt_z X + 0)), (2, .ref (lt_z X + 233)), (3, .int i)] [.int r]
  refine jr_aload_n hF dL_law_1129 2 rfl rfl ?_
  show lt_J X 255 10777 ly_F _ 1130 [(0, .ref b), (1, .ref (lt_z X + 0)), (2, .ref (lt_z X + 233)), (3, .int i)] [.ref (lt_z X + 233), .int r]
  refine jr_aload_n hF dL_law_1130 0 rfl rfl ?_
  show lt_J X 255 10777 ly_F _ 1131 [(0, .ref b), (1, .ref (lt_z X + 0)), (2, .ref (lt_z X + 233)), (3, .int i)] [.ref b, .ref (lt_z X + 233), .int r]
  refine jr_iload_n hF dL_law_1131 3 rfl rfl ?_
  show lt_J X 255 10777 ly_F _ 1132 [(0, .ref b), (1, .ref (lt_z X + 0)), (2, .ref (lt_z X + 233)), (3, .int i)] [.int i, .ref b, .ref (lt_z X + 233), .int r]
  refine jr_iconst (v := 1) hF dL_law_1132 rfl ?_
  show lt_J X 255 10777 ly_F _ 1133 [(0, .ref b), (1, .ref (lt_z X + 0)), (2, .ref (lt_z X + 233)), (3, .int i)] [.int (1), .int i, .ref b, .ref (lt_z X + 233), .int r]
  refine jr_iadd hF dL_law_1133 ?_
  show lt_J X 255 10777 ly_F _ 1134 [(0, .ref b), (1, .ref (lt_z X + 0)), (2, .ref (lt_z X + 233)), (3, .int i)] [.int (i + 1), .ref b, .ref (lt_z X + 233), .int r]
  refine jr_sl hF hX hv.2.1 dL_law_1134 ?_
  show lt_J X 255 10777 ly_F _ 1135 [(0, .ref b), (1, .ref (lt_z X + 0)), (2, .ref (lt_z X + 233)), (3, .int i)] [.int (xs ((i + 1)).toNatClampNeg), .ref (lt_z X + 233), .int r]
  refine jr_callV (As := [.int (xs ((i + 1)).toNatClampNeg)]) (st := [.int r]) hF ml_L_154 (c_X12_least ly_FT ly_F233 e2) ly_F233 rfl ⟨Nat.le_of_ble_eq_true rfl, Nat.le_of_ble_eq_true rfl⟩ ⟨Nat.le_of_ble_eq_true rfl, Nat.le_of_ble_eq_true rfl⟩ (Nat.le_of_ble_eq_true rfl) dL_law_1135 ?_
  show lt_J X 255 10777 ly_F _ 1138 [(0, .ref b), (1, .ref (lt_z X + 0)), (2, .ref (lt_z X + 233)), (3, .int i)] [.int r, .int r]
  exact jr_icmp_eq (tgt := 1664) (g1 := some ()) (g2 := none) (r := ()) hF dL_law_1138 rfl (if_pos rfl) (fun _ => kk _ hR2) (fun z => by cases z)
set_option maxRecDepth 100000 in
theorem ll_32 (hF : lt_F X cL_law RL 4 room_1) (hX : ll_X X b L xs) (hv : ll_v i L) (hR : lr_R w) (kk : ∀ w', lr_R w' → lt_J X 255 10777 ly_F w' 1664 [(0, .ref b), (1, .ref (lt_z X + 0)), (2, .ref (lt_z X + 233)), (3, .int i)] []) : lt_J X 255 10777 ly_F w 1143 [(0, .ref b), (1, .ref (lt_z X + 0)), (2, .ref (lt_z X + 233)), (3, .int i)] [] := by
  obtain ⟨hst, A, h⟩ := id hR
  obtain ⟨r, w1, w2, e1, e2, hR2⟩ := op_plan ly_FS h ((xs ((i + 1)).toNatClampNeg))
  refine jr_aload_n hF dL_law_1143 1 rfl rfl ?_
  show lt_J X 255 10777 ly_F _ 1144 [(0, .ref b), (1, .ref (lt_z X + 0)), (2, .ref (lt_z X + 233)), (3, .int i)] [.ref (lt_z X + 0)]
  refine jr_aload_n hF dL_law_1144 0 rfl rfl ?_
  show lt_J X 255 10777 ly_F _ 1145 [(0, .ref b), (1, .ref (lt_z X + 0)), (2, .ref (lt_z X + 233)), (3, .int i)] [.ref b, .ref (lt_z X + 0)]
  refine jr_iload_n hF dL_law_1145 3 rfl rfl ?_
  show lt_J X 255 10777 ly_F _ 1146 [(0, .ref b), (1, .ref (lt_z X + 0)), (2, .ref (lt_z X + 233)), (3, .int i)] [.int i, .ref b, .ref (lt_z X + 0)]
  refine jr_iconst (v := 1) hF dL_law_1146 rfl ?_
  show lt_J X 255 10777 ly_F _ 1147 [(0, .ref b), (1, .ref (lt_z X + 0)), (2, .ref (lt_z X + 233)), (3, .int i)] [.int (1), .int i, .ref b, .ref (lt_z X + 0)]
  refine jr_iadd hF dL_law_1147 ?_
  show lt_J X 255 10777 ly_F _ 1148 [(0, .ref b), (1, .ref (lt_z X + 0)), (2, .ref (lt_z X + 233)), (3, .int i)] [.int (i + 1), .ref b, .ref (lt_z X + 0)]
  refine jr_sl hF hX hv.2.1 dL_law_1148 ?_
  show lt_J X 255 10777 ly_F _ 1149 [(0, .ref b), (1, .ref (lt_z X + 0)), (2, .ref (lt_z X + 233)), (3, .int i)] [.int (xs ((i + 1)).toNatClampNeg), .ref (lt_z X + 0)]
  refine jr_callV (As := [.int (xs ((i + 1)).toNatClampNeg)]) (st := []) hF ml_L_155 (c_X11_plan ly_FT ly_F0 e1) ly_F0 rfl ⟨Nat.le_of_ble_eq_true rfl, Nat.le_of_ble_eq_true rfl⟩ ⟨Nat.le_of_ble_eq_true rfl, Nat.le_of_ble_eq_true rfl⟩ (Nat.le_of_ble_eq_true rfl) dL_law_1149 ?_
  show lt_J X 255 10777 ly_F _ 1152 [(0, .ref b), (1, .ref (lt_z X + 0)), (2, .ref (lt_z X + 233)), (3, .int i)] [.int r]
  refine jr_aload_n hF dL_law_1152 2 rfl rfl ?_
  show lt_J X 255 10777 ly_F _ 1153 [(0, .ref b), (1, .ref (lt_z X + 0)), (2, .ref (lt_z X + 233)), (3, .int i)] [.ref (lt_z X + 233), .int r]
  refine jr_aload_n hF dL_law_1153 0 rfl rfl ?_
  show lt_J X 255 10777 ly_F _ 1154 [(0, .ref b), (1, .ref (lt_z X + 0)), (2, .ref (lt_z X + 233)), (3, .int i)] [.ref b, .ref (lt_z X + 233), .int r]
  refine jr_iload_n hF dL_law_1154 3 rfl rfl ?_
  show lt_J X 255 10777 ly_F _ 1155 [(0, .ref b), (1, .ref (lt_z X + 0)), (2, .ref (lt_z X + 233)), (3, .int i)] [.int i, .ref b, .ref (lt_z X + 233), .int r]
  refine jr_iconst (v := 1) hF dL_law_1155 rfl ?_
  show lt_J X 255 10777 ly_F _ 1156 [(0, .ref b), (1, .ref (lt_z X + 0)), (2, .ref (lt_z X + 233)), (3, .int i)] [.int (1), .int i, .ref b, .ref (lt_z X + 233), .int r]
  refine jr_iadd hF dL_law_1156 ?_
  show lt_J X 255 10777 ly_F _ 1157 [(0, .ref b), (1, .ref (lt_z X + 0)), (2, .ref (lt_z X + 233)), (3, .int i)] [.int (i + 1), .ref b, .ref (lt_z X + 233), .int r]
  refine jr_sl hF hX hv.2.1 dL_law_1157 ?_
  show lt_J X 255 10777 ly_F _ 1158 [(0, .ref b), (1, .ref (lt_z X + 0)), (2, .ref (lt_z X + 233)), (3, .int i)] [.int (xs ((i + 1)).toNatClampNeg), .ref (lt_z X + 233), .int r]
  refine jr_callV (As := [.int (xs ((i + 1)).toNatClampNeg)]) (st := [.int r]) hF ml_L_158 (c_X12_plan ly_FT ly_F233 e2) ly_F233 rfl ⟨Nat.le_of_ble_eq_true rfl, Nat.le_of_ble_eq_true rfl⟩ ⟨Nat.le_of_ble_eq_true rfl, Nat.le_of_ble_eq_true rfl⟩ (Nat.le_of_ble_eq_true rfl) dL_law_1158 ?_
  show lt_J X 255 10777 ly_F _ 1161 [(0, .ref b), (1, .ref (lt_z X + 0)), (2, .ref (lt_z X + 233)), (3, .int i)] [.int r, .int r]
  exact jr_icmp_eq (tgt := 1664) (g1 := some ()) (g2 := none) (r := ()) hF dL_law_1161 rfl (if_pos rfl) (fun _ => kk _ hR2) (fun z => by cases z)
set_option maxRecDepth 100000 in
theorem ll_33 (hF : lt_F X cL_law RL 4 room_1) (hX : ll_X X b L xs) (hv : ll_v i L) (hR : lr_R w) (kk : ∀ w', lr_R w' → lt_J X 255 10777 ly_F w' 1664 [(0, .ref b), (1, .ref (lt_z X + 0)), (2, .ref (lt_z X + 233)), (3, .int i)] []) : lt_J X 255 10777 ly_F w 1166 [(0, .ref b), (1, .ref (lt_z X + 0)), (2, .ref (lt_z X + 233)), (3, .int i)] [] := by
  obtain ⟨hst, A, h⟩ := id hR
  obtain ⟨r, w1, w2, e1, e2, hR2⟩ := op_planAt ly_FS h ((xs ((i + 1)).toNatClampNeg)) ((xs ((i + 2)).toNatClampNeg))
  refine jr_aload_n hF dL_law_1166 1 rfl rfl ?_
  show lt_J X 255 10777 ly_F _ 1167 [(0, .ref b), (1, .ref (lt_z X + 0)), (2, .ref (lt_z X + 233)), (3, .int i)] [.ref (lt_z X + 0)]
  refine jr_aload_n hF dL_law_1167 0 rfl rfl ?_
  show lt_J X 255 10777 ly_F _ 1168 [(0, .ref b), (1, .ref (lt_z X + 0)), (2, .ref (lt_z X + 233)), (3, .int i)] [.ref b, .ref (lt_z X + 0)]
  refine jr_iload_n hF dL_law_1168 3 rfl rfl ?_
  show lt_J X 255 10777 ly_F _ 1169 [(0, .ref b), (1, .ref (lt_z X + 0)), (2, .ref (lt_z X + 233)), (3, .int i)] [.int i, .ref b, .ref (lt_z X + 0)]
  refine jr_iconst (v := 1) hF dL_law_1169 rfl ?_
  show lt_J X 255 10777 ly_F _ 1170 [(0, .ref b), (1, .ref (lt_z X + 0)), (2, .ref (lt_z X + 233)), (3, .int i)] [.int (1), .int i, .ref b, .ref (lt_z X + 0)]
  refine jr_iadd hF dL_law_1170 ?_
  show lt_J X 255 10777 ly_F _ 1171 [(0, .ref b), (1, .ref (lt_z X + 0)), (2, .ref (lt_z X + 233)), (3, .int i)] [.int (i + 1), .ref b, .ref (lt_z X + 0)]
  refine jr_sl hF hX hv.2.1 dL_law_1171 ?_
  show lt_J X 255 10777 ly_F _ 1172 [(0, .ref b), (1, .ref (lt_z X + 0)), (2, .ref (lt_z X + 233)), (3, .int i)] [.int (xs ((i + 1)).toNatClampNeg), .ref (lt_z X + 0)]
  refine jr_aload_n hF dL_law_1172 0 rfl rfl ?_
  show lt_J X 255 10777 ly_F _ 1173 [(0, .ref b), (1, .ref (lt_z X + 0)), (2, .ref (lt_z X + 233)), (3, .int i)] [.ref b, .int (xs ((i + 1)).toNatClampNeg), .ref (lt_z X + 0)]
  refine jr_iload_n hF dL_law_1173 3 rfl rfl ?_
  show lt_J X 255 10777 ly_F _ 1174 [(0, .ref b), (1, .ref (lt_z X + 0)), (2, .ref (lt_z X + 233)), (3, .int i)] [.int i, .ref b, .int (xs ((i + 1)).toNatClampNeg), .ref (lt_z X + 0)]
  refine jr_iconst (v := 2) hF dL_law_1174 rfl ?_
  show lt_J X 255 10777 ly_F _ 1175 [(0, .ref b), (1, .ref (lt_z X + 0)), (2, .ref (lt_z X + 233)), (3, .int i)] [.int (2), .int i, .ref b, .int (xs ((i + 1)).toNatClampNeg), .ref (lt_z X + 0)]
  refine jr_iadd hF dL_law_1175 ?_
  show lt_J X 255 10777 ly_F _ 1176 [(0, .ref b), (1, .ref (lt_z X + 0)), (2, .ref (lt_z X + 233)), (3, .int i)] [.int (i + 2), .ref b, .int (xs ((i + 1)).toNatClampNeg), .ref (lt_z X + 0)]
  refine jr_sl hF hX hv.2.2.1 dL_law_1176 ?_
  show lt_J X 255 10777 ly_F _ 1177 [(0, .ref b), (1, .ref (lt_z X + 0)), (2, .ref (lt_z X + 233)), (3, .int i)] [.int (xs ((i + 2)).toNatClampNeg), .int (xs ((i + 1)).toNatClampNeg), .ref (lt_z X + 0)]
  refine jr_callV (As := [.int (xs ((i + 1)).toNatClampNeg), .int (xs ((i + 2)).toNatClampNeg)]) (st := []) hF ml_L_159 (c_X11_planAt ly_FT ly_F0 e1) ly_F0 rfl ⟨Nat.le_of_ble_eq_true rfl, Nat.le_of_ble_eq_true rfl⟩ ⟨Nat.le_of_ble_eq_true rfl, Nat.le_of_ble_eq_true rfl⟩ (Nat.le_of_ble_eq_true rfl) dL_law_1177 ?_
  show lt_J X 255 10777 ly_F _ 1180 [(0, .ref b), (1, .ref (lt_z X + 0)), (2, .ref (lt_z X + 233)), (3, .int i)] [.int r]
  refine jr_aload_n hF dL_law_1180 2 rfl rfl ?_
  show lt_J X 255 10777 ly_F _ 1181 [(0, .ref b), (1, .ref (lt_z X + 0)), (2, .ref (lt_z X + 233)), (3, .int i)] [.ref (lt_z X + 233), .int r]
  refine jr_aload_n hF dL_law_1181 0 rfl rfl ?_
  show lt_J X 255 10777 ly_F _ 1182 [(0, .ref b), (1, .ref (lt_z X + 0)), (2, .ref (lt_z X + 233)), (3, .int i)] [.ref b, .ref (lt_z X + 233), .int r]
  refine jr_iload_n hF dL_law_1182 3 rfl rfl ?_
  show lt_J X 255 10777 ly_F _ 1183 [(0, .ref b), (1, .ref (lt_z X + 0)), (2, .ref (lt_z X + 233)), (3, .int i)] [.int i, .ref b, .ref (lt_z X + 233), .int r]
  refine jr_iconst (v := 1) hF dL_law_1183 rfl ?_
  show lt_J X 255 10777 ly_F _ 1184 [(0, .ref b), (1, .ref (lt_z X + 0)), (2, .ref (lt_z X + 233)), (3, .int i)] [.int (1), .int i, .ref b, .ref (lt_z X + 233), .int r]
  refine jr_iadd hF dL_law_1184 ?_
  show lt_J X 255 10777 ly_F _ 1185 [(0, .ref b), (1, .ref (lt_z X + 0)), (2, .ref (lt_z X + 233)), (3, .int i)] [.int (i + 1), .ref b, .ref (lt_z X + 233), .int r]
  refine jr_sl hF hX hv.2.1 dL_law_1185 ?_
  show lt_J X 255 10777 ly_F _ 1186 [(0, .ref b), (1, .ref (lt_z X + 0)), (2, .ref (lt_z X + 233)), (3, .int i)] [.int (xs ((i + 1)).toNatClampNeg), .ref (lt_z X + 233), .int r]
  refine jr_aload_n hF dL_law_1186 0 rfl rfl ?_
  show lt_J X 255 10777 ly_F _ 1187 [(0, .ref b), (1, .ref (lt_z X + 0)), (2, .ref (lt_z X + 233)), (3, .int i)] [.ref b, .int (xs ((i + 1)).toNatClampNeg), .ref (lt_z X + 233), .int r]
  refine jr_iload_n hF dL_law_1187 3 rfl rfl ?_
  show lt_J X 255 10777 ly_F _ 1188 [(0, .ref b), (1, .ref (lt_z X + 0)), (2, .ref (lt_z X + 233)), (3, .int i)] [.int i, .ref b, .int (xs ((i + 1)).toNatClampNeg), .ref (lt_z X + 233), .int r]
  refine jr_iconst (v := 2) hF dL_law_1188 rfl ?_
  show lt_J X 255 10777 ly_F _ 1189 [(0, .ref b), (1, .ref (lt_z X + 0)), (2, .ref (lt_z X + 233)), (3, .int i)] [.int (2), .int i, .ref b, .int (xs ((i + 1)).toNatClampNeg), .ref (lt_z X + 233), .int r]
  refine jr_iadd hF dL_law_1189 ?_
  show lt_J X 255 10777 ly_F _ 1190 [(0, .ref b), (1, .ref (lt_z X + 0)), (2, .ref (lt_z X + 233)), (3, .int i)] [.int (i + 2), .ref b, .int (xs ((i + 1)).toNatClampNeg), .ref (lt_z X + 233), .int r]
  refine jr_sl hF hX hv.2.2.1 dL_law_1190 ?_
  show lt_J X 255 10777 ly_F _ 1191 [(0, .ref b), (1, .ref (lt_z X + 0)), (2, .ref (lt_z X + 233)), (3, .int i)] [.int (xs ((i + 2)).toNatClampNeg), .int (xs ((i + 1)).toNatClampNeg), .ref (lt_z X + 233), .int r]
  refine jr_callV (As := [.int (xs ((i + 1)).toNatClampNeg), .int (xs ((i + 2)).toNatClampNeg)]) (st := [.int r]) hF ml_L_162 (c_X12_planAt ly_FT ly_F233 e2) ly_F233 rfl ⟨Nat.le_of_ble_eq_true rfl, Nat.le_of_ble_eq_true rfl⟩ ⟨Nat.le_of_ble_eq_true rfl, Nat.le_of_ble_eq_true rfl⟩ (Nat.le_of_ble_eq_true rfl) dL_law_1191 ?_
  show lt_J X 255 10777 ly_F _ 1194 [(0, .ref b), (1, .ref (lt_z X + 0)), (2, .ref (lt_z X + 233)), (3, .int i)] [.int r, .int r]
  exact jr_icmp_eq (tgt := 1664) (g1 := some ()) (g2 := none) (r := ()) hF dL_law_1194 rfl (if_pos rfl) (fun _ => kk _ hR2) (fun z => by cases z)
set_option maxRecDepth 100000 in
theorem ll_34 (hF : lt_F X cL_law RL 4 room_1) (hX : ll_X X b L xs) (hv : ll_v i L) (hR : lr_R w) (kk : ∀ w', lr_R w' → lt_J X 255 10777 ly_F w' 1664 [(0, .ref b), (1, .ref (lt_z X + 0)), (2, .ref (lt_z X + 233)), (3, .int i)] []) : lt_J X 255 10777 ly_F w 1199 [(0, .ref b), (1, .ref (lt_z X + 0)), (2, .ref (lt_z X + 233)), (3, .int i)] [] := by
  obtain ⟨hst, A, h⟩ := id hR
  obtain ⟨r, w1, w2, e1, e2, hR2⟩ := op_seen ly_FS h ((xs ((i + 1)).toNatClampNeg)) ((xs ((i + 2)).toNatClampNeg)) ((xs ((i + 3)).toNatClampNeg))
  refine jr_aload_n hF dL_law_1199 1 rfl rfl ?_
  show lt_J X 255 10777 ly_F _ 1200 [(0, .ref b), (1, .ref (lt_z X + 0)), (2, .ref (lt_z X + 233)), (3, .int i)] [.ref (lt_z X + 0)]
  refine jr_aload_n hF dL_law_1200 0 rfl rfl ?_
  show lt_J X 255 10777 ly_F _ 1201 [(0, .ref b), (1, .ref (lt_z X + 0)), (2, .ref (lt_z X + 233)), (3, .int i)] [.ref b, .ref (lt_z X + 0)]
  refine jr_iload_n hF dL_law_1201 3 rfl rfl ?_
  show lt_J X 255 10777 ly_F _ 1202 [(0, .ref b), (1, .ref (lt_z X + 0)), (2, .ref (lt_z X + 233)), (3, .int i)] [.int i, .ref b, .ref (lt_z X + 0)]
  refine jr_iconst (v := 1) hF dL_law_1202 rfl ?_
  show lt_J X 255 10777 ly_F _ 1203 [(0, .ref b), (1, .ref (lt_z X + 0)), (2, .ref (lt_z X + 233)), (3, .int i)] [.int (1), .int i, .ref b, .ref (lt_z X + 0)]
  refine jr_iadd hF dL_law_1203 ?_
  show lt_J X 255 10777 ly_F _ 1204 [(0, .ref b), (1, .ref (lt_z X + 0)), (2, .ref (lt_z X + 233)), (3, .int i)] [.int (i + 1), .ref b, .ref (lt_z X + 0)]
  refine jr_sl hF hX hv.2.1 dL_law_1204 ?_
  show lt_J X 255 10777 ly_F _ 1205 [(0, .ref b), (1, .ref (lt_z X + 0)), (2, .ref (lt_z X + 233)), (3, .int i)] [.int (xs ((i + 1)).toNatClampNeg), .ref (lt_z X + 0)]
  refine jr_aload_n hF dL_law_1205 0 rfl rfl ?_
  show lt_J X 255 10777 ly_F _ 1206 [(0, .ref b), (1, .ref (lt_z X + 0)), (2, .ref (lt_z X + 233)), (3, .int i)] [.ref b, .int (xs ((i + 1)).toNatClampNeg), .ref (lt_z X + 0)]
  refine jr_iload_n hF dL_law_1206 3 rfl rfl ?_
  show lt_J X 255 10777 ly_F _ 1207 [(0, .ref b), (1, .ref (lt_z X + 0)), (2, .ref (lt_z X + 233)), (3, .int i)] [.int i, .ref b, .int (xs ((i + 1)).toNatClampNeg), .ref (lt_z X + 0)]
  refine jr_iconst (v := 2) hF dL_law_1207 rfl ?_
  show lt_J X 255 10777 ly_F _ 1208 [(0, .ref b), (1, .ref (lt_z X + 0)), (2, .ref (lt_z X + 233)), (3, .int i)] [.int (2), .int i, .ref b, .int (xs ((i + 1)).toNatClampNeg), .ref (lt_z X + 0)]
  refine jr_iadd hF dL_law_1208 ?_
  show lt_J X 255 10777 ly_F _ 1209 [(0, .ref b), (1, .ref (lt_z X + 0)), (2, .ref (lt_z X + 233)), (3, .int i)] [.int (i + 2), .ref b, .int (xs ((i + 1)).toNatClampNeg), .ref (lt_z X + 0)]
  refine jr_sl hF hX hv.2.2.1 dL_law_1209 ?_
  show lt_J X 255 10777 ly_F _ 1210 [(0, .ref b), (1, .ref (lt_z X + 0)), (2, .ref (lt_z X + 233)), (3, .int i)] [.int (xs ((i + 2)).toNatClampNeg), .int (xs ((i + 1)).toNatClampNeg), .ref (lt_z X + 0)]
  refine jr_aload_n hF dL_law_1210 0 rfl rfl ?_
  show lt_J X 255 10777 ly_F _ 1211 [(0, .ref b), (1, .ref (lt_z X + 0)), (2, .ref (lt_z X + 233)), (3, .int i)] [.ref b, .int (xs ((i + 2)).toNatClampNeg), .int (xs ((i + 1)).toNatClampNeg), .ref (lt_z X + 0)]
  refine jr_iload_n hF dL_law_1211 3 rfl rfl ?_
  show lt_J X 255 10777 ly_F _ 1212 [(0, .ref b), (1, .ref (lt_z X + 0)), (2, .ref (lt_z X + 233)), (3, .int i)] [.int i, .ref b, .int (xs ((i + 2)).toNatClampNeg), .int (xs ((i + 1)).toNatClampNeg), .ref (lt_z X + 0)]
  refine jr_iconst (v := 3) hF dL_law_1212 rfl ?_
  show lt_J X 255 10777 ly_F _ 1213 [(0, .ref b), (1, .ref (lt_z X + 0)), (2, .ref (lt_z X + 233)), (3, .int i)] [.int (3), .int i, .ref b, .int (xs ((i + 2)).toNatClampNeg), .int (xs ((i + 1)).toNatClampNeg), .ref (lt_z X + 0)]
  refine jr_iadd hF dL_law_1213 ?_
  show lt_J X 255 10777 ly_F _ 1214 [(0, .ref b), (1, .ref (lt_z X + 0)), (2, .ref (lt_z X + 233)), (3, .int i)] [.int (i + 3), .ref b, .int (xs ((i + 2)).toNatClampNeg), .int (xs ((i + 1)).toNatClampNeg), .ref (lt_z X + 0)]
  refine jr_sl hF hX hv.2.2.2.1 dL_law_1214 ?_
  show lt_J X 255 10777 ly_F _ 1215 [(0, .ref b), (1, .ref (lt_z X + 0)), (2, .ref (lt_z X + 233)), (3, .int i)] [.int (xs ((i + 3)).toNatClampNeg), .int (xs ((i + 2)).toNatClampNeg), .int (xs ((i + 1)).toNatClampNeg), .ref (lt_z X + 0)]
  refine jr_callV (As := [.int (xs ((i + 1)).toNatClampNeg), .int (xs ((i + 2)).toNatClampNeg), .int (xs ((i + 3)).toNatClampNeg)]) (st := []) hF ml_L_163 (c_X11_seen ly_FT ly_F0 e1) ly_F0 rfl ⟨Nat.le_of_ble_eq_true rfl, Nat.le_of_ble_eq_true rfl⟩ ⟨Nat.le_of_ble_eq_true rfl, Nat.le_of_ble_eq_true rfl⟩ (Nat.le_of_ble_eq_true rfl) dL_law_1215 ?_
  show lt_J X 255 10777 ly_F _ 1218 [(0, .ref b), (1, .ref (lt_z X + 0)), (2, .ref (lt_z X + 233)), (3, .int i)] [.int r]
  refine jr_aload_n hF dL_law_1218 2 rfl rfl ?_
  show lt_J X 255 10777 ly_F _ 1219 [(0, .ref b), (1, .ref (lt_z X + 0)), (2, .ref (lt_z X + 233)), (3, .int i)] [.ref (lt_z X + 233), .int r]
  refine jr_aload_n hF dL_law_1219 0 rfl rfl ?_
  show lt_J X 255 10777 ly_F _ 1220 [(0, .ref b), (1, .ref (lt_z X + 0)), (2, .ref (lt_z X + 233)), (3, .int i)] [.ref b, .ref (lt_z X + 233), .int r]
  refine jr_iload_n hF dL_law_1220 3 rfl rfl ?_
  show lt_J X 255 10777 ly_F _ 1221 [(0, .ref b), (1, .ref (lt_z X + 0)), (2, .ref (lt_z X + 233)), (3, .int i)] [.int i, .ref b, .ref (lt_z X + 233), .int r]
  refine jr_iconst (v := 1) hF dL_law_1221 rfl ?_
  show lt_J X 255 10777 ly_F _ 1222 [(0, .ref b), (1, .ref (lt_z X + 0)), (2, .ref (lt_z X + 233)), (3, .int i)] [.int (1), .int i, .ref b, .ref (lt_z X + 233), .int r]
  refine jr_iadd hF dL_law_1222 ?_
  show lt_J X 255 10777 ly_F _ 1223 [(0, .ref b), (1, .ref (lt_z X + 0)), (2, .ref (lt_z X + 233)), (3, .int i)] [.int (i + 1), .ref b, .ref (lt_z X + 233), .int r]
  refine jr_sl hF hX hv.2.1 dL_law_1223 ?_
  show lt_J X 255 10777 ly_F _ 1224 [(0, .ref b), (1, .ref (lt_z X + 0)), (2, .ref (lt_z X + 233)), (3, .int i)] [.int (xs ((i + 1)).toNatClampNeg), .ref (lt_z X + 233), .int r]
  refine jr_aload_n hF dL_law_1224 0 rfl rfl ?_
  show lt_J X 255 10777 ly_F _ 1225 [(0, .ref b), (1, .ref (lt_z X + 0)), (2, .ref (lt_z X + 233)), (3, .int i)] [.ref b, .int (xs ((i + 1)).toNatClampNeg), .ref (lt_z X + 233), .int r]
  refine jr_iload_n hF dL_law_1225 3 rfl rfl ?_
  show lt_J X 255 10777 ly_F _ 1226 [(0, .ref b), (1, .ref (lt_z X + 0)), (2, .ref (lt_z X + 233)), (3, .int i)] [.int i, .ref b, .int (xs ((i + 1)).toNatClampNeg), .ref (lt_z X + 233), .int r]
  refine jr_iconst (v := 2) hF dL_law_1226 rfl ?_
  show lt_J X 255 10777 ly_F _ 1227 [(0, .ref b), (1, .ref (lt_z X + 0)), (2, .ref (lt_z X + 233)), (3, .int i)] [.int (2), .int i, .ref b, .int (xs ((i + 1)).toNatClampNeg), .ref (lt_z X + 233), .int r]
  refine jr_iadd hF dL_law_1227 ?_
  show lt_J X 255 10777 ly_F _ 1228 [(0, .ref b), (1, .ref (lt_z X + 0)), (2, .ref (lt_z X + 233)), (3, .int i)] [.int (i + 2), .ref b, .int (xs ((i + 1)).toNatClampNeg), .ref (lt_z X + 233), .int r]
  refine jr_sl hF hX hv.2.2.1 dL_law_1228 ?_
  show lt_J X 255 10777 ly_F _ 1229 [(0, .ref b), (1, .ref (lt_z X + 0)), (2, .ref (lt_z X + 233)), (3, .int i)] [.int (xs ((i + 2)).toNatClampNeg), .int (xs ((i + 1)).toNatClampNeg), .ref (lt_z X + 233), .int r]
  refine jr_aload_n hF dL_law_1229 0 rfl rfl ?_
  show lt_J X 255 10777 ly_F _ 1230 [(0, .ref b), (1, .ref (lt_z X + 0)), (2, .ref (lt_z X + 233)), (3, .int i)] [.ref b, .int (xs ((i + 2)).toNatClampNeg), .int (xs ((i + 1)).toNatClampNeg), .ref (lt_z X + 233), .int r]
  refine jr_iload_n hF dL_law_1230 3 rfl rfl ?_
  show lt_J X 255 10777 ly_F _ 1231 [(0, .ref b), (1, .ref (lt_z X + 0)), (2, .ref (lt_z X + 233)), (3, .int i)] [.int i, .ref b, .int (xs ((i + 2)).toNatClampNeg), .int (xs ((i + 1)).toNatClampNeg), .ref (lt_z X + 233), .int r]
  refine jr_iconst (v := 3) hF dL_law_1231 rfl ?_
  show lt_J X 255 10777 ly_F _ 1232 [(0, .ref b), (1, .ref (lt_z X + 0)), (2, .ref (lt_z X + 233)), (3, .int i)] [.int (3), .int i, .ref b, .int (xs ((i + 2)).toNatClampNeg), .int (xs ((i + 1)).toNatClampNeg), .ref (lt_z X + 233), .int r]
  refine jr_iadd hF dL_law_1232 ?_
  show lt_J X 255 10777 ly_F _ 1233 [(0, .ref b), (1, .ref (lt_z X + 0)), (2, .ref (lt_z X + 233)), (3, .int i)] [.int (i + 3), .ref b, .int (xs ((i + 2)).toNatClampNeg), .int (xs ((i + 1)).toNatClampNeg), .ref (lt_z X + 233), .int r]
  refine jr_sl hF hX hv.2.2.2.1 dL_law_1233 ?_
  show lt_J X 255 10777 ly_F _ 1234 [(0, .ref b), (1, .ref (lt_z X + 0)), (2, .ref (lt_z X + 233)), (3, .int i)] [.int (xs ((i + 3)).toNatClampNeg), .int (xs ((i + 2)).toNatClampNeg), .int (xs ((i + 1)).toNatClampNeg), .ref (lt_z X + 233), .int r]
  refine jr_callV (As := [.int (xs ((i + 1)).toNatClampNeg), .int (xs ((i + 2)).toNatClampNeg), .int (xs ((i + 3)).toNatClampNeg)]) (st := [.int r]) hF ml_L_166 (c_X12_seen ly_FT ly_F233 e2) ly_F233 rfl ⟨Nat.le_of_ble_eq_true rfl, Nat.le_of_ble_eq_true rfl⟩ ⟨Nat.le_of_ble_eq_true rfl, Nat.le_of_ble_eq_true rfl⟩ (Nat.le_of_ble_eq_true rfl) dL_law_1234 ?_
  show lt_J X 255 10777 ly_F _ 1237 [(0, .ref b), (1, .ref (lt_z X + 0)), (2, .ref (lt_z X + 233)), (3, .int i)] [.int r, .int r]
  exact jr_icmp_eq (tgt := 1664) (g1 := some ()) (g2 := none) (r := ()) hF dL_law_1237 rfl (if_pos rfl) (fun _ => kk _ hR2) (fun z => by cases z)
set_option maxRecDepth 100000 in
theorem ll_35 (hF : lt_F X cL_law RL 4 room_1) (hX : ll_X X b L xs) (hv : ll_v i L) (hR : lr_R w) (kk : ∀ w', lr_R w' → lt_J X 255 10777 ly_F w' 1664 [(0, .ref b), (1, .ref (lt_z X + 0)), (2, .ref (lt_z X + 233)), (3, .int i)] []) : lt_J X 255 10777 ly_F w 1242 [(0, .ref b), (1, .ref (lt_z X + 0)), (2, .ref (lt_z X + 233)), (3, .int i)] [] := by
  obtain ⟨hst, A, h⟩ := id hR
  obtain ⟨r, w1, w2, e1, e2, hR2⟩ := op_seenAs ly_FS h ((xs ((i + 1)).toNatClampNeg)) ((xs ((i + 2)).toNatClampNeg)) ((xs ((i + 3)).toNatClampNeg)) ((xs ((i + 4)).toNatClampNeg))
  refine jr_aload_n hF dL_law_1242 1 rfl rfl ?_
  show lt_J X 255 10777 ly_F _ 1243 [(0, .ref b), (1, .ref (lt_z X + 0)), (2, .ref (lt_z X + 233)), (3, .int i)] [.ref (lt_z X + 0)]
  refine jr_aload_n hF dL_law_1243 0 rfl rfl ?_
  show lt_J X 255 10777 ly_F _ 1244 [(0, .ref b), (1, .ref (lt_z X + 0)), (2, .ref (lt_z X + 233)), (3, .int i)] [.ref b, .ref (lt_z X + 0)]
  refine jr_iload_n hF dL_law_1244 3 rfl rfl ?_
  show lt_J X 255 10777 ly_F _ 1245 [(0, .ref b), (1, .ref (lt_z X + 0)), (2, .ref (lt_z X + 233)), (3, .int i)] [.int i, .ref b, .ref (lt_z X + 0)]
  refine jr_iconst (v := 1) hF dL_law_1245 rfl ?_
  show lt_J X 255 10777 ly_F _ 1246 [(0, .ref b), (1, .ref (lt_z X + 0)), (2, .ref (lt_z X + 233)), (3, .int i)] [.int (1), .int i, .ref b, .ref (lt_z X + 0)]
  refine jr_iadd hF dL_law_1246 ?_
  show lt_J X 255 10777 ly_F _ 1247 [(0, .ref b), (1, .ref (lt_z X + 0)), (2, .ref (lt_z X + 233)), (3, .int i)] [.int (i + 1), .ref b, .ref (lt_z X + 0)]
  refine jr_sl hF hX hv.2.1 dL_law_1247 ?_
  show lt_J X 255 10777 ly_F _ 1248 [(0, .ref b), (1, .ref (lt_z X + 0)), (2, .ref (lt_z X + 233)), (3, .int i)] [.int (xs ((i + 1)).toNatClampNeg), .ref (lt_z X + 0)]
  refine jr_aload_n hF dL_law_1248 0 rfl rfl ?_
  show lt_J X 255 10777 ly_F _ 1249 [(0, .ref b), (1, .ref (lt_z X + 0)), (2, .ref (lt_z X + 233)), (3, .int i)] [.ref b, .int (xs ((i + 1)).toNatClampNeg), .ref (lt_z X + 0)]
  refine jr_iload_n hF dL_law_1249 3 rfl rfl ?_
  show lt_J X 255 10777 ly_F _ 1250 [(0, .ref b), (1, .ref (lt_z X + 0)), (2, .ref (lt_z X + 233)), (3, .int i)] [.int i, .ref b, .int (xs ((i + 1)).toNatClampNeg), .ref (lt_z X + 0)]
  refine jr_iconst (v := 2) hF dL_law_1250 rfl ?_
  show lt_J X 255 10777 ly_F _ 1251 [(0, .ref b), (1, .ref (lt_z X + 0)), (2, .ref (lt_z X + 233)), (3, .int i)] [.int (2), .int i, .ref b, .int (xs ((i + 1)).toNatClampNeg), .ref (lt_z X + 0)]
  refine jr_iadd hF dL_law_1251 ?_
  show lt_J X 255 10777 ly_F _ 1252 [(0, .ref b), (1, .ref (lt_z X + 0)), (2, .ref (lt_z X + 233)), (3, .int i)] [.int (i + 2), .ref b, .int (xs ((i + 1)).toNatClampNeg), .ref (lt_z X + 0)]
  refine jr_sl hF hX hv.2.2.1 dL_law_1252 ?_
  show lt_J X 255 10777 ly_F _ 1253 [(0, .ref b), (1, .ref (lt_z X + 0)), (2, .ref (lt_z X + 233)), (3, .int i)] [.int (xs ((i + 2)).toNatClampNeg), .int (xs ((i + 1)).toNatClampNeg), .ref (lt_z X + 0)]
  refine jr_aload_n hF dL_law_1253 0 rfl rfl ?_
  show lt_J X 255 10777 ly_F _ 1254 [(0, .ref b), (1, .ref (lt_z X + 0)), (2, .ref (lt_z X + 233)), (3, .int i)] [.ref b, .int (xs ((i + 2)).toNatClampNeg), .int (xs ((i + 1)).toNatClampNeg), .ref (lt_z X + 0)]
  refine jr_iload_n hF dL_law_1254 3 rfl rfl ?_
  show lt_J X 255 10777 ly_F _ 1255 [(0, .ref b), (1, .ref (lt_z X + 0)), (2, .ref (lt_z X + 233)), (3, .int i)] [.int i, .ref b, .int (xs ((i + 2)).toNatClampNeg), .int (xs ((i + 1)).toNatClampNeg), .ref (lt_z X + 0)]
  refine jr_iconst (v := 3) hF dL_law_1255 rfl ?_
  show lt_J X 255 10777 ly_F _ 1256 [(0, .ref b), (1, .ref (lt_z X + 0)), (2, .ref (lt_z X + 233)), (3, .int i)] [.int (3), .int i, .ref b, .int (xs ((i + 2)).toNatClampNeg), .int (xs ((i + 1)).toNatClampNeg), .ref (lt_z X + 0)]
  refine jr_iadd hF dL_law_1256 ?_
  show lt_J X 255 10777 ly_F _ 1257 [(0, .ref b), (1, .ref (lt_z X + 0)), (2, .ref (lt_z X + 233)), (3, .int i)] [.int (i + 3), .ref b, .int (xs ((i + 2)).toNatClampNeg), .int (xs ((i + 1)).toNatClampNeg), .ref (lt_z X + 0)]
  refine jr_sl hF hX hv.2.2.2.1 dL_law_1257 ?_
  show lt_J X 255 10777 ly_F _ 1258 [(0, .ref b), (1, .ref (lt_z X + 0)), (2, .ref (lt_z X + 233)), (3, .int i)] [.int (xs ((i + 3)).toNatClampNeg), .int (xs ((i + 2)).toNatClampNeg), .int (xs ((i + 1)).toNatClampNeg), .ref (lt_z X + 0)]
  refine jr_aload_n hF dL_law_1258 0 rfl rfl ?_
  show lt_J X 255 10777 ly_F _ 1259 [(0, .ref b), (1, .ref (lt_z X + 0)), (2, .ref (lt_z X + 233)), (3, .int i)] [.ref b, .int (xs ((i + 3)).toNatClampNeg), .int (xs ((i + 2)).toNatClampNeg), .int (xs ((i + 1)).toNatClampNeg), .ref (lt_z X + 0)]
  refine jr_iload_n hF dL_law_1259 3 rfl rfl ?_
  show lt_J X 255 10777 ly_F _ 1260 [(0, .ref b), (1, .ref (lt_z X + 0)), (2, .ref (lt_z X + 233)), (3, .int i)] [.int i, .ref b, .int (xs ((i + 3)).toNatClampNeg), .int (xs ((i + 2)).toNatClampNeg), .int (xs ((i + 1)).toNatClampNeg), .ref (lt_z X + 0)]
  refine jr_iconst (v := 4) hF dL_law_1260 rfl ?_
  show lt_J X 255 10777 ly_F _ 1261 [(0, .ref b), (1, .ref (lt_z X + 0)), (2, .ref (lt_z X + 233)), (3, .int i)] [.int (4), .int i, .ref b, .int (xs ((i + 3)).toNatClampNeg), .int (xs ((i + 2)).toNatClampNeg), .int (xs ((i + 1)).toNatClampNeg), .ref (lt_z X + 0)]
  refine jr_iadd hF dL_law_1261 ?_
  show lt_J X 255 10777 ly_F _ 1262 [(0, .ref b), (1, .ref (lt_z X + 0)), (2, .ref (lt_z X + 233)), (3, .int i)] [.int (i + 4), .ref b, .int (xs ((i + 3)).toNatClampNeg), .int (xs ((i + 2)).toNatClampNeg), .int (xs ((i + 1)).toNatClampNeg), .ref (lt_z X + 0)]
  refine jr_sl hF hX hv.2.2.2.2.1 dL_law_1262 ?_
  show lt_J X 255 10777 ly_F _ 1263 [(0, .ref b), (1, .ref (lt_z X + 0)), (2, .ref (lt_z X + 233)), (3, .int i)] [.int (xs ((i + 4)).toNatClampNeg), .int (xs ((i + 3)).toNatClampNeg), .int (xs ((i + 2)).toNatClampNeg), .int (xs ((i + 1)).toNatClampNeg), .ref (lt_z X + 0)]
  refine jr_callV (As := [.int (xs ((i + 1)).toNatClampNeg), .int (xs ((i + 2)).toNatClampNeg), .int (xs ((i + 3)).toNatClampNeg), .int (xs ((i + 4)).toNatClampNeg)]) (st := []) hF ml_L_167 (c_X11_seenAs ly_FT ly_F0 e1) ly_F0 rfl ⟨Nat.le_of_ble_eq_true rfl, Nat.le_of_ble_eq_true rfl⟩ ⟨Nat.le_of_ble_eq_true rfl, Nat.le_of_ble_eq_true rfl⟩ (Nat.le_of_ble_eq_true rfl) dL_law_1263 ?_
  show lt_J X 255 10777 ly_F _ 1266 [(0, .ref b), (1, .ref (lt_z X + 0)), (2, .ref (lt_z X + 233)), (3, .int i)] [.int r]
  refine jr_aload_n hF dL_law_1266 2 rfl rfl ?_
  show lt_J X 255 10777 ly_F _ 1267 [(0, .ref b), (1, .ref (lt_z X + 0)), (2, .ref (lt_z X + 233)), (3, .int i)] [.ref (lt_z X + 233), .int r]
  refine jr_aload_n hF dL_law_1267 0 rfl rfl ?_
  show lt_J X 255 10777 ly_F _ 1268 [(0, .ref b), (1, .ref (lt_z X + 0)), (2, .ref (lt_z X + 233)), (3, .int i)] [.ref b, .ref (lt_z X + 233), .int r]
  refine jr_iload_n hF dL_law_1268 3 rfl rfl ?_
  show lt_J X 255 10777 ly_F _ 1269 [(0, .ref b), (1, .ref (lt_z X + 0)), (2, .ref (lt_z X + 233)), (3, .int i)] [.int i, .ref b, .ref (lt_z X + 233), .int r]
  refine jr_iconst (v := 1) hF dL_law_1269 rfl ?_
  show lt_J X 255 10777 ly_F _ 1270 [(0, .ref b), (1, .ref (lt_z X + 0)), (2, .ref (lt_z X + 233)), (3, .int i)] [.int (1), .int i, .ref b, .ref (lt_z X + 233), .int r]
  refine jr_iadd hF dL_law_1270 ?_
  show lt_J X 255 10777 ly_F _ 1271 [(0, .ref b), (1, .ref (lt_z X + 0)), (2, .ref (lt_z X + 233)), (3, .int i)] [.int (i + 1), .ref b, .ref (lt_z X + 233), .int r]
  refine jr_sl hF hX hv.2.1 dL_law_1271 ?_
  show lt_J X 255 10777 ly_F _ 1272 [(0, .ref b), (1, .ref (lt_z X + 0)), (2, .ref (lt_z X + 233)), (3, .int i)] [.int (xs ((i + 1)).toNatClampNeg), .ref (lt_z X + 233), .int r]
  refine jr_aload_n hF dL_law_1272 0 rfl rfl ?_
  show lt_J X 255 10777 ly_F _ 1273 [(0, .ref b), (1, .ref (lt_z X + 0)), (2, .ref (lt_z X + 233)), (3, .int i)] [.ref b, .int (xs ((i + 1)).toNatClampNeg), .ref (lt_z X + 233), .int r]
  refine jr_iload_n hF dL_law_1273 3 rfl rfl ?_
  show lt_J X 255 10777 ly_F _ 1274 [(0, .ref b), (1, .ref (lt_z X + 0)), (2, .ref (lt_z X + 233)), (3, .int i)] [.int i, .ref b, .int (xs ((i + 1)).toNatClampNeg), .ref (lt_z X + 233), .int r]
  refine jr_iconst (v := 2) hF dL_law_1274 rfl ?_
  show lt_J X 255 10777 ly_F _ 1275 [(0, .ref b), (1, .ref (lt_z X + 0)), (2, .ref (lt_z X + 233)), (3, .int i)] [.int (2), .int i, .ref b, .int (xs ((i + 1)).toNatClampNeg), .ref (lt_z X + 233), .int r]
  refine jr_iadd hF dL_law_1275 ?_
  show lt_J X 255 10777 ly_F _ 1276 [(0, .ref b), (1, .ref (lt_z X + 0)), (2, .ref (lt_z X + 233)), (3, .int i)] [.int (i + 2), .ref b, .int (xs ((i + 1)).toNatClampNeg), .ref (lt_z X + 233), .int r]
  refine jr_sl hF hX hv.2.2.1 dL_law_1276 ?_
  show lt_J X 255 10777 ly_F _ 1277 [(0, .ref b), (1, .ref (lt_z X + 0)), (2, .ref (lt_z X + 233)), (3, .int i)] [.int (xs ((i + 2)).toNatClampNeg), .int (xs ((i + 1)).toNatClampNeg), .ref (lt_z X + 233), .int r]
  refine jr_aload_n hF dL_law_1277 0 rfl rfl ?_
  show lt_J X 255 10777 ly_F _ 1278 [(0, .ref b), (1, .ref (lt_z X + 0)), (2, .ref (lt_z X + 233)), (3, .int i)] [.ref b, .int (xs ((i + 2)).toNatClampNeg), .int (xs ((i + 1)).toNatClampNeg), .ref (lt_z X + 233), .int r]
  refine jr_iload_n hF dL_law_1278 3 rfl rfl ?_
  show lt_J X 255 10777 ly_F _ 1279 [(0, .ref b), (1, .ref (lt_z X + 0)), (2, .ref (lt_z X + 233)), (3, .int i)] [.int i, .ref b, .int (xs ((i + 2)).toNatClampNeg), .int (xs ((i + 1)).toNatClampNeg), .ref (lt_z X + 233), .int r]
  refine jr_iconst (v := 3) hF dL_law_1279 rfl ?_
  show lt_J X 255 10777 ly_F _ 1280 [(0, .ref b), (1, .ref (lt_z X + 0)), (2, .ref (lt_z X + 233)), (3, .int i)] [.int (3), .int i, .ref b, .int (xs ((i + 2)).toNatClampNeg), .int (xs ((i + 1)).toNatClampNeg), .ref (lt_z X + 233), .int r]
  refine jr_iadd hF dL_law_1280 ?_
  show lt_J X 255 10777 ly_F _ 1281 [(0, .ref b), (1, .ref (lt_z X + 0)), (2, .ref (lt_z X + 233)), (3, .int i)] [.int (i + 3), .ref b, .int (xs ((i + 2)).toNatClampNeg), .int (xs ((i + 1)).toNatClampNeg), .ref (lt_z X + 233), .int r]
  refine jr_sl hF hX hv.2.2.2.1 dL_law_1281 ?_
  show lt_J X 255 10777 ly_F _ 1282 [(0, .ref b), (1, .ref (lt_z X + 0)), (2, .ref (lt_z X + 233)), (3, .int i)] [.int (xs ((i + 3)).toNatClampNeg), .int (xs ((i + 2)).toNatClampNeg), .int (xs ((i + 1)).toNatClampNeg), .ref (lt_z X + 233), .int r]
  refine jr_aload_n hF dL_law_1282 0 rfl rfl ?_
  show lt_J X 255 10777 ly_F _ 1283 [(0, .ref b), (1, .ref (lt_z X + 0)), (2, .ref (lt_z X + 233)), (3, .int i)] [.ref b, .int (xs ((i + 3)).toNatClampNeg), .int (xs ((i + 2)).toNatClampNeg), .int (xs ((i + 1)).toNatClampNeg), .ref (lt_z X + 233), .int r]
  refine jr_iload_n hF dL_law_1283 3 rfl rfl ?_
  show lt_J X 255 10777 ly_F _ 1284 [(0, .ref b), (1, .ref (lt_z X + 0)), (2, .ref (lt_z X + 233)), (3, .int i)] [.int i, .ref b, .int (xs ((i + 3)).toNatClampNeg), .int (xs ((i + 2)).toNatClampNeg), .int (xs ((i + 1)).toNatClampNeg), .ref (lt_z X + 233), .int r]
  refine jr_iconst (v := 4) hF dL_law_1284 rfl ?_
  show lt_J X 255 10777 ly_F _ 1285 [(0, .ref b), (1, .ref (lt_z X + 0)), (2, .ref (lt_z X + 233)), (3, .int i)] [.int (4), .int i, .ref b, .int (xs ((i + 3)).toNatClampNeg), .int (xs ((i + 2)).toNatClampNeg), .int (xs ((i + 1)).toNatClampNeg), .ref (lt_z X + 233), .int r]
  refine jr_iadd hF dL_law_1285 ?_
  show lt_J X 255 10777 ly_F _ 1286 [(0, .ref b), (1, .ref (lt_z X + 0)), (2, .ref (lt_z X + 233)), (3, .int i)] [.int (i + 4), .ref b, .int (xs ((i + 3)).toNatClampNeg), .int (xs ((i + 2)).toNatClampNeg), .int (xs ((i + 1)).toNatClampNeg), .ref (lt_z X + 233), .int r]
  refine jr_sl hF hX hv.2.2.2.2.1 dL_law_1286 ?_
  show lt_J X 255 10777 ly_F _ 1287 [(0, .ref b), (1, .ref (lt_z X + 0)), (2, .ref (lt_z X + 233)), (3, .int i)] [.int (xs ((i + 4)).toNatClampNeg), .int (xs ((i + 3)).toNatClampNeg), .int (xs ((i + 2)).toNatClampNeg), .int (xs ((i + 1)).toNatClampNeg), .ref (lt_z X + 233), .int r]
  refine jr_callV (As := [.int (xs ((i + 1)).toNatClampNeg), .int (xs ((i + 2)).toNatClampNeg), .int (xs ((i + 3)).toNatClampNeg), .int (xs ((i + 4)).toNatClampNeg)]) (st := [.int r]) hF ml_L_170 (c_X12_seenAs ly_FT ly_F233 e2) ly_F233 rfl ⟨Nat.le_of_ble_eq_true rfl, Nat.le_of_ble_eq_true rfl⟩ ⟨Nat.le_of_ble_eq_true rfl, Nat.le_of_ble_eq_true rfl⟩ (Nat.le_of_ble_eq_true rfl) dL_law_1287 ?_
  show lt_J X 255 10777 ly_F _ 1290 [(0, .ref b), (1, .ref (lt_z X + 0)), (2, .ref (lt_z X + 233)), (3, .int i)] [.int r, .int r]
  exact jr_icmp_eq (tgt := 1664) (g1 := some ()) (g2 := none) (r := ()) hF dL_law_1290 rfl (if_pos rfl) (fun _ => kk _ hR2) (fun z => by cases z)
set_option maxRecDepth 100000 in
theorem ll_36 (hF : lt_F X cL_law RL 4 room_1) (hX : ll_X X b L xs) (hv : ll_v i L) (hR : lr_R w) (kk : ∀ w', lr_R w' → lt_J X 255 10777 ly_F w' 1664 [(0, .ref b), (1, .ref (lt_z X + 0)), (2, .ref (lt_z X + 233)), (3, .int i)] []) : lt_J X 255 10777 ly_F w 1295 [(0, .ref b), (1, .ref (lt_z X + 0)), (2, .ref (lt_z X + 233)), (3, .int i)] [] := by
  obtain ⟨hst, A, h⟩ := id hR
  obtain ⟨r, w1, w2, e1, e2, hR2⟩ := op_ask ly_FS h ((xs ((i + 1)).toNatClampNeg)) ((xs ((i + 2)).toNatClampNeg)) ((xs ((i + 3)).toNatClampNeg))
  refine jr_aload_n hF dL_law_1295 1 rfl rfl ?_
  show lt_J X 255 10777 ly_F _ 1296 [(0, .ref b), (1, .ref (lt_z X + 0)), (2, .ref (lt_z X + 233)), (3, .int i)] [.ref (lt_z X + 0)]
  refine jr_aload_n hF dL_law_1296 0 rfl rfl ?_
  show lt_J X 255 10777 ly_F _ 1297 [(0, .ref b), (1, .ref (lt_z X + 0)), (2, .ref (lt_z X + 233)), (3, .int i)] [.ref b, .ref (lt_z X + 0)]
  refine jr_iload_n hF dL_law_1297 3 rfl rfl ?_
  show lt_J X 255 10777 ly_F _ 1298 [(0, .ref b), (1, .ref (lt_z X + 0)), (2, .ref (lt_z X + 233)), (3, .int i)] [.int i, .ref b, .ref (lt_z X + 0)]
  refine jr_iconst (v := 1) hF dL_law_1298 rfl ?_
  show lt_J X 255 10777 ly_F _ 1299 [(0, .ref b), (1, .ref (lt_z X + 0)), (2, .ref (lt_z X + 233)), (3, .int i)] [.int (1), .int i, .ref b, .ref (lt_z X + 0)]
  refine jr_iadd hF dL_law_1299 ?_
  show lt_J X 255 10777 ly_F _ 1300 [(0, .ref b), (1, .ref (lt_z X + 0)), (2, .ref (lt_z X + 233)), (3, .int i)] [.int (i + 1), .ref b, .ref (lt_z X + 0)]
  refine jr_sl hF hX hv.2.1 dL_law_1300 ?_
  show lt_J X 255 10777 ly_F _ 1301 [(0, .ref b), (1, .ref (lt_z X + 0)), (2, .ref (lt_z X + 233)), (3, .int i)] [.int (xs ((i + 1)).toNatClampNeg), .ref (lt_z X + 0)]
  refine jr_aload_n hF dL_law_1301 0 rfl rfl ?_
  show lt_J X 255 10777 ly_F _ 1302 [(0, .ref b), (1, .ref (lt_z X + 0)), (2, .ref (lt_z X + 233)), (3, .int i)] [.ref b, .int (xs ((i + 1)).toNatClampNeg), .ref (lt_z X + 0)]
  refine jr_iload_n hF dL_law_1302 3 rfl rfl ?_
  show lt_J X 255 10777 ly_F _ 1303 [(0, .ref b), (1, .ref (lt_z X + 0)), (2, .ref (lt_z X + 233)), (3, .int i)] [.int i, .ref b, .int (xs ((i + 1)).toNatClampNeg), .ref (lt_z X + 0)]
  refine jr_iconst (v := 2) hF dL_law_1303 rfl ?_
  show lt_J X 255 10777 ly_F _ 1304 [(0, .ref b), (1, .ref (lt_z X + 0)), (2, .ref (lt_z X + 233)), (3, .int i)] [.int (2), .int i, .ref b, .int (xs ((i + 1)).toNatClampNeg), .ref (lt_z X + 0)]
  refine jr_iadd hF dL_law_1304 ?_
  show lt_J X 255 10777 ly_F _ 1305 [(0, .ref b), (1, .ref (lt_z X + 0)), (2, .ref (lt_z X + 233)), (3, .int i)] [.int (i + 2), .ref b, .int (xs ((i + 1)).toNatClampNeg), .ref (lt_z X + 0)]
  refine jr_sl hF hX hv.2.2.1 dL_law_1305 ?_
  show lt_J X 255 10777 ly_F _ 1306 [(0, .ref b), (1, .ref (lt_z X + 0)), (2, .ref (lt_z X + 233)), (3, .int i)] [.int (xs ((i + 2)).toNatClampNeg), .int (xs ((i + 1)).toNatClampNeg), .ref (lt_z X + 0)]
  refine jr_aload_n hF dL_law_1306 0 rfl rfl ?_
  show lt_J X 255 10777 ly_F _ 1307 [(0, .ref b), (1, .ref (lt_z X + 0)), (2, .ref (lt_z X + 233)), (3, .int i)] [.ref b, .int (xs ((i + 2)).toNatClampNeg), .int (xs ((i + 1)).toNatClampNeg), .ref (lt_z X + 0)]
  refine jr_iload_n hF dL_law_1307 3 rfl rfl ?_
  show lt_J X 255 10777 ly_F _ 1308 [(0, .ref b), (1, .ref (lt_z X + 0)), (2, .ref (lt_z X + 233)), (3, .int i)] [.int i, .ref b, .int (xs ((i + 2)).toNatClampNeg), .int (xs ((i + 1)).toNatClampNeg), .ref (lt_z X + 0)]
  refine jr_iconst (v := 3) hF dL_law_1308 rfl ?_
  show lt_J X 255 10777 ly_F _ 1309 [(0, .ref b), (1, .ref (lt_z X + 0)), (2, .ref (lt_z X + 233)), (3, .int i)] [.int (3), .int i, .ref b, .int (xs ((i + 2)).toNatClampNeg), .int (xs ((i + 1)).toNatClampNeg), .ref (lt_z X + 0)]
  refine jr_iadd hF dL_law_1309 ?_
  show lt_J X 255 10777 ly_F _ 1310 [(0, .ref b), (1, .ref (lt_z X + 0)), (2, .ref (lt_z X + 233)), (3, .int i)] [.int (i + 3), .ref b, .int (xs ((i + 2)).toNatClampNeg), .int (xs ((i + 1)).toNatClampNeg), .ref (lt_z X + 0)]
  refine jr_sl hF hX hv.2.2.2.1 dL_law_1310 ?_
  show lt_J X 255 10777 ly_F _ 1311 [(0, .ref b), (1, .ref (lt_z X + 0)), (2, .ref (lt_z X + 233)), (3, .int i)] [.int (xs ((i + 3)).toNatClampNeg), .int (xs ((i + 2)).toNatClampNeg), .int (xs ((i + 1)).toNatClampNeg), .ref (lt_z X + 0)]
  refine jr_callV (As := [.int (xs ((i + 1)).toNatClampNeg), .int (xs ((i + 2)).toNatClampNeg), .int (xs ((i + 3)).toNatClampNeg)]) (st := []) hF ml_L_171 (c_X11_ask ly_FT ly_F0 e1) ly_F0 rfl ⟨Nat.le_of_ble_eq_true rfl, Nat.le_of_ble_eq_true rfl⟩ ⟨Nat.le_of_ble_eq_true rfl, Nat.le_of_ble_eq_true rfl⟩ (Nat.le_of_ble_eq_true rfl) dL_law_1311 ?_
  show lt_J X 255 10777 ly_F _ 1314 [(0, .ref b), (1, .ref (lt_z X + 0)), (2, .ref (lt_z X + 233)), (3, .int i)] [.int r]
  refine jr_aload_n hF dL_law_1314 2 rfl rfl ?_
  show lt_J X 255 10777 ly_F _ 1315 [(0, .ref b), (1, .ref (lt_z X + 0)), (2, .ref (lt_z X + 233)), (3, .int i)] [.ref (lt_z X + 233), .int r]
  refine jr_aload_n hF dL_law_1315 0 rfl rfl ?_
  show lt_J X 255 10777 ly_F _ 1316 [(0, .ref b), (1, .ref (lt_z X + 0)), (2, .ref (lt_z X + 233)), (3, .int i)] [.ref b, .ref (lt_z X + 233), .int r]
  refine jr_iload_n hF dL_law_1316 3 rfl rfl ?_
  show lt_J X 255 10777 ly_F _ 1317 [(0, .ref b), (1, .ref (lt_z X + 0)), (2, .ref (lt_z X + 233)), (3, .int i)] [.int i, .ref b, .ref (lt_z X + 233), .int r]
  refine jr_iconst (v := 1) hF dL_law_1317 rfl ?_
  show lt_J X 255 10777 ly_F _ 1318 [(0, .ref b), (1, .ref (lt_z X + 0)), (2, .ref (lt_z X + 233)), (3, .int i)] [.int (1), .int i, .ref b, .ref (lt_z X + 233), .int r]
  refine jr_iadd hF dL_law_1318 ?_
  show lt_J X 255 10777 ly_F _ 1319 [(0, .ref b), (1, .ref (lt_z X + 0)), (2, .ref (lt_z X + 233)), (3, .int i)] [.int (i + 1), .ref b, .ref (lt_z X + 233), .int r]
  refine jr_sl hF hX hv.2.1 dL_law_1319 ?_
  show lt_J X 255 10777 ly_F _ 1320 [(0, .ref b), (1, .ref (lt_z X + 0)), (2, .ref (lt_z X + 233)), (3, .int i)] [.int (xs ((i + 1)).toNatClampNeg), .ref (lt_z X + 233), .int r]
  refine jr_aload_n hF dL_law_1320 0 rfl rfl ?_
  show lt_J X 255 10777 ly_F _ 1321 [(0, .ref b), (1, .ref (lt_z X + 0)), (2, .ref (lt_z X + 233)), (3, .int i)] [.ref b, .int (xs ((i + 1)).toNatClampNeg), .ref (lt_z X + 233), .int r]
  refine jr_iload_n hF dL_law_1321 3 rfl rfl ?_
  show lt_J X 255 10777 ly_F _ 1322 [(0, .ref b), (1, .ref (lt_z X + 0)), (2, .ref (lt_z X + 233)), (3, .int i)] [.int i, .ref b, .int (xs ((i + 1)).toNatClampNeg), .ref (lt_z X + 233), .int r]
  refine jr_iconst (v := 2) hF dL_law_1322 rfl ?_
  show lt_J X 255 10777 ly_F _ 1323 [(0, .ref b), (1, .ref (lt_z X + 0)), (2, .ref (lt_z X + 233)), (3, .int i)] [.int (2), .int i, .ref b, .int (xs ((i + 1)).toNatClampNeg), .ref (lt_z X + 233), .int r]
  refine jr_iadd hF dL_law_1323 ?_
  show lt_J X 255 10777 ly_F _ 1324 [(0, .ref b), (1, .ref (lt_z X + 0)), (2, .ref (lt_z X + 233)), (3, .int i)] [.int (i + 2), .ref b, .int (xs ((i + 1)).toNatClampNeg), .ref (lt_z X + 233), .int r]
  refine jr_sl hF hX hv.2.2.1 dL_law_1324 ?_
  show lt_J X 255 10777 ly_F _ 1325 [(0, .ref b), (1, .ref (lt_z X + 0)), (2, .ref (lt_z X + 233)), (3, .int i)] [.int (xs ((i + 2)).toNatClampNeg), .int (xs ((i + 1)).toNatClampNeg), .ref (lt_z X + 233), .int r]
  refine jr_aload_n hF dL_law_1325 0 rfl rfl ?_
  show lt_J X 255 10777 ly_F _ 1326 [(0, .ref b), (1, .ref (lt_z X + 0)), (2, .ref (lt_z X + 233)), (3, .int i)] [.ref b, .int (xs ((i + 2)).toNatClampNeg), .int (xs ((i + 1)).toNatClampNeg), .ref (lt_z X + 233), .int r]
  refine jr_iload_n hF dL_law_1326 3 rfl rfl ?_
  show lt_J X 255 10777 ly_F _ 1327 [(0, .ref b), (1, .ref (lt_z X + 0)), (2, .ref (lt_z X + 233)), (3, .int i)] [.int i, .ref b, .int (xs ((i + 2)).toNatClampNeg), .int (xs ((i + 1)).toNatClampNeg), .ref (lt_z X + 233), .int r]
  refine jr_iconst (v := 3) hF dL_law_1327 rfl ?_
  show lt_J X 255 10777 ly_F _ 1328 [(0, .ref b), (1, .ref (lt_z X + 0)), (2, .ref (lt_z X + 233)), (3, .int i)] [.int (3), .int i, .ref b, .int (xs ((i + 2)).toNatClampNeg), .int (xs ((i + 1)).toNatClampNeg), .ref (lt_z X + 233), .int r]
  refine jr_iadd hF dL_law_1328 ?_
  show lt_J X 255 10777 ly_F _ 1329 [(0, .ref b), (1, .ref (lt_z X + 0)), (2, .ref (lt_z X + 233)), (3, .int i)] [.int (i + 3), .ref b, .int (xs ((i + 2)).toNatClampNeg), .int (xs ((i + 1)).toNatClampNeg), .ref (lt_z X + 233), .int r]
  refine jr_sl hF hX hv.2.2.2.1 dL_law_1329 ?_
  show lt_J X 255 10777 ly_F _ 1330 [(0, .ref b), (1, .ref (lt_z X + 0)), (2, .ref (lt_z X + 233)), (3, .int i)] [.int (xs ((i + 3)).toNatClampNeg), .int (xs ((i + 2)).toNatClampNeg), .int (xs ((i + 1)).toNatClampNeg), .ref (lt_z X + 233), .int r]
  refine jr_callV (As := [.int (xs ((i + 1)).toNatClampNeg), .int (xs ((i + 2)).toNatClampNeg), .int (xs ((i + 3)).toNatClampNeg)]) (st := [.int r]) hF ml_L_174 (c_X12_ask ly_FT ly_F233 e2) ly_F233 rfl ⟨Nat.le_of_ble_eq_true rfl, Nat.le_of_ble_eq_true rfl⟩ ⟨Nat.le_of_ble_eq_true rfl, Nat.le_of_ble_eq_true rfl⟩ (Nat.le_of_ble_eq_true rfl) dL_law_1330 ?_
  show lt_J X 255 10777 ly_F _ 1333 [(0, .ref b), (1, .ref (lt_z X + 0)), (2, .ref (lt_z X + 233)), (3, .int i)] [.int r, .int r]
  exact jr_icmp_eq (tgt := 1664) (g1 := some ()) (g2 := none) (r := ()) hF dL_law_1333 rfl (if_pos rfl) (fun _ => kk _ hR2) (fun z => by cases z)
set_option maxRecDepth 100000 in
theorem ll_37 (hF : lt_F X cL_law RL 4 room_1) (hX : ll_X X b L xs) (hv : ll_v i L) (hR : lr_R w) (kk : ∀ w', lr_R w' → lt_J X 255 10777 ly_F w' 1664 [(0, .ref b), (1, .ref (lt_z X + 0)), (2, .ref (lt_z X + 233)), (3, .int i)] []) : lt_J X 255 10777 ly_F w 1338 [(0, .ref b), (1, .ref (lt_z X + 0)), (2, .ref (lt_z X + 233)), (3, .int i)] [] := by
  obtain ⟨hst, A, h⟩ := id hR
  obtain ⟨r, w1, w2, e1, e2, hR2⟩ := op_waits ly_FS h ((xs ((i + 1)).toNatClampNeg)) ((xs ((i + 2)).toNatClampNeg))
  refine jr_aload_n hF dL_law_1338 1 rfl rfl ?_
  show lt_J X 255 10777 ly_F _ 1339 [(0, .ref b), (1, .ref (lt_z X + 0)), (2, .ref (lt_z X + 233)), (3, .int i)] [.ref (lt_z X + 0)]
  refine jr_aload_n hF dL_law_1339 0 rfl rfl ?_
  show lt_J X 255 10777 ly_F _ 1340 [(0, .ref b), (1, .ref (lt_z X + 0)), (2, .ref (lt_z X + 233)), (3, .int i)] [.ref b, .ref (lt_z X + 0)]
  refine jr_iload_n hF dL_law_1340 3 rfl rfl ?_
  show lt_J X 255 10777 ly_F _ 1341 [(0, .ref b), (1, .ref (lt_z X + 0)), (2, .ref (lt_z X + 233)), (3, .int i)] [.int i, .ref b, .ref (lt_z X + 0)]
  refine jr_iconst (v := 1) hF dL_law_1341 rfl ?_
  show lt_J X 255 10777 ly_F _ 1342 [(0, .ref b), (1, .ref (lt_z X + 0)), (2, .ref (lt_z X + 233)), (3, .int i)] [.int (1), .int i, .ref b, .ref (lt_z X + 0)]
  refine jr_iadd hF dL_law_1342 ?_
  show lt_J X 255 10777 ly_F _ 1343 [(0, .ref b), (1, .ref (lt_z X + 0)), (2, .ref (lt_z X + 233)), (3, .int i)] [.int (i + 1), .ref b, .ref (lt_z X + 0)]
  refine jr_sl hF hX hv.2.1 dL_law_1343 ?_
  show lt_J X 255 10777 ly_F _ 1344 [(0, .ref b), (1, .ref (lt_z X + 0)), (2, .ref (lt_z X + 233)), (3, .int i)] [.int (xs ((i + 1)).toNatClampNeg), .ref (lt_z X + 0)]
  refine jr_aload_n hF dL_law_1344 0 rfl rfl ?_
  show lt_J X 255 10777 ly_F _ 1345 [(0, .ref b), (1, .ref (lt_z X + 0)), (2, .ref (lt_z X + 233)), (3, .int i)] [.ref b, .int (xs ((i + 1)).toNatClampNeg), .ref (lt_z X + 0)]
  refine jr_iload_n hF dL_law_1345 3 rfl rfl ?_
  show lt_J X 255 10777 ly_F _ 1346 [(0, .ref b), (1, .ref (lt_z X + 0)), (2, .ref (lt_z X + 233)), (3, .int i)] [.int i, .ref b, .int (xs ((i + 1)).toNatClampNeg), .ref (lt_z X + 0)]
  refine jr_iconst (v := 2) hF dL_law_1346 rfl ?_
  show lt_J X 255 10777 ly_F _ 1347 [(0, .ref b), (1, .ref (lt_z X + 0)), (2, .ref (lt_z X + 233)), (3, .int i)] [.int (2), .int i, .ref b, .int (xs ((i + 1)).toNatClampNeg), .ref (lt_z X + 0)]
  refine jr_iadd hF dL_law_1347 ?_
  show lt_J X 255 10777 ly_F _ 1348 [(0, .ref b), (1, .ref (lt_z X + 0)), (2, .ref (lt_z X + 233)), (3, .int i)] [.int (i + 2), .ref b, .int (xs ((i + 1)).toNatClampNeg), .ref (lt_z X + 0)]
  refine jr_sl hF hX hv.2.2.1 dL_law_1348 ?_
  show lt_J X 255 10777 ly_F _ 1349 [(0, .ref b), (1, .ref (lt_z X + 0)), (2, .ref (lt_z X + 233)), (3, .int i)] [.int (xs ((i + 2)).toNatClampNeg), .int (xs ((i + 1)).toNatClampNeg), .ref (lt_z X + 0)]
  refine jr_callV (As := [.int (xs ((i + 1)).toNatClampNeg), .int (xs ((i + 2)).toNatClampNeg)]) (st := []) hF ml_L_175 (c_X11_waits ly_FT ly_F0 e1) ly_F0 rfl ⟨Nat.le_of_ble_eq_true rfl, Nat.le_of_ble_eq_true rfl⟩ ⟨Nat.le_of_ble_eq_true rfl, Nat.le_of_ble_eq_true rfl⟩ (Nat.le_of_ble_eq_true rfl) dL_law_1349 ?_
  show lt_J X 255 10777 ly_F _ 1352 [(0, .ref b), (1, .ref (lt_z X + 0)), (2, .ref (lt_z X + 233)), (3, .int i)] [.int r]
  refine jr_aload_n hF dL_law_1352 2 rfl rfl ?_
  show lt_J X 255 10777 ly_F _ 1353 [(0, .ref b), (1, .ref (lt_z X + 0)), (2, .ref (lt_z X + 233)), (3, .int i)] [.ref (lt_z X + 233), .int r]
  refine jr_aload_n hF dL_law_1353 0 rfl rfl ?_
  show lt_J X 255 10777 ly_F _ 1354 [(0, .ref b), (1, .ref (lt_z X + 0)), (2, .ref (lt_z X + 233)), (3, .int i)] [.ref b, .ref (lt_z X + 233), .int r]
  refine jr_iload_n hF dL_law_1354 3 rfl rfl ?_
  show lt_J X 255 10777 ly_F _ 1355 [(0, .ref b), (1, .ref (lt_z X + 0)), (2, .ref (lt_z X + 233)), (3, .int i)] [.int i, .ref b, .ref (lt_z X + 233), .int r]
  refine jr_iconst (v := 1) hF dL_law_1355 rfl ?_
  show lt_J X 255 10777 ly_F _ 1356 [(0, .ref b), (1, .ref (lt_z X + 0)), (2, .ref (lt_z X + 233)), (3, .int i)] [.int (1), .int i, .ref b, .ref (lt_z X + 233), .int r]
  refine jr_iadd hF dL_law_1356 ?_
  show lt_J X 255 10777 ly_F _ 1357 [(0, .ref b), (1, .ref (lt_z X + 0)), (2, .ref (lt_z X + 233)), (3, .int i)] [.int (i + 1), .ref b, .ref (lt_z X + 233), .int r]
  refine jr_sl hF hX hv.2.1 dL_law_1357 ?_
  show lt_J X 255 10777 ly_F _ 1358 [(0, .ref b), (1, .ref (lt_z X + 0)), (2, .ref (lt_z X + 233)), (3, .int i)] [.int (xs ((i + 1)).toNatClampNeg), .ref (lt_z X + 233), .int r]
  refine jr_aload_n hF dL_law_1358 0 rfl rfl ?_
  show lt_J X 255 10777 ly_F _ 1359 [(0, .ref b), (1, .ref (lt_z X + 0)), (2, .ref (lt_z X + 233)), (3, .int i)] [.ref b, .int (xs ((i + 1)).toNatClampNeg), .ref (lt_z X + 233), .int r]
  refine jr_iload_n hF dL_law_1359 3 rfl rfl ?_
  show lt_J X 255 10777 ly_F _ 1360 [(0, .ref b), (1, .ref (lt_z X + 0)), (2, .ref (lt_z X + 233)), (3, .int i)] [.int i, .ref b, .int (xs ((i + 1)).toNatClampNeg), .ref (lt_z X + 233), .int r]
  refine jr_iconst (v := 2) hF dL_law_1360 rfl ?_
  show lt_J X 255 10777 ly_F _ 1361 [(0, .ref b), (1, .ref (lt_z X + 0)), (2, .ref (lt_z X + 233)), (3, .int i)] [.int (2), .int i, .ref b, .int (xs ((i + 1)).toNatClampNeg), .ref (lt_z X + 233), .int r]
  refine jr_iadd hF dL_law_1361 ?_
  show lt_J X 255 10777 ly_F _ 1362 [(0, .ref b), (1, .ref (lt_z X + 0)), (2, .ref (lt_z X + 233)), (3, .int i)] [.int (i + 2), .ref b, .int (xs ((i + 1)).toNatClampNeg), .ref (lt_z X + 233), .int r]
  refine jr_sl hF hX hv.2.2.1 dL_law_1362 ?_
  show lt_J X 255 10777 ly_F _ 1363 [(0, .ref b), (1, .ref (lt_z X + 0)), (2, .ref (lt_z X + 233)), (3, .int i)] [.int (xs ((i + 2)).toNatClampNeg), .int (xs ((i + 1)).toNatClampNeg), .ref (lt_z X + 233), .int r]
  refine jr_callV (As := [.int (xs ((i + 1)).toNatClampNeg), .int (xs ((i + 2)).toNatClampNeg)]) (st := [.int r]) hF ml_L_178 (c_X12_waits ly_FT ly_F233 e2) ly_F233 rfl ⟨Nat.le_of_ble_eq_true rfl, Nat.le_of_ble_eq_true rfl⟩ ⟨Nat.le_of_ble_eq_true rfl, Nat.le_of_ble_eq_true rfl⟩ (Nat.le_of_ble_eq_true rfl) dL_law_1363 ?_
  show lt_J X 255 10777 ly_F _ 1366 [(0, .ref b), (1, .ref (lt_z X + 0)), (2, .ref (lt_z X + 233)), (3, .int i)] [.int r, .int r]
  exact jr_icmp_eq (tgt := 1664) (g1 := some ()) (g2 := none) (r := ()) hF dL_law_1366 rfl (if_pos rfl) (fun _ => kk _ hR2) (fun z => by cases z)
set_option maxRecDepth 100000 in
theorem ll_38 (hF : lt_F X cL_law RL 4 room_1) (hX : ll_X X b L xs) (hv : ll_v i L) (hR : lr_R w) (kk : ∀ w', lr_R w' → lt_J X 255 10777 ly_F w' 1664 [(0, .ref b), (1, .ref (lt_z X + 0)), (2, .ref (lt_z X + 233)), (3, .int i)] []) : lt_J X 255 10777 ly_F w 1371 [(0, .ref b), (1, .ref (lt_z X + 0)), (2, .ref (lt_z X + 233)), (3, .int i)] [] := by
  obtain ⟨hst, A, h⟩ := id hR
  obtain ⟨r, w1, w2, e1, e2, hR2⟩ := op_chance ly_FS h ((xs ((i + 1)).toNatClampNeg)) ((xs ((i + 2)).toNatClampNeg))
  refine jr_aload_n hF dL_law_1371 1 rfl rfl ?_
  show lt_J X 255 10777 ly_F _ 1372 [(0, .ref b), (1, .ref (lt_z X + 0)), (2, .ref (lt_z X + 233)), (3, .int i)] [.ref (lt_z X + 0)]
  refine jr_aload_n hF dL_law_1372 0 rfl rfl ?_
  show lt_J X 255 10777 ly_F _ 1373 [(0, .ref b), (1, .ref (lt_z X + 0)), (2, .ref (lt_z X + 233)), (3, .int i)] [.ref b, .ref (lt_z X + 0)]
  refine jr_iload_n hF dL_law_1373 3 rfl rfl ?_
  show lt_J X 255 10777 ly_F _ 1374 [(0, .ref b), (1, .ref (lt_z X + 0)), (2, .ref (lt_z X + 233)), (3, .int i)] [.int i, .ref b, .ref (lt_z X + 0)]
  refine jr_iconst (v := 1) hF dL_law_1374 rfl ?_
  show lt_J X 255 10777 ly_F _ 1375 [(0, .ref b), (1, .ref (lt_z X + 0)), (2, .ref (lt_z X + 233)), (3, .int i)] [.int (1), .int i, .ref b, .ref (lt_z X + 0)]
  refine jr_iadd hF dL_law_1375 ?_
  show lt_J X 255 10777 ly_F _ 1376 [(0, .ref b), (1, .ref (lt_z X + 0)), (2, .ref (lt_z X + 233)), (3, .int i)] [.int (i + 1), .ref b, .ref (lt_z X + 0)]
  refine jr_sl hF hX hv.2.1 dL_law_1376 ?_
  show lt_J X 255 10777 ly_F _ 1377 [(0, .ref b), (1, .ref (lt_z X + 0)), (2, .ref (lt_z X + 233)), (3, .int i)] [.int (xs ((i + 1)).toNatClampNeg), .ref (lt_z X + 0)]
  refine jr_aload_n hF dL_law_1377 0 rfl rfl ?_
  show lt_J X 255 10777 ly_F _ 1378 [(0, .ref b), (1, .ref (lt_z X + 0)), (2, .ref (lt_z X + 233)), (3, .int i)] [.ref b, .int (xs ((i + 1)).toNatClampNeg), .ref (lt_z X + 0)]
  refine jr_iload_n hF dL_law_1378 3 rfl rfl ?_
  show lt_J X 255 10777 ly_F _ 1379 [(0, .ref b), (1, .ref (lt_z X + 0)), (2, .ref (lt_z X + 233)), (3, .int i)] [.int i, .ref b, .int (xs ((i + 1)).toNatClampNeg), .ref (lt_z X + 0)]
  refine jr_iconst (v := 2) hF dL_law_1379 rfl ?_
  show lt_J X 255 10777 ly_F _ 1380 [(0, .ref b), (1, .ref (lt_z X + 0)), (2, .ref (lt_z X + 233)), (3, .int i)] [.int (2), .int i, .ref b, .int (xs ((i + 1)).toNatClampNeg), .ref (lt_z X + 0)]
  refine jr_iadd hF dL_law_1380 ?_
  show lt_J X 255 10777 ly_F _ 1381 [(0, .ref b), (1, .ref (lt_z X + 0)), (2, .ref (lt_z X + 233)), (3, .int i)] [.int (i + 2), .ref b, .int (xs ((i + 1)).toNatClampNeg), .ref (lt_z X + 0)]
  refine jr_sl hF hX hv.2.2.1 dL_law_1381 ?_
  show lt_J X 255 10777 ly_F _ 1382 [(0, .ref b), (1, .ref (lt_z X + 0)), (2, .ref (lt_z X + 233)), (3, .int i)] [.int (xs ((i + 2)).toNatClampNeg), .int (xs ((i + 1)).toNatClampNeg), .ref (lt_z X + 0)]
  refine jr_callV (As := [.int (xs ((i + 1)).toNatClampNeg), .int (xs ((i + 2)).toNatClampNeg)]) (st := []) hF ml_L_179 (c_X11_chance ly_F0 e1) ly_F0 rfl ⟨Nat.le_of_ble_eq_true rfl, Nat.le_of_ble_eq_true rfl⟩ ⟨Nat.le_of_ble_eq_true rfl, Nat.le_of_ble_eq_true rfl⟩ (Nat.le_of_ble_eq_true rfl) dL_law_1382 ?_
  show lt_J X 255 10777 ly_F _ 1385 [(0, .ref b), (1, .ref (lt_z X + 0)), (2, .ref (lt_z X + 233)), (3, .int i)] [.int r]
  refine jr_aload_n hF dL_law_1385 2 rfl rfl ?_
  show lt_J X 255 10777 ly_F _ 1386 [(0, .ref b), (1, .ref (lt_z X + 0)), (2, .ref (lt_z X + 233)), (3, .int i)] [.ref (lt_z X + 233), .int r]
  refine jr_aload_n hF dL_law_1386 0 rfl rfl ?_
  show lt_J X 255 10777 ly_F _ 1387 [(0, .ref b), (1, .ref (lt_z X + 0)), (2, .ref (lt_z X + 233)), (3, .int i)] [.ref b, .ref (lt_z X + 233), .int r]
  refine jr_iload_n hF dL_law_1387 3 rfl rfl ?_
  show lt_J X 255 10777 ly_F _ 1388 [(0, .ref b), (1, .ref (lt_z X + 0)), (2, .ref (lt_z X + 233)), (3, .int i)] [.int i, .ref b, .ref (lt_z X + 233), .int r]
  refine jr_iconst (v := 1) hF dL_law_1388 rfl ?_
  show lt_J X 255 10777 ly_F _ 1389 [(0, .ref b), (1, .ref (lt_z X + 0)), (2, .ref (lt_z X + 233)), (3, .int i)] [.int (1), .int i, .ref b, .ref (lt_z X + 233), .int r]
  refine jr_iadd hF dL_law_1389 ?_
  show lt_J X 255 10777 ly_F _ 1390 [(0, .ref b), (1, .ref (lt_z X + 0)), (2, .ref (lt_z X + 233)), (3, .int i)] [.int (i + 1), .ref b, .ref (lt_z X + 233), .int r]
  refine jr_sl hF hX hv.2.1 dL_law_1390 ?_
  show lt_J X 255 10777 ly_F _ 1391 [(0, .ref b), (1, .ref (lt_z X + 0)), (2, .ref (lt_z X + 233)), (3, .int i)] [.int (xs ((i + 1)).toNatClampNeg), .ref (lt_z X + 233), .int r]
  refine jr_aload_n hF dL_law_1391 0 rfl rfl ?_
  show lt_J X 255 10777 ly_F _ 1392 [(0, .ref b), (1, .ref (lt_z X + 0)), (2, .ref (lt_z X + 233)), (3, .int i)] [.ref b, .int (xs ((i + 1)).toNatClampNeg), .ref (lt_z X + 233), .int r]
  refine jr_iload_n hF dL_law_1392 3 rfl rfl ?_
  show lt_J X 255 10777 ly_F _ 1393 [(0, .ref b), (1, .ref (lt_z X + 0)), (2, .ref (lt_z X + 233)), (3, .int i)] [.int i, .ref b, .int (xs ((i + 1)).toNatClampNeg), .ref (lt_z X + 233), .int r]
  refine jr_iconst (v := 2) hF dL_law_1393 rfl ?_
  show lt_J X 255 10777 ly_F _ 1394 [(0, .ref b), (1, .ref (lt_z X + 0)), (2, .ref (lt_z X + 233)), (3, .int i)] [.int (2), .int i, .ref b, .int (xs ((i + 1)).toNatClampNeg), .ref (lt_z X + 233), .int r]
  refine jr_iadd hF dL_law_1394 ?_
  show lt_J X 255 10777 ly_F _ 1395 [(0, .ref b), (1, .ref (lt_z X + 0)), (2, .ref (lt_z X + 233)), (3, .int i)] [.int (i + 2), .ref b, .int (xs ((i + 1)).toNatClampNeg), .ref (lt_z X + 233), .int r]
  refine jr_sl hF hX hv.2.2.1 dL_law_1395 ?_
  show lt_J X 255 10777 ly_F _ 1396 [(0, .ref b), (1, .ref (lt_z X + 0)), (2, .ref (lt_z X + 233)), (3, .int i)] [.int (xs ((i + 2)).toNatClampNeg), .int (xs ((i + 1)).toNatClampNeg), .ref (lt_z X + 233), .int r]
  refine jr_callV (As := [.int (xs ((i + 1)).toNatClampNeg), .int (xs ((i + 2)).toNatClampNeg)]) (st := [.int r]) hF ml_L_182 (c_X12_chance ly_FT ly_F233 e2) ly_F233 rfl ⟨Nat.le_of_ble_eq_true rfl, Nat.le_of_ble_eq_true rfl⟩ ⟨Nat.le_of_ble_eq_true rfl, Nat.le_of_ble_eq_true rfl⟩ (Nat.le_of_ble_eq_true rfl) dL_law_1396 ?_
  show lt_J X 255 10777 ly_F _ 1399 [(0, .ref b), (1, .ref (lt_z X + 0)), (2, .ref (lt_z X + 233)), (3, .int i)] [.int r, .int r]
  exact jr_icmp_eq (tgt := 1664) (g1 := some ()) (g2 := none) (r := ()) hF dL_law_1399 rfl (if_pos rfl) (fun _ => kk _ hR2) (fun z => by cases z)
set_option maxRecDepth 100000 in
theorem ll_39 (hF : lt_F X cL_law RL 4 room_1) (hX : ll_X X b L xs) (hv : ll_v i L) (hR : lr_R w) (kk : ∀ w', lr_R w' → lt_J X 255 10777 ly_F w' 1664 [(0, .ref b), (1, .ref (lt_z X + 0)), (2, .ref (lt_z X + 233)), (3, .int i)] []) : lt_J X 255 10777 ly_F w 1404 [(0, .ref b), (1, .ref (lt_z X + 0)), (2, .ref (lt_z X + 233)), (3, .int i)] [] := by
  obtain ⟨hst, A, h⟩ := id hR
  obtain ⟨r, w1, w2, e1, e2, hR2⟩ := op_stale ly_FS h ((xs ((i + 1)).toNatClampNeg))
  refine jr_aload_n hF dL_law_1404 1 rfl rfl ?_
  show lt_J X 255 10777 ly_F _ 1405 [(0, .ref b), (1, .ref (lt_z X + 0)), (2, .ref (lt_z X + 233)), (3, .int i)] [.ref (lt_z X + 0)]
  refine jr_aload_n hF dL_law_1405 0 rfl rfl ?_
  show lt_J X 255 10777 ly_F _ 1406 [(0, .ref b), (1, .ref (lt_z X + 0)), (2, .ref (lt_z X + 233)), (3, .int i)] [.ref b, .ref (lt_z X + 0)]
  refine jr_iload_n hF dL_law_1406 3 rfl rfl ?_
  show lt_J X 255 10777 ly_F _ 1407 [(0, .ref b), (1, .ref (lt_z X + 0)), (2, .ref (lt_z X + 233)), (3, .int i)] [.int i, .ref b, .ref (lt_z X + 0)]
  refine jr_iconst (v := 1) hF dL_law_1407 rfl ?_
  show lt_J X 255 10777 ly_F _ 1408 [(0, .ref b), (1, .ref (lt_z X + 0)), (2, .ref (lt_z X + 233)), (3, .int i)] [.int (1), .int i, .ref b, .ref (lt_z X + 0)]
  refine jr_iadd hF dL_law_1408 ?_
  show lt_J X 255 10777 ly_F _ 1409 [(0, .ref b), (1, .ref (lt_z X + 0)), (2, .ref (lt_z X + 233)), (3, .int i)] [.int (i + 1), .ref b, .ref (lt_z X + 0)]
  refine jr_sl hF hX hv.2.1 dL_law_1409 ?_
  show lt_J X 255 10777 ly_F _ 1410 [(0, .ref b), (1, .ref (lt_z X + 0)), (2, .ref (lt_z X + 233)), (3, .int i)] [.int (xs ((i + 1)).toNatClampNeg), .ref (lt_z X + 0)]
  refine jr_callV (As := [.int (xs ((i + 1)).toNatClampNeg)]) (st := []) hF ml_L_183 (c_X11_stale ly_FT ly_F0 e1) ly_F0 rfl ⟨Nat.le_of_ble_eq_true rfl, Nat.le_of_ble_eq_true rfl⟩ ⟨Nat.le_of_ble_eq_true rfl, Nat.le_of_ble_eq_true rfl⟩ (Nat.le_of_ble_eq_true rfl) dL_law_1410 ?_
  show lt_J X 255 10777 ly_F _ 1413 [(0, .ref b), (1, .ref (lt_z X + 0)), (2, .ref (lt_z X + 233)), (3, .int i)] [.int r]
  refine jr_aload_n hF dL_law_1413 2 rfl rfl ?_
  show lt_J X 255 10777 ly_F _ 1414 [(0, .ref b), (1, .ref (lt_z X + 0)), (2, .ref (lt_z X + 233)), (3, .int i)] [.ref (lt_z X + 233), .int r]
  refine jr_aload_n hF dL_law_1414 0 rfl rfl ?_
  show lt_J X 255 10777 ly_F _ 1415 [(0, .ref b), (1, .ref (lt_z X + 0)), (2, .ref (lt_z X + 233)), (3, .int i)] [.ref b, .ref (lt_z X + 233), .int r]
  refine jr_iload_n hF dL_law_1415 3 rfl rfl ?_
  show lt_J X 255 10777 ly_F _ 1416 [(0, .ref b), (1, .ref (lt_z X + 0)), (2, .ref (lt_z X + 233)), (3, .int i)] [.int i, .ref b, .ref (lt_z X + 233), .int r]
  refine jr_iconst (v := 1) hF dL_law_1416 rfl ?_
  show lt_J X 255 10777 ly_F _ 1417 [(0, .ref b), (1, .ref (lt_z X + 0)), (2, .ref (lt_z X + 233)), (3, .int i)] [.int (1), .int i, .ref b, .ref (lt_z X + 233), .int r]
  refine jr_iadd hF dL_law_1417 ?_
  show lt_J X 255 10777 ly_F _ 1418 [(0, .ref b), (1, .ref (lt_z X + 0)), (2, .ref (lt_z X + 233)), (3, .int i)] [.int (i + 1), .ref b, .ref (lt_z X + 233), .int r]
  refine jr_sl hF hX hv.2.1 dL_law_1418 ?_
  show lt_J X 255 10777 ly_F _ 1419 [(0, .ref b), (1, .ref (lt_z X + 0)), (2, .ref (lt_z X + 233)), (3, .int i)] [.int (xs ((i + 1)).toNatClampNeg), .ref (lt_z X + 233), .int r]
  refine jr_callV (As := [.int (xs ((i + 1)).toNatClampNeg)]) (st := [.int r]) hF ml_L_187 (c_X12_stale ly_FT ly_F233 e2) ly_F233 rfl ⟨Nat.le_of_ble_eq_true rfl, Nat.le_of_ble_eq_true rfl⟩ ⟨Nat.le_of_ble_eq_true rfl, Nat.le_of_ble_eq_true rfl⟩ (Nat.le_of_ble_eq_true rfl) dL_law_1419 ?_
  show lt_J X 255 10777 ly_F _ 1422 [(0, .ref b), (1, .ref (lt_z X + 0)), (2, .ref (lt_z X + 233)), (3, .int i)] [.int r, .int r]
  exact jr_icmp_eq (tgt := 1664) (g1 := some ()) (g2 := none) (r := ()) hF dL_law_1422 rfl (if_pos rfl) (fun _ => kk _ hR2) (fun z => by cases z)
set_option maxRecDepth 100000 in
theorem ll_40 (hF : lt_F X cL_law RL 4 room_1) (hX : ll_X X b L xs) (hv : ll_v i L) (hR : lr_R w) (kk : ∀ w', lr_R w' → lt_J X 255 10777 ly_F w' 1664 [(0, .ref b), (1, .ref (lt_z X + 0)), (2, .ref (lt_z X + 233)), (3, .int i)] []) : lt_J X 255 10777 ly_F w 1427 [(0, .ref b), (1, .ref (lt_z X + 0)), (2, .ref (lt_z X + 233)), (3, .int i)] [] := by
  obtain ⟨hst, A, h⟩ := id hR
  obtain ⟨r, w1, w2, e1, e2, hR2⟩ := op_share ly_FS h ((xs ((i + 1)).toNatClampNeg))
  refine jr_aload_n hF dL_law_1427 1 rfl rfl ?_
  show lt_J X 255 10777 ly_F _ 1428 [(0, .ref b), (1, .ref (lt_z X + 0)), (2, .ref (lt_z X + 233)), (3, .int i)] [.ref (lt_z X + 0)]
  refine jr_aload_n hF dL_law_1428 0 rfl rfl ?_
  show lt_J X 255 10777 ly_F _ 1429 [(0, .ref b), (1, .ref (lt_z X + 0)), (2, .ref (lt_z X + 233)), (3, .int i)] [.ref b, .ref (lt_z X + 0)]
  refine jr_iload_n hF dL_law_1429 3 rfl rfl ?_
  show lt_J X 255 10777 ly_F _ 1430 [(0, .ref b), (1, .ref (lt_z X + 0)), (2, .ref (lt_z X + 233)), (3, .int i)] [.int i, .ref b, .ref (lt_z X + 0)]
  refine jr_iconst (v := 1) hF dL_law_1430 rfl ?_
  show lt_J X 255 10777 ly_F _ 1431 [(0, .ref b), (1, .ref (lt_z X + 0)), (2, .ref (lt_z X + 233)), (3, .int i)] [.int (1), .int i, .ref b, .ref (lt_z X + 0)]
  refine jr_iadd hF dL_law_1431 ?_
  show lt_J X 255 10777 ly_F _ 1432 [(0, .ref b), (1, .ref (lt_z X + 0)), (2, .ref (lt_z X + 233)), (3, .int i)] [.int (i + 1), .ref b, .ref (lt_z X + 0)]
  refine jr_sl hF hX hv.2.1 dL_law_1432 ?_
  show lt_J X 255 10777 ly_F _ 1433 [(0, .ref b), (1, .ref (lt_z X + 0)), (2, .ref (lt_z X + 233)), (3, .int i)] [.int (xs ((i + 1)).toNatClampNeg), .ref (lt_z X + 0)]
  refine jr_callV (As := [.int (xs ((i + 1)).toNatClampNeg)]) (st := []) hF ml_L_188 (c_X11_share ly_FT ly_F0 e1) ly_F0 rfl ⟨Nat.le_of_ble_eq_true rfl, Nat.le_of_ble_eq_true rfl⟩ ⟨Nat.le_of_ble_eq_true rfl, Nat.le_of_ble_eq_true rfl⟩ (Nat.le_of_ble_eq_true rfl) dL_law_1433 ?_
  show lt_J X 255 10777 ly_F _ 1436 [(0, .ref b), (1, .ref (lt_z X + 0)), (2, .ref (lt_z X + 233)), (3, .int i)] [.int r]
  refine jr_aload_n hF dL_law_1436 2 rfl rfl ?_
  show lt_J X 255 10777 ly_F _ 1437 [(0, .ref b), (1, .ref (lt_z X + 0)), (2, .ref (lt_z X + 233)), (3, .int i)] [.ref (lt_z X + 233), .int r]
  refine jr_aload_n hF dL_law_1437 0 rfl rfl ?_
  show lt_J X 255 10777 ly_F _ 1438 [(0, .ref b), (1, .ref (lt_z X + 0)), (2, .ref (lt_z X + 233)), (3, .int i)] [.ref b, .ref (lt_z X + 233), .int r]
  refine jr_iload_n hF dL_law_1438 3 rfl rfl ?_
  show lt_J X 255 10777 ly_F _ 1439 [(0, .ref b), (1, .ref (lt_z X + 0)), (2, .ref (lt_z X + 233)), (3, .int i)] [.int i, .ref b, .ref (lt_z X + 233), .int r]
  refine jr_iconst (v := 1) hF dL_law_1439 rfl ?_
  show lt_J X 255 10777 ly_F _ 1440 [(0, .ref b), (1, .ref (lt_z X + 0)), (2, .ref (lt_z X + 233)), (3, .int i)] [.int (1), .int i, .ref b, .ref (lt_z X + 233), .int r]
  refine jr_iadd hF dL_law_1440 ?_
  show lt_J X 255 10777 ly_F _ 1441 [(0, .ref b), (1, .ref (lt_z X + 0)), (2, .ref (lt_z X + 233)), (3, .int i)] [.int (i + 1), .ref b, .ref (lt_z X + 233), .int r]
  refine jr_sl hF hX hv.2.1 dL_law_1441 ?_
  show lt_J X 255 10777 ly_F _ 1442 [(0, .ref b), (1, .ref (lt_z X + 0)), (2, .ref (lt_z X + 233)), (3, .int i)] [.int (xs ((i + 1)).toNatClampNeg), .ref (lt_z X + 233), .int r]
  refine jr_callV (As := [.int (xs ((i + 1)).toNatClampNeg)]) (st := [.int r]) hF ml_L_191 (c_X12_share ly_FT ly_F233 e2) ly_F233 rfl ⟨Nat.le_of_ble_eq_true rfl, Nat.le_of_ble_eq_true rfl⟩ ⟨Nat.le_of_ble_eq_true rfl, Nat.le_of_ble_eq_true rfl⟩ (Nat.le_of_ble_eq_true rfl) dL_law_1442 ?_
  show lt_J X 255 10777 ly_F _ 1445 [(0, .ref b), (1, .ref (lt_z X + 0)), (2, .ref (lt_z X + 233)), (3, .int i)] [.int r, .int r]
  exact jr_icmp_eq (tgt := 1664) (g1 := some ()) (g2 := none) (r := ()) hF dL_law_1445 rfl (if_pos rfl) (fun _ => kk _ hR2) (fun z => by cases z)
set_option maxRecDepth 100000 in
theorem ll_41 (hF : lt_F X cL_law RL 4 room_1) (hX : ll_X X b L xs) (hv : ll_v i L) (hR : lr_R w) (kk : ∀ w', lr_R w' → lt_J X 255 10777 ly_F w' 1664 [(0, .ref b), (1, .ref (lt_z X + 0)), (2, .ref (lt_z X + 233)), (3, .int i)] []) : lt_J X 255 10777 ly_F w 1450 [(0, .ref b), (1, .ref (lt_z X + 0)), (2, .ref (lt_z X + 233)), (3, .int i)] [] := by
  obtain ⟨hst, A, h⟩ := id hR
  obtain ⟨r, w1, w2, e1, e2, hR2⟩ := op_game ly_FS h ((xs ((i + 1)).toNatClampNeg)) ((xs ((i + 2)).toNatClampNeg)) ((xs ((i + 3)).toNatClampNeg))
  refine jr_aload_n hF dL_law_1450 1 rfl rfl ?_
  show lt_J X 255 10777 ly_F _ 1451 [(0, .ref b), (1, .ref (lt_z X + 0)), (2, .ref (lt_z X + 233)), (3, .int i)] [.ref (lt_z X + 0)]
  refine jr_aload_n hF dL_law_1451 0 rfl rfl ?_
  show lt_J X 255 10777 ly_F _ 1452 [(0, .ref b), (1, .ref (lt_z X + 0)), (2, .ref (lt_z X + 233)), (3, .int i)] [.ref b, .ref (lt_z X + 0)]
  refine jr_iload_n hF dL_law_1452 3 rfl rfl ?_
  show lt_J X 255 10777 ly_F _ 1453 [(0, .ref b), (1, .ref (lt_z X + 0)), (2, .ref (lt_z X + 233)), (3, .int i)] [.int i, .ref b, .ref (lt_z X + 0)]
  refine jr_iconst (v := 1) hF dL_law_1453 rfl ?_
  show lt_J X 255 10777 ly_F _ 1454 [(0, .ref b), (1, .ref (lt_z X + 0)), (2, .ref (lt_z X + 233)), (3, .int i)] [.int (1), .int i, .ref b, .ref (lt_z X + 0)]
  refine jr_iadd hF dL_law_1454 ?_
  show lt_J X 255 10777 ly_F _ 1455 [(0, .ref b), (1, .ref (lt_z X + 0)), (2, .ref (lt_z X + 233)), (3, .int i)] [.int (i + 1), .ref b, .ref (lt_z X + 0)]
  refine jr_sl hF hX hv.2.1 dL_law_1455 ?_
  show lt_J X 255 10777 ly_F _ 1456 [(0, .ref b), (1, .ref (lt_z X + 0)), (2, .ref (lt_z X + 233)), (3, .int i)] [.int (xs ((i + 1)).toNatClampNeg), .ref (lt_z X + 0)]
  refine jr_aload_n hF dL_law_1456 0 rfl rfl ?_
  show lt_J X 255 10777 ly_F _ 1457 [(0, .ref b), (1, .ref (lt_z X + 0)), (2, .ref (lt_z X + 233)), (3, .int i)] [.ref b, .int (xs ((i + 1)).toNatClampNeg), .ref (lt_z X + 0)]
  refine jr_iload_n hF dL_law_1457 3 rfl rfl ?_
  show lt_J X 255 10777 ly_F _ 1458 [(0, .ref b), (1, .ref (lt_z X + 0)), (2, .ref (lt_z X + 233)), (3, .int i)] [.int i, .ref b, .int (xs ((i + 1)).toNatClampNeg), .ref (lt_z X + 0)]
  refine jr_iconst (v := 2) hF dL_law_1458 rfl ?_
  show lt_J X 255 10777 ly_F _ 1459 [(0, .ref b), (1, .ref (lt_z X + 0)), (2, .ref (lt_z X + 233)), (3, .int i)] [.int (2), .int i, .ref b, .int (xs ((i + 1)).toNatClampNeg), .ref (lt_z X + 0)]
  refine jr_iadd hF dL_law_1459 ?_
  show lt_J X 255 10777 ly_F _ 1460 [(0, .ref b), (1, .ref (lt_z X + 0)), (2, .ref (lt_z X + 233)), (3, .int i)] [.int (i + 2), .ref b, .int (xs ((i + 1)).toNatClampNeg), .ref (lt_z X + 0)]
  refine jr_sl hF hX hv.2.2.1 dL_law_1460 ?_
  show lt_J X 255 10777 ly_F _ 1461 [(0, .ref b), (1, .ref (lt_z X + 0)), (2, .ref (lt_z X + 233)), (3, .int i)] [.int (xs ((i + 2)).toNatClampNeg), .int (xs ((i + 1)).toNatClampNeg), .ref (lt_z X + 0)]
  refine jr_aload_n hF dL_law_1461 0 rfl rfl ?_
  show lt_J X 255 10777 ly_F _ 1462 [(0, .ref b), (1, .ref (lt_z X + 0)), (2, .ref (lt_z X + 233)), (3, .int i)] [.ref b, .int (xs ((i + 2)).toNatClampNeg), .int (xs ((i + 1)).toNatClampNeg), .ref (lt_z X + 0)]
  refine jr_iload_n hF dL_law_1462 3 rfl rfl ?_
  show lt_J X 255 10777 ly_F _ 1463 [(0, .ref b), (1, .ref (lt_z X + 0)), (2, .ref (lt_z X + 233)), (3, .int i)] [.int i, .ref b, .int (xs ((i + 2)).toNatClampNeg), .int (xs ((i + 1)).toNatClampNeg), .ref (lt_z X + 0)]
  refine jr_iconst (v := 3) hF dL_law_1463 rfl ?_
  show lt_J X 255 10777 ly_F _ 1464 [(0, .ref b), (1, .ref (lt_z X + 0)), (2, .ref (lt_z X + 233)), (3, .int i)] [.int (3), .int i, .ref b, .int (xs ((i + 2)).toNatClampNeg), .int (xs ((i + 1)).toNatClampNeg), .ref (lt_z X + 0)]
  refine jr_iadd hF dL_law_1464 ?_
  show lt_J X 255 10777 ly_F _ 1465 [(0, .ref b), (1, .ref (lt_z X + 0)), (2, .ref (lt_z X + 233)), (3, .int i)] [.int (i + 3), .ref b, .int (xs ((i + 2)).toNatClampNeg), .int (xs ((i + 1)).toNatClampNeg), .ref (lt_z X + 0)]
  refine jr_sl hF hX hv.2.2.2.1 dL_law_1465 ?_
  show lt_J X 255 10777 ly_F _ 1466 [(0, .ref b), (1, .ref (lt_z X + 0)), (2, .ref (lt_z X + 233)), (3, .int i)] [.int (xs ((i + 3)).toNatClampNeg), .int (xs ((i + 2)).toNatClampNeg), .int (xs ((i + 1)).toNatClampNeg), .ref (lt_z X + 0)]
  refine jr_callV (As := [.int (xs ((i + 1)).toNatClampNeg), .int (xs ((i + 2)).toNatClampNeg), .int (xs ((i + 3)).toNatClampNeg)]) (st := []) hF ml_L_192 (c_X11_game ly_FT ly_F0 e1) ly_F0 rfl ⟨Nat.le_of_ble_eq_true rfl, Nat.le_of_ble_eq_true rfl⟩ ⟨Nat.le_of_ble_eq_true rfl, Nat.le_of_ble_eq_true rfl⟩ (Nat.le_of_ble_eq_true rfl) dL_law_1466 ?_
  show lt_J X 255 10777 ly_F _ 1469 [(0, .ref b), (1, .ref (lt_z X + 0)), (2, .ref (lt_z X + 233)), (3, .int i)] [.int r]
  refine jr_aload_n hF dL_law_1469 2 rfl rfl ?_
  show lt_J X 255 10777 ly_F _ 1470 [(0, .ref b), (1, .ref (lt_z X + 0)), (2, .ref (lt_z X + 233)), (3, .int i)] [.ref (lt_z X + 233), .int r]
  refine jr_aload_n hF dL_law_1470 0 rfl rfl ?_
  show lt_J X 255 10777 ly_F _ 1471 [(0, .ref b), (1, .ref (lt_z X + 0)), (2, .ref (lt_z X + 233)), (3, .int i)] [.ref b, .ref (lt_z X + 233), .int r]
  refine jr_iload_n hF dL_law_1471 3 rfl rfl ?_
  show lt_J X 255 10777 ly_F _ 1472 [(0, .ref b), (1, .ref (lt_z X + 0)), (2, .ref (lt_z X + 233)), (3, .int i)] [.int i, .ref b, .ref (lt_z X + 233), .int r]
  refine jr_iconst (v := 1) hF dL_law_1472 rfl ?_
  show lt_J X 255 10777 ly_F _ 1473 [(0, .ref b), (1, .ref (lt_z X + 0)), (2, .ref (lt_z X + 233)), (3, .int i)] [.int (1), .int i, .ref b, .ref (lt_z X + 233), .int r]
  refine jr_iadd hF dL_law_1473 ?_
  show lt_J X 255 10777 ly_F _ 1474 [(0, .ref b), (1, .ref (lt_z X + 0)), (2, .ref (lt_z X + 233)), (3, .int i)] [.int (i + 1), .ref b, .ref (lt_z X + 233), .int r]
  refine jr_sl hF hX hv.2.1 dL_law_1474 ?_
  show lt_J X 255 10777 ly_F _ 1475 [(0, .ref b), (1, .ref (lt_z X + 0)), (2, .ref (lt_z X + 233)), (3, .int i)] [.int (xs ((i + 1)).toNatClampNeg), .ref (lt_z X + 233), .int r]
  refine jr_aload_n hF dL_law_1475 0 rfl rfl ?_
  show lt_J X 255 10777 ly_F _ 1476 [(0, .ref b), (1, .ref (lt_z X + 0)), (2, .ref (lt_z X + 233)), (3, .int i)] [.ref b, .int (xs ((i + 1)).toNatClampNeg), .ref (lt_z X + 233), .int r]
  refine jr_iload_n hF dL_law_1476 3 rfl rfl ?_
  show lt_J X 255 10777 ly_F _ 1477 [(0, .ref b), (1, .ref (lt_z X + 0)), (2, .ref (lt_z X + 233)), (3, .int i)] [.int i, .ref b, .int (xs ((i + 1)).toNatClampNeg), .ref (lt_z X + 233), .int r]
  refine jr_iconst (v := 2) hF dL_law_1477 rfl ?_
  show lt_J X 255 10777 ly_F _ 1478 [(0, .ref b), (1, .ref (lt_z X + 0)), (2, .ref (lt_z X + 233)), (3, .int i)] [.int (2), .int i, .ref b, .int (xs ((i + 1)).toNatClampNeg), .ref (lt_z X + 233), .int r]
  refine jr_iadd hF dL_law_1478 ?_
  show lt_J X 255 10777 ly_F _ 1479 [(0, .ref b), (1, .ref (lt_z X + 0)), (2, .ref (lt_z X + 233)), (3, .int i)] [.int (i + 2), .ref b, .int (xs ((i + 1)).toNatClampNeg), .ref (lt_z X + 233), .int r]
  refine jr_sl hF hX hv.2.2.1 dL_law_1479 ?_
  show lt_J X 255 10777 ly_F _ 1480 [(0, .ref b), (1, .ref (lt_z X + 0)), (2, .ref (lt_z X + 233)), (3, .int i)] [.int (xs ((i + 2)).toNatClampNeg), .int (xs ((i + 1)).toNatClampNeg), .ref (lt_z X + 233), .int r]
  refine jr_aload_n hF dL_law_1480 0 rfl rfl ?_
  show lt_J X 255 10777 ly_F _ 1481 [(0, .ref b), (1, .ref (lt_z X + 0)), (2, .ref (lt_z X + 233)), (3, .int i)] [.ref b, .int (xs ((i + 2)).toNatClampNeg), .int (xs ((i + 1)).toNatClampNeg), .ref (lt_z X + 233), .int r]
  refine jr_iload_n hF dL_law_1481 3 rfl rfl ?_
  show lt_J X 255 10777 ly_F _ 1482 [(0, .ref b), (1, .ref (lt_z X + 0)), (2, .ref (lt_z X + 233)), (3, .int i)] [.int i, .ref b, .int (xs ((i + 2)).toNatClampNeg), .int (xs ((i + 1)).toNatClampNeg), .ref (lt_z X + 233), .int r]
  refine jr_iconst (v := 3) hF dL_law_1482 rfl ?_
  show lt_J X 255 10777 ly_F _ 1483 [(0, .ref b), (1, .ref (lt_z X + 0)), (2, .ref (lt_z X + 233)), (3, .int i)] [.int (3), .int i, .ref b, .int (xs ((i + 2)).toNatClampNeg), .int (xs ((i + 1)).toNatClampNeg), .ref (lt_z X + 233), .int r]
  refine jr_iadd hF dL_law_1483 ?_
  show lt_J X 255 10777 ly_F _ 1484 [(0, .ref b), (1, .ref (lt_z X + 0)), (2, .ref (lt_z X + 233)), (3, .int i)] [.int (i + 3), .ref b, .int (xs ((i + 2)).toNatClampNeg), .int (xs ((i + 1)).toNatClampNeg), .ref (lt_z X + 233), .int r]
  refine jr_sl hF hX hv.2.2.2.1 dL_law_1484 ?_
  show lt_J X 255 10777 ly_F _ 1485 [(0, .ref b), (1, .ref (lt_z X + 0)), (2, .ref (lt_z X + 233)), (3, .int i)] [.int (xs ((i + 3)).toNatClampNeg), .int (xs ((i + 2)).toNatClampNeg), .int (xs ((i + 1)).toNatClampNeg), .ref (lt_z X + 233), .int r]
  refine jr_callV (As := [.int (xs ((i + 1)).toNatClampNeg), .int (xs ((i + 2)).toNatClampNeg), .int (xs ((i + 3)).toNatClampNeg)]) (st := [.int r]) hF ml_L_195 (c_X12_game ly_FT ly_F233 e2) ly_F233 rfl ⟨Nat.le_of_ble_eq_true rfl, Nat.le_of_ble_eq_true rfl⟩ ⟨Nat.le_of_ble_eq_true rfl, Nat.le_of_ble_eq_true rfl⟩ (Nat.le_of_ble_eq_true rfl) dL_law_1485 ?_
  show lt_J X 255 10777 ly_F _ 1488 [(0, .ref b), (1, .ref (lt_z X + 0)), (2, .ref (lt_z X + 233)), (3, .int i)] [.int r, .int r]
  exact jr_icmp_eq (tgt := 1664) (g1 := some ()) (g2 := none) (r := ()) hF dL_law_1488 rfl (if_pos rfl) (fun _ => kk _ hR2) (fun z => by cases z)
set_option maxRecDepth 100000 in
theorem ll_42 (hF : lt_F X cL_law RL 4 room_1) (hX : ll_X X b L xs) (hv : ll_v i L) (hR : lr_R w) (kk : ∀ w', lr_R w' → lt_J X 255 10777 ly_F w' 1664 [(0, .ref b), (1, .ref (lt_z X + 0)), (2, .ref (lt_z X + 233)), (3, .int i)] []) : lt_J X 255 10777 ly_F w 1493 [(0, .ref b), (1, .ref (lt_z X + 0)), (2, .ref (lt_z X + 233)), (3, .int i)] [] := by
  obtain ⟨hst, A, h⟩ := id hR
  obtain ⟨r, w1, w2, e1, e2, hR2⟩ := op_moveOf ly_FS h ((xs ((i + 1)).toNatClampNeg)) ((xs ((i + 2)).toNatClampNeg)) ((xs ((i + 3)).toNatClampNeg))
  refine jr_aload_n hF dL_law_1493 1 rfl rfl ?_
  show lt_J X 255 10777 ly_F _ 1494 [(0, .ref b), (1, .ref (lt_z X + 0)), (2, .ref (lt_z X + 233)), (3, .int i)] [.ref (lt_z X + 0)]
  refine jr_aload_n hF dL_law_1494 0 rfl rfl ?_
  show lt_J X 255 10777 ly_F _ 1495 [(0, .ref b), (1, .ref (lt_z X + 0)), (2, .ref (lt_z X + 233)), (3, .int i)] [.ref b, .ref (lt_z X + 0)]
  refine jr_iload_n hF dL_law_1495 3 rfl rfl ?_
  show lt_J X 255 10777 ly_F _ 1496 [(0, .ref b), (1, .ref (lt_z X + 0)), (2, .ref (lt_z X + 233)), (3, .int i)] [.int i, .ref b, .ref (lt_z X + 0)]
  refine jr_iconst (v := 1) hF dL_law_1496 rfl ?_
  show lt_J X 255 10777 ly_F _ 1497 [(0, .ref b), (1, .ref (lt_z X + 0)), (2, .ref (lt_z X + 233)), (3, .int i)] [.int (1), .int i, .ref b, .ref (lt_z X + 0)]
  refine jr_iadd hF dL_law_1497 ?_
  show lt_J X 255 10777 ly_F _ 1498 [(0, .ref b), (1, .ref (lt_z X + 0)), (2, .ref (lt_z X + 233)), (3, .int i)] [.int (i + 1), .ref b, .ref (lt_z X + 0)]
  refine jr_sl hF hX hv.2.1 dL_law_1498 ?_
  show lt_J X 255 10777 ly_F _ 1499 [(0, .ref b), (1, .ref (lt_z X + 0)), (2, .ref (lt_z X + 233)), (3, .int i)] [.int (xs ((i + 1)).toNatClampNeg), .ref (lt_z X + 0)]
  refine jr_aload_n hF dL_law_1499 0 rfl rfl ?_
  show lt_J X 255 10777 ly_F _ 1500 [(0, .ref b), (1, .ref (lt_z X + 0)), (2, .ref (lt_z X + 233)), (3, .int i)] [.ref b, .int (xs ((i + 1)).toNatClampNeg), .ref (lt_z X + 0)]
  refine jr_iload_n hF dL_law_1500 3 rfl rfl ?_
  show lt_J X 255 10777 ly_F _ 1501 [(0, .ref b), (1, .ref (lt_z X + 0)), (2, .ref (lt_z X + 233)), (3, .int i)] [.int i, .ref b, .int (xs ((i + 1)).toNatClampNeg), .ref (lt_z X + 0)]
  refine jr_iconst (v := 2) hF dL_law_1501 rfl ?_
  show lt_J X 255 10777 ly_F _ 1502 [(0, .ref b), (1, .ref (lt_z X + 0)), (2, .ref (lt_z X + 233)), (3, .int i)] [.int (2), .int i, .ref b, .int (xs ((i + 1)).toNatClampNeg), .ref (lt_z X + 0)]
  refine jr_iadd hF dL_law_1502 ?_
  show lt_J X 255 10777 ly_F _ 1503 [(0, .ref b), (1, .ref (lt_z X + 0)), (2, .ref (lt_z X + 233)), (3, .int i)] [.int (i + 2), .ref b, .int (xs ((i + 1)).toNatClampNeg), .ref (lt_z X + 0)]
  refine jr_sl hF hX hv.2.2.1 dL_law_1503 ?_
  show lt_J X 255 10777 ly_F _ 1504 [(0, .ref b), (1, .ref (lt_z X + 0)), (2, .ref (lt_z X + 233)), (3, .int i)] [.int (xs ((i + 2)).toNatClampNeg), .int (xs ((i + 1)).toNatClampNeg), .ref (lt_z X + 0)]
  refine jr_aload_n hF dL_law_1504 0 rfl rfl ?_
  show lt_J X 255 10777 ly_F _ 1505 [(0, .ref b), (1, .ref (lt_z X + 0)), (2, .ref (lt_z X + 233)), (3, .int i)] [.ref b, .int (xs ((i + 2)).toNatClampNeg), .int (xs ((i + 1)).toNatClampNeg), .ref (lt_z X + 0)]
  refine jr_iload_n hF dL_law_1505 3 rfl rfl ?_
  show lt_J X 255 10777 ly_F _ 1506 [(0, .ref b), (1, .ref (lt_z X + 0)), (2, .ref (lt_z X + 233)), (3, .int i)] [.int i, .ref b, .int (xs ((i + 2)).toNatClampNeg), .int (xs ((i + 1)).toNatClampNeg), .ref (lt_z X + 0)]
  refine jr_iconst (v := 3) hF dL_law_1506 rfl ?_
  show lt_J X 255 10777 ly_F _ 1507 [(0, .ref b), (1, .ref (lt_z X + 0)), (2, .ref (lt_z X + 233)), (3, .int i)] [.int (3), .int i, .ref b, .int (xs ((i + 2)).toNatClampNeg), .int (xs ((i + 1)).toNatClampNeg), .ref (lt_z X + 0)]
  refine jr_iadd hF dL_law_1507 ?_
  show lt_J X 255 10777 ly_F _ 1508 [(0, .ref b), (1, .ref (lt_z X + 0)), (2, .ref (lt_z X + 233)), (3, .int i)] [.int (i + 3), .ref b, .int (xs ((i + 2)).toNatClampNeg), .int (xs ((i + 1)).toNatClampNeg), .ref (lt_z X + 0)]
  refine jr_sl hF hX hv.2.2.2.1 dL_law_1508 ?_
  show lt_J X 255 10777 ly_F _ 1509 [(0, .ref b), (1, .ref (lt_z X + 0)), (2, .ref (lt_z X + 233)), (3, .int i)] [.int (xs ((i + 3)).toNatClampNeg), .int (xs ((i + 2)).toNatClampNeg), .int (xs ((i + 1)).toNatClampNeg), .ref (lt_z X + 0)]
  refine jr_callV (As := [.int (xs ((i + 1)).toNatClampNeg), .int (xs ((i + 2)).toNatClampNeg), .int (xs ((i + 3)).toNatClampNeg)]) (st := []) hF ml_L_196 (c_X11_moveOf ly_FT ly_F0 e1) ly_F0 rfl ⟨Nat.le_of_ble_eq_true rfl, Nat.le_of_ble_eq_true rfl⟩ ⟨Nat.le_of_ble_eq_true rfl, Nat.le_of_ble_eq_true rfl⟩ (Nat.le_of_ble_eq_true rfl) dL_law_1509 ?_
  show lt_J X 255 10777 ly_F _ 1512 [(0, .ref b), (1, .ref (lt_z X + 0)), (2, .ref (lt_z X + 233)), (3, .int i)] [.int r]
  refine jr_aload_n hF dL_law_1512 2 rfl rfl ?_
  show lt_J X 255 10777 ly_F _ 1513 [(0, .ref b), (1, .ref (lt_z X + 0)), (2, .ref (lt_z X + 233)), (3, .int i)] [.ref (lt_z X + 233), .int r]
  refine jr_aload_n hF dL_law_1513 0 rfl rfl ?_
  show lt_J X 255 10777 ly_F _ 1514 [(0, .ref b), (1, .ref (lt_z X + 0)), (2, .ref (lt_z X + 233)), (3, .int i)] [.ref b, .ref (lt_z X + 233), .int r]
  refine jr_iload_n hF dL_law_1514 3 rfl rfl ?_
  show lt_J X 255 10777 ly_F _ 1515 [(0, .ref b), (1, .ref (lt_z X + 0)), (2, .ref (lt_z X + 233)), (3, .int i)] [.int i, .ref b, .ref (lt_z X + 233), .int r]
  refine jr_iconst (v := 1) hF dL_law_1515 rfl ?_
  show lt_J X 255 10777 ly_F _ 1516 [(0, .ref b), (1, .ref (lt_z X + 0)), (2, .ref (lt_z X + 233)), (3, .int i)] [.int (1), .int i, .ref b, .ref (lt_z X + 233), .int r]
  refine jr_iadd hF dL_law_1516 ?_
  show lt_J X 255 10777 ly_F _ 1517 [(0, .ref b), (1, .ref (lt_z X + 0)), (2, .ref (lt_z X + 233)), (3, .int i)] [.int (i + 1), .ref b, .ref (lt_z X + 233), .int r]
  refine jr_sl hF hX hv.2.1 dL_law_1517 ?_
  show lt_J X 255 10777 ly_F _ 1518 [(0, .ref b), (1, .ref (lt_z X + 0)), (2, .ref (lt_z X + 233)), (3, .int i)] [.int (xs ((i + 1)).toNatClampNeg), .ref (lt_z X + 233), .int r]
  refine jr_aload_n hF dL_law_1518 0 rfl rfl ?_
  show lt_J X 255 10777 ly_F _ 1519 [(0, .ref b), (1, .ref (lt_z X + 0)), (2, .ref (lt_z X + 233)), (3, .int i)] [.ref b, .int (xs ((i + 1)).toNatClampNeg), .ref (lt_z X + 233), .int r]
  refine jr_iload_n hF dL_law_1519 3 rfl rfl ?_
  show lt_J X 255 10777 ly_F _ 1520 [(0, .ref b), (1, .ref (lt_z X + 0)), (2, .ref (lt_z X + 233)), (3, .int i)] [.int i, .ref b, .int (xs ((i + 1)).toNatClampNeg), .ref (lt_z X + 233), .int r]
  refine jr_iconst (v := 2) hF dL_law_1520 rfl ?_
  show lt_J X 255 10777 ly_F _ 1521 [(0, .ref b), (1, .ref (lt_z X + 0)), (2, .ref (lt_z X + 233)), (3, .int i)] [.int (2), .int i, .ref b, .int (xs ((i + 1)).toNatClampNeg), .ref (lt_z X + 233), .int r]
  refine jr_iadd hF dL_law_1521 ?_
  show lt_J X 255 10777 ly_F _ 1522 [(0, .ref b), (1, .ref (lt_z X + 0)), (2, .ref (lt_z X + 233)), (3, .int i)] [.int (i + 2), .ref b, .int (xs ((i + 1)).toNatClampNeg), .ref (lt_z X + 233), .int r]
  refine jr_sl hF hX hv.2.2.1 dL_law_1522 ?_
  show lt_J X 255 10777 ly_F _ 1523 [(0, .ref b), (1, .ref (lt_z X + 0)), (2, .ref (lt_z X + 233)), (3, .int i)] [.int (xs ((i + 2)).toNatClampNeg), .int (xs ((i + 1)).toNatClampNeg), .ref (lt_z X + 233), .int r]
  refine jr_aload_n hF dL_law_1523 0 rfl rfl ?_
  show lt_J X 255 10777 ly_F _ 1524 [(0, .ref b), (1, .ref (lt_z X + 0)), (2, .ref (lt_z X + 233)), (3, .int i)] [.ref b, .int (xs ((i + 2)).toNatClampNeg), .int (xs ((i + 1)).toNatClampNeg), .ref (lt_z X + 233), .int r]
  refine jr_iload_n hF dL_law_1524 3 rfl rfl ?_
  show lt_J X 255 10777 ly_F _ 1525 [(0, .ref b), (1, .ref (lt_z X + 0)), (2, .ref (lt_z X + 233)), (3, .int i)] [.int i, .ref b, .int (xs ((i + 2)).toNatClampNeg), .int (xs ((i + 1)).toNatClampNeg), .ref (lt_z X + 233), .int r]
  refine jr_iconst (v := 3) hF dL_law_1525 rfl ?_
  show lt_J X 255 10777 ly_F _ 1526 [(0, .ref b), (1, .ref (lt_z X + 0)), (2, .ref (lt_z X + 233)), (3, .int i)] [.int (3), .int i, .ref b, .int (xs ((i + 2)).toNatClampNeg), .int (xs ((i + 1)).toNatClampNeg), .ref (lt_z X + 233), .int r]
  refine jr_iadd hF dL_law_1526 ?_
  show lt_J X 255 10777 ly_F _ 1527 [(0, .ref b), (1, .ref (lt_z X + 0)), (2, .ref (lt_z X + 233)), (3, .int i)] [.int (i + 3), .ref b, .int (xs ((i + 2)).toNatClampNeg), .int (xs ((i + 1)).toNatClampNeg), .ref (lt_z X + 233), .int r]
  refine jr_sl hF hX hv.2.2.2.1 dL_law_1527 ?_
  show lt_J X 255 10777 ly_F _ 1528 [(0, .ref b), (1, .ref (lt_z X + 0)), (2, .ref (lt_z X + 233)), (3, .int i)] [.int (xs ((i + 3)).toNatClampNeg), .int (xs ((i + 2)).toNatClampNeg), .int (xs ((i + 1)).toNatClampNeg), .ref (lt_z X + 233), .int r]
  refine jr_callV (As := [.int (xs ((i + 1)).toNatClampNeg), .int (xs ((i + 2)).toNatClampNeg), .int (xs ((i + 3)).toNatClampNeg)]) (st := [.int r]) hF ml_L_199 (c_X12_moveOf ly_FT ly_F233 e2) ly_F233 rfl ⟨Nat.le_of_ble_eq_true rfl, Nat.le_of_ble_eq_true rfl⟩ ⟨Nat.le_of_ble_eq_true rfl, Nat.le_of_ble_eq_true rfl⟩ (Nat.le_of_ble_eq_true rfl) dL_law_1528 ?_
  show lt_J X 255 10777 ly_F _ 1531 [(0, .ref b), (1, .ref (lt_z X + 0)), (2, .ref (lt_z X + 233)), (3, .int i)] [.int r, .int r]
  exact jr_icmp_eq (tgt := 1664) (g1 := some ()) (g2 := none) (r := ()) hF dL_law_1531 rfl (if_pos rfl) (fun _ => kk _ hR2) (fun z => by cases z)
set_option maxRecDepth 100000 in
theorem ll_43 (hF : lt_F X cL_law RL 4 room_1) (hX : ll_X X b L xs) (hv : ll_v i L) (hR : lr_R w) (kk : ∀ w', lr_R w' → lt_J X 255 10777 ly_F w' 1664 [(0, .ref b), (1, .ref (lt_z X + 0)), (2, .ref (lt_z X + 233)), (3, .int i)] []) : lt_J X 255 10777 ly_F w 1536 [(0, .ref b), (1, .ref (lt_z X + 0)), (2, .ref (lt_z X + 233)), (3, .int i)] [] := by
  obtain ⟨hst, A, h⟩ := id hR
  obtain ⟨r, w1, w2, e1, e2, hR2⟩ := op_copyWishes ly_FS h ((xs ((i + 1)).toNatClampNeg))
  refine jr_aload_n hF dL_law_1536 1 rfl rfl ?_
  show lt_J X 255 10777 ly_F _ 1537 [(0, .ref b), (1, .ref (lt_z X + 0)), (2, .ref (lt_z X + 233)), (3, .int i)] [.ref (lt_z X + 0)]
  refine jr_aload_n hF dL_law_1537 0 rfl rfl ?_
  show lt_J X 255 10777 ly_F _ 1538 [(0, .ref b), (1, .ref (lt_z X + 0)), (2, .ref (lt_z X + 233)), (3, .int i)] [.ref b, .ref (lt_z X + 0)]
  refine jr_iload_n hF dL_law_1538 3 rfl rfl ?_
  show lt_J X 255 10777 ly_F _ 1539 [(0, .ref b), (1, .ref (lt_z X + 0)), (2, .ref (lt_z X + 233)), (3, .int i)] [.int i, .ref b, .ref (lt_z X + 0)]
  refine jr_iconst (v := 1) hF dL_law_1539 rfl ?_
  show lt_J X 255 10777 ly_F _ 1540 [(0, .ref b), (1, .ref (lt_z X + 0)), (2, .ref (lt_z X + 233)), (3, .int i)] [.int (1), .int i, .ref b, .ref (lt_z X + 0)]
  refine jr_iadd hF dL_law_1540 ?_
  show lt_J X 255 10777 ly_F _ 1541 [(0, .ref b), (1, .ref (lt_z X + 0)), (2, .ref (lt_z X + 233)), (3, .int i)] [.int (i + 1), .ref b, .ref (lt_z X + 0)]
  refine jr_sl hF hX hv.2.1 dL_law_1541 ?_
  show lt_J X 255 10777 ly_F _ 1542 [(0, .ref b), (1, .ref (lt_z X + 0)), (2, .ref (lt_z X + 233)), (3, .int i)] [.int (xs ((i + 1)).toNatClampNeg), .ref (lt_z X + 0)]
  refine jr_callV (As := [.int (xs ((i + 1)).toNatClampNeg)]) (st := []) hF ml_L_200 (c_X11_copyWishes ly_FT ly_F0 e1) ly_F0 rfl ⟨Nat.le_of_ble_eq_true rfl, Nat.le_of_ble_eq_true rfl⟩ ⟨Nat.le_of_ble_eq_true rfl, Nat.le_of_ble_eq_true rfl⟩ (Nat.le_of_ble_eq_true rfl) dL_law_1542 ?_
  show lt_J X 255 10777 ly_F _ 1545 [(0, .ref b), (1, .ref (lt_z X + 0)), (2, .ref (lt_z X + 233)), (3, .int i)] [.int r]
  refine jr_aload_n hF dL_law_1545 2 rfl rfl ?_
  show lt_J X 255 10777 ly_F _ 1546 [(0, .ref b), (1, .ref (lt_z X + 0)), (2, .ref (lt_z X + 233)), (3, .int i)] [.ref (lt_z X + 233), .int r]
  refine jr_aload_n hF dL_law_1546 0 rfl rfl ?_
  show lt_J X 255 10777 ly_F _ 1547 [(0, .ref b), (1, .ref (lt_z X + 0)), (2, .ref (lt_z X + 233)), (3, .int i)] [.ref b, .ref (lt_z X + 233), .int r]
  refine jr_iload_n hF dL_law_1547 3 rfl rfl ?_
  show lt_J X 255 10777 ly_F _ 1548 [(0, .ref b), (1, .ref (lt_z X + 0)), (2, .ref (lt_z X + 233)), (3, .int i)] [.int i, .ref b, .ref (lt_z X + 233), .int r]
  refine jr_iconst (v := 1) hF dL_law_1548 rfl ?_
  show lt_J X 255 10777 ly_F _ 1549 [(0, .ref b), (1, .ref (lt_z X + 0)), (2, .ref (lt_z X + 233)), (3, .int i)] [.int (1), .int i, .ref b, .ref (lt_z X + 233), .int r]
  refine jr_iadd hF dL_law_1549 ?_
  show lt_J X 255 10777 ly_F _ 1550 [(0, .ref b), (1, .ref (lt_z X + 0)), (2, .ref (lt_z X + 233)), (3, .int i)] [.int (i + 1), .ref b, .ref (lt_z X + 233), .int r]
  refine jr_sl hF hX hv.2.1 dL_law_1550 ?_
  show lt_J X 255 10777 ly_F _ 1551 [(0, .ref b), (1, .ref (lt_z X + 0)), (2, .ref (lt_z X + 233)), (3, .int i)] [.int (xs ((i + 1)).toNatClampNeg), .ref (lt_z X + 233), .int r]
  refine jr_callV (As := [.int (xs ((i + 1)).toNatClampNeg)]) (st := [.int r]) hF ml_L_203 (c_X12_copyWishes ly_FT ly_F233 e2) ly_F233 rfl ⟨Nat.le_of_ble_eq_true rfl, Nat.le_of_ble_eq_true rfl⟩ ⟨Nat.le_of_ble_eq_true rfl, Nat.le_of_ble_eq_true rfl⟩ (Nat.le_of_ble_eq_true rfl) dL_law_1551 ?_
  show lt_J X 255 10777 ly_F _ 1554 [(0, .ref b), (1, .ref (lt_z X + 0)), (2, .ref (lt_z X + 233)), (3, .int i)] [.int r, .int r]
  exact jr_icmp_eq (tgt := 1664) (g1 := some ()) (g2 := none) (r := ()) hF dL_law_1554 rfl (if_pos rfl) (fun _ => kk _ hR2) (fun z => by cases z)
set_option maxRecDepth 100000 in
theorem ll_44 (hF : lt_F X cL_law RL 4 room_1) (hX : ll_X X b L xs) (hv : ll_v i L) (hR : lr_R w) (kk : ∀ w', lr_R w' → lt_J X 255 10777 ly_F w' 1664 [(0, .ref b), (1, .ref (lt_z X + 0)), (2, .ref (lt_z X + 233)), (3, .int i)] []) : lt_J X 255 10777 ly_F w 1559 [(0, .ref b), (1, .ref (lt_z X + 0)), (2, .ref (lt_z X + 233)), (3, .int i)] [] := by
  obtain ⟨hst, A, h⟩ := id hR
  obtain ⟨r, w1, w2, e1, e2, hR2⟩ := op_live ly_FS h ((xs ((i + 1)).toNatClampNeg))
  refine jr_aload_n hF dL_law_1559 1 rfl rfl ?_
  show lt_J X 255 10777 ly_F _ 1560 [(0, .ref b), (1, .ref (lt_z X + 0)), (2, .ref (lt_z X + 233)), (3, .int i)] [.ref (lt_z X + 0)]
  refine jr_aload_n hF dL_law_1560 0 rfl rfl ?_
  show lt_J X 255 10777 ly_F _ 1561 [(0, .ref b), (1, .ref (lt_z X + 0)), (2, .ref (lt_z X + 233)), (3, .int i)] [.ref b, .ref (lt_z X + 0)]
  refine jr_iload_n hF dL_law_1561 3 rfl rfl ?_
  show lt_J X 255 10777 ly_F _ 1562 [(0, .ref b), (1, .ref (lt_z X + 0)), (2, .ref (lt_z X + 233)), (3, .int i)] [.int i, .ref b, .ref (lt_z X + 0)]
  refine jr_iconst (v := 1) hF dL_law_1562 rfl ?_
  show lt_J X 255 10777 ly_F _ 1563 [(0, .ref b), (1, .ref (lt_z X + 0)), (2, .ref (lt_z X + 233)), (3, .int i)] [.int (1), .int i, .ref b, .ref (lt_z X + 0)]
  refine jr_iadd hF dL_law_1563 ?_
  show lt_J X 255 10777 ly_F _ 1564 [(0, .ref b), (1, .ref (lt_z X + 0)), (2, .ref (lt_z X + 233)), (3, .int i)] [.int (i + 1), .ref b, .ref (lt_z X + 0)]
  refine jr_sl hF hX hv.2.1 dL_law_1564 ?_
  show lt_J X 255 10777 ly_F _ 1565 [(0, .ref b), (1, .ref (lt_z X + 0)), (2, .ref (lt_z X + 233)), (3, .int i)] [.int (xs ((i + 1)).toNatClampNeg), .ref (lt_z X + 0)]
  refine jr_callV (As := [.int (xs ((i + 1)).toNatClampNeg)]) (st := []) hF ml_L_204 (c_X11_live ly_FT ly_F0 e1) ly_F0 rfl ⟨Nat.le_of_ble_eq_true rfl, Nat.le_of_ble_eq_true rfl⟩ ⟨Nat.le_of_ble_eq_true rfl, Nat.le_of_ble_eq_true rfl⟩ (Nat.le_of_ble_eq_true rfl) dL_law_1565 ?_
  show lt_J X 255 10777 ly_F _ 1568 [(0, .ref b), (1, .ref (lt_z X + 0)), (2, .ref (lt_z X + 233)), (3, .int i)] [.int r]
  refine jr_aload_n hF dL_law_1568 2 rfl rfl ?_
  show lt_J X 255 10777 ly_F _ 1569 [(0, .ref b), (1, .ref (lt_z X + 0)), (2, .ref (lt_z X + 233)), (3, .int i)] [.ref (lt_z X + 233), .int r]
  refine jr_aload_n hF dL_law_1569 0 rfl rfl ?_
  show lt_J X 255 10777 ly_F _ 1570 [(0, .ref b), (1, .ref (lt_z X + 0)), (2, .ref (lt_z X + 233)), (3, .int i)] [.ref b, .ref (lt_z X + 233), .int r]
  refine jr_iload_n hF dL_law_1570 3 rfl rfl ?_
  show lt_J X 255 10777 ly_F _ 1571 [(0, .ref b), (1, .ref (lt_z X + 0)), (2, .ref (lt_z X + 233)), (3, .int i)] [.int i, .ref b, .ref (lt_z X + 233), .int r]
  refine jr_iconst (v := 1) hF dL_law_1571 rfl ?_
  show lt_J X 255 10777 ly_F _ 1572 [(0, .ref b), (1, .ref (lt_z X + 0)), (2, .ref (lt_z X + 233)), (3, .int i)] [.int (1), .int i, .ref b, .ref (lt_z X + 233), .int r]
  refine jr_iadd hF dL_law_1572 ?_
  show lt_J X 255 10777 ly_F _ 1573 [(0, .ref b), (1, .ref (lt_z X + 0)), (2, .ref (lt_z X + 233)), (3, .int i)] [.int (i + 1), .ref b, .ref (lt_z X + 233), .int r]
  refine jr_sl hF hX hv.2.1 dL_law_1573 ?_
  show lt_J X 255 10777 ly_F _ 1574 [(0, .ref b), (1, .ref (lt_z X + 0)), (2, .ref (lt_z X + 233)), (3, .int i)] [.int (xs ((i + 1)).toNatClampNeg), .ref (lt_z X + 233), .int r]
  refine jr_callV (As := [.int (xs ((i + 1)).toNatClampNeg)]) (st := [.int r]) hF ml_L_207 (c_X12_live ly_FT ly_F233 e2) ly_F233 rfl ⟨Nat.le_of_ble_eq_true rfl, Nat.le_of_ble_eq_true rfl⟩ ⟨Nat.le_of_ble_eq_true rfl, Nat.le_of_ble_eq_true rfl⟩ (Nat.le_of_ble_eq_true rfl) dL_law_1574 ?_
  show lt_J X 255 10777 ly_F _ 1577 [(0, .ref b), (1, .ref (lt_z X + 0)), (2, .ref (lt_z X + 233)), (3, .int i)] [.int r, .int r]
  exact jr_icmp_eq (tgt := 1664) (g1 := some ()) (g2 := none) (r := ()) hF dL_law_1577 rfl (if_pos rfl) (fun _ => kk _ hR2) (fun z => by cases z)
set_option maxRecDepth 100000 in
theorem ll_45 (hF : lt_F X cL_law RL 4 room_1) (hX : ll_X X b L xs) (hv : ll_v i L) (hR : lr_R w) (kk : ∀ w', lr_R w' → lt_J X 255 10777 ly_F w' 1664 [(0, .ref b), (1, .ref (lt_z X + 0)), (2, .ref (lt_z X + 233)), (3, .int i)] []) : lt_J X 255 10777 ly_F w 1582 [(0, .ref b), (1, .ref (lt_z X + 0)), (2, .ref (lt_z X + 233)), (3, .int i)] [] := by
  obtain ⟨hst, A, h⟩ := id hR
  obtain ⟨r, w1, w2, e1, e2, hR2⟩ := op_lived ly_FS h ((xs ((i + 1)).toNatClampNeg))
  refine jr_aload_n hF dL_law_1582 1 rfl rfl ?_
  show lt_J X 255 10777 ly_F _ 1583 [(0, .ref b), (1, .ref (lt_z X + 0)), (2, .ref (lt_z X + 233)), (3, .int i)] [.ref (lt_z X + 0)]
  refine jr_aload_n hF dL_law_1583 0 rfl rfl ?_
  show lt_J X 255 10777 ly_F _ 1584 [(0, .ref b), (1, .ref (lt_z X + 0)), (2, .ref (lt_z X + 233)), (3, .int i)] [.ref b, .ref (lt_z X + 0)]
  refine jr_iload_n hF dL_law_1584 3 rfl rfl ?_
  show lt_J X 255 10777 ly_F _ 1585 [(0, .ref b), (1, .ref (lt_z X + 0)), (2, .ref (lt_z X + 233)), (3, .int i)] [.int i, .ref b, .ref (lt_z X + 0)]
  refine jr_iconst (v := 1) hF dL_law_1585 rfl ?_
  show lt_J X 255 10777 ly_F _ 1586 [(0, .ref b), (1, .ref (lt_z X + 0)), (2, .ref (lt_z X + 233)), (3, .int i)] [.int (1), .int i, .ref b, .ref (lt_z X + 0)]
  refine jr_iadd hF dL_law_1586 ?_
  show lt_J X 255 10777 ly_F _ 1587 [(0, .ref b), (1, .ref (lt_z X + 0)), (2, .ref (lt_z X + 233)), (3, .int i)] [.int (i + 1), .ref b, .ref (lt_z X + 0)]
  refine jr_sl hF hX hv.2.1 dL_law_1587 ?_
  show lt_J X 255 10777 ly_F _ 1588 [(0, .ref b), (1, .ref (lt_z X + 0)), (2, .ref (lt_z X + 233)), (3, .int i)] [.int (xs ((i + 1)).toNatClampNeg), .ref (lt_z X + 0)]
  refine jr_callV (As := [.int (xs ((i + 1)).toNatClampNeg)]) (st := []) hF ml_L_208 (c_X11_lived ly_FT ly_F0 e1) ly_F0 rfl ⟨Nat.le_of_ble_eq_true rfl, Nat.le_of_ble_eq_true rfl⟩ ⟨Nat.le_of_ble_eq_true rfl, Nat.le_of_ble_eq_true rfl⟩ (Nat.le_of_ble_eq_true rfl) dL_law_1588 ?_
  show lt_J X 255 10777 ly_F _ 1591 [(0, .ref b), (1, .ref (lt_z X + 0)), (2, .ref (lt_z X + 233)), (3, .int i)] [.int r]
  refine jr_aload_n hF dL_law_1591 2 rfl rfl ?_
  show lt_J X 255 10777 ly_F _ 1592 [(0, .ref b), (1, .ref (lt_z X + 0)), (2, .ref (lt_z X + 233)), (3, .int i)] [.ref (lt_z X + 233), .int r]
  refine jr_aload_n hF dL_law_1592 0 rfl rfl ?_
  show lt_J X 255 10777 ly_F _ 1593 [(0, .ref b), (1, .ref (lt_z X + 0)), (2, .ref (lt_z X + 233)), (3, .int i)] [.ref b, .ref (lt_z X + 233), .int r]
  refine jr_iload_n hF dL_law_1593 3 rfl rfl ?_
  show lt_J X 255 10777 ly_F _ 1594 [(0, .ref b), (1, .ref (lt_z X + 0)), (2, .ref (lt_z X + 233)), (3, .int i)] [.int i, .ref b, .ref (lt_z X + 233), .int r]
  refine jr_iconst (v := 1) hF dL_law_1594 rfl ?_
  show lt_J X 255 10777 ly_F _ 1595 [(0, .ref b), (1, .ref (lt_z X + 0)), (2, .ref (lt_z X + 233)), (3, .int i)] [.int (1), .int i, .ref b, .ref (lt_z X + 233), .int r]
  refine jr_iadd hF dL_law_1595 ?_
  show lt_J X 255 10777 ly_F _ 1596 [(0, .ref b), (1, .ref (lt_z X + 0)), (2, .ref (lt_z X + 233)), (3, .int i)] [.int (i + 1), .ref b, .ref (lt_z X + 233), .int r]
  refine jr_sl hF hX hv.2.1 dL_law_1596 ?_
  show lt_J X 255 10777 ly_F _ 1597 [(0, .ref b), (1, .ref (lt_z X + 0)), (2, .ref (lt_z X + 233)), (3, .int i)] [.int (xs ((i + 1)).toNatClampNeg), .ref (lt_z X + 233), .int r]
  refine jr_callV (As := [.int (xs ((i + 1)).toNatClampNeg)]) (st := [.int r]) hF ml_L_211 (c_X12_lived ly_FT ly_F233 e2) ly_F233 rfl ⟨Nat.le_of_ble_eq_true rfl, Nat.le_of_ble_eq_true rfl⟩ ⟨Nat.le_of_ble_eq_true rfl, Nat.le_of_ble_eq_true rfl⟩ (Nat.le_of_ble_eq_true rfl) dL_law_1597 ?_
  show lt_J X 255 10777 ly_F _ 1600 [(0, .ref b), (1, .ref (lt_z X + 0)), (2, .ref (lt_z X + 233)), (3, .int i)] [.int r, .int r]
  exact jr_icmp_eq (tgt := 1664) (g1 := some ()) (g2 := none) (r := ()) hF dL_law_1600 rfl (if_pos rfl) (fun _ => kk _ hR2) (fun z => by cases z)
set_option maxRecDepth 100000 in
theorem ll_46 (hF : lt_F X cL_law RL 4 room_1) (hX : ll_X X b L xs) (hv : ll_v i L) (hR : lr_R w) (kk : ∀ w', lr_R w' → lt_J X 255 10777 ly_F w' 1664 [(0, .ref b), (1, .ref (lt_z X + 0)), (2, .ref (lt_z X + 233)), (3, .int i)] []) : lt_J X 255 10777 ly_F w 1605 [(0, .ref b), (1, .ref (lt_z X + 0)), (2, .ref (lt_z X + 233)), (3, .int i)] [] := by
  obtain ⟨hst, A, h⟩ := id hR
  obtain ⟨r, w1, w2, e1, e2, hR2⟩ := op_mean ly_FS h ((xs ((i + 1)).toNatClampNeg)) ((xs ((i + 2)).toNatClampNeg))
  refine jr_aload_n hF dL_law_1605 1 rfl rfl ?_
  show lt_J X 255 10777 ly_F _ 1606 [(0, .ref b), (1, .ref (lt_z X + 0)), (2, .ref (lt_z X + 233)), (3, .int i)] [.ref (lt_z X + 0)]
  refine jr_aload_n hF dL_law_1606 0 rfl rfl ?_
  show lt_J X 255 10777 ly_F _ 1607 [(0, .ref b), (1, .ref (lt_z X + 0)), (2, .ref (lt_z X + 233)), (3, .int i)] [.ref b, .ref (lt_z X + 0)]
  refine jr_iload_n hF dL_law_1607 3 rfl rfl ?_
  show lt_J X 255 10777 ly_F _ 1608 [(0, .ref b), (1, .ref (lt_z X + 0)), (2, .ref (lt_z X + 233)), (3, .int i)] [.int i, .ref b, .ref (lt_z X + 0)]
  refine jr_iconst (v := 1) hF dL_law_1608 rfl ?_
  show lt_J X 255 10777 ly_F _ 1609 [(0, .ref b), (1, .ref (lt_z X + 0)), (2, .ref (lt_z X + 233)), (3, .int i)] [.int (1), .int i, .ref b, .ref (lt_z X + 0)]
  refine jr_iadd hF dL_law_1609 ?_
  show lt_J X 255 10777 ly_F _ 1610 [(0, .ref b), (1, .ref (lt_z X + 0)), (2, .ref (lt_z X + 233)), (3, .int i)] [.int (i + 1), .ref b, .ref (lt_z X + 0)]
  refine jr_sl hF hX hv.2.1 dL_law_1610 ?_
  show lt_J X 255 10777 ly_F _ 1611 [(0, .ref b), (1, .ref (lt_z X + 0)), (2, .ref (lt_z X + 233)), (3, .int i)] [.int (xs ((i + 1)).toNatClampNeg), .ref (lt_z X + 0)]
  refine jr_aload_n hF dL_law_1611 0 rfl rfl ?_
  show lt_J X 255 10777 ly_F _ 1612 [(0, .ref b), (1, .ref (lt_z X + 0)), (2, .ref (lt_z X + 233)), (3, .int i)] [.ref b, .int (xs ((i + 1)).toNatClampNeg), .ref (lt_z X + 0)]
  refine jr_iload_n hF dL_law_1612 3 rfl rfl ?_
  show lt_J X 255 10777 ly_F _ 1613 [(0, .ref b), (1, .ref (lt_z X + 0)), (2, .ref (lt_z X + 233)), (3, .int i)] [.int i, .ref b, .int (xs ((i + 1)).toNatClampNeg), .ref (lt_z X + 0)]
  refine jr_iconst (v := 2) hF dL_law_1613 rfl ?_
  show lt_J X 255 10777 ly_F _ 1614 [(0, .ref b), (1, .ref (lt_z X + 0)), (2, .ref (lt_z X + 233)), (3, .int i)] [.int (2), .int i, .ref b, .int (xs ((i + 1)).toNatClampNeg), .ref (lt_z X + 0)]
  refine jr_iadd hF dL_law_1614 ?_
  show lt_J X 255 10777 ly_F _ 1615 [(0, .ref b), (1, .ref (lt_z X + 0)), (2, .ref (lt_z X + 233)), (3, .int i)] [.int (i + 2), .ref b, .int (xs ((i + 1)).toNatClampNeg), .ref (lt_z X + 0)]
  refine jr_sl hF hX hv.2.2.1 dL_law_1615 ?_
  show lt_J X 255 10777 ly_F _ 1616 [(0, .ref b), (1, .ref (lt_z X + 0)), (2, .ref (lt_z X + 233)), (3, .int i)] [.int (xs ((i + 2)).toNatClampNeg), .int (xs ((i + 1)).toNatClampNeg), .ref (lt_z X + 0)]
  refine jr_callV (As := [.int (xs ((i + 1)).toNatClampNeg), .int (xs ((i + 2)).toNatClampNeg)]) (st := []) hF ml_L_212 (c_X11_mean ly_FT ly_F0 e1) ly_F0 rfl ⟨Nat.le_of_ble_eq_true rfl, Nat.le_of_ble_eq_true rfl⟩ ⟨Nat.le_of_ble_eq_true rfl, Nat.le_of_ble_eq_true rfl⟩ (Nat.le_of_ble_eq_true rfl) dL_law_1616 ?_
  show lt_J X 255 10777 ly_F _ 1619 [(0, .ref b), (1, .ref (lt_z X + 0)), (2, .ref (lt_z X + 233)), (3, .int i)] [.int r]
  refine jr_aload_n hF dL_law_1619 2 rfl rfl ?_
  show lt_J X 255 10777 ly_F _ 1620 [(0, .ref b), (1, .ref (lt_z X + 0)), (2, .ref (lt_z X + 233)), (3, .int i)] [.ref (lt_z X + 233), .int r]
  refine jr_aload_n hF dL_law_1620 0 rfl rfl ?_
  show lt_J X 255 10777 ly_F _ 1621 [(0, .ref b), (1, .ref (lt_z X + 0)), (2, .ref (lt_z X + 233)), (3, .int i)] [.ref b, .ref (lt_z X + 233), .int r]
  refine jr_iload_n hF dL_law_1621 3 rfl rfl ?_
  show lt_J X 255 10777 ly_F _ 1622 [(0, .ref b), (1, .ref (lt_z X + 0)), (2, .ref (lt_z X + 233)), (3, .int i)] [.int i, .ref b, .ref (lt_z X + 233), .int r]
  refine jr_iconst (v := 1) hF dL_law_1622 rfl ?_
  show lt_J X 255 10777 ly_F _ 1623 [(0, .ref b), (1, .ref (lt_z X + 0)), (2, .ref (lt_z X + 233)), (3, .int i)] [.int (1), .int i, .ref b, .ref (lt_z X + 233), .int r]
  refine jr_iadd hF dL_law_1623 ?_
  show lt_J X 255 10777 ly_F _ 1624 [(0, .ref b), (1, .ref (lt_z X + 0)), (2, .ref (lt_z X + 233)), (3, .int i)] [.int (i + 1), .ref b, .ref (lt_z X + 233), .int r]
  refine jr_sl hF hX hv.2.1 dL_law_1624 ?_
  show lt_J X 255 10777 ly_F _ 1625 [(0, .ref b), (1, .ref (lt_z X + 0)), (2, .ref (lt_z X + 233)), (3, .int i)] [.int (xs ((i + 1)).toNatClampNeg), .ref (lt_z X + 233), .int r]
  refine jr_aload_n hF dL_law_1625 0 rfl rfl ?_
  show lt_J X 255 10777 ly_F _ 1626 [(0, .ref b), (1, .ref (lt_z X + 0)), (2, .ref (lt_z X + 233)), (3, .int i)] [.ref b, .int (xs ((i + 1)).toNatClampNeg), .ref (lt_z X + 233), .int r]
  refine jr_iload_n hF dL_law_1626 3 rfl rfl ?_
  show lt_J X 255 10777 ly_F _ 1627 [(0, .ref b), (1, .ref (lt_z X + 0)), (2, .ref (lt_z X + 233)), (3, .int i)] [.int i, .ref b, .int (xs ((i + 1)).toNatClampNeg), .ref (lt_z X + 233), .int r]
  refine jr_iconst (v := 2) hF dL_law_1627 rfl ?_
  show lt_J X 255 10777 ly_F _ 1628 [(0, .ref b), (1, .ref (lt_z X + 0)), (2, .ref (lt_z X + 233)), (3, .int i)] [.int (2), .int i, .ref b, .int (xs ((i + 1)).toNatClampNeg), .ref (lt_z X + 233), .int r]
  refine jr_iadd hF dL_law_1628 ?_
  show lt_J X 255 10777 ly_F _ 1629 [(0, .ref b), (1, .ref (lt_z X + 0)), (2, .ref (lt_z X + 233)), (3, .int i)] [.int (i + 2), .ref b, .int (xs ((i + 1)).toNatClampNeg), .ref (lt_z X + 233), .int r]
  refine jr_sl hF hX hv.2.2.1 dL_law_1629 ?_
  show lt_J X 255 10777 ly_F _ 1630 [(0, .ref b), (1, .ref (lt_z X + 0)), (2, .ref (lt_z X + 233)), (3, .int i)] [.int (xs ((i + 2)).toNatClampNeg), .int (xs ((i + 1)).toNatClampNeg), .ref (lt_z X + 233), .int r]
  refine jr_callV (As := [.int (xs ((i + 1)).toNatClampNeg), .int (xs ((i + 2)).toNatClampNeg)]) (st := [.int r]) hF ml_L_215 (c_X12_mean ly_FT ly_F233 e2) ly_F233 rfl ⟨Nat.le_of_ble_eq_true rfl, Nat.le_of_ble_eq_true rfl⟩ ⟨Nat.le_of_ble_eq_true rfl, Nat.le_of_ble_eq_true rfl⟩ (Nat.le_of_ble_eq_true rfl) dL_law_1630 ?_
  show lt_J X 255 10777 ly_F _ 1633 [(0, .ref b), (1, .ref (lt_z X + 0)), (2, .ref (lt_z X + 233)), (3, .int i)] [.int r, .int r]
  exact jr_icmp_eq (tgt := 1664) (g1 := some ()) (g2 := none) (r := ()) hF dL_law_1633 rfl (if_pos rfl) (fun _ => kk _ hR2) (fun z => by cases z)
set_option maxRecDepth 100000 in
theorem ll_47 (hF : lt_F X cL_law RL 4 room_1) (hX : ll_X X b L xs) (hv : ll_v i L) (hR : lr_R w) (kk : ∀ w', lr_R w' → lt_J X 255 10777 ly_F w' 1664 [(0, .ref b), (1, .ref (lt_z X + 0)), (2, .ref (lt_z X + 233)), (3, .int i)] []) : lt_J X 255 10777 ly_F w 1638 [(0, .ref b), (1, .ref (lt_z X + 0)), (2, .ref (lt_z X + 233)), (3, .int i)] [] := by
  obtain ⟨hst, A, h⟩ := id hR
  obtain ⟨r, w1, w2, e1, e2, hR2⟩ := op_mark ly_FS h
  refine jr_aload_n hF dL_law_1638 1 rfl rfl ?_
  show lt_J X 255 10777 ly_F _ 1639 [(0, .ref b), (1, .ref (lt_z X + 0)), (2, .ref (lt_z X + 233)), (3, .int i)] [.ref (lt_z X + 0)]
  refine jr_callV (As := []) (st := []) hF ml_L_216 (c_X11_mark ly_FT ly_F0 e1) ly_F0 rfl ⟨Nat.le_of_ble_eq_true rfl, Nat.le_of_ble_eq_true rfl⟩ ⟨Nat.le_of_ble_eq_true rfl, Nat.le_of_ble_eq_true rfl⟩ (Nat.le_of_ble_eq_true rfl) dL_law_1639 ?_
  show lt_J X 255 10777 ly_F _ 1642 [(0, .ref b), (1, .ref (lt_z X + 0)), (2, .ref (lt_z X + 233)), (3, .int i)] [.int r]
  refine jr_aload_n hF dL_law_1642 2 rfl rfl ?_
  show lt_J X 255 10777 ly_F _ 1643 [(0, .ref b), (1, .ref (lt_z X + 0)), (2, .ref (lt_z X + 233)), (3, .int i)] [.ref (lt_z X + 233), .int r]
  refine jr_callV (As := []) (st := [.int r]) hF ml_L_219 (c_X12_mark ly_FT ly_F233 e2) ly_F233 rfl ⟨Nat.le_of_ble_eq_true rfl, Nat.le_of_ble_eq_true rfl⟩ ⟨Nat.le_of_ble_eq_true rfl, Nat.le_of_ble_eq_true rfl⟩ (Nat.le_of_ble_eq_true rfl) dL_law_1643 ?_
  show lt_J X 255 10777 ly_F _ 1646 [(0, .ref b), (1, .ref (lt_z X + 0)), (2, .ref (lt_z X + 233)), (3, .int i)] [.int r, .int r]
  exact jr_icmp_eq (tgt := 1664) (g1 := some ()) (g2 := none) (r := ()) hF dL_law_1646 rfl (if_pos rfl) (fun _ => kk _ hR2) (fun z => by cases z)
set_option maxRecDepth 100000 in
theorem ll_48 (hF : lt_F X cL_law RL 4 room_1) (hX : ll_X X b L xs) (hv : ll_v i L) (hR : lr_R w) (kk : ∀ w', lr_R w' → lt_J X 255 10777 ly_F w' 1664 [(0, .ref b), (1, .ref (lt_z X + 0)), (2, .ref (lt_z X + 233)), (3, .int i)] []) : lt_J X 255 10777 ly_F w 1651 [(0, .ref b), (1, .ref (lt_z X + 0)), (2, .ref (lt_z X + 233)), (3, .int i)] [] := by
  obtain ⟨hst, A, h⟩ := id hR
  obtain ⟨r, w1, w2, e1, e2, hR2⟩ := op_undo ly_FS h
  refine jr_aload_n hF dL_law_1651 1 rfl rfl ?_
  show lt_J X 255 10777 ly_F _ 1652 [(0, .ref b), (1, .ref (lt_z X + 0)), (2, .ref (lt_z X + 233)), (3, .int i)] [.ref (lt_z X + 0)]
  refine jr_callV (As := []) (st := []) hF ml_L_220 (c_X11_undo ly_FT ly_F0 e1) ly_F0 rfl ⟨Nat.le_of_ble_eq_true rfl, Nat.le_of_ble_eq_true rfl⟩ ⟨Nat.le_of_ble_eq_true rfl, Nat.le_of_ble_eq_true rfl⟩ (Nat.le_of_ble_eq_true rfl) dL_law_1652 ?_
  show lt_J X 255 10777 ly_F _ 1655 [(0, .ref b), (1, .ref (lt_z X + 0)), (2, .ref (lt_z X + 233)), (3, .int i)] [.int r]
  refine jr_aload_n hF dL_law_1655 2 rfl rfl ?_
  show lt_J X 255 10777 ly_F _ 1656 [(0, .ref b), (1, .ref (lt_z X + 0)), (2, .ref (lt_z X + 233)), (3, .int i)] [.ref (lt_z X + 233), .int r]
  refine jr_callV (As := []) (st := [.int r]) hF ml_L_223 (c_X12_undo ly_FT ly_F233 e2) ly_F233 rfl ⟨Nat.le_of_ble_eq_true rfl, Nat.le_of_ble_eq_true rfl⟩ ⟨Nat.le_of_ble_eq_true rfl, Nat.le_of_ble_eq_true rfl⟩ (Nat.le_of_ble_eq_true rfl) dL_law_1656 ?_
  show lt_J X 255 10777 ly_F _ 1659 [(0, .ref b), (1, .ref (lt_z X + 0)), (2, .ref (lt_z X + 233)), (3, .int i)] [.int r, .int r]
  exact jr_icmp_eq (tgt := 1664) (g1 := some ()) (g2 := none) (r := ()) hF dL_law_1659 rfl (if_pos rfl) (fun _ => kk _ hR2) (fun z => by cases z)
end LLCASES
