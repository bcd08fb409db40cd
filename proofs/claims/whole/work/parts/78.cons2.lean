/-! the next constructors -/
theorem lyq_26 : Cond.methodLink RX6 3 Lib.objectInit ∈ lt_tb := (lt_m2 28 rfl rfl)
theorem lyq_27 : Cond.classLink RX6 9 RX5 ∈ lt_tb := (lt_m2 29 rfl rfl)
theorem lyq_28 : Cond.instantiable RX5 17 ∈ lt_tb := (lt_m1 105 rfl rfl)
theorem lyq_29 : Cond.initialized RX5 ∈ lt_tb := (lt_m1 4 rfl rfl)
theorem mi_X6_11 : lt_MI RX6 11 yX5_init cX5_init 1 0 := ⟨⟨(lt_m2 30 rfl rfl), (lt_m1 107 rfl rfl), (lt_m1 4 rfl rfl), (lt_m1 108 rfl rfl)⟩, rfl, by decide +kernel, by decide +kernel, by decide +kernel⟩
theorem lyf_X6_12 : Cond.fieldLink RX6 12 (TX6 1).1 (TX6 1).2.1 (TX6 1).2.2.1 ∈ lt_tb := (lt_m2 32 rfl rfl)
theorem lyf_X6_18 : Cond.fieldLink RX6 18 (TX6 0).1 (TX6 0).2.1 (TX6 0).2.2.1 ∈ lt_tb := (lt_m2 31 rfl rfl)
theorem lyq_33 : Cond.methodLink RX10 3 Lib.objectInit ∈ lt_tb := (lt_m2 47 rfl rfl)
theorem lyq_34 : Cond.classLink RX10 9 RX9 ∈ lt_tb := (lt_m2 48 rfl rfl)
theorem lyq_35 : Cond.instantiable RX9 9 ∈ lt_tb := (lt_m1 211 rfl rfl)
theorem lyq_36 : Cond.initialized RX9 ∈ lt_tb := (lt_m1 5 rfl rfl)
theorem mi_X10_11 : lt_MIN RX10 11 yX9_init RX11 cX9_init 1 0 := ⟨⟨(List.mem_of_getElem? (i := 402) (by decide +kernel)), (lt_m1 213 rfl rfl), (lt_m1 5 rfl rfl), (lt_m1 214 rfl rfl)⟩, rfl, by decide +kernel, by decide +kernel, by decide +kernel⟩
theorem lyf_X10_12 : Cond.fieldLink RX10 12 (TX10 2).1 (TX10 2).2.1 (TX10 2).2.2.1 ∈ lt_tb := (lt_m2 52 rfl rfl)
theorem lyf_X10_18 : Cond.fieldLink RX10 18 (TX10 3).1 (TX10 3).2.1 (TX10 3).2.2.1 ∈ lt_tb := (lt_m2 54 rfl rfl)
theorem lyf_X10_22 : Cond.fieldLink RX10 22 (TX10 0).1 (TX10 0).2.1 (TX10 0).2.2.1 ∈ lt_tb := (lt_m2 50 rfl rfl)
theorem lyf_X10_26 : Cond.fieldLink RX10 26 (TX10 1).1 (TX10 1).2.1 (TX10 1).2.2.1 ∈ lt_tb := (lt_m2 51 rfl rfl)
theorem lyq_42 : Cond.methodLink RX0 3 Lib.objectInit ∈ lt_tb := (lt_m2 72 rfl rfl)
theorem lyq_43 : Cond.classLink RX0 9 RX5 ∈ lt_tb := (lt_m2 73 rfl rfl)
theorem mi_X0_11 : lt_MI RX0 11 yX5_init cX5_init 1 0 := ⟨⟨(lt_m2 74 rfl rfl), (lt_m1 107 rfl rfl), (lt_m1 4 rfl rfl), (lt_m1 108 rfl rfl)⟩, rfl, by decide +kernel, by decide +kernel, by decide +kernel⟩
theorem lyf_X0_12 : Cond.fieldLink RX0 12 (TX0 1).1 (TX0 1).2.1 (TX0 1).2.2.1 ∈ lt_tb := (lt_m2 76 rfl rfl)
theorem lyf_X0_18 : Cond.fieldLink RX0 18 (TX0 0).1 (TX0 0).2.1 (TX0 0).2.2.1 ∈ lt_tb := (lt_m2 75 rfl rfl)
theorem lyq_47 : Cond.methodLink RX3 3 Lib.objectInit ∈ lt_tb := (lt_m2 95 rfl rfl)
theorem lyq_48 : Cond.classLink RX3 9 RX5 ∈ lt_tb := (lt_m2 96 rfl rfl)
theorem lyq_49 : Cond.arrayOver (.object "LoafTable$Table") ∈ lw_tbl := (List.mem_of_getElem? (i := 450) (by decide +kernel))
theorem lyf_X3_11 : Cond.fieldLink RX3 11 (TX3 1).1 (TX3 1).2.1 (TX3 1).2.2.1 ∈ lt_tb := (lt_m2 100 rfl rfl)
theorem lyf_X3_17 : Cond.fieldLink RX3 17 (TX3 2).1 (TX3 2).2.1 (TX3 2).2.2.1 ∈ lt_tb := (lt_m2 101 rfl rfl)
theorem lyf_X3_21 : Cond.fieldLink RX3 21 (TX3 3).1 (TX3 3).2.1 (TX3 3).2.2.1 ∈ lt_tb := (lt_m2 102 rfl rfl)
theorem lyf_X3_24 : Cond.fieldLink RX3 24 (TX3 0).1 (TX3 0).2.1 (TX3 0).2.2.1 ∈ lt_tb := (lt_m2 99 rfl rfl)
theorem mi_X3_28 : lt_MI RX3 28 yX5_init cX5_init 1 0 := ⟨⟨(lt_m2 98 rfl rfl), (lt_m1 107 rfl rfl), (lt_m1 4 rfl rfl), (lt_m1 108 rfl rfl)⟩, rfl, by decide +kernel, by decide +kernel, by decide +kernel⟩
def wI_X5_30 (w : lt_W) : lt_W := lyw_5 30 (w)
theorem zI_X5_30 {w : lt_W} (hz : ly_z w 31) : ly_z (wI_X5_30 w) 39 := by
  have hz1 := lyw_5_z (hz.up (Nat.le_of_ble_eq_true rfl : 31 ≤ 39)) (Nat.le_of_ble_eq_true rfl : 30 + 1 ≤ 39)
  exact hz1.up (Nat.le_of_ble_eq_true rfl)
set_option maxRecDepth 100000 in
set_option maxHeartbeats 4000000 in
theorem cI_X5_30 {l : Launch} {D : va_G} {gA : Nat → ClassId} {s0 : State} {w : lt_W} (hz : ly_z w 31) : lt_C l D gA s0 yX5_init cX5_init 1 none (lt_rmI 2 8 56) [.ref (s0.heap.size + 30)] (ly_S 31 28) w (ly_S 39 36) none (wI_X5_30 w) := by
  refine lt_enterI rfl rfl (Nat.le_of_ble_eq_true rfl) (fun X e1 e2 e3 e4 hF hI hE => ?_)
  subst e1 e2 e3 e4
  have hF : lt_F X cX5_init RX5 1 (lt_rmI 2 8 56) := hF
  show lt_J X 0 0 (ly_S 31 28) w 0 [(0, .ref (lt_z X + 30))] []
  refine jr_aload_n hF dX5_init_0 0 rfl rfl ?_
  show lt_J X 0 0 (ly_S 31 28) _ 1 [(0, .ref (lt_z X + 30))] [.ref (lt_z X + 30)]
  refine jr_objI hF lyq_8 lyq_1 lyq_2 ⟨Nat.le_of_ble_eq_true rfl, Nat.le_of_ble_eq_true rfl⟩ dX5_init_1 ?_
  show lt_J X 0 0 (ly_S 31 28) _ 4 [(0, .ref (lt_z X + 30))] []
  refine jr_aload_n hF dX5_init_4 0 rfl rfl ?_
  show lt_J X 0 0 (ly_S 31 28) _ 5 [(0, .ref (lt_z X + 30))] [.ref (lt_z X + 30)]
  refine jr_bipush (v := 7) hF dX5_init_5 rfl ?_
  show lt_J X 0 0 (ly_S 31 28) _ 7 [(0, .ref (lt_z X + 30))] [.int 7, .ref (lt_z X + 30)]
  refine jr_newa_long (len := 7) (n := 7) hF lyq_3 rfl rfl (by decide) (by decide) rfl hz ⟨Nat.le_of_ble_eq_true rfl, Nat.le_of_ble_eq_true rfl⟩ dX5_init_7 ?_
  show lt_J X 1 7 (ly_S 32 28) _ 9 [(0, .ref (lt_z X + 30))] [.ref (lt_z X + 31), .ref (lt_z X + 30)]
  refine jr_putR (a := 30) (b := 31) hF hI clX5 (Nat.le_of_ble_eq_true rfl) lyf_X5_9 rfl rfl rfl (fun x => ⟨rfl, rfl⟩) (Nat.le_of_ble_eq_true rfl) rfl lyp_28 rfl dX5_init_9 ?_
  show lt_J X 1 7 (ly_S 32 29) _ 12 [(0, .ref (lt_z X + 30))] []
  refine jr_aload_n hF dX5_init_12 0 rfl rfl ?_
  show lt_J X 1 7 (ly_S 32 29) _ 13 [(0, .ref (lt_z X + 30))] [.ref (lt_z X + 30)]
  refine jr_bipush (v := 7) hF dX5_init_13 rfl ?_
  show lt_J X 1 7 (ly_S 32 29) _ 15 [(0, .ref (lt_z X + 30))] [.int 7, .ref (lt_z X + 30)]
  refine jr_newa_int (len := 7) (n := 7) hF lyq_10 rfl rfl (by decide) (by decide) rfl (hz.up (Nat.le_of_ble_eq_true rfl : 31 ≤ 32)) ⟨Nat.le_of_ble_eq_true rfl, Nat.le_of_ble_eq_true rfl⟩ dX5_init_15 ?_
  show lt_J X 2 14 (ly_S 33 29) _ 17 [(0, .ref (lt_z X + 30))] [.ref (lt_z X + 32), .ref (lt_z X + 30)]
  refine jr_putR (a := 30) (b := 32) hF hI clX5 (Nat.le_of_ble_eq_true rfl) lyf_X5_15 rfl rfl rfl (fun x => ⟨rfl, rfl⟩) (Nat.le_of_ble_eq_true rfl) rfl lyp_29 rfl dX5_init_17 ?_
  show lt_J X 2 14 (ly_S 33 30) _ 20 [(0, .ref (lt_z X + 30))] []
  refine jr_aload_n hF dX5_init_20 0 rfl rfl ?_
  show lt_J X 2 14 (ly_S 33 30) _ 21 [(0, .ref (lt_z X + 30))] [.ref (lt_z X + 30)]
  refine jr_bipush (v := 7) hF dX5_init_21 rfl ?_
  show lt_J X 2 14 (ly_S 33 30) _ 23 [(0, .ref (lt_z X + 30))] [.int 7, .ref (lt_z X + 30)]
  refine jr_newa_int (len := 7) (n := 7) hF lyq_10 rfl rfl (by decide) (by decide) rfl (hz.up (Nat.le_of_ble_eq_true rfl : 31 ≤ 33)) ⟨Nat.le_of_ble_eq_true rfl, Nat.le_of_ble_eq_true rfl⟩ dX5_init_23 ?_
  show lt_J X 3 21 (ly_S 34 30) _ 25 [(0, .ref (lt_z X + 30))] [.ref (lt_z X + 33), .ref (lt_z X + 30)]
  refine jr_putR (a := 30) (b := 33) hF hI clX5 (Nat.le_of_ble_eq_true rfl) lyf_X5_19 rfl rfl rfl (fun x => ⟨rfl, rfl⟩) (Nat.le_of_ble_eq_true rfl) rfl lyp_30 rfl dX5_init_25 ?_
  show lt_J X 3 21 (ly_S 34 31) _ 28 [(0, .ref (lt_z X + 30))] []
  refine jr_aload_n hF dX5_init_28 0 rfl rfl ?_
  show lt_J X 3 21 (ly_S 34 31) _ 29 [(0, .ref (lt_z X + 30))] [.ref (lt_z X + 30)]
  refine jr_bipush (v := 7) hF dX5_init_29 rfl ?_
  show lt_J X 3 21 (ly_S 34 31) _ 31 [(0, .ref (lt_z X + 30))] [.int 7, .ref (lt_z X + 30)]
  refine jr_newa_int (len := 7) (n := 7) hF lyq_10 rfl rfl (by decide) (by decide) rfl (hz.up (Nat.le_of_ble_eq_true rfl : 31 ≤ 34)) ⟨Nat.le_of_ble_eq_true rfl, Nat.le_of_ble_eq_true rfl⟩ dX5_init_31 ?_
  show lt_J X 4 28 (ly_S 35 31) _ 33 [(0, .ref (lt_z X + 30))] [.ref (lt_z X + 34), .ref (lt_z X + 30)]
  refine jr_putR (a := 30) (b := 34) hF hI clX5 (Nat.le_of_ble_eq_true rfl) lyf_X5_22 rfl rfl rfl (fun x => ⟨rfl, rfl⟩) (Nat.le_of_ble_eq_true rfl) rfl lyp_31 rfl dX5_init_33 ?_
  show lt_J X 4 28 (ly_S 35 32) _ 36 [(0, .ref (lt_z X + 30))] []
  refine jr_aload_n hF dX5_init_36 0 rfl rfl ?_
  show lt_J X 4 28 (ly_S 35 32) _ 37 [(0, .ref (lt_z X + 30))] [.ref (lt_z X + 30)]
  refine jr_bipush (v := 7) hF dX5_init_37 rfl ?_
  show lt_J X 4 28 (ly_S 35 32) _ 39 [(0, .ref (lt_z X + 30))] [.int 7, .ref (lt_z X + 30)]
  refine jr_newa_int (len := 7) (n := 7) hF lyq_10 rfl rfl (by decide) (by decide) rfl (hz.up (Nat.le_of_ble_eq_true rfl : 31 ≤ 35)) ⟨Nat.le_of_ble_eq_true rfl, Nat.le_of_ble_eq_true rfl⟩ dX5_init_39 ?_
  show lt_J X 5 35 (ly_S 36 32) _ 41 [(0, .ref (lt_z X + 30))] [.ref (lt_z X + 35), .ref (lt_z X + 30)]
  refine jr_putR (a := 30) (b := 35) hF hI clX5 (Nat.le_of_ble_eq_true rfl) lyf_X5_25 rfl rfl rfl (fun x => ⟨rfl, rfl⟩) (Nat.le_of_ble_eq_true rfl) rfl lyp_32 rfl dX5_init_41 ?_
  show lt_J X 5 35 (ly_S 36 33) _ 44 [(0, .ref (lt_z X + 30))] []
  refine jr_aload_n hF dX5_init_44 0 rfl rfl ?_
  show lt_J X 5 35 (ly_S 36 33) _ 45 [(0, .ref (lt_z X + 30))] [.ref (lt_z X + 30)]
  refine jr_bipush (v := 7) hF dX5_init_45 rfl ?_
  show lt_J X 5 35 (ly_S 36 33) _ 47 [(0, .ref (lt_z X + 30))] [.int 7, .ref (lt_z X + 30)]
  refine jr_newa_int (len := 7) (n := 7) hF lyq_10 rfl rfl (by decide) (by decide) rfl (hz.up (Nat.le_of_ble_eq_true rfl : 31 ≤ 36)) ⟨Nat.le_of_ble_eq_true rfl, Nat.le_of_ble_eq_true rfl⟩ dX5_init_47 ?_
  show lt_J X 6 42 (ly_S 37 33) _ 49 [(0, .ref (lt_z X + 30))] [.ref (lt_z X + 36), .ref (lt_z X + 30)]
  refine jr_putR (a := 30) (b := 36) hF hI clX5 (Nat.le_of_ble_eq_true rfl) lyf_X5_28 rfl rfl rfl (fun x => ⟨rfl, rfl⟩) (Nat.le_of_ble_eq_true rfl) rfl lyp_33 rfl dX5_init_49 ?_
  show lt_J X 6 42 (ly_S 37 34) _ 52 [(0, .ref (lt_z X + 30))] []
  refine jr_aload_n hF dX5_init_52 0 rfl rfl ?_
  show lt_J X 6 42 (ly_S 37 34) _ 53 [(0, .ref (lt_z X + 30))] [.ref (lt_z X + 30)]
  refine jr_bipush (v := 7) hF dX5_init_53 rfl ?_
  show lt_J X 6 42 (ly_S 37 34) _ 55 [(0, .ref (lt_z X + 30))] [.int 7, .ref (lt_z X + 30)]
  refine jr_newa_int (len := 7) (n := 7) hF lyq_10 rfl rfl (by decide) (by decide) rfl (hz.up (Nat.le_of_ble_eq_true rfl : 31 ≤ 37)) ⟨Nat.le_of_ble_eq_true rfl, Nat.le_of_ble_eq_true rfl⟩ dX5_init_55 ?_
  show lt_J X 7 49 (ly_S 38 34) _ 57 [(0, .ref (lt_z X + 30))] [.ref (lt_z X + 37), .ref (lt_z X + 30)]
  refine jr_putR (a := 30) (b := 37) hF hI clX5 (Nat.le_of_ble_eq_true rfl) lyf_X5_31 rfl rfl rfl (fun x => ⟨rfl, rfl⟩) (Nat.le_of_ble_eq_true rfl) rfl lyp_34 rfl dX5_init_57 ?_
  show lt_J X 7 49 (ly_S 38 35) _ 60 [(0, .ref (lt_z X + 30))] []
  refine jr_aload_n hF dX5_init_60 0 rfl rfl ?_
  show lt_J X 7 49 (ly_S 38 35) _ 61 [(0, .ref (lt_z X + 30))] [.ref (lt_z X + 30)]
  refine jr_bipush (v := 7) hF dX5_init_61 rfl ?_
  show lt_J X 7 49 (ly_S 38 35) _ 63 [(0, .ref (lt_z X + 30))] [.int 7, .ref (lt_z X + 30)]
  refine jr_newa_int (len := 7) (n := 7) hF lyq_10 rfl rfl (by decide) (by decide) rfl (hz.up (Nat.le_of_ble_eq_true rfl : 31 ≤ 38)) ⟨Nat.le_of_ble_eq_true rfl, Nat.le_of_ble_eq_true rfl⟩ dX5_init_63 ?_
  show lt_J X 8 56 (ly_S 39 35) _ 65 [(0, .ref (lt_z X + 30))] [.ref (lt_z X + 38), .ref (lt_z X + 30)]
  refine jr_putR (a := 30) (b := 38) hF hI clX5 (Nat.le_of_ble_eq_true rfl) lyf_X5_34 rfl rfl rfl (fun x => ⟨rfl, rfl⟩) (Nat.le_of_ble_eq_true rfl) rfl lyp_35 rfl dX5_init_65 ?_
  show lt_J X 8 56 (ly_S 39 36) _ 68 [(0, .ref (lt_z X + 30))] []
  refine jr_aload_n hF dX5_init_68 0 rfl rfl ?_
  show lt_J X 8 56 (ly_S 39 36) _ 69 [(0, .ref (lt_z X + 30))] [.ref (lt_z X + 30)]
  refine jr_callV (As := []) (st := []) hF ml_X5_37 (c_X5_clear (w := _) (r := lyw_5 30 _) (ly_c (Nat.le_of_ble_eq_true rfl)) rfl) (ly_c (Nat.le_of_ble_eq_true rfl)) rfl ⟨Nat.le_of_ble_eq_true rfl, Nat.le_of_ble_eq_true rfl⟩ ⟨Nat.le_of_ble_eq_true rfl, Nat.le_of_ble_eq_true rfl⟩ (Nat.le_of_ble_eq_true rfl) dX5_init_69 ?_
  have hz1 := lyw_5_z (hz.up (Nat.le_of_ble_eq_true rfl : 31 ≤ 39)) (Nat.le_of_ble_eq_true rfl : 30 + 1 ≤ 39)
  show lt_J X 8 56 (ly_S 39 36) _ 72 [(0, .ref (lt_z X + 30))] []
  exact jr_return hF hE dX5_init_72
def wI_X6_29 (w : lt_W) : lt_W := wI_X5_30 (w)
theorem zI_X6_29 {w : lt_W} (hz : ly_z w 30) : ly_z (wI_X6_29 w) 39 := by
  have hz1 := zI_X5_30 (hz.up (Nat.le_of_ble_eq_true rfl : 30 ≤ 31))
  exact hz1.up (Nat.le_of_ble_eq_true rfl)
set_option maxRecDepth 100000 in
set_option maxHeartbeats 4000000 in
theorem cI_X6_29 {l : Launch} {D : va_G} {gA : Nat → ClassId} {s0 : State} {w : lt_W} (hz : ly_z w 30) : lt_C l D gA s0 yX6_init cX6_init 2 none (lt_rmI 3 9 73) [.ref (s0.heap.size + 29), .ref (s0.heap.size + 10)] (ly_S 30 28) w (ly_S 39 38) none (wI_X6_29 w) := by
  refine lt_enterI rfl rfl (Nat.le_of_ble_eq_true rfl) (fun X e1 e2 e3 e4 hF hI hE => ?_)
  subst e1 e2 e3 e4
  have hF : lt_F X cX6_init RX6 2 (lt_rmI 3 9 73) := hF
  show lt_J X 0 0 (ly_S 30 28) w 0 [(0, .ref (lt_z X + 29)), (1, .ref (lt_z X + 10))] []
  refine jr_aload_n hF dX6_init_0 0 rfl rfl ?_
  show lt_J X 0 0 (ly_S 30 28) _ 1 [(0, .ref (lt_z X + 29)), (1, .ref (lt_z X + 10))] [.ref (lt_z X + 29)]
  refine jr_objI hF lyq_26 lyq_1 lyq_2 ⟨Nat.le_of_ble_eq_true rfl, Nat.le_of_ble_eq_true rfl⟩ dX6_init_1 ?_
  show lt_J X 0 0 (ly_S 30 28) _ 4 [(0, .ref (lt_z X + 29)), (1, .ref (lt_z X + 10))] []
  refine jr_aload_n hF dX6_init_4 0 rfl rfl ?_
  show lt_J X 0 0 (ly_S 30 28) _ 5 [(0, .ref (lt_z X + 29)), (1, .ref (lt_z X + 10))] [.ref (lt_z X + 29)]
  refine jr_new (ci := 5) hF clX5 lyq_27 lyq_28 lyq_29 rfl dvX5 (by decide +kernel) hz ⟨Nat.le_of_ble_eq_true rfl, Nat.le_of_ble_eq_true rfl⟩ dX6_init_5 ?_
  show lt_J X 1 17 (ly_S 31 28) _ 8 [(0, .ref (lt_z X + 29)), (1, .ref (lt_z X + 10))] [.ref (lt_z X + 30), .ref (lt_z X + 29)]
  refine jr_dup hF dX6_init_8 rfl ?_
  show lt_J X 1 17 (ly_S 31 28) _ 9 [(0, .ref (lt_z X + 29)), (1, .ref (lt_z X + 10))] [.ref (lt_z X + 30), .ref (lt_z X + 30), .ref (lt_z X + 29)]
  refine jr_callI (As := []) (st := [.ref (lt_z X + 30), .ref (lt_z X + 29)]) hF mi_X6_11 (cI_X5_30 (hz.up (Nat.le_of_ble_eq_true rfl : 30 ≤ 31))) rfl ⟨Nat.le_of_ble_eq_true rfl, Nat.le_of_ble_eq_true rfl⟩ ⟨Nat.le_of_ble_eq_true rfl, Nat.le_of_ble_eq_true rfl⟩ (Nat.le_of_ble_eq_true rfl) dX6_init_9 ?_
  have hz1 := zI_X5_30 (hz.up (Nat.le_of_ble_eq_true rfl : 30 ≤ 31))
  show lt_J X 9 73 (ly_S 39 36) _ 12 [(0, .ref (lt_z X + 29)), (1, .ref (lt_z X + 10))] [.ref (lt_z X + 30), .ref (lt_z X + 29)]
  refine jr_putR (a := 29) (b := 30) hF hI clX6 (Nat.le_of_ble_eq_true rfl) lyf_X6_12 rfl rfl rfl (fun x => ⟨rfl, rfl⟩) (Nat.le_of_ble_eq_true rfl) rfl lyp_36 rfl dX6_init_12 ?_
  show lt_J X 9 73 (ly_S 39 37) _ 15 [(0, .ref (lt_z X + 29)), (1, .ref (lt_z X + 10))] []
  refine jr_aload_n hF dX6_init_15 0 rfl rfl ?_
  show lt_J X 9 73 (ly_S 39 37) _ 16 [(0, .ref (lt_z X + 29)), (1, .ref (lt_z X + 10))] [.ref (lt_z X + 29)]
  refine jr_aload_n hF dX6_init_16 1 rfl rfl ?_
  show lt_J X 9 73 (ly_S 39 37) _ 17 [(0, .ref (lt_z X + 29)), (1, .ref (lt_z X + 10))] [.ref (lt_z X + 10), .ref (lt_z X + 29)]
  refine jr_putR (a := 29) (b := 10) hF hI clX6 (Nat.le_of_ble_eq_true rfl) lyf_X6_18 rfl rfl rfl (fun x => ⟨rfl, rfl⟩) (Nat.le_of_ble_eq_true rfl) rfl lyp_37 rfl dX6_init_17 ?_
  show lt_J X 9 73 (ly_S 39 38) _ 20 [(0, .ref (lt_z X + 29)), (1, .ref (lt_z X + 10))] []
  exact jr_return hF hE dX6_init_20
set_option maxRecDepth 100000 in
set_option maxHeartbeats 4000000 in
theorem cI_X9_40 {l : Launch} {D : va_G} {gA : Nat → ClassId} {s0 : State} {w : lt_W} (hz : ly_z w 41) : lt_C l D gA s0 yX9_init cX9_init 1 none (lt_rmI 1 7 210) [.ref (s0.heap.size + 40)] (ly_S 41 39) w (ly_S 48 46) none w := by
  refine lt_enterI rfl rfl (Nat.le_of_ble_eq_true rfl) (fun X e1 e2 e3 e4 hF hI hE => ?_)
  subst e1 e2 e3 e4
  have hF : lt_F X cX9_init RX9 1 (lt_rmI 1 7 210) := hF
  show lt_J X 0 0 (ly_S 41 39) w 0 [(0, .ref (lt_z X + 40))] []
  refine jr_aload_n hF dX9_init_0 0 rfl rfl ?_
  show lt_J X 0 0 (ly_S 41 39) _ 1 [(0, .ref (lt_z X + 40))] [.ref (lt_z X + 40)]
  refine jr_objI hF lyq_18 lyq_1 lyq_2 ⟨Nat.le_of_ble_eq_true rfl, Nat.le_of_ble_eq_true rfl⟩ dX9_init_1 ?_
  show lt_J X 0 0 (ly_S 41 39) _ 4 [(0, .ref (lt_z X + 40))] []
  refine jr_aload_n hF dX9_init_4 0 rfl rfl ?_
  show lt_J X 0 0 (ly_S 41 39) _ 5 [(0, .ref (lt_z X + 40))] [.ref (lt_z X + 40)]
  refine jr_bipush (v := 30) hF dX9_init_5 rfl ?_
  show lt_J X 0 0 (ly_S 41 39) _ 7 [(0, .ref (lt_z X + 40))] [.int 30, .ref (lt_z X + 40)]
  refine jr_newa_int (len := 30) (n := 30) hF lyq_10 rfl rfl (by decide) (by decide) rfl hz ⟨Nat.le_of_ble_eq_true rfl, Nat.le_of_ble_eq_true rfl⟩ dX9_init_7 ?_
  show lt_J X 1 30 (ly_S 42 39) _ 9 [(0, .ref (lt_z X + 40))] [.ref (lt_z X + 41), .ref (lt_z X + 40)]
  refine jr_putR (a := 40) (b := 41) hF hI clX9 (Nat.le_of_ble_eq_true rfl) lyf_X9_9 rfl rfl rfl (fun x => ⟨rfl, rfl⟩) (Nat.le_of_ble_eq_true rfl) rfl lyp_39 rfl dX9_init_9 ?_
  show lt_J X 1 30 (ly_S 42 40) _ 12 [(0, .ref (lt_z X + 40))] []
  refine jr_aload_n hF dX9_init_12 0 rfl rfl ?_
  show lt_J X 1 30 (ly_S 42 40) _ 13 [(0, .ref (lt_z X + 40))] [.ref (lt_z X + 40)]
  refine jr_bipush (v := 30) hF dX9_init_13 rfl ?_
  show lt_J X 1 30 (ly_S 42 40) _ 15 [(0, .ref (lt_z X + 40))] [.int 30, .ref (lt_z X + 40)]
  refine jr_newa_int (len := 30) (n := 30) hF lyq_10 rfl rfl (by decide) (by decide) rfl (hz.up (Nat.le_of_ble_eq_true rfl : 41 ≤ 42)) ⟨Nat.le_of_ble_eq_true rfl, Nat.le_of_ble_eq_true rfl⟩ dX9_init_15 ?_
  show lt_J X 2 60 (ly_S 43 40) _ 17 [(0, .ref (lt_z X + 40))] [.ref (lt_z X + 42), .ref (lt_z X + 40)]
  refine jr_putR (a := 40) (b := 42) hF hI clX9 (Nat.le_of_ble_eq_true rfl) lyf_X9_15 rfl rfl rfl (fun x => ⟨rfl, rfl⟩) (Nat.le_of_ble_eq_true rfl) rfl lyp_40 rfl dX9_init_17 ?_
  show lt_J X 2 60 (ly_S 43 41) _ 20 [(0, .ref (lt_z X + 40))] []
  refine jr_aload_n hF dX9_init_20 0 rfl rfl ?_
  show lt_J X 2 60 (ly_S 43 41) _ 21 [(0, .ref (lt_z X + 40))] [.ref (lt_z X + 40)]
  refine jr_bipush (v := 30) hF dX9_init_21 rfl ?_
  show lt_J X 2 60 (ly_S 43 41) _ 23 [(0, .ref (lt_z X + 40))] [.int 30, .ref (lt_z X + 40)]
  refine jr_newa_int (len := 30) (n := 30) hF lyq_10 rfl rfl (by decide) (by decide) rfl (hz.up (Nat.le_of_ble_eq_true rfl : 41 ≤ 43)) ⟨Nat.le_of_ble_eq_true rfl, Nat.le_of_ble_eq_true rfl⟩ dX9_init_23 ?_
  show lt_J X 3 90 (ly_S 44 41) _ 25 [(0, .ref (lt_z X + 40))] [.ref (lt_z X + 43), .ref (lt_z X + 40)]
  refine jr_putR (a := 40) (b := 43) hF hI clX9 (Nat.le_of_ble_eq_true rfl) lyf_X9_18 rfl rfl rfl (fun x => ⟨rfl, rfl⟩) (Nat.le_of_ble_eq_true rfl) rfl lyp_41 rfl dX9_init_25 ?_
  show lt_J X 3 90 (ly_S 44 42) _ 28 [(0, .ref (lt_z X + 40))] []
  refine jr_aload_n hF dX9_init_28 0 rfl rfl ?_
  show lt_J X 3 90 (ly_S 44 42) _ 29 [(0, .ref (lt_z X + 40))] [.ref (lt_z X + 40)]
  refine jr_bipush (v := 30) hF dX9_init_29 rfl ?_
  show lt_J X 3 90 (ly_S 44 42) _ 31 [(0, .ref (lt_z X + 40))] [.int 30, .ref (lt_z X + 40)]
  refine jr_newa_int (len := 30) (n := 30) hF lyq_10 rfl rfl (by decide) (by decide) rfl (hz.up (Nat.le_of_ble_eq_true rfl : 41 ≤ 44)) ⟨Nat.le_of_ble_eq_true rfl, Nat.le_of_ble_eq_true rfl⟩ dX9_init_31 ?_
  show lt_J X 4 120 (ly_S 45 42) _ 33 [(0, .ref (lt_z X + 40))] [.ref (lt_z X + 44), .ref (lt_z X + 40)]
  refine jr_putR (a := 40) (b := 44) hF hI clX9 (Nat.le_of_ble_eq_true rfl) lyf_X9_21 rfl rfl rfl (fun x => ⟨rfl, rfl⟩) (Nat.le_of_ble_eq_true rfl) rfl lyp_42 rfl dX9_init_33 ?_
  show lt_J X 4 120 (ly_S 45 43) _ 36 [(0, .ref (lt_z X + 40))] []
  refine jr_aload_n hF dX9_init_36 0 rfl rfl ?_
  show lt_J X 4 120 (ly_S 45 43) _ 37 [(0, .ref (lt_z X + 40))] [.ref (lt_z X + 40)]
  refine jr_bipush (v := 30) hF dX9_init_37 rfl ?_
  show lt_J X 4 120 (ly_S 45 43) _ 39 [(0, .ref (lt_z X + 40))] [.int 30, .ref (lt_z X + 40)]
  refine jr_newa_int (len := 30) (n := 30) hF lyq_10 rfl rfl (by decide) (by decide) rfl (hz.up (Nat.le_of_ble_eq_true rfl : 41 ≤ 45)) ⟨Nat.le_of_ble_eq_true rfl, Nat.le_of_ble_eq_true rfl⟩ dX9_init_39 ?_
  show lt_J X 5 150 (ly_S 46 43) _ 41 [(0, .ref (lt_z X + 40))] [.ref (lt_z X + 45), .ref (lt_z X + 40)]
  refine jr_putR (a := 40) (b := 45) hF hI clX9 (Nat.le_of_ble_eq_true rfl) lyf_X9_24 rfl rfl rfl (fun x => ⟨rfl, rfl⟩) (Nat.le_of_ble_eq_true rfl) rfl lyp_43 rfl dX9_init_41 ?_
  show lt_J X 5 150 (ly_S 46 44) _ 44 [(0, .ref (lt_z X + 40))] []
  refine jr_aload_n hF dX9_init_44 0 rfl rfl ?_
  show lt_J X 5 150 (ly_S 46 44) _ 45 [(0, .ref (lt_z X + 40))] [.ref (lt_z X + 40)]
  refine jr_bipush (v := 30) hF dX9_init_45 rfl ?_
  show lt_J X 5 150 (ly_S 46 44) _ 47 [(0, .ref (lt_z X + 40))] [.int 30, .ref (lt_z X + 40)]
  refine jr_newa_int (len := 30) (n := 30) hF lyq_10 rfl rfl (by decide) (by decide) rfl (hz.up (Nat.le_of_ble_eq_true rfl : 41 ≤ 46)) ⟨Nat.le_of_ble_eq_true rfl, Nat.le_of_ble_eq_true rfl⟩ dX9_init_47 ?_
  show lt_J X 6 180 (ly_S 47 44) _ 49 [(0, .ref (lt_z X + 40))] [.ref (lt_z X + 46), .ref (lt_z X + 40)]
  refine jr_putR (a := 40) (b := 46) hF hI clX9 (Nat.le_of_ble_eq_true rfl) lyf_X9_27 rfl rfl rfl (fun x => ⟨rfl, rfl⟩) (Nat.le_of_ble_eq_true rfl) rfl lyp_44 rfl dX9_init_49 ?_
  show lt_J X 6 180 (ly_S 47 45) _ 52 [(0, .ref (lt_z X + 40))] []
  refine jr_aload_n hF dX9_init_52 0 rfl rfl ?_
  show lt_J X 6 180 (ly_S 47 45) _ 53 [(0, .ref (lt_z X + 40))] [.ref (lt_z X + 40)]
  refine jr_bipush (v := 30) hF dX9_init_53 rfl ?_
  show lt_J X 6 180 (ly_S 47 45) _ 55 [(0, .ref (lt_z X + 40))] [.int 30, .ref (lt_z X + 40)]
  refine jr_newa_int (len := 30) (n := 30) hF lyq_10 rfl rfl (by decide) (by decide) rfl (hz.up (Nat.le_of_ble_eq_true rfl : 41 ≤ 47)) ⟨Nat.le_of_ble_eq_true rfl, Nat.le_of_ble_eq_true rfl⟩ dX9_init_55 ?_
  show lt_J X 7 210 (ly_S 48 45) _ 57 [(0, .ref (lt_z X + 40))] [.ref (lt_z X + 47), .ref (lt_z X + 40)]
  refine jr_putR (a := 40) (b := 47) hF hI clX9 (Nat.le_of_ble_eq_true rfl) lyf_X9_30 rfl rfl rfl (fun x => ⟨rfl, rfl⟩) (Nat.le_of_ble_eq_true rfl) rfl lyp_45 rfl dX9_init_57 ?_
  show lt_J X 7 210 (ly_S 48 46) _ 60 [(0, .ref (lt_z X + 40))] []
  exact jr_return hF hE dX9_init_60
set_option maxRecDepth 100000 in
set_option maxHeartbeats 4000000 in
theorem cI_X10_39 {l : Launch} {D : va_G} {gA : Nat → ClassId} {s0 : State} {w : lt_W} (hz : ly_z w 40) : lt_C l D gA s0 yX10_init cX10_init 3 none (lt_rmI 2 9 222) [.ref (s0.heap.size + 39), .ref (s0.heap.size + 10), .ref (s0.heap.size + 12)] (ly_S 40 39) w (ly_S 49 50) none w := by
  refine lt_enterI rfl rfl (Nat.le_of_ble_eq_true rfl) (fun X e1 e2 e3 e4 hF hI hE => ?_)
  subst e1 e2 e3 e4
  have hF : lt_F X cX10_init RX10 3 (lt_rmI 2 9 222) := hF
  show lt_J X 0 0 (ly_S 40 39) w 0 [(0, .ref (lt_z X + 39)), (1, .ref (lt_z X + 10)), (2, .ref (lt_z X + 12))] []
  refine jr_aload_n hF dX10_init_0 0 rfl rfl ?_
  show lt_J X 0 0 (ly_S 40 39) _ 1 [(0, .ref (lt_z X + 39)), (1, .ref (lt_z X + 10)), (2, .ref (lt_z X + 12))] [.ref (lt_z X + 39)]
  refine jr_objI hF lyq_33 lyq_1 lyq_2 ⟨Nat.le_of_ble_eq_true rfl, Nat.le_of_ble_eq_true rfl⟩ dX10_init_1 ?_
  show lt_J X 0 0 (ly_S 40 39) _ 4 [(0, .ref (lt_z X + 39)), (1, .ref (lt_z X + 10)), (2, .ref (lt_z X + 12))] []
  refine jr_aload_n hF dX10_init_4 0 rfl rfl ?_
  show lt_J X 0 0 (ly_S 40 39) _ 5 [(0, .ref (lt_z X + 39)), (1, .ref (lt_z X + 10)), (2, .ref (lt_z X + 12))] [.ref (lt_z X + 39)]
  refine jr_new (ci := 9) hF clX9 lyq_34 lyq_35 lyq_36 rfl dvX9 (by decide +kernel) hz ⟨Nat.le_of_ble_eq_true rfl, Nat.le_of_ble_eq_true rfl⟩ dX10_init_5 ?_
  show lt_J X 1 9 (ly_S 41 39) _ 8 [(0, .ref (lt_z X + 39)), (1, .ref (lt_z X + 10)), (2, .ref (lt_z X + 12))] [.ref (lt_z X + 40), .ref (lt_z X + 39)]
  refine jr_dup hF dX10_init_8 rfl ?_
  show lt_J X 1 9 (ly_S 41 39) _ 9 [(0, .ref (lt_z X + 39)), (1, .ref (lt_z X + 10)), (2, .ref (lt_z X + 12))] [.ref (lt_z X + 40), .ref (lt_z X + 40), .ref (lt_z X + 39)]
  refine jr_callIN (As := []) (st := [.ref (lt_z X + 40), .ref (lt_z X + 39)]) hF mi_X10_11 (cI_X9_40 (hz.up (Nat.le_of_ble_eq_true rfl : 40 ≤ 41))) rfl ⟨Nat.le_of_ble_eq_true rfl, Nat.le_of_ble_eq_true rfl⟩ ⟨Nat.le_of_ble_eq_true rfl, Nat.le_of_ble_eq_true rfl⟩ (Nat.le_of_ble_eq_true rfl) dX10_init_9 ?_
  show lt_J X 8 219 (ly_S 48 46) _ 12 [(0, .ref (lt_z X + 39)), (1, .ref (lt_z X + 10)), (2, .ref (lt_z X + 12))] [.ref (lt_z X + 40), .ref (lt_z X + 39)]
  refine jr_putR (a := 39) (b := 40) hF hI clX10 (Nat.le_of_ble_eq_true rfl) lyf_X10_12 rfl rfl rfl (fun x => ⟨rfl, rfl⟩) (Nat.le_of_ble_eq_true rfl) rfl lyp_46 rfl dX10_init_12 ?_
  show lt_J X 8 219 (ly_S 48 47) _ 15 [(0, .ref (lt_z X + 39)), (1, .ref (lt_z X + 10)), (2, .ref (lt_z X + 12))] []
  refine jr_aload_n hF dX10_init_15 0 rfl rfl ?_
  show lt_J X 8 219 (ly_S 48 47) _ 16 [(0, .ref (lt_z X + 39)), (1, .ref (lt_z X + 10)), (2, .ref (lt_z X + 12))] [.ref (lt_z X + 39)]
  refine jr_iconst (v := 3) hF dX10_init_16 rfl ?_
  show lt_J X 8 219 (ly_S 48 47) _ 17 [(0, .ref (lt_z X + 39)), (1, .ref (lt_z X + 10)), (2, .ref (lt_z X + 12))] [.int 3, .ref (lt_z X + 39)]
  refine jr_newa_int (len := 3) (n := 3) hF lyq_10 rfl rfl (by decide) (by decide) rfl (hz.up (Nat.le_of_ble_eq_true rfl : 40 ≤ 48)) ⟨Nat.le_of_ble_eq_true rfl, Nat.le_of_ble_eq_true rfl⟩ dX10_init_17 ?_
  show lt_J X 9 222 (ly_S 49 47) _ 19 [(0, .ref (lt_z X + 39)), (1, .ref (lt_z X + 10)), (2, .ref (lt_z X + 12))] [.ref (lt_z X + 48), .ref (lt_z X + 39)]
  refine jr_putR (a := 39) (b := 48) hF hI clX10 (Nat.le_of_ble_eq_true rfl) lyf_X10_18 rfl rfl rfl (fun x => ⟨rfl, rfl⟩) (Nat.le_of_ble_eq_true rfl) rfl lyp_47 rfl dX10_init_19 ?_
  show lt_J X 9 222 (ly_S 49 48) _ 22 [(0, .ref (lt_z X + 39)), (1, .ref (lt_z X + 10)), (2, .ref (lt_z X + 12))] []
  refine jr_aload_n hF dX10_init_22 0 rfl rfl ?_
  show lt_J X 9 222 (ly_S 49 48) _ 23 [(0, .ref (lt_z X + 39)), (1, .ref (lt_z X + 10)), (2, .ref (lt_z X + 12))] [.ref (lt_z X + 39)]
  refine jr_aload_n hF dX10_init_23 1 rfl rfl ?_
  show lt_J X 9 222 (ly_S 49 48) _ 24 [(0, .ref (lt_z X + 39)), (1, .ref (lt_z X + 10)), (2, .ref (lt_z X + 12))] [.ref (lt_z X + 10), .ref (lt_z X + 39)]
  refine jr_putR (a := 39) (b := 10) hF hI clX10 (Nat.le_of_ble_eq_true rfl) lyf_X10_22 rfl rfl rfl (fun x => ⟨rfl, rfl⟩) (Nat.le_of_ble_eq_true rfl) rfl lyp_48 rfl dX10_init_24 ?_
  show lt_J X 9 222 (ly_S 49 49) _ 27 [(0, .ref (lt_z X + 39)), (1, .ref (lt_z X + 10)), (2, .ref (lt_z X + 12))] []
  refine jr_aload_n hF dX10_init_27 0 rfl rfl ?_
  show lt_J X 9 222 (ly_S 49 49) _ 28 [(0, .ref (lt_z X + 39)), (1, .ref (lt_z X + 10)), (2, .ref (lt_z X + 12))] [.ref (lt_z X + 39)]
  refine jr_aload_n hF dX10_init_28 2 rfl rfl ?_
  show lt_J X 9 222 (ly_S 49 49) _ 29 [(0, .ref (lt_z X + 39)), (1, .ref (lt_z X + 10)), (2, .ref (lt_z X + 12))] [.ref (lt_z X + 12), .ref (lt_z X + 39)]
  refine jr_putR (a := 39) (b := 12) hF hI clX10 (Nat.le_of_ble_eq_true rfl) lyf_X10_26 rfl rfl rfl (fun x => ⟨rfl, rfl⟩) (Nat.le_of_ble_eq_true rfl) rfl lyp_49 rfl dX10_init_29 ?_
  show lt_J X 9 222 (ly_S 49 50) _ 32 [(0, .ref (lt_z X + 39)), (1, .ref (lt_z X + 10)), (2, .ref (lt_z X + 12))] []
  exact jr_return hF hE dX10_init_32
def wI_X5_50 (w : lt_W) : lt_W := lyw_5 50 (w)
theorem zI_X5_50 {w : lt_W} (hz : ly_z w 51) : ly_z (wI_X5_50 w) 59 := by
  have hz1 := lyw_5_z (hz.up (Nat.le_of_ble_eq_true rfl : 51 ≤ 59)) (Nat.le_of_ble_eq_true rfl : 50 + 1 ≤ 59)
  exact hz1.up (Nat.le_of_ble_eq_true rfl)
set_option maxRecDepth 100000 in
set_option maxHeartbeats 4000000 in
theorem cI_X5_50 {l : Launch} {D : va_G} {gA : Nat → ClassId} {s0 : State} {w : lt_W} (hz : ly_z w 51) : lt_C l D gA s0 yX5_init cX5_init 1 none (lt_rmI 2 8 56) [.ref (s0.heap.size + 50)] (ly_S 51 51) w (ly_S 59 59) none (wI_X5_50 w) := by
  refine lt_enterI rfl rfl (Nat.le_of_ble_eq_true rfl) (fun X e1 e2 e3 e4 hF hI hE => ?_)
  subst e1 e2 e3 e4
  have hF : lt_F X cX5_init RX5 1 (lt_rmI 2 8 56) := hF
  show lt_J X 0 0 (ly_S 51 51) w 0 [(0, .ref (lt_z X + 50))] []
  refine jr_aload_n hF dX5_init_0 0 rfl rfl ?_
  show lt_J X 0 0 (ly_S 51 51) _ 1 [(0, .ref (lt_z X + 50))] [.ref (lt_z X + 50)]
  refine jr_objI hF lyq_8 lyq_1 lyq_2 ⟨Nat.le_of_ble_eq_true rfl, Nat.le_of_ble_eq_true rfl⟩ dX5_init_1 ?_
  show lt_J X 0 0 (ly_S 51 51) _ 4 [(0, .ref (lt_z X + 50))] []
  refine jr_aload_n hF dX5_init_4 0 rfl rfl ?_
  show lt_J X 0 0 (ly_S 51 51) _ 5 [(0, .ref (lt_z X + 50))] [.ref (lt_z X + 50)]
  refine jr_bipush (v := 7) hF dX5_init_5 rfl ?_
  show lt_J X 0 0 (ly_S 51 51) _ 7 [(0, .ref (lt_z X + 50))] [.int 7, .ref (lt_z X + 50)]
  refine jr_newa_long (len := 7) (n := 7) hF lyq_3 rfl rfl (by decide) (by decide) rfl hz ⟨Nat.le_of_ble_eq_true rfl, Nat.le_of_ble_eq_true rfl⟩ dX5_init_7 ?_
  show lt_J X 1 7 (ly_S 52 51) _ 9 [(0, .ref (lt_z X + 50))] [.ref (lt_z X + 51), .ref (lt_z X + 50)]
  refine jr_putR (a := 50) (b := 51) hF hI clX5 (Nat.le_of_ble_eq_true rfl) lyf_X5_9 rfl rfl rfl (fun x => ⟨rfl, rfl⟩) (Nat.le_of_ble_eq_true rfl) rfl lyp_51 rfl dX5_init_9 ?_
  show lt_J X 1 7 (ly_S 52 52) _ 12 [(0, .ref (lt_z X + 50))] []
  refine jr_aload_n hF dX5_init_12 0 rfl rfl ?_
  show lt_J X 1 7 (ly_S 52 52) _ 13 [(0, .ref (lt_z X + 50))] [.ref (lt_z X + 50)]
  refine jr_bipush (v := 7) hF dX5_init_13 rfl ?_
  show lt_J X 1 7 (ly_S 52 52) _ 15 [(0, .ref (lt_z X + 50))] [.int 7, .ref (lt_z X + 50)]
  refine jr_newa_int (len := 7) (n := 7) hF lyq_10 rfl rfl (by decide) (by decide) rfl (hz.up (Nat.le_of_ble_eq_true rfl : 51 ≤ 52)) ⟨Nat.le_of_ble_eq_true rfl, Nat.le_of_ble_eq_true rfl⟩ dX5_init_15 ?_
  show lt_J X 2 14 (ly_S 53 52) _ 17 [(0, .ref (lt_z X + 50))] [.ref (lt_z X + 52), .ref (lt_z X + 50)]
  refine jr_putR (a := 50) (b := 52) hF hI clX5 (Nat.le_of_ble_eq_true rfl) lyf_X5_15 rfl rfl rfl (fun x => ⟨rfl, rfl⟩) (Nat.le_of_ble_eq_true rfl) rfl lyp_52 rfl dX5_init_17 ?_
  show lt_J X 2 14 (ly_S 53 53) _ 20 [(0, .ref (lt_z X + 50))] []
  refine jr_aload_n hF dX5_init_20 0 rfl rfl ?_
  show lt_J X 2 14 (ly_S 53 53) _ 21 [(0, .ref (lt_z X + 50))] [.ref (lt_z X + 50)]
  refine jr_bipush (v := 7) hF dX5_init_21 rfl ?_
  show lt_J X 2 14 (ly_S 53 53) _ 23 [(0, .ref (lt_z X + 50))] [.int 7, .ref (lt_z X + 50)]
  refine jr_newa_int (len := 7) (n := 7) hF lyq_10 rfl rfl (by decide) (by decide) rfl (hz.up (Nat.le_of_ble_eq_true rfl : 51 ≤ 53)) ⟨Nat.le_of_ble_eq_true rfl, Nat.le_of_ble_eq_true rfl⟩ dX5_init_23 ?_
  show lt_J X 3 21 (ly_S 54 53) _ 25 [(0, .ref (lt_z X + 50))] [.ref (lt_z X + 53), .ref (lt_z X + 50)]
  refine jr_putR (a := 50) (b := 53) hF hI clX5 (Nat.le_of_ble_eq_true rfl) lyf_X5_19 rfl rfl rfl (fun x => ⟨rfl, rfl⟩) (Nat.le_of_ble_eq_true rfl) rfl lyp_53 rfl dX5_init_25 ?_
  show lt_J X 3 21 (ly_S 54 54) _ 28 [(0, .ref (lt_z X + 50))] []
  refine jr_aload_n hF dX5_init_28 0 rfl rfl ?_
  show lt_J X 3 21 (ly_S 54 54) _ 29 [(0, .ref (lt_z X + 50))] [.ref (lt_z X + 50)]
  refine jr_bipush (v := 7) hF dX5_init_29 rfl ?_
  show lt_J X 3 21 (ly_S 54 54) _ 31 [(0, .ref (lt_z X + 50))] [.int 7, .ref (lt_z X + 50)]
  refine jr_newa_int (len := 7) (n := 7) hF lyq_10 rfl rfl (by decide) (by decide) rfl (hz.up (Nat.le_of_ble_eq_true rfl : 51 ≤ 54)) ⟨Nat.le_of_ble_eq_true rfl, Nat.le_of_ble_eq_true rfl⟩ dX5_init_31 ?_
  show lt_J X 4 28 (ly_S 55 54) _ 33 [(0, .ref (lt_z X + 50))] [.ref (lt_z X + 54), .ref (lt_z X + 50)]
  refine jr_putR (a := 50) (b := 54) hF hI clX5 (Nat.le_of_ble_eq_true rfl) lyf_X5_22 rfl rfl rfl (fun x => ⟨rfl, rfl⟩) (Nat.le_of_ble_eq_true rfl) rfl lyp_54 rfl dX5_init_33 ?_
  show lt_J X 4 28 (ly_S 55 55) _ 36 [(0, .ref (lt_z X + 50))] []
  refine jr_aload_n hF dX5_init_36 0 rfl rfl ?_
  show lt_J X 4 28 (ly_S 55 55) _ 37 [(0, .ref (lt_z X + 50))] [.ref (lt_z X + 50)]
  refine jr_bipush (v := 7) hF dX5_init_37 rfl ?_
  show lt_J X 4 28 (ly_S 55 55) _ 39 [(0, .ref (lt_z X + 50))] [.int 7, .ref (lt_z X + 50)]
  refine jr_newa_int (len := 7) (n := 7) hF lyq_10 rfl rfl (by decide) (by decide) rfl (hz.up (Nat.le_of_ble_eq_true rfl : 51 ≤ 55)) ⟨Nat.le_of_ble_eq_true rfl, Nat.le_of_ble_eq_true rfl⟩ dX5_init_39 ?_
  show lt_J X 5 35 (ly_S 56 55) _ 41 [(0, .ref (lt_z X + 50))] [.ref (lt_z X + 55), .ref (lt_z X + 50)]
  refine jr_putR (a := 50) (b := 55) hF hI clX5 (Nat.le_of_ble_eq_true rfl) lyf_X5_25 rfl rfl rfl (fun x => ⟨rfl, rfl⟩) (Nat.le_of_ble_eq_true rfl) rfl lyp_55 rfl dX5_init_41 ?_
  show lt_J X 5 35 (ly_S 56 56) _ 44 [(0, .ref (lt_z X + 50))] []
  refine jr_aload_n hF dX5_init_44 0 rfl rfl ?_
  show lt_J X 5 35 (ly_S 56 56) _ 45 [(0, .ref (lt_z X + 50))] [.ref (lt_z X + 50)]
  refine jr_bipush (v := 7) hF dX5_init_45 rfl ?_
  show lt_J X 5 35 (ly_S 56 56) _ 47 [(0, .ref (lt_z X + 50))] [.int 7, .ref (lt_z X + 50)]
  refine jr_newa_int (len := 7) (n := 7) hF lyq_10 rfl rfl (by decide) (by decide) rfl (hz.up (Nat.le_of_ble_eq_true rfl : 51 ≤ 56)) ⟨Nat.le_of_ble_eq_true rfl, Nat.le_of_ble_eq_true rfl⟩ dX5_init_47 ?_
  show lt_J X 6 42 (ly_S 57 56) _ 49 [(0, .ref (lt_z X + 50))] [.ref (lt_z X + 56), .ref (lt_z X + 50)]
  refine jr_putR (a := 50) (b := 56) hF hI clX5 (Nat.le_of_ble_eq_true rfl) lyf_X5_28 rfl rfl rfl (fun x => ⟨rfl, rfl⟩) (Nat.le_of_ble_eq_true rfl) rfl lyp_56 rfl dX5_init_49 ?_
  show lt_J X 6 42 (ly_S 57 57) _ 52 [(0, .ref (lt_z X + 50))] []
  refine jr_aload_n hF dX5_init_52 0 rfl rfl ?_
  show lt_J X 6 42 (ly_S 57 57) _ 53 [(0, .ref (lt_z X + 50))] [.ref (lt_z X + 50)]
  refine jr_bipush (v := 7) hF dX5_init_53 rfl ?_
  show lt_J X 6 42 (ly_S 57 57) _ 55 [(0, .ref (lt_z X + 50))] [.int 7, .ref (lt_z X + 50)]
  refine jr_newa_int (len := 7) (n := 7) hF lyq_10 rfl rfl (by decide) (by decide) rfl (hz.up (Nat.le_of_ble_eq_true rfl : 51 ≤ 57)) ⟨Nat.le_of_ble_eq_true rfl, Nat.le_of_ble_eq_true rfl⟩ dX5_init_55 ?_
  show lt_J X 7 49 (ly_S 58 57) _ 57 [(0, .ref (lt_z X + 50))] [.ref (lt_z X + 57), .ref (lt_z X + 50)]
  refine jr_putR (a := 50) (b := 57) hF hI clX5 (Nat.le_of_ble_eq_true rfl) lyf_X5_31 rfl rfl rfl (fun x => ⟨rfl, rfl⟩) (Nat.le_of_ble_eq_true rfl) rfl lyp_57 rfl dX5_init_57 ?_
  show lt_J X 7 49 (ly_S 58 58) _ 60 [(0, .ref (lt_z X + 50))] []
  refine jr_aload_n hF dX5_init_60 0 rfl rfl ?_
  show lt_J X 7 49 (ly_S 58 58) _ 61 [(0, .ref (lt_z X + 50))] [.ref (lt_z X + 50)]
  refine jr_bipush (v := 7) hF dX5_init_61 rfl ?_
  show lt_J X 7 49 (ly_S 58 58) _ 63 [(0, .ref (lt_z X + 50))] [.int 7, .ref (lt_z X + 50)]
  refine jr_newa_int (len := 7) (n := 7) hF lyq_10 rfl rfl (by decide) (by decide) rfl (hz.up (Nat.le_of_ble_eq_true rfl : 51 ≤ 58)) ⟨Nat.le_of_ble_eq_true rfl, Nat.le_of_ble_eq_true rfl⟩ dX5_init_63 ?_
  show lt_J X 8 56 (ly_S 59 58) _ 65 [(0, .ref (lt_z X + 50))] [.ref (lt_z X + 58), .ref (lt_z X + 50)]
  refine jr_putR (a := 50) (b := 58) hF hI clX5 (Nat.le_of_ble_eq_true rfl) lyf_X5_34 rfl rfl rfl (fun x => ⟨rfl, rfl⟩) (Nat.le_of_ble_eq_true rfl) rfl lyp_58 rfl dX5_init_65 ?_
  show lt_J X 8 56 (ly_S 59 59) _ 68 [(0, .ref (lt_z X + 50))] []
  refine jr_aload_n hF dX5_init_68 0 rfl rfl ?_
  show lt_J X 8 56 (ly_S 59 59) _ 69 [(0, .ref (lt_z X + 50))] [.ref (lt_z X + 50)]
  refine jr_callV (As := []) (st := []) hF ml_X5_37 (c_X5_clear (w := _) (r := lyw_5 50 _) (ly_c (Nat.le_of_ble_eq_true rfl)) rfl) (ly_c (Nat.le_of_ble_eq_true rfl)) rfl ⟨Nat.le_of_ble_eq_true rfl, Nat.le_of_ble_eq_true rfl⟩ ⟨Nat.le_of_ble_eq_true rfl, Nat.le_of_ble_eq_true rfl⟩ (Nat.le_of_ble_eq_true rfl) dX5_init_69 ?_
  have hz1 := lyw_5_z (hz.up (Nat.le_of_ble_eq_true rfl : 51 ≤ 59)) (Nat.le_of_ble_eq_true rfl : 50 + 1 ≤ 59)
  show lt_J X 8 56 (ly_S 59 59) _ 72 [(0, .ref (lt_z X + 50))] []
  exact jr_return hF hE dX5_init_72
def wI_X0_49 (w : lt_W) : lt_W := wI_X5_50 (w)
theorem zI_X0_49 {w : lt_W} (hz : ly_z w 50) : ly_z (wI_X0_49 w) 59 := by
  have hz1 := zI_X5_50 (hz.up (Nat.le_of_ble_eq_true rfl : 50 ≤ 51))
  exact hz1.up (Nat.le_of_ble_eq_true rfl)
set_option maxRecDepth 100000 in
set_option maxHeartbeats 4000000 in
theorem cI_X0_49 {l : Launch} {D : va_G} {gA : Nat → ClassId} {s0 : State} {w : lt_W} (hz : ly_z w 50) : lt_C l D gA s0 yX0_init cX0_init 2 none (lt_rmI 3 9 73) [.ref (s0.heap.size + 49), .ref (s0.heap.size + 12)] (ly_S 50 51) w (ly_S 59 61) none (wI_X0_49 w) := by
  refine lt_enterI rfl rfl (Nat.le_of_ble_eq_true rfl) (fun X e1 e2 e3 e4 hF hI hE => ?_)
  subst e1 e2 e3 e4
  have hF : lt_F X cX0_init RX0 2 (lt_rmI 3 9 73) := hF
  show lt_J X 0 0 (ly_S 50 51) w 0 [(0, .ref (lt_z X + 49)), (1, .ref (lt_z X + 12))] []
  refine jr_aload_n hF dX0_init_0 0 rfl rfl ?_
  show lt_J X 0 0 (ly_S 50 51) _ 1 [(0, .ref (lt_z X + 49)), (1, .ref (lt_z X + 12))] [.ref (lt_z X + 49)]
  refine jr_objI hF lyq_42 lyq_1 lyq_2 ⟨Nat.le_of_ble_eq_true rfl, Nat.le_of_ble_eq_true rfl⟩ dX0_init_1 ?_
  show lt_J X 0 0 (ly_S 50 51) _ 4 [(0, .ref (lt_z X + 49)), (1, .ref (lt_z X + 12))] []
  refine jr_aload_n hF dX0_init_4 0 rfl rfl ?_
  show lt_J X 0 0 (ly_S 50 51) _ 5 [(0, .ref (lt_z X + 49)), (1, .ref (lt_z X + 12))] [.ref (lt_z X + 49)]
  refine jr_new (ci := 5) hF clX5 lyq_43 lyq_28 lyq_29 rfl dvX5 (by decide +kernel) hz ⟨Nat.le_of_ble_eq_true rfl, Nat.le_of_ble_eq_true rfl⟩ dX0_init_5 ?_
  show lt_J X 1 17 (ly_S 51 51) _ 8 [(0, .ref (lt_z X + 49)), (1, .ref (lt_z X + 12))] [.ref (lt_z X + 50), .ref (lt_z X + 49)]
  refine jr_dup hF dX0_init_8 rfl ?_
  show lt_J X 1 17 (ly_S 51 51) _ 9 [(0, .ref (lt_z X + 49)), (1, .ref (lt_z X + 12))] [.ref (lt_z X + 50), .ref (lt_z X + 50), .ref (lt_z X + 49)]
  refine jr_callI (As := []) (st := [.ref (lt_z X + 50), .ref (lt_z X + 49)]) hF mi_X0_11 (cI_X5_50 (hz.up (Nat.le_of_ble_eq_true rfl : 50 ≤ 51))) rfl ⟨Nat.le_of_ble_eq_true rfl, Nat.le_of_ble_eq_true rfl⟩ ⟨Nat.le_of_ble_eq_true rfl, Nat.le_of_ble_eq_true rfl⟩ (Nat.le_of_ble_eq_true rfl) dX0_init_9 ?_
  have hz1 := zI_X5_50 (hz.up (Nat.le_of_ble_eq_true rfl : 50 ≤ 51))
  show lt_J X 9 73 (ly_S 59 59) _ 12 [(0, .ref (lt_z X + 49)), (1, .ref (lt_z X + 12))] [.ref (lt_z X + 50), .ref (lt_z X + 49)]
  refine jr_putR (a := 49) (b := 50) hF hI clX0 (Nat.le_of_ble_eq_true rfl) lyf_X0_12 rfl rfl rfl (fun x => ⟨rfl, rfl⟩) (Nat.le_of_ble_eq_true rfl) rfl lyp_59 rfl dX0_init_12 ?_
  show lt_J X 9 73 (ly_S 59 60) _ 15 [(0, .ref (lt_z X + 49)), (1, .ref (lt_z X + 12))] []
  refine jr_aload_n hF dX0_init_15 0 rfl rfl ?_
  show lt_J X 9 73 (ly_S 59 60) _ 16 [(0, .ref (lt_z X + 49)), (1, .ref (lt_z X + 12))] [.ref (lt_z X + 49)]
  refine jr_aload_n hF dX0_init_16 1 rfl rfl ?_
  show lt_J X 9 73 (ly_S 59 60) _ 17 [(0, .ref (lt_z X + 49)), (1, .ref (lt_z X + 12))] [.ref (lt_z X + 12), .ref (lt_z X + 49)]
  refine jr_putR (a := 49) (b := 12) hF hI clX0 (Nat.le_of_ble_eq_true rfl) lyf_X0_18 rfl rfl rfl (fun x => ⟨rfl, rfl⟩) (Nat.le_of_ble_eq_true rfl) rfl lyp_60 rfl dX0_init_17 ?_
  show lt_J X 9 73 (ly_S 59 61) _ 20 [(0, .ref (lt_z X + 49)), (1, .ref (lt_z X + 12))] []
  exact jr_return hF hE dX0_init_20
def wI_X5_63 (w : lt_W) : lt_W := lyw_5 63 (w)
theorem zI_X5_63 {w : lt_W} (hz : ly_z w 64) : ly_z (wI_X5_63 w) 72 := by
  have hz1 := lyw_5_z (hz.up (Nat.le_of_ble_eq_true rfl : 64 ≤ 72)) (Nat.le_of_ble_eq_true rfl : 63 + 1 ≤ 72)
  exact hz1.up (Nat.le_of_ble_eq_true rfl)
set_option maxRecDepth 100000 in
set_option maxHeartbeats 4000000 in
theorem cI_X5_63 {l : Launch} {D : va_G} {gA : Nat → ClassId} {s0 : State} {w : lt_W} (hz : ly_z w 64) : lt_C l D gA s0 yX5_init cX5_init 1 none (lt_rmI 2 8 56) [.ref (s0.heap.size + 63)] (ly_S 64 66) w (ly_S 72 74) none (wI_X5_63 w) := by
  refine lt_enterI rfl rfl (Nat.le_of_ble_eq_true rfl) (fun X e1 e2 e3 e4 hF hI hE => ?_)
  subst e1 e2 e3 e4
  have hF : lt_F X cX5_init RX5 1 (lt_rmI 2 8 56) := hF
  show lt_J X 0 0 (ly_S 64 66) w 0 [(0, .ref (lt_z X + 63))] []
  refine jr_aload_n hF dX5_init_0 0 rfl rfl ?_
  show lt_J X 0 0 (ly_S 64 66) _ 1 [(0, .ref (lt_z X + 63))] [.ref (lt_z X + 63)]
  refine jr_objI hF lyq_8 lyq_1 lyq_2 ⟨Nat.le_of_ble_eq_true rfl, Nat.le_of_ble_eq_true rfl⟩ dX5_init_1 ?_
  show lt_J X 0 0 (ly_S 64 66) _ 4 [(0, .ref (lt_z X + 63))] []
  refine jr_aload_n hF dX5_init_4 0 rfl rfl ?_
  show lt_J X 0 0 (ly_S 64 66) _ 5 [(0, .ref (lt_z X + 63))] [.ref (lt_z X + 63)]
  refine jr_bipush (v := 7) hF dX5_init_5 rfl ?_
  show lt_J X 0 0 (ly_S 64 66) _ 7 [(0, .ref (lt_z X + 63))] [.int 7, .ref (lt_z X + 63)]
  refine jr_newa_long (len := 7) (n := 7) hF lyq_3 rfl rfl (by decide) (by decide) rfl hz ⟨Nat.le_of_ble_eq_true rfl, Nat.le_of_ble_eq_true rfl⟩ dX5_init_7 ?_
  show lt_J X 1 7 (ly_S 65 66) _ 9 [(0, .ref (lt_z X + 63))] [.ref (lt_z X + 64), .ref (lt_z X + 63)]
  refine jr_putR (a := 63) (b := 64) hF hI clX5 (Nat.le_of_ble_eq_true rfl) lyf_X5_9 rfl rfl rfl (fun x => ⟨rfl, rfl⟩) (Nat.le_of_ble_eq_true rfl) rfl lyp_66 rfl dX5_init_9 ?_
  show lt_J X 1 7 (ly_S 65 67) _ 12 [(0, .ref (lt_z X + 63))] []
  refine jr_aload_n hF dX5_init_12 0 rfl rfl ?_
  show lt_J X 1 7 (ly_S 65 67) _ 13 [(0, .ref (lt_z X + 63))] [.ref (lt_z X + 63)]
  refine jr_bipush (v := 7) hF dX5_init_13 rfl ?_
  show lt_J X 1 7 (ly_S 65 67) _ 15 [(0, .ref (lt_z X + 63))] [.int 7, .ref (lt_z X + 63)]
  refine jr_newa_int (len := 7) (n := 7) hF lyq_10 rfl rfl (by decide) (by decide) rfl (hz.up (Nat.le_of_ble_eq_true rfl : 64 ≤ 65)) ⟨Nat.le_of_ble_eq_true rfl, Nat.le_of_ble_eq_true rfl⟩ dX5_init_15 ?_
  show lt_J X 2 14 (ly_S 66 67) _ 17 [(0, .ref (lt_z X + 63))] [.ref (lt_z X + 65), .ref (lt_z X + 63)]
  refine jr_putR (a := 63) (b := 65) hF hI clX5 (Nat.le_of_ble_eq_true rfl) lyf_X5_15 rfl rfl rfl (fun x => ⟨rfl, rfl⟩) (Nat.le_of_ble_eq_true rfl) rfl lyp_67 rfl dX5_init_17 ?_
  show lt_J X 2 14 (ly_S 66 68) _ 20 [(0, .ref (lt_z X + 63))] []
  refine jr_aload_n hF dX5_init_20 0 rfl rfl ?_
  show lt_J X 2 14 (ly_S 66 68) _ 21 [(0, .ref (lt_z X + 63))] [.ref (lt_z X + 63)]
  refine jr_bipush (v := 7) hF dX5_init_21 rfl ?_
  show lt_J X 2 14 (ly_S 66 68) _ 23 [(0, .ref (lt_z X + 63))] [.int 7, .ref (lt_z X + 63)]
  refine jr_newa_int (len := 7) (n := 7) hF lyq_10 rfl rfl (by decide) (by decide) rfl (hz.up (Nat.le_of_ble_eq_true rfl : 64 ≤ 66)) ⟨Nat.le_of_ble_eq_true rfl, Nat.le_of_ble_eq_true rfl⟩ dX5_init_23 ?_
  show lt_J X 3 21 (ly_S 67 68) _ 25 [(0, .ref (lt_z X + 63))] [.ref (lt_z X + 66), .ref (lt_z X + 63)]
  refine jr_putR (a := 63) (b := 66) hF hI clX5 (Nat.le_of_ble_eq_true rfl) lyf_X5_19 rfl rfl rfl (fun x => ⟨rfl, rfl⟩) (Nat.le_of_ble_eq_true rfl) rfl lyp_68 rfl dX5_init_25 ?_
  show lt_J X 3 21 (ly_S 67 69) _ 28 [(0, .ref (lt_z X + 63))] []
  refine jr_aload_n hF dX5_init_28 0 rfl rfl ?_
  show lt_J X 3 21 (ly_S 67 69) _ 29 [(0, .ref (lt_z X + 63))] [.ref (lt_z X + 63)]
  refine jr_bipush (v := 7) hF dX5_init_29 rfl ?_
  show lt_J X 3 21 (ly_S 67 69) _ 31 [(0, .ref (lt_z X + 63))] [.int 7, .ref (lt_z X + 63)]
  refine jr_newa_int (len := 7) (n := 7) hF lyq_10 rfl rfl (by decide) (by decide) rfl (hz.up (Nat.le_of_ble_eq_true rfl : 64 ≤ 67)) ⟨Nat.le_of_ble_eq_true rfl, Nat.le_of_ble_eq_true rfl⟩ dX5_init_31 ?_
  show lt_J X 4 28 (ly_S 68 69) _ 33 [(0, .ref (lt_z X + 63))] [.ref (lt_z X + 67), .ref (lt_z X + 63)]
  refine jr_putR (a := 63) (b := 67) hF hI clX5 (Nat.le_of_ble_eq_true rfl) lyf_X5_22 rfl rfl rfl (fun x => ⟨rfl, rfl⟩) (Nat.le_of_ble_eq_true rfl) rfl lyp_69 rfl dX5_init_33 ?_
  show lt_J X 4 28 (ly_S 68 70) _ 36 [(0, .ref (lt_z X + 63))] []
  refine jr_aload_n hF dX5_init_36 0 rfl rfl ?_
  show lt_J X 4 28 (ly_S 68 70) _ 37 [(0, .ref (lt_z X + 63))] [.ref (lt_z X + 63)]
  refine jr_bipush (v := 7) hF dX5_init_37 rfl ?_
  show lt_J X 4 28 (ly_S 68 70) _ 39 [(0, .ref (lt_z X + 63))] [.int 7, .ref (lt_z X + 63)]
  refine jr_newa_int (len := 7) (n := 7) hF lyq_10 rfl rfl (by decide) (by decide) rfl (hz.up (Nat.le_of_ble_eq_true rfl : 64 ≤ 68)) ⟨Nat.le_of_ble_eq_true rfl, Nat.le_of_ble_eq_true rfl⟩ dX5_init_39 ?_
  show lt_J X 5 35 (ly_S 69 70) _ 41 [(0, .ref (lt_z X + 63))] [.ref (lt_z X + 68), .ref (lt_z X + 63)]
  refine jr_putR (a := 63) (b := 68) hF hI clX5 (Nat.le_of_ble_eq_true rfl) lyf_X5_25 rfl rfl rfl (fun x => ⟨rfl, rfl⟩) (Nat.le_of_ble_eq_true rfl) rfl lyp_70 rfl dX5_init_41 ?_
  show lt_J X 5 35 (ly_S 69 71) _ 44 [(0, .ref (lt_z X + 63))] []
  refine jr_aload_n hF dX5_init_44 0 rfl rfl ?_
  show lt_J X 5 35 (ly_S 69 71) _ 45 [(0, .ref (lt_z X + 63))] [.ref (lt_z X + 63)]
  refine jr_bipush (v := 7) hF dX5_init_45 rfl ?_
  show lt_J X 5 35 (ly_S 69 71) _ 47 [(0, .ref (lt_z X + 63))] [.int 7, .ref (lt_z X + 63)]
  refine jr_newa_int (len := 7) (n := 7) hF lyq_10 rfl rfl (by decide) (by decide) rfl (hz.up (Nat.le_of_ble_eq_true rfl : 64 ≤ 69)) ⟨Nat.le_of_ble_eq_true rfl, Nat.le_of_ble_eq_true rfl⟩ dX5_init_47 ?_
  show lt_J X 6 42 (ly_S 70 71) _ 49 [(0, .ref (lt_z X + 63))] [.ref (lt_z X + 69), .ref (lt_z X + 63)]
  refine jr_putR (a := 63) (b := 69) hF hI clX5 (Nat.le_of_ble_eq_true rfl) lyf_X5_28 rfl rfl rfl (fun x => ⟨rfl, rfl⟩) (Nat.le_of_ble_eq_true rfl) rfl lyp_71 rfl dX5_init_49 ?_
  show lt_J X 6 42 (ly_S 70 72) _ 52 [(0, .ref (lt_z X + 63))] []
  refine jr_aload_n hF dX5_init_52 0 rfl rfl ?_
  show lt_J X 6 42 (ly_S 70 72) _ 53 [(0, .ref (lt_z X + 63))] [.ref (lt_z X + 63)]
  refine jr_bipush (v := 7) hF dX5_init_53 rfl ?_
  show lt_J X 6 42 (ly_S 70 72) _ 55 [(0, .ref (lt_z X + 63))] [.int 7, .ref (lt_z X + 63)]
  refine jr_newa_int (len := 7) (n := 7) hF lyq_10 rfl rfl (by decide) (by decide) rfl (hz.up (Nat.le_of_ble_eq_true rfl : 64 ≤ 70)) ⟨Nat.le_of_ble_eq_true rfl, Nat.le_of_ble_eq_true rfl⟩ dX5_init_55 ?_
  show lt_J X 7 49 (ly_S 71 72) _ 57 [(0, .ref (lt_z X + 63))] [.ref (lt_z X + 70), .ref (lt_z X + 63)]
  refine jr_putR (a := 63) (b := 70) hF hI clX5 (Nat.le_of_ble_eq_true rfl) lyf_X5_31 rfl rfl rfl (fun x => ⟨rfl, rfl⟩) (Nat.le_of_ble_eq_true rfl) rfl lyp_72 rfl dX5_init_57 ?_
  show lt_J X 7 49 (ly_S 71 73) _ 60 [(0, .ref (lt_z X + 63))] []
  refine jr_aload_n hF dX5_init_60 0 rfl rfl ?_
  show lt_J X 7 49 (ly_S 71 73) _ 61 [(0, .ref (lt_z X + 63))] [.ref (lt_z X + 63)]
  refine jr_bipush (v := 7) hF dX5_init_61 rfl ?_
  show lt_J X 7 49 (ly_S 71 73) _ 63 [(0, .ref (lt_z X + 63))] [.int 7, .ref (lt_z X + 63)]
  refine jr_newa_int (len := 7) (n := 7) hF lyq_10 rfl rfl (by decide) (by decide) rfl (hz.up (Nat.le_of_ble_eq_true rfl : 64 ≤ 71)) ⟨Nat.le_of_ble_eq_true rfl, Nat.le_of_ble_eq_true rfl⟩ dX5_init_63 ?_
  show lt_J X 8 56 (ly_S 72 73) _ 65 [(0, .ref (lt_z X + 63))] [.ref (lt_z X + 71), .ref (lt_z X + 63)]
  refine jr_putR (a := 63) (b := 71) hF hI clX5 (Nat.le_of_ble_eq_true rfl) lyf_X5_34 rfl rfl rfl (fun x => ⟨rfl, rfl⟩) (Nat.le_of_ble_eq_true rfl) rfl lyp_73 rfl dX5_init_65 ?_
  show lt_J X 8 56 (ly_S 72 74) _ 68 [(0, .ref (lt_z X + 63))] []
  refine jr_aload_n hF dX5_init_68 0 rfl rfl ?_
  show lt_J X 8 56 (ly_S 72 74) _ 69 [(0, .ref (lt_z X + 63))] [.ref (lt_z X + 63)]
  refine jr_callV (As := []) (st := []) hF ml_X5_37 (c_X5_clear (w := _) (r := lyw_5 63 _) (ly_c (Nat.le_of_ble_eq_true rfl)) rfl) (ly_c (Nat.le_of_ble_eq_true rfl)) rfl ⟨Nat.le_of_ble_eq_true rfl, Nat.le_of_ble_eq_true rfl⟩ ⟨Nat.le_of_ble_eq_true rfl, Nat.le_of_ble_eq_true rfl⟩ (Nat.le_of_ble_eq_true rfl) dX5_init_69 ?_
  have hz1 := lyw_5_z (hz.up (Nat.le_of_ble_eq_true rfl : 64 ≤ 72)) (Nat.le_of_ble_eq_true rfl : 63 + 1 ≤ 72)
  show lt_J X 8 56 (ly_S 72 74) _ 72 [(0, .ref (lt_z X + 63))] []
  exact jr_return hF hE dX5_init_72
def wI_X5_72 (w : lt_W) : lt_W := lyw_5 72 (w)
theorem zI_X5_72 {w : lt_W} (hz : ly_z w 73) : ly_z (wI_X5_72 w) 81 := by
  have hz1 := lyw_5_z (hz.up (Nat.le_of_ble_eq_true rfl : 73 ≤ 81)) (Nat.le_of_ble_eq_true rfl : 72 + 1 ≤ 81)
  exact hz1.up (Nat.le_of_ble_eq_true rfl)
set_option maxRecDepth 100000 in
set_option maxHeartbeats 4000000 in
theorem cI_X5_72 {l : Launch} {D : va_G} {gA : Nat → ClassId} {s0 : State} {w : lt_W} (hz : ly_z w 73) : lt_C l D gA s0 yX5_init cX5_init 1 none (lt_rmI 2 8 56) [.ref (s0.heap.size + 72)] (ly_S 73 75) w (ly_S 81 83) none (wI_X5_72 w) := by
  refine lt_enterI rfl rfl (Nat.le_of_ble_eq_true rfl) (fun X e1 e2 e3 e4 hF hI hE => ?_)
  subst e1 e2 e3 e4
  have hF : lt_F X cX5_init RX5 1 (lt_rmI 2 8 56) := hF
  show lt_J X 0 0 (ly_S 73 75) w 0 [(0, .ref (lt_z X + 72))] []
  refine jr_aload_n hF dX5_init_0 0 rfl rfl ?_
  show lt_J X 0 0 (ly_S 73 75) _ 1 [(0, .ref (lt_z X + 72))] [.ref (lt_z X + 72)]
  refine jr_objI hF lyq_8 lyq_1 lyq_2 ⟨Nat.le_of_ble_eq_true rfl, Nat.le_of_ble_eq_true rfl⟩ dX5_init_1 ?_
  show lt_J X 0 0 (ly_S 73 75) _ 4 [(0, .ref (lt_z X + 72))] []
  refine jr_aload_n hF dX5_init_4 0 rfl rfl ?_
  show lt_J X 0 0 (ly_S 73 75) _ 5 [(0, .ref (lt_z X + 72))] [.ref (lt_z X + 72)]
  refine jr_bipush (v := 7) hF dX5_init_5 rfl ?_
  show lt_J X 0 0 (ly_S 73 75) _ 7 [(0, .ref (lt_z X + 72))] [.int 7, .ref (lt_z X + 72)]
  refine jr_newa_long (len := 7) (n := 7) hF lyq_3 rfl rfl (by decide) (by decide) rfl hz ⟨Nat.le_of_ble_eq_true rfl, Nat.le_of_ble_eq_true rfl⟩ dX5_init_7 ?_
  show lt_J X 1 7 (ly_S 74 75) _ 9 [(0, .ref (lt_z X + 72))] [.ref (lt_z X + 73), .ref (lt_z X + 72)]
  refine jr_putR (a := 72) (b := 73) hF hI clX5 (Nat.le_of_ble_eq_true rfl) lyf_X5_9 rfl rfl rfl (fun x => ⟨rfl, rfl⟩) (Nat.le_of_ble_eq_true rfl) rfl lyp_75 rfl dX5_init_9 ?_
  show lt_J X 1 7 (ly_S 74 76) _ 12 [(0, .ref (lt_z X + 72))] []
  refine jr_aload_n hF dX5_init_12 0 rfl rfl ?_
  show lt_J X 1 7 (ly_S 74 76) _ 13 [(0, .ref (lt_z X + 72))] [.ref (lt_z X + 72)]
  refine jr_bipush (v := 7) hF dX5_init_13 rfl ?_
  show lt_J X 1 7 (ly_S 74 76) _ 15 [(0, .ref (lt_z X + 72))] [.int 7, .ref (lt_z X + 72)]
  refine jr_newa_int (len := 7) (n := 7) hF lyq_10 rfl rfl (by decide) (by decide) rfl (hz.up (Nat.le_of_ble_eq_true rfl : 73 ≤ 74)) ⟨Nat.le_of_ble_eq_true rfl, Nat.le_of_ble_eq_true rfl⟩ dX5_init_15 ?_
  show lt_J X 2 14 (ly_S 75 76) _ 17 [(0, .ref (lt_z X + 72))] [.ref (lt_z X + 74), .ref (lt_z X + 72)]
  refine jr_putR (a := 72) (b := 74) hF hI clX5 (Nat.le_of_ble_eq_true rfl) lyf_X5_15 rfl rfl rfl (fun x => ⟨rfl, rfl⟩) (Nat.le_of_ble_eq_true rfl) rfl lyp_76 rfl dX5_init_17 ?_
  show lt_J X 2 14 (ly_S 75 77) _ 20 [(0, .ref (lt_z X + 72))] []
  refine jr_aload_n hF dX5_init_20 0 rfl rfl ?_
  show lt_J X 2 14 (ly_S 75 77) _ 21 [(0, .ref (lt_z X + 72))] [.ref (lt_z X + 72)]
  refine jr_bipush (v := 7) hF dX5_init_21 rfl ?_
  show lt_J X 2 14 (ly_S 75 77) _ 23 [(0, .ref (lt_z X + 72))] [.int 7, .ref (lt_z X + 72)]
  refine jr_newa_int (len := 7) (n := 7) hF lyq_10 rfl rfl (by decide) (by decide) rfl (hz.up (Nat.le_of_ble_eq_true rfl : 73 ≤ 75)) ⟨Nat.le_of_ble_eq_true rfl, Nat.le_of_ble_eq_true rfl⟩ dX5_init_23 ?_
  show lt_J X 3 21 (ly_S 76 77) _ 25 [(0, .ref (lt_z X + 72))] [.ref (lt_z X + 75), .ref (lt_z X + 72)]
  refine jr_putR (a := 72) (b := 75) hF hI clX5 (Nat.le_of_ble_eq_true rfl) lyf_X5_19 rfl rfl rfl (fun x => ⟨rfl, rfl⟩) (Nat.le_of_ble_eq_true rfl) rfl lyp_77 rfl dX5_init_25 ?_
  show lt_J X 3 21 (ly_S 76 78) _ 28 [(0, .ref (lt_z X + 72))] []
  refine jr_aload_n hF dX5_init_28 0 rfl rfl ?_
  show lt_J X 3 21 (ly_S 76 78) _ 29 [(0, .ref (lt_z X + 72))] [.ref (lt_z X + 72)]
  refine jr_bipush (v := 7) hF dX5_init_29 rfl ?_
  show lt_J X 3 21 (ly_S 76 78) _ 31 [(0, .ref (lt_z X + 72))] [.int 7, .ref (lt_z X + 72)]
  refine jr_newa_int (len := 7) (n := 7) hF lyq_10 rfl rfl (by decide) (by decide) rfl (hz.up (Nat.le_of_ble_eq_true rfl : 73 ≤ 76)) ⟨Nat.le_of_ble_eq_true rfl, Nat.le_of_ble_eq_true rfl⟩ dX5_init_31 ?_
  show lt_J X 4 28 (ly_S 77 78) _ 33 [(0, .ref (lt_z X + 72))] [.ref (lt_z X + 76), .ref (lt_z X + 72)]
  refine jr_putR (a := 72) (b := 76) hF hI clX5 (Nat.le_of_ble_eq_true rfl) lyf_X5_22 rfl rfl rfl (fun x => ⟨rfl, rfl⟩) (Nat.le_of_ble_eq_true rfl) rfl lyp_78 rfl dX5_init_33 ?_
  show lt_J X 4 28 (ly_S 77 79) _ 36 [(0, .ref (lt_z X + 72))] []
  refine jr_aload_n hF dX5_init_36 0 rfl rfl ?_
  show lt_J X 4 28 (ly_S 77 79) _ 37 [(0, .ref (lt_z X + 72))] [.ref (lt_z X + 72)]
  refine jr_bipush (v := 7) hF dX5_init_37 rfl ?_
  show lt_J X 4 28 (ly_S 77 79) _ 39 [(0, .ref (lt_z X + 72))] [.int 7, .ref (lt_z X + 72)]
  refine jr_newa_int (len := 7) (n := 7) hF lyq_10 rfl rfl (by decide) (by decide) rfl (hz.up (Nat.le_of_ble_eq_true rfl : 73 ≤ 77)) ⟨Nat.le_of_ble_eq_true rfl, Nat.le_of_ble_eq_true rfl⟩ dX5_init_39 ?_
  show lt_J X 5 35 (ly_S 78 79) _ 41 [(0, .ref (lt_z X + 72))] [.ref (lt_z X + 77), .ref (lt_z X + 72)]
  refine jr_putR (a := 72) (b := 77) hF hI clX5 (Nat.le_of_ble_eq_true rfl) lyf_X5_25 rfl rfl rfl (fun x => ⟨rfl, rfl⟩) (Nat.le_of_ble_eq_true rfl) rfl lyp_79 rfl dX5_init_41 ?_
  show lt_J X 5 35 (ly_S 78 80) _ 44 [(0, .ref (lt_z X + 72))] []
  refine jr_aload_n hF dX5_init_44 0 rfl rfl ?_
  show lt_J X 5 35 (ly_S 78 80) _ 45 [(0, .ref (lt_z X + 72))] [.ref (lt_z X + 72)]
  refine jr_bipush (v := 7) hF dX5_init_45 rfl ?_
  show lt_J X 5 35 (ly_S 78 80) _ 47 [(0, .ref (lt_z X + 72))] [.int 7, .ref (lt_z X + 72)]
  refine jr_newa_int (len := 7) (n := 7) hF lyq_10 rfl rfl (by decide) (by decide) rfl (hz.up (Nat.le_of_ble_eq_true rfl : 73 ≤ 78)) ⟨Nat.le_of_ble_eq_true rfl, Nat.le_of_ble_eq_true rfl⟩ dX5_init_47 ?_
  show lt_J X 6 42 (ly_S 79 80) _ 49 [(0, .ref (lt_z X + 72))] [.ref (lt_z X + 78), .ref (lt_z X + 72)]
  refine jr_putR (a := 72) (b := 78) hF hI clX5 (Nat.le_of_ble_eq_true rfl) lyf_X5_28 rfl rfl rfl (fun x => ⟨rfl, rfl⟩) (Nat.le_of_ble_eq_true rfl) rfl lyp_80 rfl dX5_init_49 ?_
  show lt_J X 6 42 (ly_S 79 81) _ 52 [(0, .ref (lt_z X + 72))] []
  refine jr_aload_n hF dX5_init_52 0 rfl rfl ?_
  show lt_J X 6 42 (ly_S 79 81) _ 53 [(0, .ref (lt_z X + 72))] [.ref (lt_z X + 72)]
  refine jr_bipush (v := 7) hF dX5_init_53 rfl ?_
  show lt_J X 6 42 (ly_S 79 81) _ 55 [(0, .ref (lt_z X + 72))] [.int 7, .ref (lt_z X + 72)]
  refine jr_newa_int (len := 7) (n := 7) hF lyq_10 rfl rfl (by decide) (by decide) rfl (hz.up (Nat.le_of_ble_eq_true rfl : 73 ≤ 79)) ⟨Nat.le_of_ble_eq_true rfl, Nat.le_of_ble_eq_true rfl⟩ dX5_init_55 ?_
  show lt_J X 7 49 (ly_S 80 81) _ 57 [(0, .ref (lt_z X + 72))] [.ref (lt_z X + 79), .ref (lt_z X + 72)]
  refine jr_putR (a := 72) (b := 79) hF hI clX5 (Nat.le_of_ble_eq_true rfl) lyf_X5_31 rfl rfl rfl (fun x => ⟨rfl, rfl⟩) (Nat.le_of_ble_eq_true rfl) rfl lyp_81 rfl dX5_init_57 ?_
  show lt_J X 7 49 (ly_S 80 82) _ 60 [(0, .ref (lt_z X + 72))] []
  refine jr_aload_n hF dX5_init_60 0 rfl rfl ?_
  show lt_J X 7 49 (ly_S 80 82) _ 61 [(0, .ref (lt_z X + 72))] [.ref (lt_z X + 72)]
  refine jr_bipush (v := 7) hF dX5_init_61 rfl ?_
  show lt_J X 7 49 (ly_S 80 82) _ 63 [(0, .ref (lt_z X + 72))] [.int 7, .ref (lt_z X + 72)]
  refine jr_newa_int (len := 7) (n := 7) hF lyq_10 rfl rfl (by decide) (by decide) rfl (hz.up (Nat.le_of_ble_eq_true rfl : 73 ≤ 80)) ⟨Nat.le_of_ble_eq_true rfl, Nat.le_of_ble_eq_true rfl⟩ dX5_init_63 ?_
  show lt_J X 8 56 (ly_S 81 82) _ 65 [(0, .ref (lt_z X + 72))] [.ref (lt_z X + 80), .ref (lt_z X + 72)]
  refine jr_putR (a := 72) (b := 80) hF hI clX5 (Nat.le_of_ble_eq_true rfl) lyf_X5_34 rfl rfl rfl (fun x => ⟨rfl, rfl⟩) (Nat.le_of_ble_eq_true rfl) rfl lyp_82 rfl dX5_init_65 ?_
  show lt_J X 8 56 (ly_S 81 83) _ 68 [(0, .ref (lt_z X + 72))] []
  refine jr_aload_n hF dX5_init_68 0 rfl rfl ?_
  show lt_J X 8 56 (ly_S 81 83) _ 69 [(0, .ref (lt_z X + 72))] [.ref (lt_z X + 72)]
  refine jr_callV (As := []) (st := []) hF ml_X5_37 (c_X5_clear (w := _) (r := lyw_5 72 _) (ly_c (Nat.le_of_ble_eq_true rfl)) rfl) (ly_c (Nat.le_of_ble_eq_true rfl)) rfl ⟨Nat.le_of_ble_eq_true rfl, Nat.le_of_ble_eq_true rfl⟩ ⟨Nat.le_of_ble_eq_true rfl, Nat.le_of_ble_eq_true rfl⟩ (Nat.le_of_ble_eq_true rfl) dX5_init_69 ?_
  have hz1 := lyw_5_z (hz.up (Nat.le_of_ble_eq_true rfl : 73 ≤ 81)) (Nat.le_of_ble_eq_true rfl : 72 + 1 ≤ 81)
  show lt_J X 8 56 (ly_S 81 83) _ 72 [(0, .ref (lt_z X + 72))] []
  exact jr_return hF hE dX5_init_72
def wI_X5_81 (w : lt_W) : lt_W := lyw_5 81 (w)
theorem zI_X5_81 {w : lt_W} (hz : ly_z w 82) : ly_z (wI_X5_81 w) 90 := by
  have hz1 := lyw_5_z (hz.up (Nat.le_of_ble_eq_true rfl : 82 ≤ 90)) (Nat.le_of_ble_eq_true rfl : 81 + 1 ≤ 90)
  exact hz1.up (Nat.le_of_ble_eq_true rfl)
set_option maxRecDepth 100000 in
set_option maxHeartbeats 4000000 in
theorem cI_X5_81 {l : Launch} {D : va_G} {gA : Nat → ClassId} {s0 : State} {w : lt_W} (hz : ly_z w 82) : lt_C l D gA s0 yX5_init cX5_init 1 none (lt_rmI 2 8 56) [.ref (s0.heap.size + 81)] (ly_S 82 84) w (ly_S 90 92) none (wI_X5_81 w) := by
  refine lt_enterI rfl rfl (Nat.le_of_ble_eq_true rfl) (fun X e1 e2 e3 e4 hF hI hE => ?_)
  subst e1 e2 e3 e4
  have hF : lt_F X cX5_init RX5 1 (lt_rmI 2 8 56) := hF
  show lt_J X 0 0 (ly_S 82 84) w 0 [(0, .ref (lt_z X + 81))] []
  refine jr_aload_n hF dX5_init_0 0 rfl rfl ?_
  show lt_J X 0 0 (ly_S 82 84) _ 1 [(0, .ref (lt_z X + 81))] [.ref (lt_z X + 81)]
  refine jr_objI hF lyq_8 lyq_1 lyq_2 ⟨Nat.le_of_ble_eq_true rfl, Nat.le_of_ble_eq_true rfl⟩ dX5_init_1 ?_
  show lt_J X 0 0 (ly_S 82 84) _ 4 [(0, .ref (lt_z X + 81))] []
  refine jr_aload_n hF dX5_init_4 0 rfl rfl ?_
  show lt_J X 0 0 (ly_S 82 84) _ 5 [(0, .ref (lt_z X + 81))] [.ref (lt_z X + 81)]
  refine jr_bipush (v := 7) hF dX5_init_5 rfl ?_
  show lt_J X 0 0 (ly_S 82 84) _ 7 [(0, .ref (lt_z X + 81))] [.int 7, .ref (lt_z X + 81)]
  refine jr_newa_long (len := 7) (n := 7) hF lyq_3 rfl rfl (by decide) (by decide) rfl hz ⟨Nat.le_of_ble_eq_true rfl, Nat.le_of_ble_eq_true rfl⟩ dX5_init_7 ?_
  show lt_J X 1 7 (ly_S 83 84) _ 9 [(0, .ref (lt_z X + 81))] [.ref (lt_z X + 82), .ref (lt_z X + 81)]
  refine jr_putR (a := 81) (b := 82) hF hI clX5 (Nat.le_of_ble_eq_true rfl) lyf_X5_9 rfl rfl rfl (fun x => ⟨rfl, rfl⟩) (Nat.le_of_ble_eq_true rfl) rfl lyp_84 rfl dX5_init_9 ?_
  show lt_J X 1 7 (ly_S 83 85) _ 12 [(0, .ref (lt_z X + 81))] []
  refine jr_aload_n hF dX5_init_12 0 rfl rfl ?_
  show lt_J X 1 7 (ly_S 83 85) _ 13 [(0, .ref (lt_z X + 81))] [.ref (lt_z X + 81)]
  refine jr_bipush (v := 7) hF dX5_init_13 rfl ?_
  show lt_J X 1 7 (ly_S 83 85) _ 15 [(0, .ref (lt_z X + 81))] [.int 7, .ref (lt_z X + 81)]
  refine jr_newa_int (len := 7) (n := 7) hF lyq_10 rfl rfl (by decide) (by decide) rfl (hz.up (Nat.le_of_ble_eq_true rfl : 82 ≤ 83)) ⟨Nat.le_of_ble_eq_true rfl, Nat.le_of_ble_eq_true rfl⟩ dX5_init_15 ?_
  show lt_J X 2 14 (ly_S 84 85) _ 17 [(0, .ref (lt_z X + 81))] [.ref (lt_z X + 83), .ref (lt_z X + 81)]
  refine jr_putR (a := 81) (b := 83) hF hI clX5 (Nat.le_of_ble_eq_true rfl) lyf_X5_15 rfl rfl rfl (fun x => ⟨rfl, rfl⟩) (Nat.le_of_ble_eq_true rfl) rfl lyp_85 rfl dX5_init_17 ?_
  show lt_J X 2 14 (ly_S 84 86) _ 20 [(0, .ref (lt_z X + 81))] []
  refine jr_aload_n hF dX5_init_20 0 rfl rfl ?_
  show lt_J X 2 14 (ly_S 84 86) _ 21 [(0, .ref (lt_z X + 81))] [.ref (lt_z X + 81)]
  refine jr_bipush (v := 7) hF dX5_init_21 rfl ?_
  show lt_J X 2 14 (ly_S 84 86) _ 23 [(0, .ref (lt_z X + 81))] [.int 7, .ref (lt_z X + 81)]
  refine jr_newa_int (len := 7) (n := 7) hF lyq_10 rfl rfl (by decide) (by decide) rfl (hz.up (Nat.le_of_ble_eq_true rfl : 82 ≤ 84)) ⟨Nat.le_of_ble_eq_true rfl, Nat.le_of_ble_eq_true rfl⟩ dX5_init_23 ?_
  show lt_J X 3 21 (ly_S 85 86) _ 25 [(0, .ref (lt_z X + 81))] [.ref (lt_z X + 84), .ref (lt_z X + 81)]
  refine jr_putR (a := 81) (b := 84) hF hI clX5 (Nat.le_of_ble_eq_true rfl) lyf_X5_19 rfl rfl rfl (fun x => ⟨rfl, rfl⟩) (Nat.le_of_ble_eq_true rfl) rfl lyp_86 rfl dX5_init_25 ?_
  show lt_J X 3 21 (ly_S 85 87) _ 28 [(0, .ref (lt_z X + 81))] []
  refine jr_aload_n hF dX5_init_28 0 rfl rfl ?_
  show lt_J X 3 21 (ly_S 85 87) _ 29 [(0, .ref (lt_z X + 81))] [.ref (lt_z X + 81)]
  refine jr_bipush (v := 7) hF dX5_init_29 rfl ?_
  show lt_J X 3 21 (ly_S 85 87) _ 31 [(0, .ref (lt_z X + 81))] [.int 7, .ref (lt_z X + 81)]
  refine jr_newa_int (len := 7) (n := 7) hF lyq_10 rfl rfl (by decide) (by decide) rfl (hz.up (Nat.le_of_ble_eq_true rfl : 82 ≤ 85)) ⟨Nat.le_of_ble_eq_true rfl, Nat.le_of_ble_eq_true rfl⟩ dX5_init_31 ?_
  show lt_J X 4 28 (ly_S 86 87) _ 33 [(0, .ref (lt_z X + 81))] [.ref (lt_z X + 85), .ref (lt_z X + 81)]
  refine jr_putR (a := 81) (b := 85) hF hI clX5 (Nat.le_of_ble_eq_true rfl) lyf_X5_22 rfl rfl rfl (fun x => ⟨rfl, rfl⟩) (Nat.le_of_ble_eq_true rfl) rfl lyp_87 rfl dX5_init_33 ?_
  show lt_J X 4 28 (ly_S 86 88) _ 36 [(0, .ref (lt_z X + 81))] []
  refine jr_aload_n hF dX5_init_36 0 rfl rfl ?_
  show lt_J X 4 28 (ly_S 86 88) _ 37 [(0, .ref (lt_z X + 81))] [.ref (lt_z X + 81)]
  refine jr_bipush (v := 7) hF dX5_init_37 rfl ?_
  show lt_J X 4 28 (ly_S 86 88) _ 39 [(0, .ref (lt_z X + 81))] [.int 7, .ref (lt_z X + 81)]
  refine jr_newa_int (len := 7) (n := 7) hF lyq_10 rfl rfl (by decide) (by decide) rfl (hz.up (Nat.le_of_ble_eq_true rfl : 82 ≤ 86)) ⟨Nat.le_of_ble_eq_true rfl, Nat.le_of_ble_eq_true rfl⟩ dX5_init_39 ?_
  show lt_J X 5 35 (ly_S 87 88) _ 41 [(0, .ref (lt_z X + 81))] [.ref (lt_z X + 86), .ref (lt_z X + 81)]
  refine jr_putR (a := 81) (b := 86) hF hI clX5 (Nat.le_of_ble_eq_true rfl) lyf_X5_25 rfl rfl rfl (fun x => ⟨rfl, rfl⟩) (Nat.le_of_ble_eq_true rfl) rfl lyp_88 rfl dX5_init_41 ?_
  show lt_J X 5 35 (ly_S 87 89) _ 44 [(0, .ref (lt_z X + 81))] []
  refine jr_aload_n hF dX5_init_44 0 rfl rfl ?_
  show lt_J X 5 35 (ly_S 87 89) _ 45 [(0, .ref (lt_z X + 81))] [.ref (lt_z X + 81)]
  refine jr_bipush (v := 7) hF dX5_init_45 rfl ?_
  show lt_J X 5 35 (ly_S 87 89) _ 47 [(0, .ref (lt_z X + 81))] [.int 7, .ref (lt_z X + 81)]
  refine jr_newa_int (len := 7) (n := 7) hF lyq_10 rfl rfl (by decide) (by decide) rfl (hz.up (Nat.le_of_ble_eq_true rfl : 82 ≤ 87)) ⟨Nat.le_of_ble_eq_true rfl, Nat.le_of_ble_eq_true rfl⟩ dX5_init_47 ?_
  show lt_J X 6 42 (ly_S 88 89) _ 49 [(0, .ref (lt_z X + 81))] [.ref (lt_z X + 87), .ref (lt_z X + 81)]
  refine jr_putR (a := 81) (b := 87) hF hI clX5 (Nat.le_of_ble_eq_true rfl) lyf_X5_28 rfl rfl rfl (fun x => ⟨rfl, rfl⟩) (Nat.le_of_ble_eq_true rfl) rfl lyp_89 rfl dX5_init_49 ?_
  show lt_J X 6 42 (ly_S 88 90) _ 52 [(0, .ref (lt_z X + 81))] []
  refine jr_aload_n hF dX5_init_52 0 rfl rfl ?_
  show lt_J X 6 42 (ly_S 88 90) _ 53 [(0, .ref (lt_z X + 81))] [.ref (lt_z X + 81)]
  refine jr_bipush (v := 7) hF dX5_init_53 rfl ?_
  show lt_J X 6 42 (ly_S 88 90) _ 55 [(0, .ref (lt_z X + 81))] [.int 7, .ref (lt_z X + 81)]
  refine jr_newa_int (len := 7) (n := 7) hF lyq_10 rfl rfl (by decide) (by decide) rfl (hz.up (Nat.le_of_ble_eq_true rfl : 82 ≤ 88)) ⟨Nat.le_of_ble_eq_true rfl, Nat.le_of_ble_eq_true rfl⟩ dX5_init_55 ?_
  show lt_J X 7 49 (ly_S 89 90) _ 57 [(0, .ref (lt_z X + 81))] [.ref (lt_z X + 88), .ref (lt_z X + 81)]
  refine jr_putR (a := 81) (b := 88) hF hI clX5 (Nat.le_of_ble_eq_true rfl) lyf_X5_31 rfl rfl rfl (fun x => ⟨rfl, rfl⟩) (Nat.le_of_ble_eq_true rfl) rfl lyp_90 rfl dX5_init_57 ?_
  show lt_J X 7 49 (ly_S 89 91) _ 60 [(0, .ref (lt_z X + 81))] []
  refine jr_aload_n hF dX5_init_60 0 rfl rfl ?_
  show lt_J X 7 49 (ly_S 89 91) _ 61 [(0, .ref (lt_z X + 81))] [.ref (lt_z X + 81)]
  refine jr_bipush (v := 7) hF dX5_init_61 rfl ?_
  show lt_J X 7 49 (ly_S 89 91) _ 63 [(0, .ref (lt_z X + 81))] [.int 7, .ref (lt_z X + 81)]
  refine jr_newa_int (len := 7) (n := 7) hF lyq_10 rfl rfl (by decide) (by decide) rfl (hz.up (Nat.le_of_ble_eq_true rfl : 82 ≤ 89)) ⟨Nat.le_of_ble_eq_true rfl, Nat.le_of_ble_eq_true rfl⟩ dX5_init_63 ?_
  show lt_J X 8 56 (ly_S 90 91) _ 65 [(0, .ref (lt_z X + 81))] [.ref (lt_z X + 89), .ref (lt_z X + 81)]
  refine jr_putR (a := 81) (b := 89) hF hI clX5 (Nat.le_of_ble_eq_true rfl) lyf_X5_34 rfl rfl rfl (fun x => ⟨rfl, rfl⟩) (Nat.le_of_ble_eq_true rfl) rfl lyp_91 rfl dX5_init_65 ?_
  show lt_J X 8 56 (ly_S 90 92) _ 68 [(0, .ref (lt_z X + 81))] []
  refine jr_aload_n hF dX5_init_68 0 rfl rfl ?_
  show lt_J X 8 56 (ly_S 90 92) _ 69 [(0, .ref (lt_z X + 81))] [.ref (lt_z X + 81)]
  refine jr_callV (As := []) (st := []) hF ml_X5_37 (c_X5_clear (w := _) (r := lyw_5 81 _) (ly_c (Nat.le_of_ble_eq_true rfl)) rfl) (ly_c (Nat.le_of_ble_eq_true rfl)) rfl ⟨Nat.le_of_ble_eq_true rfl, Nat.le_of_ble_eq_true rfl⟩ ⟨Nat.le_of_ble_eq_true rfl, Nat.le_of_ble_eq_true rfl⟩ (Nat.le_of_ble_eq_true rfl) dX5_init_69 ?_
  have hz1 := lyw_5_z (hz.up (Nat.le_of_ble_eq_true rfl : 82 ≤ 90)) (Nat.le_of_ble_eq_true rfl : 81 + 1 ≤ 90)
  show lt_J X 8 56 (ly_S 90 92) _ 72 [(0, .ref (lt_z X + 81))] []
  exact jr_return hF hE dX5_init_72
def wI_X5_90 (w : lt_W) : lt_W := lyw_5 90 (w)
theorem zI_X5_90 {w : lt_W} (hz : ly_z w 91) : ly_z (wI_X5_90 w) 99 := by
  have hz1 := lyw_5_z (hz.up (Nat.le_of_ble_eq_true rfl : 91 ≤ 99)) (Nat.le_of_ble_eq_true rfl : 90 + 1 ≤ 99)
  exact hz1.up (Nat.le_of_ble_eq_true rfl)
set_option maxRecDepth 100000 in
set_option maxHeartbeats 4000000 in
theorem cI_X5_90 {l : Launch} {D : va_G} {gA : Nat → ClassId} {s0 : State} {w : lt_W} (hz : ly_z w 91) : lt_C l D gA s0 yX5_init cX5_init 1 none (lt_rmI 2 8 56) [.ref (s0.heap.size + 90)] (ly_S 91 93) w (ly_S 99 101) none (wI_X5_90 w) := by
  refine lt_enterI rfl rfl (Nat.le_of_ble_eq_true rfl) (fun X e1 e2 e3 e4 hF hI hE => ?_)
  subst e1 e2 e3 e4
  have hF : lt_F X cX5_init RX5 1 (lt_rmI 2 8 56) := hF
  show lt_J X 0 0 (ly_S 91 93) w 0 [(0, .ref (lt_z X + 90))] []
  refine jr_aload_n hF dX5_init_0 0 rfl rfl ?_
  show lt_J X 0 0 (ly_S 91 93) _ 1 [(0, .ref (lt_z X + 90))] [.ref (lt_z X + 90)]
  refine jr_objI hF lyq_8 lyq_1 lyq_2 ⟨Nat.le_of_ble_eq_true rfl, Nat.le_of_ble_eq_true rfl⟩ dX5_init_1 ?_
  show lt_J X 0 0 (ly_S 91 93) _ 4 [(0, .ref (lt_z X + 90))] []
  refine jr_aload_n hF dX5_init_4 0 rfl rfl ?_
  show lt_J X 0 0 (ly_S 91 93) _ 5 [(0, .ref (lt_z X + 90))] [.ref (lt_z X + 90)]
  refine jr_bipush (v := 7) hF dX5_init_5 rfl ?_
  show lt_J X 0 0 (ly_S 91 93) _ 7 [(0, .ref (lt_z X + 90))] [.int 7, .ref (lt_z X + 90)]
  refine jr_newa_long (len := 7) (n := 7) hF lyq_3 rfl rfl (by decide) (by decide) rfl hz ⟨Nat.le_of_ble_eq_true rfl, Nat.le_of_ble_eq_true rfl⟩ dX5_init_7 ?_
  show lt_J X 1 7 (ly_S 92 93) _ 9 [(0, .ref (lt_z X + 90))] [.ref (lt_z X + 91), .ref (lt_z X + 90)]
  refine jr_putR (a := 90) (b := 91) hF hI clX5 (Nat.le_of_ble_eq_true rfl) lyf_X5_9 rfl rfl rfl (fun x => ⟨rfl, rfl⟩) (Nat.le_of_ble_eq_true rfl) rfl lyp_93 rfl dX5_init_9 ?_
  show lt_J X 1 7 (ly_S 92 94) _ 12 [(0, .ref (lt_z X + 90))] []
  refine jr_aload_n hF dX5_init_12 0 rfl rfl ?_
  show lt_J X 1 7 (ly_S 92 94) _ 13 [(0, .ref (lt_z X + 90))] [.ref (lt_z X + 90)]
  refine jr_bipush (v := 7) hF dX5_init_13 rfl ?_
  show lt_J X 1 7 (ly_S 92 94) _ 15 [(0, .ref (lt_z X + 90))] [.int 7, .ref (lt_z X + 90)]
  refine jr_newa_int (len := 7) (n := 7) hF lyq_10 rfl rfl (by decide) (by decide) rfl (hz.up (Nat.le_of_ble_eq_true rfl : 91 ≤ 92)) ⟨Nat.le_of_ble_eq_true rfl, Nat.le_of_ble_eq_true rfl⟩ dX5_init_15 ?_
  show lt_J X 2 14 (ly_S 93 94) _ 17 [(0, .ref (lt_z X + 90))] [.ref (lt_z X + 92), .ref (lt_z X + 90)]
  refine jr_putR (a := 90) (b := 92) hF hI clX5 (Nat.le_of_ble_eq_true rfl) lyf_X5_15 rfl rfl rfl (fun x => ⟨rfl, rfl⟩) (Nat.le_of_ble_eq_true rfl) rfl lyp_94 rfl dX5_init_17 ?_
  show lt_J X 2 14 (ly_S 93 95) _ 20 [(0, .ref (lt_z X + 90))] []
  refine jr_aload_n hF dX5_init_20 0 rfl rfl ?_
  show lt_J X 2 14 (ly_S 93 95) _ 21 [(0, .ref (lt_z X + 90))] [.ref (lt_z X + 90)]
  refine jr_bipush (v := 7) hF dX5_init_21 rfl ?_
  show lt_J X 2 14 (ly_S 93 95) _ 23 [(0, .ref (lt_z X + 90))] [.int 7, .ref (lt_z X + 90)]
  refine jr_newa_int (len := 7) (n := 7) hF lyq_10 rfl rfl (by decide) (by decide) rfl (hz.up (Nat.le_of_ble_eq_true rfl : 91 ≤ 93)) ⟨Nat.le_of_ble_eq_true rfl, Nat.le_of_ble_eq_true rfl⟩ dX5_init_23 ?_
  show lt_J X 3 21 (ly_S 94 95) _ 25 [(0, .ref (lt_z X + 90))] [.ref (lt_z X + 93), .ref (lt_z X + 90)]
  refine jr_putR (a := 90) (b := 93) hF hI clX5 (Nat.le_of_ble_eq_true rfl) lyf_X5_19 rfl rfl rfl (fun x => ⟨rfl, rfl⟩) (Nat.le_of_ble_eq_true rfl) rfl lyp_95 rfl dX5_init_25 ?_
  show lt_J X 3 21 (ly_S 94 96) _ 28 [(0, .ref (lt_z X + 90))] []
  refine jr_aload_n hF dX5_init_28 0 rfl rfl ?_
  show lt_J X 3 21 (ly_S 94 96) _ 29 [(0, .ref (lt_z X + 90))] [.ref (lt_z X + 90)]
  refine jr_bipush (v := 7) hF dX5_init_29 rfl ?_
  show lt_J X 3 21 (ly_S 94 96) _ 31 [(0, .ref (lt_z X + 90))] [.int 7, .ref (lt_z X + 90)]
  refine jr_newa_int (len := 7) (n := 7) hF lyq_10 rfl rfl (by decide) (by decide) rfl (hz.up (Nat.le_of_ble_eq_true rfl : 91 ≤ 94)) ⟨Nat.le_of_ble_eq_true rfl, Nat.le_of_ble_eq_true rfl⟩ dX5_init_31 ?_
  show lt_J X 4 28 (ly_S 95 96) _ 33 [(0, .ref (lt_z X + 90))] [.ref (lt_z X + 94), .ref (lt_z X + 90)]
  refine jr_putR (a := 90) (b := 94) hF hI clX5 (Nat.le_of_ble_eq_true rfl) lyf_X5_22 rfl rfl rfl (fun x => ⟨rfl, rfl⟩) (Nat.le_of_ble_eq_true rfl) rfl lyp_96 rfl dX5_init_33 ?_
  show lt_J X 4 28 (ly_S 95 97) _ 36 [(0, .ref (lt_z X + 90))] []
  refine jr_aload_n hF dX5_init_36 0 rfl rfl ?_
  show lt_J X 4 28 (ly_S 95 97) _ 37 [(0, .ref (lt_z X + 90))] [.ref (lt_z X + 90)]
  refine jr_bipush (v := 7) hF dX5_init_37 rfl ?_
  show lt_J X 4 28 (ly_S 95 97) _ 39 [(0, .ref (lt_z X + 90))] [.int 7, .ref (lt_z X + 90)]
  refine jr_newa_int (len := 7) (n := 7) hF lyq_10 rfl rfl (by decide) (by decide) rfl (hz.up (Nat.le_of_ble_eq_true rfl : 91 ≤ 95)) ⟨Nat.le_of_ble_eq_true rfl, Nat.le_of_ble_eq_true rfl⟩ dX5_init_39 ?_
  show lt_J X 5 35 (ly_S 96 97) _ 41 [(0, .ref (lt_z X + 90))] [.ref (lt_z X + 95), .ref (lt_z X + 90)]
  refine jr_putR (a := 90) (b := 95) hF hI clX5 (Nat.le_of_ble_eq_true rfl) lyf_X5_25 rfl rfl rfl (fun x => ⟨rfl, rfl⟩) (Nat.le_of_ble_eq_true rfl) rfl lyp_97 rfl dX5_init_41 ?_
  show lt_J X 5 35 (ly_S 96 98) _ 44 [(0, .ref (lt_z X + 90))] []
  refine jr_aload_n hF dX5_init_44 0 rfl rfl ?_
  show lt_J X 5 35 (ly_S 96 98) _ 45 [(0, .ref (lt_z X + 90))] [.ref (lt_z X + 90)]
  refine jr_bipush (v := 7) hF dX5_init_45 rfl ?_
  show lt_J X 5 35 (ly_S 96 98) _ 47 [(0, .ref (lt_z X + 90))] [.int 7, .ref (lt_z X + 90)]
  refine jr_newa_int (len := 7) (n := 7) hF lyq_10 rfl rfl (by decide) (by decide) rfl (hz.up (Nat.le_of_ble_eq_true rfl : 91 ≤ 96)) ⟨Nat.le_of_ble_eq_true rfl, Nat.le_of_ble_eq_true rfl⟩ dX5_init_47 ?_
  show lt_J X 6 42 (ly_S 97 98) _ 49 [(0, .ref (lt_z X + 90))] [.ref (lt_z X + 96), .ref (lt_z X + 90)]
  refine jr_putR (a := 90) (b := 96) hF hI clX5 (Nat.le_of_ble_eq_true rfl) lyf_X5_28 rfl rfl rfl (fun x => ⟨rfl, rfl⟩) (Nat.le_of_ble_eq_true rfl) rfl lyp_98 rfl dX5_init_49 ?_
  show lt_J X 6 42 (ly_S 97 99) _ 52 [(0, .ref (lt_z X + 90))] []
  refine jr_aload_n hF dX5_init_52 0 rfl rfl ?_
  show lt_J X 6 42 (ly_S 97 99) _ 53 [(0, .ref (lt_z X + 90))] [.ref (lt_z X + 90)]
  refine jr_bipush (v := 7) hF dX5_init_53 rfl ?_
  show lt_J X 6 42 (ly_S 97 99) _ 55 [(0, .ref (lt_z X + 90))] [.int 7, .ref (lt_z X + 90)]
  refine jr_newa_int (len := 7) (n := 7) hF lyq_10 rfl rfl (by decide) (by decide) rfl (hz.up (Nat.le_of_ble_eq_true rfl : 91 ≤ 97)) ⟨Nat.le_of_ble_eq_true rfl, Nat.le_of_ble_eq_true rfl⟩ dX5_init_55 ?_
  show lt_J X 7 49 (ly_S 98 99) _ 57 [(0, .ref (lt_z X + 90))] [.ref (lt_z X + 97), .ref (lt_z X + 90)]
  refine jr_putR (a := 90) (b := 97) hF hI clX5 (Nat.le_of_ble_eq_true rfl) lyf_X5_31 rfl rfl rfl (fun x => ⟨rfl, rfl⟩) (Nat.le_of_ble_eq_true rfl) rfl lyp_99 rfl dX5_init_57 ?_
  show lt_J X 7 49 (ly_S 98 100) _ 60 [(0, .ref (lt_z X + 90))] []
  refine jr_aload_n hF dX5_init_60 0 rfl rfl ?_
  show lt_J X 7 49 (ly_S 98 100) _ 61 [(0, .ref (lt_z X + 90))] [.ref (lt_z X + 90)]
  refine jr_bipush (v := 7) hF dX5_init_61 rfl ?_
  show lt_J X 7 49 (ly_S 98 100) _ 63 [(0, .ref (lt_z X + 90))] [.int 7, .ref (lt_z X + 90)]
  refine jr_newa_int (len := 7) (n := 7) hF lyq_10 rfl rfl (by decide) (by decide) rfl (hz.up (Nat.le_of_ble_eq_true rfl : 91 ≤ 98)) ⟨Nat.le_of_ble_eq_true rfl, Nat.le_of_ble_eq_true rfl⟩ dX5_init_63 ?_
  show lt_J X 8 56 (ly_S 99 100) _ 65 [(0, .ref (lt_z X + 90))] [.ref (lt_z X + 98), .ref (lt_z X + 90)]
  refine jr_putR (a := 90) (b := 98) hF hI clX5 (Nat.le_of_ble_eq_true rfl) lyf_X5_34 rfl rfl rfl (fun x => ⟨rfl, rfl⟩) (Nat.le_of_ble_eq_true rfl) rfl lyp_100 rfl dX5_init_65 ?_
  show lt_J X 8 56 (ly_S 99 101) _ 68 [(0, .ref (lt_z X + 90))] []
  refine jr_aload_n hF dX5_init_68 0 rfl rfl ?_
  show lt_J X 8 56 (ly_S 99 101) _ 69 [(0, .ref (lt_z X + 90))] [.ref (lt_z X + 90)]
  refine jr_callV (As := []) (st := []) hF ml_X5_37 (c_X5_clear (w := _) (r := lyw_5 90 _) (ly_c (Nat.le_of_ble_eq_true rfl)) rfl) (ly_c (Nat.le_of_ble_eq_true rfl)) rfl ⟨Nat.le_of_ble_eq_true rfl, Nat.le_of_ble_eq_true rfl⟩ ⟨Nat.le_of_ble_eq_true rfl, Nat.le_of_ble_eq_true rfl⟩ (Nat.le_of_ble_eq_true rfl) dX5_init_69 ?_
  have hz1 := lyw_5_z (hz.up (Nat.le_of_ble_eq_true rfl : 91 ≤ 99)) (Nat.le_of_ble_eq_true rfl : 90 + 1 ≤ 99)
  show lt_J X 8 56 (ly_S 99 101) _ 72 [(0, .ref (lt_z X + 90))] []
  exact jr_return hF hE dX5_init_72
def wI_X5_99 (w : lt_W) : lt_W := lyw_5 99 (w)
theorem zI_X5_99 {w : lt_W} (hz : ly_z w 100) : ly_z (wI_X5_99 w) 108 := by
  have hz1 := lyw_5_z (hz.up (Nat.le_of_ble_eq_true rfl : 100 ≤ 108)) (Nat.le_of_ble_eq_true rfl : 99 + 1 ≤ 108)
  exact hz1.up (Nat.le_of_ble_eq_true rfl)
set_option maxRecDepth 100000 in
set_option maxHeartbeats 4000000 in
theorem cI_X5_99 {l : Launch} {D : va_G} {gA : Nat → ClassId} {s0 : State} {w : lt_W} (hz : ly_z w 100) : lt_C l D gA s0 yX5_init cX5_init 1 none (lt_rmI 2 8 56) [.ref (s0.heap.size + 99)] (ly_S 100 102) w (ly_S 108 110) none (wI_X5_99 w) := by
  refine lt_enterI rfl rfl (Nat.le_of_ble_eq_true rfl) (fun X e1 e2 e3 e4 hF hI hE => ?_)
  subst e1 e2 e3 e4
  have hF : lt_F X cX5_init RX5 1 (lt_rmI 2 8 56) := hF
  show lt_J X 0 0 (ly_S 100 102) w 0 [(0, .ref (lt_z X + 99))] []
  refine jr_aload_n hF dX5_init_0 0 rfl rfl ?_
  show lt_J X 0 0 (ly_S 100 102) _ 1 [(0, .ref (lt_z X + 99))] [.ref (lt_z X + 99)]
  refine jr_objI hF lyq_8 lyq_1 lyq_2 ⟨Nat.le_of_ble_eq_true rfl, Nat.le_of_ble_eq_true rfl⟩ dX5_init_1 ?_
  show lt_J X 0 0 (ly_S 100 102) _ 4 [(0, .ref (lt_z X + 99))] []
  refine jr_aload_n hF dX5_init_4 0 rfl rfl ?_
  show lt_J X 0 0 (ly_S 100 102) _ 5 [(0, .ref (lt_z X + 99))] [.ref (lt_z X + 99)]
  refine jr_bipush (v := 7) hF dX5_init_5 rfl ?_
  show lt_J X 0 0 (ly_S 100 102) _ 7 [(0, .ref (lt_z X + 99))] [.int 7, .ref (lt_z X + 99)]
  refine jr_newa_long (len := 7) (n := 7) hF lyq_3 rfl rfl (by decide) (by decide) rfl hz ⟨Nat.le_of_ble_eq_true rfl, Nat.le_of_ble_eq_true rfl⟩ dX5_init_7 ?_
  show lt_J X 1 7 (ly_S 101 102) _ 9 [(0, .ref (lt_z X + 99))] [.ref (lt_z X + 100), .ref (lt_z X + 99)]
  refine jr_putR (a := 99) (b := 100) hF hI clX5 (Nat.le_of_ble_eq_true rfl) lyf_X5_9 rfl rfl rfl (fun x => ⟨rfl, rfl⟩) (Nat.le_of_ble_eq_true rfl) rfl lyp_102 rfl dX5_init_9 ?_
  show lt_J X 1 7 (ly_S 101 103) _ 12 [(0, .ref (lt_z X + 99))] []
  refine jr_aload_n hF dX5_init_12 0 rfl rfl ?_
  show lt_J X 1 7 (ly_S 101 103) _ 13 [(0, .ref (lt_z X + 99))] [.ref (lt_z X + 99)]
  refine jr_bipush (v := 7) hF dX5_init_13 rfl ?_
  show lt_J X 1 7 (ly_S 101 103) _ 15 [(0, .ref (lt_z X + 99))] [.int 7, .ref (lt_z X + 99)]
  refine jr_newa_int (len := 7) (n := 7) hF lyq_10 rfl rfl (by decide) (by decide) rfl (hz.up (Nat.le_of_ble_eq_true rfl : 100 ≤ 101)) ⟨Nat.le_of_ble_eq_true rfl, Nat.le_of_ble_eq_true rfl⟩ dX5_init_15 ?_
  show lt_J X 2 14 (ly_S 102 103) _ 17 [(0, .ref (lt_z X + 99))] [.ref (lt_z X + 101), .ref (lt_z X + 99)]
  refine jr_putR (a := 99) (b := 101) hF hI clX5 (Nat.le_of_ble_eq_true rfl) lyf_X5_15 rfl rfl rfl (fun x => ⟨rfl, rfl⟩) (Nat.le_of_ble_eq_true rfl) rfl lyp_103 rfl dX5_init_17 ?_
  show lt_J X 2 14 (ly_S 102 104) _ 20 [(0, .ref (lt_z X + 99))] []
  refine jr_aload_n hF dX5_init_20 0 rfl rfl ?_
  show lt_J X 2 14 (ly_S 102 104) _ 21 [(0, .ref (lt_z X + 99))] [.ref (lt_z X + 99)]
  refine jr_bipush (v := 7) hF dX5_init_21 rfl ?_
  show lt_J X 2 14 (ly_S 102 104) _ 23 [(0, .ref (lt_z X + 99))] [.int 7, .ref (lt_z X + 99)]
  refine jr_newa_int (len := 7) (n := 7) hF lyq_10 rfl rfl (by decide) (by decide) rfl (hz.up (Nat.le_of_ble_eq_true rfl : 100 ≤ 102)) ⟨Nat.le_of_ble_eq_true rfl, Nat.le_of_ble_eq_true rfl⟩ dX5_init_23 ?_
  show lt_J X 3 21 (ly_S 103 104) _ 25 [(0, .ref (lt_z X + 99))] [.ref (lt_z X + 102), .ref (lt_z X + 99)]
  refine jr_putR (a := 99) (b := 102) hF hI clX5 (Nat.le_of_ble_eq_true rfl) lyf_X5_19 rfl rfl rfl (fun x => ⟨rfl, rfl⟩) (Nat.le_of_ble_eq_true rfl) rfl lyp_104 rfl dX5_init_25 ?_
  show lt_J X 3 21 (ly_S 103 105) _ 28 [(0, .ref (lt_z X + 99))] []
  refine jr_aload_n hF dX5_init_28 0 rfl rfl ?_
  show lt_J X 3 21 (ly_S 103 105) _ 29 [(0, .ref (lt_z X + 99))] [.ref (lt_z X + 99)]
  refine jr_bipush (v := 7) hF dX5_init_29 rfl ?_
  show lt_J X 3 21 (ly_S 103 105) _ 31 [(0, .ref (lt_z X + 99))] [.int 7, .ref (lt_z X + 99)]
  refine jr_newa_int (len := 7) (n := 7) hF lyq_10 rfl rfl (by decide) (by decide) rfl (hz.up (Nat.le_of_ble_eq_true rfl : 100 ≤ 103)) ⟨Nat.le_of_ble_eq_true rfl, Nat.le_of_ble_eq_true rfl⟩ dX5_init_31 ?_
  show lt_J X 4 28 (ly_S 104 105) _ 33 [(0, .ref (lt_z X + 99))] [.ref (lt_z X + 103), .ref (lt_z X + 99)]
  refine jr_putR (a := 99) (b := 103) hF hI clX5 (Nat.le_of_ble_eq_true rfl) lyf_X5_22 rfl rfl rfl (fun x => ⟨rfl, rfl⟩) (Nat.le_of_ble_eq_true rfl) rfl lyp_105 rfl dX5_init_33 ?_
  show lt_J X 4 28 (ly_S 104 106) _ 36 [(0, .ref (lt_z X + 99))] []
  refine jr_aload_n hF dX5_init_36 0 rfl rfl ?_
  show lt_J X 4 28 (ly_S 104 106) _ 37 [(0, .ref (lt_z X + 99))] [.ref (lt_z X + 99)]
  refine jr_bipush (v := 7) hF dX5_init_37 rfl ?_
  show lt_J X 4 28 (ly_S 104 106) _ 39 [(0, .ref (lt_z X + 99))] [.int 7, .ref (lt_z X + 99)]
  refine jr_newa_int (len := 7) (n := 7) hF lyq_10 rfl rfl (by decide) (by decide) rfl (hz.up (Nat.le_of_ble_eq_true rfl : 100 ≤ 104)) ⟨Nat.le_of_ble_eq_true rfl, Nat.le_of_ble_eq_true rfl⟩ dX5_init_39 ?_
  show lt_J X 5 35 (ly_S 105 106) _ 41 [(0, .ref (lt_z X + 99))] [.ref (lt_z X + 104), .ref (lt_z X + 99)]
  refine jr_putR (a := 99) (b := 104) hF hI clX5 (Nat.le_of_ble_eq_true rfl) lyf_X5_25 rfl rfl rfl (fun x => ⟨rfl, rfl⟩) (Nat.le_of_ble_eq_true rfl) rfl lyp_106 rfl dX5_init_41 ?_
  show lt_J X 5 35 (ly_S 105 107) _ 44 [(0, .ref (lt_z X + 99))] []
  refine jr_aload_n hF dX5_init_44 0 rfl rfl ?_
  show lt_J X 5 35 (ly_S 105 107) _ 45 [(0, .ref (lt_z X + 99))] [.ref (lt_z X + 99)]
  refine jr_bipush (v := 7) hF dX5_init_45 rfl ?_
  show lt_J X 5 35 (ly_S 105 107) _ 47 [(0, .ref (lt_z X + 99))] [.int 7, .ref (lt_z X + 99)]
  refine jr_newa_int (len := 7) (n := 7) hF lyq_10 rfl rfl (by decide) (by decide) rfl (hz.up (Nat.le_of_ble_eq_true rfl : 100 ≤ 105)) ⟨Nat.le_of_ble_eq_true rfl, Nat.le_of_ble_eq_true rfl⟩ dX5_init_47 ?_
  show lt_J X 6 42 (ly_S 106 107) _ 49 [(0, .ref (lt_z X + 99))] [.ref (lt_z X + 105), .ref (lt_z X + 99)]
  refine jr_putR (a := 99) (b := 105) hF hI clX5 (Nat.le_of_ble_eq_true rfl) lyf_X5_28 rfl rfl rfl (fun x => ⟨rfl, rfl⟩) (Nat.le_of_ble_eq_true rfl) rfl lyp_107 rfl dX5_init_49 ?_
  show lt_J X 6 42 (ly_S 106 108) _ 52 [(0, .ref (lt_z X + 99))] []
  refine jr_aload_n hF dX5_init_52 0 rfl rfl ?_
  show lt_J X 6 42 (ly_S 106 108) _ 53 [(0, .ref (lt_z X + 99))] [.ref (lt_z X + 99)]
  refine jr_bipush (v := 7) hF dX5_init_53 rfl ?_
  show lt_J X 6 42 (ly_S 106 108) _ 55 [(0, .ref (lt_z X + 99))] [.int 7, .ref (lt_z X + 99)]
  refine jr_newa_int (len := 7) (n := 7) hF lyq_10 rfl rfl (by decide) (by decide) rfl (hz.up (Nat.le_of_ble_eq_true rfl : 100 ≤ 106)) ⟨Nat.le_of_ble_eq_true rfl, Nat.le_of_ble_eq_true rfl⟩ dX5_init_55 ?_
  show lt_J X 7 49 (ly_S 107 108) _ 57 [(0, .ref (lt_z X + 99))] [.ref (lt_z X + 106), .ref (lt_z X + 99)]
  refine jr_putR (a := 99) (b := 106) hF hI clX5 (Nat.le_of_ble_eq_true rfl) lyf_X5_31 rfl rfl rfl (fun x => ⟨rfl, rfl⟩) (Nat.le_of_ble_eq_true rfl) rfl lyp_108 rfl dX5_init_57 ?_
  show lt_J X 7 49 (ly_S 107 109) _ 60 [(0, .ref (lt_z X + 99))] []
  refine jr_aload_n hF dX5_init_60 0 rfl rfl ?_
  show lt_J X 7 49 (ly_S 107 109) _ 61 [(0, .ref (lt_z X + 99))] [.ref (lt_z X + 99)]
  refine jr_bipush (v := 7) hF dX5_init_61 rfl ?_
  show lt_J X 7 49 (ly_S 107 109) _ 63 [(0, .ref (lt_z X + 99))] [.int 7, .ref (lt_z X + 99)]
  refine jr_newa_int (len := 7) (n := 7) hF lyq_10 rfl rfl (by decide) (by decide) rfl (hz.up (Nat.le_of_ble_eq_true rfl : 100 ≤ 107)) ⟨Nat.le_of_ble_eq_true rfl, Nat.le_of_ble_eq_true rfl⟩ dX5_init_63 ?_
  show lt_J X 8 56 (ly_S 108 109) _ 65 [(0, .ref (lt_z X + 99))] [.ref (lt_z X + 107), .ref (lt_z X + 99)]
  refine jr_putR (a := 99) (b := 107) hF hI clX5 (Nat.le_of_ble_eq_true rfl) lyf_X5_34 rfl rfl rfl (fun x => ⟨rfl, rfl⟩) (Nat.le_of_ble_eq_true rfl) rfl lyp_109 rfl dX5_init_65 ?_
  show lt_J X 8 56 (ly_S 108 110) _ 68 [(0, .ref (lt_z X + 99))] []
  refine jr_aload_n hF dX5_init_68 0 rfl rfl ?_
  show lt_J X 8 56 (ly_S 108 110) _ 69 [(0, .ref (lt_z X + 99))] [.ref (lt_z X + 99)]
  refine jr_callV (As := []) (st := []) hF ml_X5_37 (c_X5_clear (w := _) (r := lyw_5 99 _) (ly_c (Nat.le_of_ble_eq_true rfl)) rfl) (ly_c (Nat.le_of_ble_eq_true rfl)) rfl ⟨Nat.le_of_ble_eq_true rfl, Nat.le_of_ble_eq_true rfl⟩ ⟨Nat.le_of_ble_eq_true rfl, Nat.le_of_ble_eq_true rfl⟩ (Nat.le_of_ble_eq_true rfl) dX5_init_69 ?_
  have hz1 := lyw_5_z (hz.up (Nat.le_of_ble_eq_true rfl : 100 ≤ 108)) (Nat.le_of_ble_eq_true rfl : 99 + 1 ≤ 108)
  show lt_J X 8 56 (ly_S 108 110) _ 72 [(0, .ref (lt_z X + 99))] []
  exact jr_return hF hE dX5_init_72
def wI_X5_108 (w : lt_W) : lt_W := lyw_5 108 (w)
theorem zI_X5_108 {w : lt_W} (hz : ly_z w 109) : ly_z (wI_X5_108 w) 117 := by
  have hz1 := lyw_5_z (hz.up (Nat.le_of_ble_eq_true rfl : 109 ≤ 117)) (Nat.le_of_ble_eq_true rfl : 108 + 1 ≤ 117)
  exact hz1.up (Nat.le_of_ble_eq_true rfl)
set_option maxRecDepth 100000 in
set_option maxHeartbeats 4000000 in
theorem cI_X5_108 {l : Launch} {D : va_G} {gA : Nat → ClassId} {s0 : State} {w : lt_W} (hz : ly_z w 109) : lt_C l D gA s0 yX5_init cX5_init 1 none (lt_rmI 2 8 56) [.ref (s0.heap.size + 108)] (ly_S 109 111) w (ly_S 117 119) none (wI_X5_108 w) := by
  refine lt_enterI rfl rfl (Nat.le_of_ble_eq_true rfl) (fun X e1 e2 e3 e4 hF hI hE => ?_)
  subst e1 e2 e3 e4
  have hF : lt_F X cX5_init RX5 1 (lt_rmI 2 8 56) := hF
  show lt_J X 0 0 (ly_S 109 111) w 0 [(0, .ref (lt_z X + 108))] []
  refine jr_aload_n hF dX5_init_0 0 rfl rfl ?_
  show lt_J X 0 0 (ly_S 109 111) _ 1 [(0, .ref (lt_z X + 108))] [.ref (lt_z X + 108)]
  refine jr_objI hF lyq_8 lyq_1 lyq_2 ⟨Nat.le_of_ble_eq_true rfl, Nat.le_of_ble_eq_true rfl⟩ dX5_init_1 ?_
  show lt_J X 0 0 (ly_S 109 111) _ 4 [(0, .ref (lt_z X + 108))] []
  refine jr_aload_n hF dX5_init_4 0 rfl rfl ?_
  show lt_J X 0 0 (ly_S 109 111) _ 5 [(0, .ref (lt_z X + 108))] [.ref (lt_z X + 108)]
  refine jr_bipush (v := 7) hF dX5_init_5 rfl ?_
  show lt_J X 0 0 (ly_S 109 111) _ 7 [(0, .ref (lt_z X + 108))] [.int 7, .ref (lt_z X + 108)]
  refine jr_newa_long (len := 7) (n := 7) hF lyq_3 rfl rfl (by decide) (by decide) rfl hz ⟨Nat.le_of_ble_eq_true rfl, Nat.le_of_ble_eq_true rfl⟩ dX5_init_7 ?_
  show lt_J X 1 7 (ly_S 110 111) _ 9 [(0, .ref (lt_z X + 108))] [.ref (lt_z X + 109), .ref (lt_z X + 108)]
  refine jr_putR (a := 108) (b := 109) hF hI clX5 (Nat.le_of_ble_eq_true rfl) lyf_X5_9 rfl rfl rfl (fun x => ⟨rfl, rfl⟩) (Nat.le_of_ble_eq_true rfl) rfl lyp_111 rfl dX5_init_9 ?_
  show lt_J X 1 7 (ly_S 110 112) _ 12 [(0, .ref (lt_z X + 108))] []
  refine jr_aload_n hF dX5_init_12 0 rfl rfl ?_
  show lt_J X 1 7 (ly_S 110 112) _ 13 [(0, .ref (lt_z X + 108))] [.ref (lt_z X + 108)]
  refine jr_bipush (v := 7) hF dX5_init_13 rfl ?_
  show lt_J X 1 7 (ly_S 110 112) _ 15 [(0, .ref (lt_z X + 108))] [.int 7, .ref (lt_z X + 108)]
  refine jr_newa_int (len := 7) (n := 7) hF lyq_10 rfl rfl (by decide) (by decide) rfl (hz.up (Nat.le_of_ble_eq_true rfl : 109 ≤ 110)) ⟨Nat.le_of_ble_eq_true rfl, Nat.le_of_ble_eq_true rfl⟩ dX5_init_15 ?_
  show lt_J X 2 14 (ly_S 111 112) _ 17 [(0, .ref (lt_z X + 108))] [.ref (lt_z X + 110), .ref (lt_z X + 108)]
  refine jr_putR (a := 108) (b := 110) hF hI clX5 (Nat.le_of_ble_eq_true rfl) lyf_X5_15 rfl rfl rfl (fun x => ⟨rfl, rfl⟩) (Nat.le_of_ble_eq_true rfl) rfl lyp_112 rfl dX5_init_17 ?_
  show lt_J X 2 14 (ly_S 111 113) _ 20 [(0, .ref (lt_z X + 108))] []
  refine jr_aload_n hF dX5_init_20 0 rfl rfl ?_
  show lt_J X 2 14 (ly_S 111 113) _ 21 [(0, .ref (lt_z X + 108))] [.ref (lt_z X + 108)]
  refine jr_bipush (v := 7) hF dX5_init_21 rfl ?_
  show lt_J X 2 14 (ly_S 111 113) _ 23 [(0, .ref (lt_z X + 108))] [.int 7, .ref (lt_z X + 108)]
  refine jr_newa_int (len := 7) (n := 7) hF lyq_10 rfl rfl (by decide) (by decide) rfl (hz.up (Nat.le_of_ble_eq_true rfl : 109 ≤ 111)) ⟨Nat.le_of_ble_eq_true rfl, Nat.le_of_ble_eq_true rfl⟩ dX5_init_23 ?_
  show lt_J X 3 21 (ly_S 112 113) _ 25 [(0, .ref (lt_z X + 108))] [.ref (lt_z X + 111), .ref (lt_z X + 108)]
  refine jr_putR (a := 108) (b := 111) hF hI clX5 (Nat.le_of_ble_eq_true rfl) lyf_X5_19 rfl rfl rfl (fun x => ⟨rfl, rfl⟩) (Nat.le_of_ble_eq_true rfl) rfl lyp_113 rfl dX5_init_25 ?_
  show lt_J X 3 21 (ly_S 112 114) _ 28 [(0, .ref (lt_z X + 108))] []
  refine jr_aload_n hF dX5_init_28 0 rfl rfl ?_
  show lt_J X 3 21 (ly_S 112 114) _ 29 [(0, .ref (lt_z X + 108))] [.ref (lt_z X + 108)]
  refine jr_bipush (v := 7) hF dX5_init_29 rfl ?_
  show lt_J X 3 21 (ly_S 112 114) _ 31 [(0, .ref (lt_z X + 108))] [.int 7, .ref (lt_z X + 108)]
  refine jr_newa_int (len := 7) (n := 7) hF lyq_10 rfl rfl (by decide) (by decide) rfl (hz.up (Nat.le_of_ble_eq_true rfl : 109 ≤ 112)) ⟨Nat.le_of_ble_eq_true rfl, Nat.le_of_ble_eq_true rfl⟩ dX5_init_31 ?_
  show lt_J X 4 28 (ly_S 113 114) _ 33 [(0, .ref (lt_z X + 108))] [.ref (lt_z X + 112), .ref (lt_z X + 108)]
  refine jr_putR (a := 108) (b := 112) hF hI clX5 (Nat.le_of_ble_eq_true rfl) lyf_X5_22 rfl rfl rfl (fun x => ⟨rfl, rfl⟩) (Nat.le_of_ble_eq_true rfl) rfl lyp_114 rfl dX5_init_33 ?_
  show lt_J X 4 28 (ly_S 113 115) _ 36 [(0, .ref (lt_z X + 108))] []
  refine jr_aload_n hF dX5_init_36 0 rfl rfl ?_
  show lt_J X 4 28 (ly_S 113 115) _ 37 [(0, .ref (lt_z X + 108))] [.ref (lt_z X + 108)]
  refine jr_bipush (v := 7) hF dX5_init_37 rfl ?_
  show lt_J X 4 28 (ly_S 113 115) _ 39 [(0, .ref (lt_z X + 108))] [.int 7, .ref (lt_z X + 108)]
  refine jr_newa_int (len := 7) (n := 7) hF lyq_10 rfl rfl (by decide) (by decide) rfl (hz.up (Nat.le_of_ble_eq_true rfl : 109 ≤ 113)) ⟨Nat.le_of_ble_eq_true rfl, Nat.le_of_ble_eq_true rfl⟩ dX5_init_39 ?_
  show lt_J X 5 35 (ly_S 114 115) _ 41 [(0, .ref (lt_z X + 108))] [.ref (lt_z X + 113), .ref (lt_z X + 108)]
  refine jr_putR (a := 108) (b := 113) hF hI clX5 (Nat.le_of_ble_eq_true rfl) lyf_X5_25 rfl rfl rfl (fun x => ⟨rfl, rfl⟩) (Nat.le_of_ble_eq_true rfl) rfl lyp_115 rfl dX5_init_41 ?_
  show lt_J X 5 35 (ly_S 114 116) _ 44 [(0, .ref (lt_z X + 108))] []
  refine jr_aload_n hF dX5_init_44 0 rfl rfl ?_
  show lt_J X 5 35 (ly_S 114 116) _ 45 [(0, .ref (lt_z X + 108))] [.ref (lt_z X + 108)]
  refine jr_bipush (v := 7) hF dX5_init_45 rfl ?_
  show lt_J X 5 35 (ly_S 114 116) _ 47 [(0, .ref (lt_z X + 108))] [.int 7, .ref (lt_z X + 108)]
  refine jr_newa_int (len := 7) (n := 7) hF lyq_10 rfl rfl (by decide) (by decide) rfl (hz.up (Nat.le_of_ble_eq_true rfl : 109 ≤ 114)) ⟨Nat.le_of_ble_eq_true rfl, Nat.le_of_ble_eq_true rfl⟩ dX5_init_47 ?_
  show lt_J X 6 42 (ly_S 115 116) _ 49 [(0, .ref (lt_z X + 108))] [.ref (lt_z X + 114), .ref (lt_z X + 108)]
  refine jr_putR (a := 108) (b := 114) hF hI clX5 (Nat.le_of_ble_eq_true rfl) lyf_X5_28 rfl rfl rfl (fun x => ⟨rfl, rfl⟩) (Nat.le_of_ble_eq_true rfl) rfl lyp_116 rfl dX5_init_49 ?_
  show lt_J X 6 42 (ly_S 115 117) _ 52 [(0, .ref (lt_z X + 108))] []
  refine jr_aload_n hF dX5_init_52 0 rfl rfl ?_
  show lt_J X 6 42 (ly_S 115 117) _ 53 [(0, .ref (lt_z X + 108))] [.ref (lt_z X + 108)]
  refine jr_bipush (v := 7) hF dX5_init_53 rfl ?_
  show lt_J X 6 42 (ly_S 115 117) _ 55 [(0, .ref (lt_z X + 108))] [.int 7, .ref (lt_z X + 108)]
  refine jr_newa_int (len := 7) (n := 7) hF lyq_10 rfl rfl (by decide) (by decide) rfl (hz.up (Nat.le_of_ble_eq_true rfl : 109 ≤ 115)) ⟨Nat.le_of_ble_eq_true rfl, Nat.le_of_ble_eq_true rfl⟩ dX5_init_55 ?_
  show lt_J X 7 49 (ly_S 116 117) _ 57 [(0, .ref (lt_z X + 108))] [.ref (lt_z X + 115), .ref (lt_z X + 108)]
  refine jr_putR (a := 108) (b := 115) hF hI clX5 (Nat.le_of_ble_eq_true rfl) lyf_X5_31 rfl rfl rfl (fun x => ⟨rfl, rfl⟩) (Nat.le_of_ble_eq_true rfl) rfl lyp_117 rfl dX5_init_57 ?_
  show lt_J X 7 49 (ly_S 116 118) _ 60 [(0, .ref (lt_z X + 108))] []
  refine jr_aload_n hF dX5_init_60 0 rfl rfl ?_
  show lt_J X 7 49 (ly_S 116 118) _ 61 [(0, .ref (lt_z X + 108))] [.ref (lt_z X + 108)]
  refine jr_bipush (v := 7) hF dX5_init_61 rfl ?_
  show lt_J X 7 49 (ly_S 116 118) _ 63 [(0, .ref (lt_z X + 108))] [.int 7, .ref (lt_z X + 108)]
  refine jr_newa_int (len := 7) (n := 7) hF lyq_10 rfl rfl (by decide) (by decide) rfl (hz.up (Nat.le_of_ble_eq_true rfl : 109 ≤ 116)) ⟨Nat.le_of_ble_eq_true rfl, Nat.le_of_ble_eq_true rfl⟩ dX5_init_63 ?_
  show lt_J X 8 56 (ly_S 117 118) _ 65 [(0, .ref (lt_z X + 108))] [.ref (lt_z X + 116), .ref (lt_z X + 108)]
  refine jr_putR (a := 108) (b := 116) hF hI clX5 (Nat.le_of_ble_eq_true rfl) lyf_X5_34 rfl rfl rfl (fun x => ⟨rfl, rfl⟩) (Nat.le_of_ble_eq_true rfl) rfl lyp_118 rfl dX5_init_65 ?_
  show lt_J X 8 56 (ly_S 117 119) _ 68 [(0, .ref (lt_z X + 108))] []
  refine jr_aload_n hF dX5_init_68 0 rfl rfl ?_
  show lt_J X 8 56 (ly_S 117 119) _ 69 [(0, .ref (lt_z X + 108))] [.ref (lt_z X + 108)]
  refine jr_callV (As := []) (st := []) hF ml_X5_37 (c_X5_clear (w := _) (r := lyw_5 108 _) (ly_c (Nat.le_of_ble_eq_true rfl)) rfl) (ly_c (Nat.le_of_ble_eq_true rfl)) rfl ⟨Nat.le_of_ble_eq_true rfl, Nat.le_of_ble_eq_true rfl⟩ ⟨Nat.le_of_ble_eq_true rfl, Nat.le_of_ble_eq_true rfl⟩ (Nat.le_of_ble_eq_true rfl) dX5_init_69 ?_
  have hz1 := lyw_5_z (hz.up (Nat.le_of_ble_eq_true rfl : 109 ≤ 117)) (Nat.le_of_ble_eq_true rfl : 108 + 1 ≤ 117)
  show lt_J X 8 56 (ly_S 117 119) _ 72 [(0, .ref (lt_z X + 108))] []
  exact jr_return hF hE dX5_init_72
def wI_X3_59 (w : lt_W) : lt_W := wI_X5_108 (wI_X5_99 (wI_X5_90 (wI_X5_81 (wI_X5_72 (wI_X5_63 (w))))))
theorem zI_X3_59 {w : lt_W} (hz : ly_z w 60) : ly_z (wI_X3_59 w) 117 := by
  have hz1 := zI_X5_63 (hz.up (Nat.le_of_ble_eq_true rfl : 60 ≤ 64))
  have hz2 := zI_X5_72 (hz1.up (Nat.le_of_ble_eq_true rfl : 72 ≤ 73))
  have hz3 := zI_X5_81 (hz2.up (Nat.le_of_ble_eq_true rfl : 81 ≤ 82))
  have hz4 := zI_X5_90 (hz3.up (Nat.le_of_ble_eq_true rfl : 90 ≤ 91))
  have hz5 := zI_X5_99 (hz4.up (Nat.le_of_ble_eq_true rfl : 99 ≤ 100))
  have hz6 := zI_X5_108 (hz5.up (Nat.le_of_ble_eq_true rfl : 108 ≤ 109))
  exact hz6.up (Nat.le_of_ble_eq_true rfl)
set_option maxRecDepth 100000 in
set_option maxHeartbeats 4000000 in
theorem cI_X3_59 {l : Launch} {D : va_G} {gA : Nat → ClassId} {s0 : State} {w : lt_W} (hz : ly_z w 60) : lt_C l D gA s0 yX3_init cX3_init 3 none (lt_rmI 3 57 454) [.ref (s0.heap.size + 59), .ref (s0.heap.size + 12)] (ly_S 60 62) w (ly_S 117 120) none (wI_X3_59 w) := by
  refine lt_enterI rfl rfl (Nat.le_of_ble_eq_true rfl) (fun X e1 e2 e3 e4 hF hI hE => ?_)
  subst e1 e2 e3 e4
  have hF : lt_F X cX3_init RX3 3 (lt_rmI 3 57 454) := hF
  show lt_J X 0 0 (ly_S 60 62) w 0 [(0, .ref (lt_z X + 59)), (1, .ref (lt_z X + 12))] []
  refine jr_aload_n hF dX3_init_0 0 rfl rfl ?_
  show lt_J X 0 0 (ly_S 60 62) _ 1 [(0, .ref (lt_z X + 59)), (1, .ref (lt_z X + 12))] [.ref (lt_z X + 59)]
  refine jr_objI hF lyq_47 lyq_1 lyq_2 ⟨Nat.le_of_ble_eq_true rfl, Nat.le_of_ble_eq_true rfl⟩ dX3_init_1 ?_
  show lt_J X 0 0 (ly_S 60 62) _ 4 [(0, .ref (lt_z X + 59)), (1, .ref (lt_z X + 12))] []
  refine jr_aload_n hF dX3_init_4 0 rfl rfl ?_
  show lt_J X 0 0 (ly_S 60 62) _ 5 [(0, .ref (lt_z X + 59)), (1, .ref (lt_z X + 12))] [.ref (lt_z X + 59)]
  refine jr_bipush (v := 6) hF dX3_init_5 rfl ?_
  show lt_J X 0 0 (ly_S 60 62) _ 7 [(0, .ref (lt_z X + 59)), (1, .ref (lt_z X + 12))] [.int 6, .ref (lt_z X + 59)]
  refine jr_anew (len := 6) (c := 55) (q := 5) (C := "LoafTable$Table") (n := 6) hF lyq_48 lyq_49 rfl (by decide) rfl rfl (by decide) (by decide) rfl (by decide +kernel) hz ⟨Nat.le_of_ble_eq_true rfl, Nat.le_of_ble_eq_true rfl⟩ dX3_init_7 ?_
  show lt_J X 1 6 (ly_S 61 62) _ 10 [(0, .ref (lt_z X + 59)), (1, .ref (lt_z X + 12))] [.ref (lt_z X + 60), .ref (lt_z X + 59)]
  refine jr_putR (a := 59) (b := 60) hF hI clX3 (Nat.le_of_ble_eq_true rfl) lyf_X3_11 rfl rfl rfl (fun x => ⟨rfl, rfl⟩) (Nat.le_of_ble_eq_true rfl) rfl lyp_62 rfl dX3_init_10 ?_
  show lt_J X 1 6 (ly_S 61 63) _ 13 [(0, .ref (lt_z X + 59)), (1, .ref (lt_z X + 12))] []
  refine jr_aload_n hF dX3_init_13 0 rfl rfl ?_
  show lt_J X 1 6 (ly_S 61 63) _ 14 [(0, .ref (lt_z X + 59)), (1, .ref (lt_z X + 12))] [.ref (lt_z X + 59)]
  refine jr_iconst (v := 5) hF dX3_init_14 rfl ?_
  show lt_J X 1 6 (ly_S 61 63) _ 15 [(0, .ref (lt_z X + 59)), (1, .ref (lt_z X + 12))] [.int 5, .ref (lt_z X + 59)]
  refine jr_newa_int (len := 5) (n := 5) hF lyq_10 rfl rfl (by decide) (by decide) rfl (hz.up (Nat.le_of_ble_eq_true rfl : 60 ≤ 61)) ⟨Nat.le_of_ble_eq_true rfl, Nat.le_of_ble_eq_true rfl⟩ dX3_init_15 ?_
  show lt_J X 2 11 (ly_S 62 63) _ 17 [(0, .ref (lt_z X + 59)), (1, .ref (lt_z X + 12))] [.ref (lt_z X + 61), .ref (lt_z X + 59)]
  refine jr_putR (a := 59) (b := 61) hF hI clX3 (Nat.le_of_ble_eq_true rfl) lyf_X3_17 rfl rfl rfl (fun x => ⟨rfl, rfl⟩) (Nat.le_of_ble_eq_true rfl) rfl lyp_63 rfl dX3_init_17 ?_
  show lt_J X 2 11 (ly_S 62 64) _ 20 [(0, .ref (lt_z X + 59)), (1, .ref (lt_z X + 12))] []
  refine jr_aload_n hF dX3_init_20 0 rfl rfl ?_
  show lt_J X 2 11 (ly_S 62 64) _ 21 [(0, .ref (lt_z X + 59)), (1, .ref (lt_z X + 12))] [.ref (lt_z X + 59)]
  refine jr_iconst (v := 5) hF dX3_init_21 rfl ?_
  show lt_J X 2 11 (ly_S 62 64) _ 22 [(0, .ref (lt_z X + 59)), (1, .ref (lt_z X + 12))] [.int 5, .ref (lt_z X + 59)]
  refine jr_newa_int (len := 5) (n := 5) hF lyq_10 rfl rfl (by decide) (by decide) rfl (hz.up (Nat.le_of_ble_eq_true rfl : 60 ≤ 62)) ⟨Nat.le_of_ble_eq_true rfl, Nat.le_of_ble_eq_true rfl⟩ dX3_init_22 ?_
  show lt_J X 3 16 (ly_S 63 64) _ 24 [(0, .ref (lt_z X + 59)), (1, .ref (lt_z X + 12))] [.ref (lt_z X + 62), .ref (lt_z X + 59)]
  refine jr_putR (a := 59) (b := 62) hF hI clX3 (Nat.le_of_ble_eq_true rfl) lyf_X3_21 rfl rfl rfl (fun x => ⟨rfl, rfl⟩) (Nat.le_of_ble_eq_true rfl) rfl lyp_64 rfl dX3_init_24 ?_
  show lt_J X 3 16 (ly_S 63 65) _ 27 [(0, .ref (lt_z X + 59)), (1, .ref (lt_z X + 12))] []
  refine jr_aload_n hF dX3_init_27 0 rfl rfl ?_
  show lt_J X 3 16 (ly_S 63 65) _ 28 [(0, .ref (lt_z X + 59)), (1, .ref (lt_z X + 12))] [.ref (lt_z X + 59)]
  refine jr_aload_n hF dX3_init_28 1 rfl rfl ?_
  show lt_J X 3 16 (ly_S 63 65) _ 29 [(0, .ref (lt_z X + 59)), (1, .ref (lt_z X + 12))] [.ref (lt_z X + 12), .ref (lt_z X + 59)]
  refine jr_putR (a := 59) (b := 12) hF hI clX3 (Nat.le_of_ble_eq_true rfl) lyf_X3_24 rfl rfl rfl (fun x => ⟨rfl, rfl⟩) (Nat.le_of_ble_eq_true rfl) rfl lyp_65 rfl dX3_init_29 ?_
  show lt_J X 3 16 (ly_S 63 66) _ 32 [(0, .ref (lt_z X + 59)), (1, .ref (lt_z X + 12))] []
  refine jr_iconst (v := 0) hF dX3_init_32 rfl ?_
  show lt_J X 3 16 (ly_S 63 66) _ 33 [(0, .ref (lt_z X + 59)), (1, .ref (lt_z X + 12))] [.int 0]
  refine jr_istore_n (lv' := [(0, .ref (lt_z X + 59)), (1, .ref (lt_z X + 12)), (2, .int 0)]) hF dX3_init_33 rfl (by decide) [1, 2, 0] rfl ?_
  show lt_J X 3 16 (ly_S 63 66) _ 34 [(0, .ref (lt_z X + 59)), (1, .ref (lt_z X + 12)), (2, .int 0)] []
  refine jr_iload_n hF dX3_init_34 2 rfl rfl ?_
  show lt_J X 3 16 (ly_S 63 66) _ 35 [(0, .ref (lt_z X + 59)), (1, .ref (lt_z X + 12)), (2, .int 0)] [.int 0]
  refine jr_iconst (v := 5) hF dX3_init_35 rfl ?_
  show lt_J X 3 16 (ly_S 63 66) _ 36 [(0, .ref (lt_z X + 59)), (1, .ref (lt_z X + 12)), (2, .int 0)] [.int 5, .int 0]
  refine jr_icmp_gt (tgt := 58) (g1 := none) (g2 := some ()) (r := ()) hF dX3_init_36 rfl rfl (fun z => by cases z) (fun _ => ?_)
  show lt_J X 3 16 (ly_S 63 66) _ 39 [(0, .ref (lt_z X + 59)), (1, .ref (lt_z X + 12)), (2, .int 0)] []
  refine jr_aload_n hF dX3_init_39 0 rfl rfl ?_
  show lt_J X 3 16 (ly_S 63 66) _ 40 [(0, .ref (lt_z X + 59)), (1, .ref (lt_z X + 12)), (2, .int 0)] [.ref (lt_z X + 59)]
  refine jr_getR hF gf_X3_11 (ly_c (Nat.le_of_ble_eq_true rfl)) ((ly_rv1 (Or.inr (by decide +kernel))).trans rfl) dX3_init_40 ?_
  show lt_J X 3 16 (ly_S 63 66) _ 43 [(0, .ref (lt_z X + 59)), (1, .ref (lt_z X + 12)), (2, .int 0)] [.ref (lt_z X + 60)]
  refine jr_iload_n hF dX3_init_43 2 rfl rfl ?_
  show lt_J X 3 16 (ly_S 63 66) _ 44 [(0, .ref (lt_z X + 59)), (1, .ref (lt_z X + 12)), (2, .int 0)] [.int 0, .ref (lt_z X + 60)]
  refine jr_new (ci := 5) hF clX5 lyq_48 lyq_28 lyq_29 rfl dvX5 (by decide +kernel) (hz.up (Nat.le_of_ble_eq_true rfl : 60 ≤ 63)) ⟨Nat.le_of_ble_eq_true rfl, Nat.le_of_ble_eq_true rfl⟩ dX3_init_44 ?_
  show lt_J X 4 33 (ly_S 64 66) _ 47 [(0, .ref (lt_z X + 59)), (1, .ref (lt_z X + 12)), (2, .int 0)] [.ref (lt_z X + 63), .int 0, .ref (lt_z X + 60)]
  refine jr_dup hF dX3_init_47 rfl ?_
  show lt_J X 4 33 (ly_S 64 66) _ 48 [(0, .ref (lt_z X + 59)), (1, .ref (lt_z X + 12)), (2, .int 0)] [.ref (lt_z X + 63), .ref (lt_z X + 63), .int 0, .ref (lt_z X + 60)]
  refine jr_callI (As := []) (st := [.ref (lt_z X + 63), .int 0, .ref (lt_z X + 60)]) hF mi_X3_28 (cI_X5_63 (hz.up (Nat.le_of_ble_eq_true rfl : 60 ≤ 64))) rfl ⟨Nat.le_of_ble_eq_true rfl, Nat.le_of_ble_eq_true rfl⟩ ⟨Nat.le_of_ble_eq_true rfl, Nat.le_of_ble_eq_true rfl⟩ (Nat.le_of_ble_eq_true rfl) dX3_init_48 ?_
  have hz1 := zI_X5_63 (hz.up (Nat.le_of_ble_eq_true rfl : 60 ≤ 64))
  show lt_J X 12 89 (ly_S 72 74) _ 51 [(0, .ref (lt_z X + 59)), (1, .ref (lt_z X + 12)), (2, .int 0)] [.ref (lt_z X + 63), .int 0, .ref (lt_z X + 60)]
  refine jr_aastR (a := 60) (b := 63) (q := 5) (c := 55) (k := 0) hF (show vwCl[5]? = some _ from rfl) rfl (by decide) (Nat.le_of_ble_eq_true rfl) rfl (Nat.le_of_ble_eq_true rfl) rfl (by decide) (by decide) (Nat.le_of_ble_eq_true rfl) lyp_74 rfl dX3_init_51 ?_
  show lt_J X 12 89 (ly_S 72 75) _ 52 [(0, .ref (lt_z X + 59)), (1, .ref (lt_z X + 12)), (2, .int 0)] []
  refine jr_iinc (v := 1) (lv' := [(0, .ref (lt_z X + 59)), (1, .ref (lt_z X + 12)), (2, .int 1)]) hF dX3_init_52 2 rfl rfl (by decide) [1, 2, 0] rfl ?_
  show lt_J X 12 89 (ly_S 72 75) _ 55 [(0, .ref (lt_z X + 59)), (1, .ref (lt_z X + 12)), (2, .int 1)] []
  refine jr_goto (tgt := 34) hF dX3_init_55 rfl ?_
  show lt_J X 12 89 (ly_S 72 75) _ 34 [(0, .ref (lt_z X + 59)), (1, .ref (lt_z X + 12)), (2, .int 1)] []
  refine jr_iload_n hF dX3_init_34 2 rfl rfl ?_
  show lt_J X 12 89 (ly_S 72 75) _ 35 [(0, .ref (lt_z X + 59)), (1, .ref (lt_z X + 12)), (2, .int 1)] [.int 1]
  refine jr_iconst (v := 5) hF dX3_init_35 rfl ?_
  show lt_J X 12 89 (ly_S 72 75) _ 36 [(0, .ref (lt_z X + 59)), (1, .ref (lt_z X + 12)), (2, .int 1)] [.int 5, .int 1]
  refine jr_icmp_gt (tgt := 58) (g1 := none) (g2 := some ()) (r := ()) hF dX3_init_36 rfl rfl (fun z => by cases z) (fun _ => ?_)
  show lt_J X 12 89 (ly_S 72 75) _ 39 [(0, .ref (lt_z X + 59)), (1, .ref (lt_z X + 12)), (2, .int 1)] []
  refine jr_aload_n hF dX3_init_39 0 rfl rfl ?_
  show lt_J X 12 89 (ly_S 72 75) _ 40 [(0, .ref (lt_z X + 59)), (1, .ref (lt_z X + 12)), (2, .int 1)] [.ref (lt_z X + 59)]
  refine jr_getR hF gf_X3_11 (ly_c (Nat.le_of_ble_eq_true rfl)) ((ly_rv1 (Or.inr (by decide +kernel))).trans rfl) dX3_init_40 ?_
  show lt_J X 12 89 (ly_S 72 75) _ 43 [(0, .ref (lt_z X + 59)), (1, .ref (lt_z X + 12)), (2, .int 1)] [.ref (lt_z X + 60)]
  refine jr_iload_n hF dX3_init_43 2 rfl rfl ?_
  show lt_J X 12 89 (ly_S 72 75) _ 44 [(0, .ref (lt_z X + 59)), (1, .ref (lt_z X + 12)), (2, .int 1)] [.int 1, .ref (lt_z X + 60)]
  refine jr_new (ci := 5) hF clX5 lyq_48 lyq_28 lyq_29 rfl dvX5 (by decide +kernel) hz1 ⟨Nat.le_of_ble_eq_true rfl, Nat.le_of_ble_eq_true rfl⟩ dX3_init_44 ?_
  show lt_J X 13 106 (ly_S 73 75) _ 47 [(0, .ref (lt_z X + 59)), (1, .ref (lt_z X + 12)), (2, .int 1)] [.ref (lt_z X + 72), .int 1, .ref (lt_z X + 60)]
  refine jr_dup hF dX3_init_47 rfl ?_
  show lt_J X 13 106 (ly_S 73 75) _ 48 [(0, .ref (lt_z X + 59)), (1, .ref (lt_z X + 12)), (2, .int 1)] [.ref (lt_z X + 72), .ref (lt_z X + 72), .int 1, .ref (lt_z X + 60)]
  refine jr_callI (As := []) (st := [.ref (lt_z X + 72), .int 1, .ref (lt_z X + 60)]) hF mi_X3_28 (cI_X5_72 (hz1.up (Nat.le_of_ble_eq_true rfl : 72 ≤ 73))) rfl ⟨Nat.le_of_ble_eq_true rfl, Nat.le_of_ble_eq_true rfl⟩ ⟨Nat.le_of_ble_eq_true rfl, Nat.le_of_ble_eq_true rfl⟩ (Nat.le_of_ble_eq_true rfl) dX3_init_48 ?_
  have hz2 := zI_X5_72 (hz1.up (Nat.le_of_ble_eq_true rfl : 72 ≤ 73))
  show lt_J X 21 162 (ly_S 81 83) _ 51 [(0, .ref (lt_z X + 59)), (1, .ref (lt_z X + 12)), (2, .int 1)] [.ref (lt_z X + 72), .int 1, .ref (lt_z X + 60)]
  refine jr_aastR (a := 60) (b := 72) (q := 5) (c := 55) (k := 1) hF (show vwCl[5]? = some _ from rfl) rfl (by decide) (Nat.le_of_ble_eq_true rfl) rfl (Nat.le_of_ble_eq_true rfl) rfl (by decide) (by decide) (Nat.le_of_ble_eq_true rfl) lyp_83 rfl dX3_init_51 ?_
  show lt_J X 21 162 (ly_S 81 84) _ 52 [(0, .ref (lt_z X + 59)), (1, .ref (lt_z X + 12)), (2, .int 1)] []
  refine jr_iinc (v := 2) (lv' := [(0, .ref (lt_z X + 59)), (1, .ref (lt_z X + 12)), (2, .int 2)]) hF dX3_init_52 2 rfl rfl (by decide) [1, 2, 0] rfl ?_
  show lt_J X 21 162 (ly_S 81 84) _ 55 [(0, .ref (lt_z X + 59)), (1, .ref (lt_z X + 12)), (2, .int 2)] []
  refine jr_goto (tgt := 34) hF dX3_init_55 rfl ?_
  show lt_J X 21 162 (ly_S 81 84) _ 34 [(0, .ref (lt_z X + 59)), (1, .ref (lt_z X + 12)), (2, .int 2)] []
  refine jr_iload_n hF dX3_init_34 2 rfl rfl ?_
  show lt_J X 21 162 (ly_S 81 84) _ 35 [(0, .ref (lt_z X + 59)), (1, .ref (lt_z X + 12)), (2, .int 2)] [.int 2]
  refine jr_iconst (v := 5) hF dX3_init_35 rfl ?_
  show lt_J X 21 162 (ly_S 81 84) _ 36 [(0, .ref (lt_z X + 59)), (1, .ref (lt_z X + 12)), (2, .int 2)] [.int 5, .int 2]
  refine jr_icmp_gt (tgt := 58) (g1 := none) (g2 := some ()) (r := ()) hF dX3_init_36 rfl rfl (fun z => by cases z) (fun _ => ?_)
  show lt_J X 21 162 (ly_S 81 84) _ 39 [(0, .ref (lt_z X + 59)), (1, .ref (lt_z X + 12)), (2, .int 2)] []
  refine jr_aload_n hF dX3_init_39 0 rfl rfl ?_
  show lt_J X 21 162 (ly_S 81 84) _ 40 [(0, .ref (lt_z X + 59)), (1, .ref (lt_z X + 12)), (2, .int 2)] [.ref (lt_z X + 59)]
  refine jr_getR hF gf_X3_11 (ly_c (Nat.le_of_ble_eq_true rfl)) ((ly_rv1 (Or.inr (by decide +kernel))).trans rfl) dX3_init_40 ?_
  show lt_J X 21 162 (ly_S 81 84) _ 43 [(0, .ref (lt_z X + 59)), (1, .ref (lt_z X + 12)), (2, .int 2)] [.ref (lt_z X + 60)]
  refine jr_iload_n hF dX3_init_43 2 rfl rfl ?_
  show lt_J X 21 162 (ly_S 81 84) _ 44 [(0, .ref (lt_z X + 59)), (1, .ref (lt_z X + 12)), (2, .int 2)] [.int 2, .ref (lt_z X + 60)]
  refine jr_new (ci := 5) hF clX5 lyq_48 lyq_28 lyq_29 rfl dvX5 (by decide +kernel) hz2 ⟨Nat.le_of_ble_eq_true rfl, Nat.le_of_ble_eq_true rfl⟩ dX3_init_44 ?_
  show lt_J X 22 179 (ly_S 82 84) _ 47 [(0, .ref (lt_z X + 59)), (1, .ref (lt_z X + 12)), (2, .int 2)] [.ref (lt_z X + 81), .int 2, .ref (lt_z X + 60)]
  refine jr_dup hF dX3_init_47 rfl ?_
  show lt_J X 22 179 (ly_S 82 84) _ 48 [(0, .ref (lt_z X + 59)), (1, .ref (lt_z X + 12)), (2, .int 2)] [.ref (lt_z X + 81), .ref (lt_z X + 81), .int 2, .ref (lt_z X + 60)]
  refine jr_callI (As := []) (st := [.ref (lt_z X + 81), .int 2, .ref (lt_z X + 60)]) hF mi_X3_28 (cI_X5_81 (hz2.up (Nat.le_of_ble_eq_true rfl : 81 ≤ 82))) rfl ⟨Nat.le_of_ble_eq_true rfl, Nat.le_of_ble_eq_true rfl⟩ ⟨Nat.le_of_ble_eq_true rfl, Nat.le_of_ble_eq_true rfl⟩ (Nat.le_of_ble_eq_true rfl) dX3_init_48 ?_
  have hz3 := zI_X5_81 (hz2.up (Nat.le_of_ble_eq_true rfl : 81 ≤ 82))
  show lt_J X 30 235 (ly_S 90 92) _ 51 [(0, .ref (lt_z X + 59)), (1, .ref (lt_z X + 12)), (2, .int 2)] [.ref (lt_z X + 81), .int 2, .ref (lt_z X + 60)]
  refine jr_aastR (a := 60) (b := 81) (q := 5) (c := 55) (k := 2) hF (show vwCl[5]? = some _ from rfl) rfl (by decide) (Nat.le_of_ble_eq_true rfl) rfl (Nat.le_of_ble_eq_true rfl) rfl (by decide) (by decide) (Nat.le_of_ble_eq_true rfl) lyp_92 rfl dX3_init_51 ?_
  show lt_J X 30 235 (ly_S 90 93) _ 52 [(0, .ref (lt_z X + 59)), (1, .ref (lt_z X + 12)), (2, .int 2)] []
  refine jr_iinc (v := 3) (lv' := [(0, .ref (lt_z X + 59)), (1, .ref (lt_z X + 12)), (2, .int 3)]) hF dX3_init_52 2 rfl rfl (by decide) [1, 2, 0] rfl ?_
  show lt_J X 30 235 (ly_S 90 93) _ 55 [(0, .ref (lt_z X + 59)), (1, .ref (lt_z X + 12)), (2, .int 3)] []
  refine jr_goto (tgt := 34) hF dX3_init_55 rfl ?_
  show lt_J X 30 235 (ly_S 90 93) _ 34 [(0, .ref (lt_z X + 59)), (1, .ref (lt_z X + 12)), (2, .int 3)] []
  refine jr_iload_n hF dX3_init_34 2 rfl rfl ?_
  show lt_J X 30 235 (ly_S 90 93) _ 35 [(0, .ref (lt_z X + 59)), (1, .ref (lt_z X + 12)), (2, .int 3)] [.int 3]
  refine jr_iconst (v := 5) hF dX3_init_35 rfl ?_
  show lt_J X 30 235 (ly_S 90 93) _ 36 [(0, .ref (lt_z X + 59)), (1, .ref (lt_z X + 12)), (2, .int 3)] [.int 5, .int 3]
  refine jr_icmp_gt (tgt := 58) (g1 := none) (g2 := some ()) (r := ()) hF dX3_init_36 rfl rfl (fun z => by cases z) (fun _ => ?_)
  show lt_J X 30 235 (ly_S 90 93) _ 39 [(0, .ref (lt_z X + 59)), (1, .ref (lt_z X + 12)), (2, .int 3)] []
  refine jr_aload_n hF dX3_init_39 0 rfl rfl ?_
  show lt_J X 30 235 (ly_S 90 93) _ 40 [(0, .ref (lt_z X + 59)), (1, .ref (lt_z X + 12)), (2, .int 3)] [.ref (lt_z X + 59)]
  refine jr_getR hF gf_X3_11 (ly_c (Nat.le_of_ble_eq_true rfl)) ((ly_rv1 (Or.inr (by decide +kernel))).trans rfl) dX3_init_40 ?_
  show lt_J X 30 235 (ly_S 90 93) _ 43 [(0, .ref (lt_z X + 59)), (1, .ref (lt_z X + 12)), (2, .int 3)] [.ref (lt_z X + 60)]
  refine jr_iload_n hF dX3_init_43 2 rfl rfl ?_
  show lt_J X 30 235 (ly_S 90 93) _ 44 [(0, .ref (lt_z X + 59)), (1, .ref (lt_z X + 12)), (2, .int 3)] [.int 3, .ref (lt_z X + 60)]
  refine jr_new (ci := 5) hF clX5 lyq_48 lyq_28 lyq_29 rfl dvX5 (by decide +kernel) hz3 ⟨Nat.le_of_ble_eq_true rfl, Nat.le_of_ble_eq_true rfl⟩ dX3_init_44 ?_
  show lt_J X 31 252 (ly_S 91 93) _ 47 [(0, .ref (lt_z X + 59)), (1, .ref (lt_z X + 12)), (2, .int 3)] [.ref (lt_z X + 90), .int 3, .ref (lt_z X + 60)]
  refine jr_dup hF dX3_init_47 rfl ?_
  show lt_J X 31 252 (ly_S 91 93) _ 48 [(0, .ref (lt_z X + 59)), (1, .ref (lt_z X + 12)), (2, .int 3)] [.ref (lt_z X + 90), .ref (lt_z X + 90), .int 3, .ref (lt_z X + 60)]
  refine jr_callI (As := []) (st := [.ref (lt_z X + 90), .int 3, .ref (lt_z X + 60)]) hF mi_X3_28 (cI_X5_90 (hz3.up (Nat.le_of_ble_eq_true rfl : 90 ≤ 91))) rfl ⟨Nat.le_of_ble_eq_true rfl, Nat.le_of_ble_eq_true rfl⟩ ⟨Nat.le_of_ble_eq_true rfl, Nat.le_of_ble_eq_true rfl⟩ (Nat.le_of_ble_eq_true rfl) dX3_init_48 ?_
  have hz4 := zI_X5_90 (hz3.up (Nat.le_of_ble_eq_true rfl : 90 ≤ 91))
  show lt_J X 39 308 (ly_S 99 101) _ 51 [(0, .ref (lt_z X + 59)), (1, .ref (lt_z X + 12)), (2, .int 3)] [.ref (lt_z X + 90), .int 3, .ref (lt_z X + 60)]
  refine jr_aastR (a := 60) (b := 90) (q := 5) (c := 55) (k := 3) hF (show vwCl[5]? = some _ from rfl) rfl (by decide) (Nat.le_of_ble_eq_true rfl) rfl (Nat.le_of_ble_eq_true rfl) rfl (by decide) (by decide) (Nat.le_of_ble_eq_true rfl) lyp_101 rfl dX3_init_51 ?_
  show lt_J X 39 308 (ly_S 99 102) _ 52 [(0, .ref (lt_z X + 59)), (1, .ref (lt_z X + 12)), (2, .int 3)] []
  refine jr_iinc (v := 4) (lv' := [(0, .ref (lt_z X + 59)), (1, .ref (lt_z X + 12)), (2, .int 4)]) hF dX3_init_52 2 rfl rfl (by decide) [1, 2, 0] rfl ?_
  show lt_J X 39 308 (ly_S 99 102) _ 55 [(0, .ref (lt_z X + 59)), (1, .ref (lt_z X + 12)), (2, .int 4)] []
  refine jr_goto (tgt := 34) hF dX3_init_55 rfl ?_
  show lt_J X 39 308 (ly_S 99 102) _ 34 [(0, .ref (lt_z X + 59)), (1, .ref (lt_z X + 12)), (2, .int 4)] []
  refine jr_iload_n hF dX3_init_34 2 rfl rfl ?_
  show lt_J X 39 308 (ly_S 99 102) _ 35 [(0, .ref (lt_z X + 59)), (1, .ref (lt_z X + 12)), (2, .int 4)] [.int 4]
  refine jr_iconst (v := 5) hF dX3_init_35 rfl ?_
  show lt_J X 39 308 (ly_S 99 102) _ 36 [(0, .ref (lt_z X + 59)), (1, .ref (lt_z X + 12)), (2, .int 4)] [.int 5, .int 4]
  refine jr_icmp_gt (tgt := 58) (g1 := none) (g2 := some ()) (r := ()) hF dX3_init_36 rfl rfl (fun z => by cases z) (fun _ => ?_)
  show lt_J X 39 308 (ly_S 99 102) _ 39 [(0, .ref (lt_z X + 59)), (1, .ref (lt_z X + 12)), (2, .int 4)] []
  refine jr_aload_n hF dX3_init_39 0 rfl rfl ?_
  show lt_J X 39 308 (ly_S 99 102) _ 40 [(0, .ref (lt_z X + 59)), (1, .ref (lt_z X + 12)), (2, .int 4)] [.ref (lt_z X + 59)]
  refine jr_getR hF gf_X3_11 (ly_c (Nat.le_of_ble_eq_true rfl)) ((ly_rv1 (Or.inr (by decide +kernel))).trans rfl) dX3_init_40 ?_
  show lt_J X 39 308 (ly_S 99 102) _ 43 [(0, .ref (lt_z X + 59)), (1, .ref (lt_z X + 12)), (2, .int 4)] [.ref (lt_z X + 60)]
  refine jr_iload_n hF dX3_init_43 2 rfl rfl ?_
  show lt_J X 39 308 (ly_S 99 102) _ 44 [(0, .ref (lt_z X + 59)), (1, .ref (lt_z X + 12)), (2, .int 4)] [.int 4, .ref (lt_z X + 60)]
  refine jr_new (ci := 5) hF clX5 lyq_48 lyq_28 lyq_29 rfl dvX5 (by decide +kernel) hz4 ⟨Nat.le_of_ble_eq_true rfl, Nat.le_of_ble_eq_true rfl⟩ dX3_init_44 ?_
  show lt_J X 40 325 (ly_S 100 102) _ 47 [(0, .ref (lt_z X + 59)), (1, .ref (lt_z X + 12)), (2, .int 4)] [.ref (lt_z X + 99), .int 4, .ref (lt_z X + 60)]
  refine jr_dup hF dX3_init_47 rfl ?_
  show lt_J X 40 325 (ly_S 100 102) _ 48 [(0, .ref (lt_z X + 59)), (1, .ref (lt_z X + 12)), (2, .int 4)] [.ref (lt_z X + 99), .ref (lt_z X + 99), .int 4, .ref (lt_z X + 60)]
  refine jr_callI (As := []) (st := [.ref (lt_z X + 99), .int 4, .ref (lt_z X + 60)]) hF mi_X3_28 (cI_X5_99 (hz4.up (Nat.le_of_ble_eq_true rfl : 99 ≤ 100))) rfl ⟨Nat.le_of_ble_eq_true rfl, Nat.le_of_ble_eq_true rfl⟩ ⟨Nat.le_of_ble_eq_true rfl, Nat.le_of_ble_eq_true rfl⟩ (Nat.le_of_ble_eq_true rfl) dX3_init_48 ?_
  have hz5 := zI_X5_99 (hz4.up (Nat.le_of_ble_eq_true rfl : 99 ≤ 100))
  show lt_J X 48 381 (ly_S 108 110) _ 51 [(0, .ref (lt_z X + 59)), (1, .ref (lt_z X + 12)), (2, .int 4)] [.ref (lt_z X + 99), .int 4, .ref (lt_z X + 60)]
  refine jr_aastR (a := 60) (b := 99) (q := 5) (c := 55) (k := 4) hF (show vwCl[5]? = some _ from rfl) rfl (by decide) (Nat.le_of_ble_eq_true rfl) rfl (Nat.le_of_ble_eq_true rfl) rfl (by decide) (by decide) (Nat.le_of_ble_eq_true rfl) lyp_110 rfl dX3_init_51 ?_
  show lt_J X 48 381 (ly_S 108 111) _ 52 [(0, .ref (lt_z X + 59)), (1, .ref (lt_z X + 12)), (2, .int 4)] []
  refine jr_iinc (v := 5) (lv' := [(0, .ref (lt_z X + 59)), (1, .ref (lt_z X + 12)), (2, .int 5)]) hF dX3_init_52 2 rfl rfl (by decide) [1, 2, 0] rfl ?_
  show lt_J X 48 381 (ly_S 108 111) _ 55 [(0, .ref (lt_z X + 59)), (1, .ref (lt_z X + 12)), (2, .int 5)] []
  refine jr_goto (tgt := 34) hF dX3_init_55 rfl ?_
  show lt_J X 48 381 (ly_S 108 111) _ 34 [(0, .ref (lt_z X + 59)), (1, .ref (lt_z X + 12)), (2, .int 5)] []
  refine jr_iload_n hF dX3_init_34 2 rfl rfl ?_
  show lt_J X 48 381 (ly_S 108 111) _ 35 [(0, .ref (lt_z X + 59)), (1, .ref (lt_z X + 12)), (2, .int 5)] [.int 5]
  refine jr_iconst (v := 5) hF dX3_init_35 rfl ?_
  show lt_J X 48 381 (ly_S 108 111) _ 36 [(0, .ref (lt_z X + 59)), (1, .ref (lt_z X + 12)), (2, .int 5)] [.int 5, .int 5]
  refine jr_icmp_gt (tgt := 58) (g1 := none) (g2 := some ()) (r := ()) hF dX3_init_36 rfl rfl (fun z => by cases z) (fun _ => ?_)
  show lt_J X 48 381 (ly_S 108 111) _ 39 [(0, .ref (lt_z X + 59)), (1, .ref (lt_z X + 12)), (2, .int 5)] []
  refine jr_aload_n hF dX3_init_39 0 rfl rfl ?_
  show lt_J X 48 381 (ly_S 108 111) _ 40 [(0, .ref (lt_z X + 59)), (1, .ref (lt_z X + 12)), (2, .int 5)] [.ref (lt_z X + 59)]
  refine jr_getR hF gf_X3_11 (ly_c (Nat.le_of_ble_eq_true rfl)) ((ly_rv1 (Or.inr (by decide +kernel))).trans rfl) dX3_init_40 ?_
  show lt_J X 48 381 (ly_S 108 111) _ 43 [(0, .ref (lt_z X + 59)), (1, .ref (lt_z X + 12)), (2, .int 5)] [.ref (lt_z X + 60)]
  refine jr_iload_n hF dX3_init_43 2 rfl rfl ?_
  show lt_J X 48 381 (ly_S 108 111) _ 44 [(0, .ref (lt_z X + 59)), (1, .ref (lt_z X + 12)), (2, .int 5)] [.int 5, .ref (lt_z X + 60)]
  refine jr_new (ci := 5) hF clX5 lyq_48 lyq_28 lyq_29 rfl dvX5 (by decide +kernel) hz5 ⟨Nat.le_of_ble_eq_true rfl, Nat.le_of_ble_eq_true rfl⟩ dX3_init_44 ?_
  show lt_J X 49 398 (ly_S 109 111) _ 47 [(0, .ref (lt_z X + 59)), (1, .ref (lt_z X + 12)), (2, .int 5)] [.ref (lt_z X + 108), .int 5, .ref (lt_z X + 60)]
  refine jr_dup hF dX3_init_47 rfl ?_
  show lt_J X 49 398 (ly_S 109 111) _ 48 [(0, .ref (lt_z X + 59)), (1, .ref (lt_z X + 12)), (2, .int 5)] [.ref (lt_z X + 108), .ref (lt_z X + 108), .int 5, .ref (lt_z X + 60)]
  refine jr_callI (As := []) (st := [.ref (lt_z X + 108), .int 5, .ref (lt_z X + 60)]) hF mi_X3_28 (cI_X5_108 (hz5.up (Nat.le_of_ble_eq_true rfl : 108 ≤ 109))) rfl ⟨Nat.le_of_ble_eq_true rfl, Nat.le_of_ble_eq_true rfl⟩ ⟨Nat.le_of_ble_eq_true rfl, Nat.le_of_ble_eq_true rfl⟩ (Nat.le_of_ble_eq_true rfl) dX3_init_48 ?_
  have hz6 := zI_X5_108 (hz5.up (Nat.le_of_ble_eq_true rfl : 108 ≤ 109))
  show lt_J X 57 454 (ly_S 117 119) _ 51 [(0, .ref (lt_z X + 59)), (1, .ref (lt_z X + 12)), (2, .int 5)] [.ref (lt_z X + 108), .int 5, .ref (lt_z X + 60)]
  refine jr_aastR (a := 60) (b := 108) (q := 5) (c := 55) (k := 5) hF (show vwCl[5]? = some _ from rfl) rfl (by decide) (Nat.le_of_ble_eq_true rfl) rfl (Nat.le_of_ble_eq_true rfl) rfl (by decide) (by decide) (Nat.le_of_ble_eq_true rfl) lyp_119 rfl dX3_init_51 ?_
  show lt_J X 57 454 (ly_S 117 120) _ 52 [(0, .ref (lt_z X + 59)), (1, .ref (lt_z X + 12)), (2, .int 5)] []
  refine jr_iinc (v := 6) (lv' := [(0, .ref (lt_z X + 59)), (1, .ref (lt_z X + 12)), (2, .int 6)]) hF dX3_init_52 2 rfl rfl (by decide) [1, 2, 0] rfl ?_
  show lt_J X 57 454 (ly_S 117 120) _ 55 [(0, .ref (lt_z X + 59)), (1, .ref (lt_z X + 12)), (2, .int 6)] []
  refine jr_goto (tgt := 34) hF dX3_init_55 rfl ?_
  show lt_J X 57 454 (ly_S 117 120) _ 34 [(0, .ref (lt_z X + 59)), (1, .ref (lt_z X + 12)), (2, .int 6)] []
  refine jr_iload_n hF dX3_init_34 2 rfl rfl ?_
  show lt_J X 57 454 (ly_S 117 120) _ 35 [(0, .ref (lt_z X + 59)), (1, .ref (lt_z X + 12)), (2, .int 6)] [.int 6]
  refine jr_iconst (v := 5) hF dX3_init_35 rfl ?_
  show lt_J X 57 454 (ly_S 117 120) _ 36 [(0, .ref (lt_z X + 59)), (1, .ref (lt_z X + 12)), (2, .int 6)] [.int 5, .int 6]
  refine jr_icmp_gt (tgt := 58) (g1 := some ()) (g2 := none) (r := ()) hF dX3_init_36 rfl rfl (fun _ => ?_) (fun z => by cases z)
  show lt_J X 57 454 (ly_S 117 120) _ 58 [(0, .ref (lt_z X + 59)), (1, .ref (lt_z X + 12)), (2, .int 6)] []
  exact jr_return hF hE dX3_init_58
