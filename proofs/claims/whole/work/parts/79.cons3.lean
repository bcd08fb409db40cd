/-! the next constructors -/
theorem lyq_55 : Cond.methodLink RX4 3 Lib.objectInit ∈ lt_tb := (lt_m2 121 rfl rfl)
theorem lyq_56 : Cond.classLink RX4 9 RX5 ∈ lt_tb := (lt_m2 122 rfl rfl)
theorem mi_X4_11 : lt_MI RX4 11 yX5_init cX5_init 1 0 := ⟨⟨(lt_m2 123 rfl rfl), (lt_m1 107 rfl rfl), (lt_m1 4 rfl rfl), (lt_m1 108 rfl rfl)⟩, rfl, by decide +kernel, by decide +kernel, by decide +kernel⟩
theorem lyf_X4_12 : Cond.fieldLink RX4 12 (TX4 1).1 (TX4 1).2.1 (TX4 1).2.2.1 ∈ lt_tb := (lt_m2 127 rfl rfl)
theorem lyf_X4_18 : Cond.fieldLink RX4 18 (TX4 2).1 (TX4 2).2.1 (TX4 2).2.2.1 ∈ lt_tb := (lt_m2 128 rfl rfl)
theorem lyq_60 : Cond.classLink RX4 22 "[[I" ∈ lt_tb := (lt_m2 124 rfl rfl)
theorem lyq_61 : Cond.arrayOver (.array .int) ∈ lw_tbl := (List.mem_of_getElem? (i := 478) (by decide +kernel))
theorem lyf_X4_24 : Cond.fieldLink RX4 24 (TX4 3).1 (TX4 3).2.1 (TX4 3).2.2.1 ∈ lt_tb := (lt_m2 129 rfl rfl)
theorem lyf_X4_27 : Cond.fieldLink RX4 27 (TX4 0).1 (TX4 0).2.1 (TX4 0).2.2.1 ∈ lt_tb := (lt_m2 126 rfl rfl)
theorem lyq_64 : Cond.methodLink RX1 3 Lib.objectInit ∈ lt_tb := (lt_m2 156 rfl rfl)
theorem lyq_65 : Cond.classLink RX1 9 RX5 ∈ lt_tb := (lt_m2 157 rfl rfl)
theorem mi_X1_11 : lt_MI RX1 11 yX5_init cX5_init 1 0 := ⟨⟨(lt_m2 158 rfl rfl), (lt_m1 107 rfl rfl), (lt_m1 4 rfl rfl), (lt_m1 108 rfl rfl)⟩, rfl, by decide +kernel, by decide +kernel, by decide +kernel⟩
theorem lyf_X1_12 : Cond.fieldLink RX1 12 (TX1 1).1 (TX1 1).2.1 (TX1 1).2.2.1 ∈ lt_tb := (lt_m2 160 rfl rfl)
theorem lyf_X1_18 : Cond.fieldLink RX1 18 (TX1 2).1 (TX1 2).2.1 (TX1 2).2.2.1 ∈ lt_tb := (lt_m2 161 rfl rfl)
theorem lyf_X1_21 : Cond.fieldLink RX1 21 (TX1 0).1 (TX1 0).2.1 (TX1 0).2.2.1 ∈ lt_tb := (lt_m2 159 rfl rfl)
theorem lyq_70 : Cond.methodLink RX2 3 Lib.objectInit ∈ lt_tb := (lt_m2 187 rfl rfl)
theorem lyq_71 : Cond.classLink RX2 9 RX5 ∈ lt_tb := (lt_m2 188 rfl rfl)
theorem mi_X2_11 : lt_MI RX2 11 yX5_init cX5_init 1 0 := ⟨⟨(lt_m2 189 rfl rfl), (lt_m1 107 rfl rfl), (lt_m1 4 rfl rfl), (lt_m1 108 rfl rfl)⟩, rfl, by decide +kernel, by decide +kernel, by decide +kernel⟩
theorem lyf_X2_12 : Cond.fieldLink RX2 12 (TX2 2).1 (TX2 2).2.1 (TX2 2).2.2.1 ∈ lt_tb := (lt_m2 192 rfl rfl)
theorem lyf_X2_18 : Cond.fieldLink RX2 18 (TX2 0).1 (TX2 0).2.1 (TX2 0).2.2.1 ∈ lt_tb := (lt_m2 190 rfl rfl)
theorem lyf_X2_21 : Cond.fieldLink RX2 21 (TX2 1).1 (TX2 1).2.1 (TX2 1).2.2.1 ∈ lt_tb := (lt_m2 191 rfl rfl)
def wI_X5_118 (w : lt_W) : lt_W := lyw_5 118 (w)
theorem zI_X5_118 {w : lt_W} (hz : ly_z w 119) : ly_z (wI_X5_118 w) 127 := by
  have hz1 := lyw_5_z (hz.up (Nat.le_of_ble_eq_true rfl : 119 ≤ 127)) (Nat.le_of_ble_eq_true rfl : 118 + 1 ≤ 127)
  exact hz1.up (Nat.le_of_ble_eq_true rfl)
set_option maxRecDepth 100000 in
set_option maxHeartbeats 4000000 in
theorem cI_X5_118 {l : Launch} {D : va_G} {gA : Nat → ClassId} {s0 : State} {w : lt_W} (hz : ly_z w 119) : lt_C l D gA s0 yX5_init cX5_init 1 none (lt_rmI 2 8 56) [.ref (s0.heap.size + 118)] (ly_S 119 121) w (ly_S 127 129) none (wI_X5_118 w) := by
  refine lt_enterI rfl rfl (Nat.le_of_ble_eq_true rfl) (fun X e1 e2 e3 e4 hF hI hE => ?_)
  subst e1 e2 e3 e4
  have hF : lt_F X cX5_init RX5 1 (lt_rmI 2 8 56) := hF
  show lt_J X 0 0 (ly_S 119 121) w 0 [(0, .ref (lt_z X + 118))] []
  refine jr_aload_n hF dX5_init_0 0 rfl rfl ?_
  show lt_J X 0 0 (ly_S 119 121) _ 1 [(0, .ref (lt_z X + 118))] [.ref (lt_z X + 118)]
  refine jr_objI hF lyq_8 lyq_1 lyq_2 ⟨Nat.le_of_ble_eq_true rfl, Nat.le_of_ble_eq_true rfl⟩ dX5_init_1 ?_
  show lt_J X 0 0 (ly_S 119 121) _ 4 [(0, .ref (lt_z X + 118))] []
  refine jr_aload_n hF dX5_init_4 0 rfl rfl ?_
  show lt_J X 0 0 (ly_S 119 121) _ 5 [(0, .ref (lt_z X + 118))] [.ref (lt_z X + 118)]
  refine jr_bipush (v := 7) hF dX5_init_5 rfl ?_
  show lt_J X 0 0 (ly_S 119 121) _ 7 [(0, .ref (lt_z X + 118))] [.int 7, .ref (lt_z X + 118)]
  refine jr_newa_long (len := 7) (n := 7) hF lyq_3 rfl rfl (by decide) (by decide) rfl hz ⟨Nat.le_of_ble_eq_true rfl, Nat.le_of_ble_eq_true rfl⟩ dX5_init_7 ?_
  show lt_J X 1 7 (ly_S 120 121) _ 9 [(0, .ref (lt_z X + 118))] [.ref (lt_z X + 119), .ref (lt_z X + 118)]
  refine jr_putR (a := 118) (b := 119) hF hI clX5 (Nat.le_of_ble_eq_true rfl) lyf_X5_9 rfl rfl rfl (fun x => ⟨rfl, rfl⟩) (Nat.le_of_ble_eq_true rfl) rfl lyp_121 rfl dX5_init_9 ?_
  show lt_J X 1 7 (ly_S 120 122) _ 12 [(0, .ref (lt_z X + 118))] []
  refine jr_aload_n hF dX5_init_12 0 rfl rfl ?_
  show lt_J X 1 7 (ly_S 120 122) _ 13 [(0, .ref (lt_z X + 118))] [.ref (lt_z X + 118)]
  refine jr_bipush (v := 7) hF dX5_init_13 rfl ?_
  show lt_J X 1 7 (ly_S 120 122) _ 15 [(0, .ref (lt_z X + 118))] [.int 7, .ref (lt_z X + 118)]
  refine jr_newa_int (len := 7) (n := 7) hF lyq_10 rfl rfl (by decide) (by decide) rfl (hz.up (Nat.le_of_ble_eq_true rfl : 119 ≤ 120)) ⟨Nat.le_of_ble_eq_true rfl, Nat.le_of_ble_eq_true rfl⟩ dX5_init_15 ?_
  show lt_J X 2 14 (ly_S 121 122) _ 17 [(0, .ref (lt_z X + 118))] [.ref (lt_z X + 120), .ref (lt_z X + 118)]
  refine jr_putR (a := 118) (b := 120) hF hI clX5 (Nat.le_of_ble_eq_true rfl) lyf_X5_15 rfl rfl rfl (fun x => ⟨rfl, rfl⟩) (Nat.le_of_ble_eq_true rfl) rfl lyp_122 rfl dX5_init_17 ?_
  show lt_J X 2 14 (ly_S 121 123) _ 20 [(0, .ref (lt_z X + 118))] []
  refine jr_aload_n hF dX5_init_20 0 rfl rfl ?_
  show lt_J X 2 14 (ly_S 121 123) _ 21 [(0, .ref (lt_z X + 118))] [.ref (lt_z X + 118)]
  refine jr_bipush (v := 7) hF dX5_init_21 rfl ?_
  show lt_J X 2 14 (ly_S 121 123) _ 23 [(0, .ref (lt_z X + 118))] [.int 7, .ref (lt_z X + 118)]
  refine jr_newa_int (len := 7) (n := 7) hF lyq_10 rfl rfl (by decide) (by decide) rfl (hz.up (Nat.le_of_ble_eq_true rfl : 119 ≤ 121)) ⟨Nat.le_of_ble_eq_true rfl, Nat.le_of_ble_eq_true rfl⟩ dX5_init_23 ?_
  show lt_J X 3 21 (ly_S 122 123) _ 25 [(0, .ref (lt_z X + 118))] [.ref (lt_z X + 121), .ref (lt_z X + 118)]
  refine jr_putR (a := 118) (b := 121) hF hI clX5 (Nat.le_of_ble_eq_true rfl) lyf_X5_19 rfl rfl rfl (fun x => ⟨rfl, rfl⟩) (Nat.le_of_ble_eq_true rfl) rfl lyp_123 rfl dX5_init_25 ?_
  show lt_J X 3 21 (ly_S 122 124) _ 28 [(0, .ref (lt_z X + 118))] []
  refine jr_aload_n hF dX5_init_28 0 rfl rfl ?_
  show lt_J X 3 21 (ly_S 122 124) _ 29 [(0, .ref (lt_z X + 118))] [.ref (lt_z X + 118)]
  refine jr_bipush (v := 7) hF dX5_init_29 rfl ?_
  show lt_J X 3 21 (ly_S 122 124) _ 31 [(0, .ref (lt_z X + 118))] [.int 7, .ref (lt_z X + 118)]
  refine jr_newa_int (len := 7) (n := 7) hF lyq_10 rfl rfl (by decide) (by decide) rfl (hz.up (Nat.le_of_ble_eq_true rfl : 119 ≤ 122)) ⟨Nat.le_of_ble_eq_true rfl, Nat.le_of_ble_eq_true rfl⟩ dX5_init_31 ?_
  show lt_J X 4 28 (ly_S 123 124) _ 33 [(0, .ref (lt_z X + 118))] [.ref (lt_z X + 122), .ref (lt_z X + 118)]
  refine jr_putR (a := 118) (b := 122) hF hI clX5 (Nat.le_of_ble_eq_true rfl) lyf_X5_22 rfl rfl rfl (fun x => ⟨rfl, rfl⟩) (Nat.le_of_ble_eq_true rfl) rfl lyp_124 rfl dX5_init_33 ?_
  show lt_J X 4 28 (ly_S 123 125) _ 36 [(0, .ref (lt_z X + 118))] []
  refine jr_aload_n hF dX5_init_36 0 rfl rfl ?_
  show lt_J X 4 28 (ly_S 123 125) _ 37 [(0, .ref (lt_z X + 118))] [.ref (lt_z X + 118)]
  refine jr_bipush (v := 7) hF dX5_init_37 rfl ?_
  show lt_J X 4 28 (ly_S 123 125) _ 39 [(0, .ref (lt_z X + 118))] [.int 7, .ref (lt_z X + 118)]
  refine jr_newa_int (len := 7) (n := 7) hF lyq_10 rfl rfl (by decide) (by decide) rfl (hz.up (Nat.le_of_ble_eq_true rfl : 119 ≤ 123)) ⟨Nat.le_of_ble_eq_true rfl, Nat.le_of_ble_eq_true rfl⟩ dX5_init_39 ?_
  show lt_J X 5 35 (ly_S 124 125) _ 41 [(0, .ref (lt_z X + 118))] [.ref (lt_z X + 123), .ref (lt_z X + 118)]
  refine jr_putR (a := 118) (b := 123) hF hI clX5 (Nat.le_of_ble_eq_true rfl) lyf_X5_25 rfl rfl rfl (fun x => ⟨rfl, rfl⟩) (Nat.le_of_ble_eq_true rfl) rfl lyp_125 rfl dX5_init_41 ?_
  show lt_J X 5 35 (ly_S 124 126) _ 44 [(0, .ref (lt_z X + 118))] []
  refine jr_aload_n hF dX5_init_44 0 rfl rfl ?_
  show lt_J X 5 35 (ly_S 124 126) _ 45 [(0, .ref (lt_z X + 118))] [.ref (lt_z X + 118)]
  refine jr_bipush (v := 7) hF dX5_init_45 rfl ?_
  show lt_J X 5 35 (ly_S 124 126) _ 47 [(0, .ref (lt_z X + 118))] [.int 7, .ref (lt_z X + 118)]
  refine jr_newa_int (len := 7) (n := 7) hF lyq_10 rfl rfl (by decide) (by decide) rfl (hz.up (Nat.le_of_ble_eq_true rfl : 119 ≤ 124)) ⟨Nat.le_of_ble_eq_true rfl, Nat.le_of_ble_eq_true rfl⟩ dX5_init_47 ?_
  show lt_J X 6 42 (ly_S 125 126) _ 49 [(0, .ref (lt_z X + 118))] [.ref (lt_z X + 124), .ref (lt_z X + 118)]
  refine jr_putR (a := 118) (b := 124) hF hI clX5 (Nat.le_of_ble_eq_true rfl) lyf_X5_28 rfl rfl rfl (fun x => ⟨rfl, rfl⟩) (Nat.le_of_ble_eq_true rfl) rfl lyp_126 rfl dX5_init_49 ?_
  show lt_J X 6 42 (ly_S 125 127) _ 52 [(0, .ref (lt_z X + 118))] []
  refine jr_aload_n hF dX5_init_52 0 rfl rfl ?_
  show lt_J X 6 42 (ly_S 125 127) _ 53 [(0, .ref (lt_z X + 118))] [.ref (lt_z X + 118)]
  refine jr_bipush (v := 7) hF dX5_init_53 rfl ?_
  show lt_J X 6 42 (ly_S 125 127) _ 55 [(0, .ref (lt_z X + 118))] [.int 7, .ref (lt_z X + 118)]
  refine jr_newa_int (len := 7) (n := 7) hF lyq_10 rfl rfl (by decide) (by decide) rfl (hz.up (Nat.le_of_ble_eq_true rfl : 119 ≤ 125)) ⟨Nat.le_of_ble_eq_true rfl, Nat.le_of_ble_eq_true rfl⟩ dX5_init_55 ?_
  show lt_J X 7 49 (ly_S 126 127) _ 57 [(0, .ref (lt_z X + 118))] [.ref (lt_z X + 125), .ref (lt_z X + 118)]
  refine jr_putR (a := 118) (b := 125) hF hI clX5 (Nat.le_of_ble_eq_true rfl) lyf_X5_31 rfl rfl rfl (fun x => ⟨rfl, rfl⟩) (Nat.le_of_ble_eq_true rfl) rfl lyp_127 rfl dX5_init_57 ?_
  show lt_J X 7 49 (ly_S 126 128) _ 60 [(0, .ref (lt_z X + 118))] []
  refine jr_aload_n hF dX5_init_60 0 rfl rfl ?_
  show lt_J X 7 49 (ly_S 126 128) _ 61 [(0, .ref (lt_z X + 118))] [.ref (lt_z X + 118)]
  refine jr_bipush (v := 7) hF dX5_init_61 rfl ?_
  show lt_J X 7 49 (ly_S 126 128) _ 63 [(0, .ref (lt_z X + 118))] [.int 7, .ref (lt_z X + 118)]
  refine jr_newa_int (len := 7) (n := 7) hF lyq_10 rfl rfl (by decide) (by decide) rfl (hz.up (Nat.le_of_ble_eq_true rfl : 119 ≤ 126)) ⟨Nat.le_of_ble_eq_true rfl, Nat.le_of_ble_eq_true rfl⟩ dX5_init_63 ?_
  show lt_J X 8 56 (ly_S 127 128) _ 65 [(0, .ref (lt_z X + 118))] [.ref (lt_z X + 126), .ref (lt_z X + 118)]
  refine jr_putR (a := 118) (b := 126) hF hI clX5 (Nat.le_of_ble_eq_true rfl) lyf_X5_34 rfl rfl rfl (fun x => ⟨rfl, rfl⟩) (Nat.le_of_ble_eq_true rfl) rfl lyp_128 rfl dX5_init_65 ?_
  show lt_J X 8 56 (ly_S 127 129) _ 68 [(0, .ref (lt_z X + 118))] []
  refine jr_aload_n hF dX5_init_68 0 rfl rfl ?_
  show lt_J X 8 56 (ly_S 127 129) _ 69 [(0, .ref (lt_z X + 118))] [.ref (lt_z X + 118)]
  refine jr_callV (As := []) (st := []) hF ml_X5_37 (c_X5_clear (w := _) (r := lyw_5 118 _) (ly_c (Nat.le_of_ble_eq_true rfl)) rfl) (ly_c (Nat.le_of_ble_eq_true rfl)) rfl ⟨Nat.le_of_ble_eq_true rfl, Nat.le_of_ble_eq_true rfl⟩ ⟨Nat.le_of_ble_eq_true rfl, Nat.le_of_ble_eq_true rfl⟩ (Nat.le_of_ble_eq_true rfl) dX5_init_69 ?_
  have hz1 := lyw_5_z (hz.up (Nat.le_of_ble_eq_true rfl : 119 ≤ 127)) (Nat.le_of_ble_eq_true rfl : 118 + 1 ≤ 127)
  show lt_J X 8 56 (ly_S 127 129) _ 72 [(0, .ref (lt_z X + 118))] []
  exact jr_return hF hE dX5_init_72
def wI_X4_117 (w : lt_W) : lt_W := wI_X5_118 (w)
theorem zI_X4_117 {w : lt_W} (hz : ly_z w 118) : ly_z (wI_X4_117 w) 150 := by
  have hz1 := zI_X5_118 (hz.up (Nat.le_of_ble_eq_true rfl : 118 ≤ 119))
  exact hz1.up (Nat.le_of_ble_eq_true rfl)
set_option maxRecDepth 100000 in
set_option maxHeartbeats 4000000 in
theorem cI_X4_117 {l : Launch} {D : va_G} {gA : Nat → ClassId} {s0 : State} {w : lt_W} (hz : ly_z w 118) : lt_C l D gA s0 yX4_init cX4_init 2 none (lt_rmI 3 32 283) [.ref (s0.heap.size + 117), .ref (s0.heap.size + 12)] (ly_S 118 121) w (ly_S 150 133) none (wI_X4_117 w) := by
  refine lt_enterI rfl rfl (Nat.le_of_ble_eq_true rfl) (fun X e1 e2 e3 e4 hF hI hE => ?_)
  subst e1 e2 e3 e4
  have hF : lt_F X cX4_init RX4 2 (lt_rmI 3 32 283) := hF
  show lt_J X 0 0 (ly_S 118 121) w 0 [(0, .ref (lt_z X + 117)), (1, .ref (lt_z X + 12))] []
  refine jr_aload_n hF dX4_init_0 0 rfl rfl ?_
  show lt_J X 0 0 (ly_S 118 121) _ 1 [(0, .ref (lt_z X + 117)), (1, .ref (lt_z X + 12))] [.ref (lt_z X + 117)]
  refine jr_objI hF lyq_55 lyq_1 lyq_2 ⟨Nat.le_of_ble_eq_true rfl, Nat.le_of_ble_eq_true rfl⟩ dX4_init_1 ?_
  show lt_J X 0 0 (ly_S 118 121) _ 4 [(0, .ref (lt_z X + 117)), (1, .ref (lt_z X + 12))] []
  refine jr_aload_n hF dX4_init_4 0 rfl rfl ?_
  show lt_J X 0 0 (ly_S 118 121) _ 5 [(0, .ref (lt_z X + 117)), (1, .ref (lt_z X + 12))] [.ref (lt_z X + 117)]
  refine jr_new (ci := 5) hF clX5 lyq_56 lyq_28 lyq_29 rfl dvX5 (by decide +kernel) hz ⟨Nat.le_of_ble_eq_true rfl, Nat.le_of_ble_eq_true rfl⟩ dX4_init_5 ?_
  show lt_J X 1 17 (ly_S 119 121) _ 8 [(0, .ref (lt_z X + 117)), (1, .ref (lt_z X + 12))] [.ref (lt_z X + 118), .ref (lt_z X + 117)]
  refine jr_dup hF dX4_init_8 rfl ?_
  show lt_J X 1 17 (ly_S 119 121) _ 9 [(0, .ref (lt_z X + 117)), (1, .ref (lt_z X + 12))] [.ref (lt_z X + 118), .ref (lt_z X + 118), .ref (lt_z X + 117)]
  refine jr_callI (As := []) (st := [.ref (lt_z X + 118), .ref (lt_z X + 117)]) hF mi_X4_11 (cI_X5_118 (hz.up (Nat.le_of_ble_eq_true rfl : 118 ≤ 119))) rfl ⟨Nat.le_of_ble_eq_true rfl, Nat.le_of_ble_eq_true rfl⟩ ⟨Nat.le_of_ble_eq_true rfl, Nat.le_of_ble_eq_true rfl⟩ (Nat.le_of_ble_eq_true rfl) dX4_init_9 ?_
  have hz1 := zI_X5_118 (hz.up (Nat.le_of_ble_eq_true rfl : 118 ≤ 119))
  show lt_J X 9 73 (ly_S 127 129) _ 12 [(0, .ref (lt_z X + 117)), (1, .ref (lt_z X + 12))] [.ref (lt_z X + 118), .ref (lt_z X + 117)]
  refine jr_putR (a := 117) (b := 118) hF hI clX4 (Nat.le_of_ble_eq_true rfl) lyf_X4_12 rfl rfl rfl (fun x => ⟨rfl, rfl⟩) (Nat.le_of_ble_eq_true rfl) rfl lyp_129 rfl dX4_init_12 ?_
  show lt_J X 9 73 (ly_S 127 130) _ 15 [(0, .ref (lt_z X + 117)), (1, .ref (lt_z X + 12))] []
  refine jr_aload_n hF dX4_init_15 0 rfl rfl ?_
  show lt_J X 9 73 (ly_S 127 130) _ 16 [(0, .ref (lt_z X + 117)), (1, .ref (lt_z X + 12))] [.ref (lt_z X + 117)]
  refine jr_bipush (v := 21) hF dX4_init_16 rfl ?_
  show lt_J X 9 73 (ly_S 127 130) _ 18 [(0, .ref (lt_z X + 117)), (1, .ref (lt_z X + 12))] [.int 21, .ref (lt_z X + 117)]
  refine jr_newa_int (len := 21) (n := 21) hF lyq_10 rfl rfl (by decide) (by decide) rfl hz1 ⟨Nat.le_of_ble_eq_true rfl, Nat.le_of_ble_eq_true rfl⟩ dX4_init_18 ?_
  show lt_J X 10 94 (ly_S 128 130) _ 20 [(0, .ref (lt_z X + 117)), (1, .ref (lt_z X + 12))] [.ref (lt_z X + 127), .ref (lt_z X + 117)]
  refine jr_putR (a := 117) (b := 127) hF hI clX4 (Nat.le_of_ble_eq_true rfl) lyf_X4_18 rfl rfl rfl (fun x => ⟨rfl, rfl⟩) (Nat.le_of_ble_eq_true rfl) rfl lyp_130 rfl dX4_init_20 ?_
  show lt_J X 10 94 (ly_S 128 131) _ 23 [(0, .ref (lt_z X + 117)), (1, .ref (lt_z X + 12))] []
  refine jr_aload_n hF dX4_init_23 0 rfl rfl ?_
  show lt_J X 10 94 (ly_S 128 131) _ 24 [(0, .ref (lt_z X + 117)), (1, .ref (lt_z X + 12))] [.ref (lt_z X + 117)]
  refine jr_bipush (v := 21) hF dX4_init_24 rfl ?_
  show lt_J X 10 94 (ly_S 128 131) _ 26 [(0, .ref (lt_z X + 117)), (1, .ref (lt_z X + 12))] [.int 21, .ref (lt_z X + 117)]
  refine jr_bipush (v := 8) hF dX4_init_26 rfl ?_
  show lt_J X 10 94 (ly_S 128 131) _ 28 [(0, .ref (lt_z X + 117)), (1, .ref (lt_z X + 12))] [.int 8, .int 21, .ref (lt_z X + 117)]
  refine jr_multi hF lyq_60 lyq_61 lyq_10 (hz1.up (Nat.le_of_ble_eq_true rfl : 127 ≤ 128)) ⟨Nat.le_of_ble_eq_true rfl, Nat.le_of_ble_eq_true rfl⟩ dX4_init_28 ?_
  show lt_J X 32 283 (ly_S 150 131) _ 32 [(0, .ref (lt_z X + 117)), (1, .ref (lt_z X + 12))] [.ref (lt_z X + 128), .ref (lt_z X + 117)]
  refine jr_putR (a := 117) (b := 128) hF hI clX4 (Nat.le_of_ble_eq_true rfl) lyf_X4_24 rfl rfl rfl (fun x => ⟨rfl, rfl⟩) (Nat.le_of_ble_eq_true rfl) rfl lyp_131 rfl dX4_init_32 ?_
  show lt_J X 32 283 (ly_S 150 132) _ 35 [(0, .ref (lt_z X + 117)), (1, .ref (lt_z X + 12))] []
  refine jr_aload_n hF dX4_init_35 0 rfl rfl ?_
  show lt_J X 32 283 (ly_S 150 132) _ 36 [(0, .ref (lt_z X + 117)), (1, .ref (lt_z X + 12))] [.ref (lt_z X + 117)]
  refine jr_aload_n hF dX4_init_36 1 rfl rfl ?_
  show lt_J X 32 283 (ly_S 150 132) _ 37 [(0, .ref (lt_z X + 117)), (1, .ref (lt_z X + 12))] [.ref (lt_z X + 12), .ref (lt_z X + 117)]
  refine jr_putR (a := 117) (b := 12) hF hI clX4 (Nat.le_of_ble_eq_true rfl) lyf_X4_27 rfl rfl rfl (fun x => ⟨rfl, rfl⟩) (Nat.le_of_ble_eq_true rfl) rfl lyp_132 rfl dX4_init_37 ?_
  show lt_J X 32 283 (ly_S 150 133) _ 40 [(0, .ref (lt_z X + 117)), (1, .ref (lt_z X + 12))] []
  exact jr_return hF hE dX4_init_40
def wI_X5_151 (w : lt_W) : lt_W := lyw_5 151 (w)
theorem zI_X5_151 {w : lt_W} (hz : ly_z w 152) : ly_z (wI_X5_151 w) 160 := by
  have hz1 := lyw_5_z (hz.up (Nat.le_of_ble_eq_true rfl : 152 ≤ 160)) (Nat.le_of_ble_eq_true rfl : 151 + 1 ≤ 160)
  exact hz1.up (Nat.le_of_ble_eq_true rfl)
set_option maxRecDepth 100000 in
set_option maxHeartbeats 4000000 in
theorem cI_X5_151 {l : Launch} {D : va_G} {gA : Nat → ClassId} {s0 : State} {w : lt_W} (hz : ly_z w 152) : lt_C l D gA s0 yX5_init cX5_init 1 none (lt_rmI 2 8 56) [.ref (s0.heap.size + 151)] (ly_S 152 134) w (ly_S 160 142) none (wI_X5_151 w) := by
  refine lt_enterI rfl rfl (Nat.le_of_ble_eq_true rfl) (fun X e1 e2 e3 e4 hF hI hE => ?_)
  subst e1 e2 e3 e4
  have hF : lt_F X cX5_init RX5 1 (lt_rmI 2 8 56) := hF
  show lt_J X 0 0 (ly_S 152 134) w 0 [(0, .ref (lt_z X + 151))] []
  refine jr_aload_n hF dX5_init_0 0 rfl rfl ?_
  show lt_J X 0 0 (ly_S 152 134) _ 1 [(0, .ref (lt_z X + 151))] [.ref (lt_z X + 151)]
  refine jr_objI hF lyq_8 lyq_1 lyq_2 ⟨Nat.le_of_ble_eq_true rfl, Nat.le_of_ble_eq_true rfl⟩ dX5_init_1 ?_
  show lt_J X 0 0 (ly_S 152 134) _ 4 [(0, .ref (lt_z X + 151))] []
  refine jr_aload_n hF dX5_init_4 0 rfl rfl ?_
  show lt_J X 0 0 (ly_S 152 134) _ 5 [(0, .ref (lt_z X + 151))] [.ref (lt_z X + 151)]
  refine jr_bipush (v := 7) hF dX5_init_5 rfl ?_
  show lt_J X 0 0 (ly_S 152 134) _ 7 [(0, .ref (lt_z X + 151))] [.int 7, .ref (lt_z X + 151)]
  refine jr_newa_long (len := 7) (n := 7) hF lyq_3 rfl rfl (by decide) (by decide) rfl hz ⟨Nat.le_of_ble_eq_true rfl, Nat.le_of_ble_eq_true rfl⟩ dX5_init_7 ?_
  show lt_J X 1 7 (ly_S 153 134) _ 9 [(0, .ref (lt_z X + 151))] [.ref (lt_z X + 152), .ref (lt_z X + 151)]
  refine jr_putR (a := 151) (b := 152) hF hI clX5 (Nat.le_of_ble_eq_true rfl) lyf_X5_9 rfl rfl rfl (fun x => ⟨rfl, rfl⟩) (Nat.le_of_ble_eq_true rfl) rfl lyp_134 rfl dX5_init_9 ?_
  show lt_J X 1 7 (ly_S 153 135) _ 12 [(0, .ref (lt_z X + 151))] []
  refine jr_aload_n hF dX5_init_12 0 rfl rfl ?_
  show lt_J X 1 7 (ly_S 153 135) _ 13 [(0, .ref (lt_z X + 151))] [.ref (lt_z X + 151)]
  refine jr_bipush (v := 7) hF dX5_init_13 rfl ?_
  show lt_J X 1 7 (ly_S 153 135) _ 15 [(0, .ref (lt_z X + 151))] [.int 7, .ref (lt_z X + 151)]
  refine jr_newa_int (len := 7) (n := 7) hF lyq_10 rfl rfl (by decide) (by decide) rfl (hz.up (Nat.le_of_ble_eq_true rfl : 152 ≤ 153)) ⟨Nat.le_of_ble_eq_true rfl, Nat.le_of_ble_eq_true rfl⟩ dX5_init_15 ?_
  show lt_J X 2 14 (ly_S 154 135) _ 17 [(0, .ref (lt_z X + 151))] [.ref (lt_z X + 153), .ref (lt_z X + 151)]
  refine jr_putR (a := 151) (b := 153) hF hI clX5 (Nat.le_of_ble_eq_true rfl) lyf_X5_15 rfl rfl rfl (fun x => ⟨rfl, rfl⟩) (Nat.le_of_ble_eq_true rfl) rfl lyp_135 rfl dX5_init_17 ?_
  show lt_J X 2 14 (ly_S 154 136) _ 20 [(0, .ref (lt_z X + 151))] []
  refine jr_aload_n hF dX5_init_20 0 rfl rfl ?_
  show lt_J X 2 14 (ly_S 154 136) _ 21 [(0, .ref (lt_z X + 151))] [.ref (lt_z X + 151)]
  refine jr_bipush (v := 7) hF dX5_init_21 rfl ?_
  show lt_J X 2 14 (ly_S 154 136) _ 23 [(0, .ref (lt_z X + 151))] [.int 7, .ref (lt_z X + 151)]
  refine jr_newa_int (len := 7) (n := 7) hF lyq_10 rfl rfl (by decide) (by decide) rfl (hz.up (Nat.le_of_ble_eq_true rfl : 152 ≤ 154)) ⟨Nat.le_of_ble_eq_true rfl, Nat.le_of_ble_eq_true rfl⟩ dX5_init_23 ?_
  show lt_J X 3 21 (ly_S 155 136) _ 25 [(0, .ref (lt_z X + 151))] [.ref (lt_z X + 154), .ref (lt_z X + 151)]
  refine jr_putR (a := 151) (b := 154) hF hI clX5 (Nat.le_of_ble_eq_true rfl) lyf_X5_19 rfl rfl rfl (fun x => ⟨rfl, rfl⟩) (Nat.le_of_ble_eq_true rfl) rfl lyp_136 rfl dX5_init_25 ?_
  show lt_J X 3 21 (ly_S 155 137) _ 28 [(0, .ref (lt_z X + 151))] []
  refine jr_aload_n hF dX5_init_28 0 rfl rfl ?_
  show lt_J X 3 21 (ly_S 155 137) _ 29 [(0, .ref (lt_z X + 151))] [.ref (lt_z X + 151)]
  refine jr_bipush (v := 7) hF dX5_init_29 rfl ?_
  show lt_J X 3 21 (ly_S 155 137) _ 31 [(0, .ref (lt_z X + 151))] [.int 7, .ref (lt_z X + 151)]
  refine jr_newa_int (len := 7) (n := 7) hF lyq_10 rfl rfl (by decide) (by decide) rfl (hz.up (Nat.le_of_ble_eq_true rfl : 152 ≤ 155)) ⟨Nat.le_of_ble_eq_true rfl, Nat.le_of_ble_eq_true rfl⟩ dX5_init_31 ?_
  show lt_J X 4 28 (ly_S 156 137) _ 33 [(0, .ref (lt_z X + 151))] [.ref (lt_z X + 155), .ref (lt_z X + 151)]
  refine jr_putR (a := 151) (b := 155) hF hI clX5 (Nat.le_of_ble_eq_true rfl) lyf_X5_22 rfl rfl rfl (fun x => ⟨rfl, rfl⟩) (Nat.le_of_ble_eq_true rfl) rfl lyp_137 rfl dX5_init_33 ?_
  show lt_J X 4 28 (ly_S 156 138) _ 36 [(0, .ref (lt_z X + 151))] []
  refine jr_aload_n hF dX5_init_36 0 rfl rfl ?_
  show lt_J X 4 28 (ly_S 156 138) _ 37 [(0, .ref (lt_z X + 151))] [.ref (lt_z X + 151)]
  refine jr_bipush (v := 7) hF dX5_init_37 rfl ?_
  show lt_J X 4 28 (ly_S 156 138) _ 39 [(0, .ref (lt_z X + 151))] [.int 7, .ref (lt_z X + 151)]
  refine jr_newa_int (len := 7) (n := 7) hF lyq_10 rfl rfl (by decide) (by decide) rfl (hz.up (Nat.le_of_ble_eq_true rfl : 152 ≤ 156)) ⟨Nat.le_of_ble_eq_true rfl, Nat.le_of_ble_eq_true rfl⟩ dX5_init_39 ?_
  show lt_J X 5 35 (ly_S 157 138) _ 41 [(0, .ref (lt_z X + 151))] [.ref (lt_z X + 156), .ref (lt_z X + 151)]
  refine jr_putR (a := 151) (b := 156) hF hI clX5 (Nat.le_of_ble_eq_true rfl) lyf_X5_25 rfl rfl rfl (fun x => ⟨rfl, rfl⟩) (Nat.le_of_ble_eq_true rfl) rfl lyp_138 rfl dX5_init_41 ?_
  show lt_J X 5 35 (ly_S 157 139) _ 44 [(0, .ref (lt_z X + 151))] []
  refine jr_aload_n hF dX5_init_44 0 rfl rfl ?_
  show lt_J X 5 35 (ly_S 157 139) _ 45 [(0, .ref (lt_z X + 151))] [.ref (lt_z X + 151)]
  refine jr_bipush (v := 7) hF dX5_init_45 rfl ?_
  show lt_J X 5 35 (ly_S 157 139) _ 47 [(0, .ref (lt_z X + 151))] [.int 7, .ref (lt_z X + 151)]
  refine jr_newa_int (len := 7) (n := 7) hF lyq_10 rfl rfl (by decide) (by decide) rfl (hz.up (Nat.le_of_ble_eq_true rfl : 152 ≤ 157)) ⟨Nat.le_of_ble_eq_true rfl, Nat.le_of_ble_eq_true rfl⟩ dX5_init_47 ?_
  show lt_J X 6 42 (ly_S 158 139) _ 49 [(0, .ref (lt_z X + 151))] [.ref (lt_z X + 157), .ref (lt_z X + 151)]
  refine jr_putR (a := 151) (b := 157) hF hI clX5 (Nat.le_of_ble_eq_true rfl) lyf_X5_28 rfl rfl rfl (fun x => ⟨rfl, rfl⟩) (Nat.le_of_ble_eq_true rfl) rfl lyp_139 rfl dX5_init_49 ?_
  show lt_J X 6 42 (ly_S 158 140) _ 52 [(0, .ref (lt_z X + 151))] []
  refine jr_aload_n hF dX5_init_52 0 rfl rfl ?_
  show lt_J X 6 42 (ly_S 158 140) _ 53 [(0, .ref (lt_z X + 151))] [.ref (lt_z X + 151)]
  refine jr_bipush (v := 7) hF dX5_init_53 rfl ?_
  show lt_J X 6 42 (ly_S 158 140) _ 55 [(0, .ref (lt_z X + 151))] [.int 7, .ref (lt_z X + 151)]
  refine jr_newa_int (len := 7) (n := 7) hF lyq_10 rfl rfl (by decide) (by decide) rfl (hz.up (Nat.le_of_ble_eq_true rfl : 152 ≤ 158)) ⟨Nat.le_of_ble_eq_true rfl, Nat.le_of_ble_eq_true rfl⟩ dX5_init_55 ?_
  show lt_J X 7 49 (ly_S 159 140) _ 57 [(0, .ref (lt_z X + 151))] [.ref (lt_z X + 158), .ref (lt_z X + 151)]
  refine jr_putR (a := 151) (b := 158) hF hI clX5 (Nat.le_of_ble_eq_true rfl) lyf_X5_31 rfl rfl rfl (fun x => ⟨rfl, rfl⟩) (Nat.le_of_ble_eq_true rfl) rfl lyp_140 rfl dX5_init_57 ?_
  show lt_J X 7 49 (ly_S 159 141) _ 60 [(0, .ref (lt_z X + 151))] []
  refine jr_aload_n hF dX5_init_60 0 rfl rfl ?_
  show lt_J X 7 49 (ly_S 159 141) _ 61 [(0, .ref (lt_z X + 151))] [.ref (lt_z X + 151)]
  refine jr_bipush (v := 7) hF dX5_init_61 rfl ?_
  show lt_J X 7 49 (ly_S 159 141) _ 63 [(0, .ref (lt_z X + 151))] [.int 7, .ref (lt_z X + 151)]
  refine jr_newa_int (len := 7) (n := 7) hF lyq_10 rfl rfl (by decide) (by decide) rfl (hz.up (Nat.le_of_ble_eq_true rfl : 152 ≤ 159)) ⟨Nat.le_of_ble_eq_true rfl, Nat.le_of_ble_eq_true rfl⟩ dX5_init_63 ?_
  show lt_J X 8 56 (ly_S 160 141) _ 65 [(0, .ref (lt_z X + 151))] [.ref (lt_z X + 159), .ref (lt_z X + 151)]
  refine jr_putR (a := 151) (b := 159) hF hI clX5 (Nat.le_of_ble_eq_true rfl) lyf_X5_34 rfl rfl rfl (fun x => ⟨rfl, rfl⟩) (Nat.le_of_ble_eq_true rfl) rfl lyp_141 rfl dX5_init_65 ?_
  show lt_J X 8 56 (ly_S 160 142) _ 68 [(0, .ref (lt_z X + 151))] []
  refine jr_aload_n hF dX5_init_68 0 rfl rfl ?_
  show lt_J X 8 56 (ly_S 160 142) _ 69 [(0, .ref (lt_z X + 151))] [.ref (lt_z X + 151)]
  refine jr_callV (As := []) (st := []) hF ml_X5_37 (c_X5_clear (w := _) (r := lyw_5 151 _) (ly_c (Nat.le_of_ble_eq_true rfl)) rfl) (ly_c (Nat.le_of_ble_eq_true rfl)) rfl ⟨Nat.le_of_ble_eq_true rfl, Nat.le_of_ble_eq_true rfl⟩ ⟨Nat.le_of_ble_eq_true rfl, Nat.le_of_ble_eq_true rfl⟩ (Nat.le_of_ble_eq_true rfl) dX5_init_69 ?_
  have hz1 := lyw_5_z (hz.up (Nat.le_of_ble_eq_true rfl : 152 ≤ 160)) (Nat.le_of_ble_eq_true rfl : 151 + 1 ≤ 160)
  show lt_J X 8 56 (ly_S 160 142) _ 72 [(0, .ref (lt_z X + 151))] []
  exact jr_return hF hE dX5_init_72
def wI_X5_160 (w : lt_W) : lt_W := lyw_5 160 (w)
theorem zI_X5_160 {w : lt_W} (hz : ly_z w 161) : ly_z (wI_X5_160 w) 169 := by
  have hz1 := lyw_5_z (hz.up (Nat.le_of_ble_eq_true rfl : 161 ≤ 169)) (Nat.le_of_ble_eq_true rfl : 160 + 1 ≤ 169)
  exact hz1.up (Nat.le_of_ble_eq_true rfl)
set_option maxRecDepth 100000 in
set_option maxHeartbeats 4000000 in
theorem cI_X5_160 {l : Launch} {D : va_G} {gA : Nat → ClassId} {s0 : State} {w : lt_W} (hz : ly_z w 161) : lt_C l D gA s0 yX5_init cX5_init 1 none (lt_rmI 2 8 56) [.ref (s0.heap.size + 160)] (ly_S 161 143) w (ly_S 169 151) none (wI_X5_160 w) := by
  refine lt_enterI rfl rfl (Nat.le_of_ble_eq_true rfl) (fun X e1 e2 e3 e4 hF hI hE => ?_)
  subst e1 e2 e3 e4
  have hF : lt_F X cX5_init RX5 1 (lt_rmI 2 8 56) := hF
  show lt_J X 0 0 (ly_S 161 143) w 0 [(0, .ref (lt_z X + 160))] []
  refine jr_aload_n hF dX5_init_0 0 rfl rfl ?_
  show lt_J X 0 0 (ly_S 161 143) _ 1 [(0, .ref (lt_z X + 160))] [.ref (lt_z X + 160)]
  refine jr_objI hF lyq_8 lyq_1 lyq_2 ⟨Nat.le_of_ble_eq_true rfl, Nat.le_of_ble_eq_true rfl⟩ dX5_init_1 ?_
  show lt_J X 0 0 (ly_S 161 143) _ 4 [(0, .ref (lt_z X + 160))] []
  refine jr_aload_n hF dX5_init_4 0 rfl rfl ?_
  show lt_J X 0 0 (ly_S 161 143) _ 5 [(0, .ref (lt_z X + 160))] [.ref (lt_z X + 160)]
  refine jr_bipush (v := 7) hF dX5_init_5 rfl ?_
  show lt_J X 0 0 (ly_S 161 143) _ 7 [(0, .ref (lt_z X + 160))] [.int 7, .ref (lt_z X + 160)]
  refine jr_newa_long (len := 7) (n := 7) hF lyq_3 rfl rfl (by decide) (by decide) rfl hz ⟨Nat.le_of_ble_eq_true rfl, Nat.le_of_ble_eq_true rfl⟩ dX5_init_7 ?_
  show lt_J X 1 7 (ly_S 162 143) _ 9 [(0, .ref (lt_z X + 160))] [.ref (lt_z X + 161), .ref (lt_z X + 160)]
  refine jr_putR (a := 160) (b := 161) hF hI clX5 (Nat.le_of_ble_eq_true rfl) lyf_X5_9 rfl rfl rfl (fun x => ⟨rfl, rfl⟩) (Nat.le_of_ble_eq_true rfl) rfl lyp_143 rfl dX5_init_9 ?_
  show lt_J X 1 7 (ly_S 162 144) _ 12 [(0, .ref (lt_z X + 160))] []
  refine jr_aload_n hF dX5_init_12 0 rfl rfl ?_
  show lt_J X 1 7 (ly_S 162 144) _ 13 [(0, .ref (lt_z X + 160))] [.ref (lt_z X + 160)]
  refine jr_bipush (v := 7) hF dX5_init_13 rfl ?_
  show lt_J X 1 7 (ly_S 162 144) _ 15 [(0, .ref (lt_z X + 160))] [.int 7, .ref (lt_z X + 160)]
  refine jr_newa_int (len := 7) (n := 7) hF lyq_10 rfl rfl (by decide) (by decide) rfl (hz.up (Nat.le_of_ble_eq_true rfl : 161 ≤ 162)) ⟨Nat.le_of_ble_eq_true rfl, Nat.le_of_ble_eq_true rfl⟩ dX5_init_15 ?_
  show lt_J X 2 14 (ly_S 163 144) _ 17 [(0, .ref (lt_z X + 160))] [.ref (lt_z X + 162), .ref (lt_z X + 160)]
  refine jr_putR (a := 160) (b := 162) hF hI clX5 (Nat.le_of_ble_eq_true rfl) lyf_X5_15 rfl rfl rfl (fun x => ⟨rfl, rfl⟩) (Nat.le_of_ble_eq_true rfl) rfl lyp_144 rfl dX5_init_17 ?_
  show lt_J X 2 14 (ly_S 163 145) _ 20 [(0, .ref (lt_z X + 160))] []
  refine jr_aload_n hF dX5_init_20 0 rfl rfl ?_
  show lt_J X 2 14 (ly_S 163 145) _ 21 [(0, .ref (lt_z X + 160))] [.ref (lt_z X + 160)]
  refine jr_bipush (v := 7) hF dX5_init_21 rfl ?_
  show lt_J X 2 14 (ly_S 163 145) _ 23 [(0, .ref (lt_z X + 160))] [.int 7, .ref (lt_z X + 160)]
  refine jr_newa_int (len := 7) (n := 7) hF lyq_10 rfl rfl (by decide) (by decide) rfl (hz.up (Nat.le_of_ble_eq_true rfl : 161 ≤ 163)) ⟨Nat.le_of_ble_eq_true rfl, Nat.le_of_ble_eq_true rfl⟩ dX5_init_23 ?_
  show lt_J X 3 21 (ly_S 164 145) _ 25 [(0, .ref (lt_z X + 160))] [.ref (lt_z X + 163), .ref (lt_z X + 160)]
  refine jr_putR (a := 160) (b := 163) hF hI clX5 (Nat.le_of_ble_eq_true rfl) lyf_X5_19 rfl rfl rfl (fun x => ⟨rfl, rfl⟩) (Nat.le_of_ble_eq_true rfl) rfl lyp_145 rfl dX5_init_25 ?_
  show lt_J X 3 21 (ly_S 164 146) _ 28 [(0, .ref (lt_z X + 160))] []
  refine jr_aload_n hF dX5_init_28 0 rfl rfl ?_
  show lt_J X 3 21 (ly_S 164 146) _ 29 [(0, .ref (lt_z X + 160))] [.ref (lt_z X + 160)]
  refine jr_bipush (v := 7) hF dX5_init_29 rfl ?_
  show lt_J X 3 21 (ly_S 164 146) _ 31 [(0, .ref (lt_z X + 160))] [.int 7, .ref (lt_z X + 160)]
  refine jr_newa_int (len := 7) (n := 7) hF lyq_10 rfl rfl (by decide) (by decide) rfl (hz.up (Nat.le_of_ble_eq_true rfl : 161 ≤ 164)) ⟨Nat.le_of_ble_eq_true rfl, Nat.le_of_ble_eq_true rfl⟩ dX5_init_31 ?_
  show lt_J X 4 28 (ly_S 165 146) _ 33 [(0, .ref (lt_z X + 160))] [.ref (lt_z X + 164), .ref (lt_z X + 160)]
  refine jr_putR (a := 160) (b := 164) hF hI clX5 (Nat.le_of_ble_eq_true rfl) lyf_X5_22 rfl rfl rfl (fun x => ⟨rfl, rfl⟩) (Nat.le_of_ble_eq_true rfl) rfl lyp_146 rfl dX5_init_33 ?_
  show lt_J X 4 28 (ly_S 165 147) _ 36 [(0, .ref (lt_z X + 160))] []
  refine jr_aload_n hF dX5_init_36 0 rfl rfl ?_
  show lt_J X 4 28 (ly_S 165 147) _ 37 [(0, .ref (lt_z X + 160))] [.ref (lt_z X + 160)]
  refine jr_bipush (v := 7) hF dX5_init_37 rfl ?_
  show lt_J X 4 28 (ly_S 165 147) _ 39 [(0, .ref (lt_z X + 160))] [.int 7, .ref (lt_z X + 160)]
  refine jr_newa_int (len := 7) (n := 7) hF lyq_10 rfl rfl (by decide) (by decide) rfl (hz.up (Nat.le_of_ble_eq_true rfl : 161 ≤ 165)) ⟨Nat.le_of_ble_eq_true rfl, Nat.le_of_ble_eq_true rfl⟩ dX5_init_39 ?_
  show lt_J X 5 35 (ly_S 166 147) _ 41 [(0, .ref (lt_z X + 160))] [.ref (lt_z X + 165), .ref (lt_z X + 160)]
  refine jr_putR (a := 160) (b := 165) hF hI clX5 (Nat.le_of_ble_eq_true rfl) lyf_X5_25 rfl rfl rfl (fun x => ⟨rfl, rfl⟩) (Nat.le_of_ble_eq_true rfl) rfl lyp_147 rfl dX5_init_41 ?_
  show lt_J X 5 35 (ly_S 166 148) _ 44 [(0, .ref (lt_z X + 160))] []
  refine jr_aload_n hF dX5_init_44 0 rfl rfl ?_
  show lt_J X 5 35 (ly_S 166 148) _ 45 [(0, .ref (lt_z X + 160))] [.ref (lt_z X + 160)]
  refine jr_bipush (v := 7) hF dX5_init_45 rfl ?_
  show lt_J X 5 35 (ly_S 166 148) _ 47 [(0, .ref (lt_z X + 160))] [.int 7, .ref (lt_z X + 160)]
  refine jr_newa_int (len := 7) (n := 7) hF lyq_10 rfl rfl (by decide) (by decide) rfl (hz.up (Nat.le_of_ble_eq_true rfl : 161 ≤ 166)) ⟨Nat.le_of_ble_eq_true rfl, Nat.le_of_ble_eq_true rfl⟩ dX5_init_47 ?_
  show lt_J X 6 42 (ly_S 167 148) _ 49 [(0, .ref (lt_z X + 160))] [.ref (lt_z X + 166), .ref (lt_z X + 160)]
  refine jr_putR (a := 160) (b := 166) hF hI clX5 (Nat.le_of_ble_eq_true rfl) lyf_X5_28 rfl rfl rfl (fun x => ⟨rfl, rfl⟩) (Nat.le_of_ble_eq_true rfl) rfl lyp_148 rfl dX5_init_49 ?_
  show lt_J X 6 42 (ly_S 167 149) _ 52 [(0, .ref (lt_z X + 160))] []
  refine jr_aload_n hF dX5_init_52 0 rfl rfl ?_
  show lt_J X 6 42 (ly_S 167 149) _ 53 [(0, .ref (lt_z X + 160))] [.ref (lt_z X + 160)]
  refine jr_bipush (v := 7) hF dX5_init_53 rfl ?_
  show lt_J X 6 42 (ly_S 167 149) _ 55 [(0, .ref (lt_z X + 160))] [.int 7, .ref (lt_z X + 160)]
  refine jr_newa_int (len := 7) (n := 7) hF lyq_10 rfl rfl (by decide) (by decide) rfl (hz.up (Nat.le_of_ble_eq_true rfl : 161 ≤ 167)) ⟨Nat.le_of_ble_eq_true rfl, Nat.le_of_ble_eq_true rfl⟩ dX5_init_55 ?_
  show lt_J X 7 49 (ly_S 168 149) _ 57 [(0, .ref (lt_z X + 160))] [.ref (lt_z X + 167), .ref (lt_z X + 160)]
  refine jr_putR (a := 160) (b := 167) hF hI clX5 (Nat.le_of_ble_eq_true rfl) lyf_X5_31 rfl rfl rfl (fun x => ⟨rfl, rfl⟩) (Nat.le_of_ble_eq_true rfl) rfl lyp_149 rfl dX5_init_57 ?_
  show lt_J X 7 49 (ly_S 168 150) _ 60 [(0, .ref (lt_z X + 160))] []
  refine jr_aload_n hF dX5_init_60 0 rfl rfl ?_
  show lt_J X 7 49 (ly_S 168 150) _ 61 [(0, .ref (lt_z X + 160))] [.ref (lt_z X + 160)]
  refine jr_bipush (v := 7) hF dX5_init_61 rfl ?_
  show lt_J X 7 49 (ly_S 168 150) _ 63 [(0, .ref (lt_z X + 160))] [.int 7, .ref (lt_z X + 160)]
  refine jr_newa_int (len := 7) (n := 7) hF lyq_10 rfl rfl (by decide) (by decide) rfl (hz.up (Nat.le_of_ble_eq_true rfl : 161 ≤ 168)) ⟨Nat.le_of_ble_eq_true rfl, Nat.le_of_ble_eq_true rfl⟩ dX5_init_63 ?_
  show lt_J X 8 56 (ly_S 169 150) _ 65 [(0, .ref (lt_z X + 160))] [.ref (lt_z X + 168), .ref (lt_z X + 160)]
  refine jr_putR (a := 160) (b := 168) hF hI clX5 (Nat.le_of_ble_eq_true rfl) lyf_X5_34 rfl rfl rfl (fun x => ⟨rfl, rfl⟩) (Nat.le_of_ble_eq_true rfl) rfl lyp_150 rfl dX5_init_65 ?_
  show lt_J X 8 56 (ly_S 169 151) _ 68 [(0, .ref (lt_z X + 160))] []
  refine jr_aload_n hF dX5_init_68 0 rfl rfl ?_
  show lt_J X 8 56 (ly_S 169 151) _ 69 [(0, .ref (lt_z X + 160))] [.ref (lt_z X + 160)]
  refine jr_callV (As := []) (st := []) hF ml_X5_37 (c_X5_clear (w := _) (r := lyw_5 160 _) (ly_c (Nat.le_of_ble_eq_true rfl)) rfl) (ly_c (Nat.le_of_ble_eq_true rfl)) rfl ⟨Nat.le_of_ble_eq_true rfl, Nat.le_of_ble_eq_true rfl⟩ ⟨Nat.le_of_ble_eq_true rfl, Nat.le_of_ble_eq_true rfl⟩ (Nat.le_of_ble_eq_true rfl) dX5_init_69 ?_
  have hz1 := lyw_5_z (hz.up (Nat.le_of_ble_eq_true rfl : 161 ≤ 169)) (Nat.le_of_ble_eq_true rfl : 160 + 1 ≤ 169)
  show lt_J X 8 56 (ly_S 169 151) _ 72 [(0, .ref (lt_z X + 160))] []
  exact jr_return hF hE dX5_init_72
def wI_X1_150 (w : lt_W) : lt_W := wI_X5_160 (wI_X5_151 (w))
theorem zI_X1_150 {w : lt_W} (hz : ly_z w 151) : ly_z (wI_X1_150 w) 169 := by
  have hz1 := zI_X5_151 (hz.up (Nat.le_of_ble_eq_true rfl : 151 ≤ 152))
  have hz2 := zI_X5_160 (hz1.up (Nat.le_of_ble_eq_true rfl : 160 ≤ 161))
  exact hz2.up (Nat.le_of_ble_eq_true rfl)
set_option maxRecDepth 100000 in
set_option maxHeartbeats 4000000 in
theorem cI_X1_150 {l : Launch} {D : va_G} {gA : Nat → ClassId} {s0 : State} {w : lt_W} (hz : ly_z w 151) : lt_C l D gA s0 yX1_init cX1_init 2 none (lt_rmI 3 18 146) [.ref (s0.heap.size + 150), .ref (s0.heap.size + 12)] (ly_S 151 134) w (ly_S 169 153) none (wI_X1_150 w) := by
  refine lt_enterI rfl rfl (Nat.le_of_ble_eq_true rfl) (fun X e1 e2 e3 e4 hF hI hE => ?_)
  subst e1 e2 e3 e4
  have hF : lt_F X cX1_init RX1 2 (lt_rmI 3 18 146) := hF
  show lt_J X 0 0 (ly_S 151 134) w 0 [(0, .ref (lt_z X + 150)), (1, .ref (lt_z X + 12))] []
  refine jr_aload_n hF dX1_init_0 0 rfl rfl ?_
  show lt_J X 0 0 (ly_S 151 134) _ 1 [(0, .ref (lt_z X + 150)), (1, .ref (lt_z X + 12))] [.ref (lt_z X + 150)]
  refine jr_objI hF lyq_64 lyq_1 lyq_2 ⟨Nat.le_of_ble_eq_true rfl, Nat.le_of_ble_eq_true rfl⟩ dX1_init_1 ?_
  show lt_J X 0 0 (ly_S 151 134) _ 4 [(0, .ref (lt_z X + 150)), (1, .ref (lt_z X + 12))] []
  refine jr_aload_n hF dX1_init_4 0 rfl rfl ?_
  show lt_J X 0 0 (ly_S 151 134) _ 5 [(0, .ref (lt_z X + 150)), (1, .ref (lt_z X + 12))] [.ref (lt_z X + 150)]
  refine jr_new (ci := 5) hF clX5 lyq_65 lyq_28 lyq_29 rfl dvX5 (by decide +kernel) hz ⟨Nat.le_of_ble_eq_true rfl, Nat.le_of_ble_eq_true rfl⟩ dX1_init_5 ?_
  show lt_J X 1 17 (ly_S 152 134) _ 8 [(0, .ref (lt_z X + 150)), (1, .ref (lt_z X + 12))] [.ref (lt_z X + 151), .ref (lt_z X + 150)]
  refine jr_dup hF dX1_init_8 rfl ?_
  show lt_J X 1 17 (ly_S 152 134) _ 9 [(0, .ref (lt_z X + 150)), (1, .ref (lt_z X + 12))] [.ref (lt_z X + 151), .ref (lt_z X + 151), .ref (lt_z X + 150)]
  refine jr_callI (As := []) (st := [.ref (lt_z X + 151), .ref (lt_z X + 150)]) hF mi_X1_11 (cI_X5_151 (hz.up (Nat.le_of_ble_eq_true rfl : 151 ≤ 152))) rfl ⟨Nat.le_of_ble_eq_true rfl, Nat.le_of_ble_eq_true rfl⟩ ⟨Nat.le_of_ble_eq_true rfl, Nat.le_of_ble_eq_true rfl⟩ (Nat.le_of_ble_eq_true rfl) dX1_init_9 ?_
  have hz1 := zI_X5_151 (hz.up (Nat.le_of_ble_eq_true rfl : 151 ≤ 152))
  show lt_J X 9 73 (ly_S 160 142) _ 12 [(0, .ref (lt_z X + 150)), (1, .ref (lt_z X + 12))] [.ref (lt_z X + 151), .ref (lt_z X + 150)]
  refine jr_putR (a := 150) (b := 151) hF hI clX1 (Nat.le_of_ble_eq_true rfl) lyf_X1_12 rfl rfl rfl (fun x => ⟨rfl, rfl⟩) (Nat.le_of_ble_eq_true rfl) rfl lyp_142 rfl dX1_init_12 ?_
  show lt_J X 9 73 (ly_S 160 143) _ 15 [(0, .ref (lt_z X + 150)), (1, .ref (lt_z X + 12))] []
  refine jr_aload_n hF dX1_init_15 0 rfl rfl ?_
  show lt_J X 9 73 (ly_S 160 143) _ 16 [(0, .ref (lt_z X + 150)), (1, .ref (lt_z X + 12))] [.ref (lt_z X + 150)]
  refine jr_new (ci := 5) hF clX5 lyq_65 lyq_28 lyq_29 rfl dvX5 (by decide +kernel) hz1 ⟨Nat.le_of_ble_eq_true rfl, Nat.le_of_ble_eq_true rfl⟩ dX1_init_16 ?_
  show lt_J X 10 90 (ly_S 161 143) _ 19 [(0, .ref (lt_z X + 150)), (1, .ref (lt_z X + 12))] [.ref (lt_z X + 160), .ref (lt_z X + 150)]
  refine jr_dup hF dX1_init_19 rfl ?_
  show lt_J X 10 90 (ly_S 161 143) _ 20 [(0, .ref (lt_z X + 150)), (1, .ref (lt_z X + 12))] [.ref (lt_z X + 160), .ref (lt_z X + 160), .ref (lt_z X + 150)]
  refine jr_callI (As := []) (st := [.ref (lt_z X + 160), .ref (lt_z X + 150)]) hF mi_X1_11 (cI_X5_160 (hz1.up (Nat.le_of_ble_eq_true rfl : 160 ≤ 161))) rfl ⟨Nat.le_of_ble_eq_true rfl, Nat.le_of_ble_eq_true rfl⟩ ⟨Nat.le_of_ble_eq_true rfl, Nat.le_of_ble_eq_true rfl⟩ (Nat.le_of_ble_eq_true rfl) dX1_init_20 ?_
  have hz2 := zI_X5_160 (hz1.up (Nat.le_of_ble_eq_true rfl : 160 ≤ 161))
  show lt_J X 18 146 (ly_S 169 151) _ 23 [(0, .ref (lt_z X + 150)), (1, .ref (lt_z X + 12))] [.ref (lt_z X + 160), .ref (lt_z X + 150)]
  refine jr_putR (a := 150) (b := 160) hF hI clX1 (Nat.le_of_ble_eq_true rfl) lyf_X1_18 rfl rfl rfl (fun x => ⟨rfl, rfl⟩) (Nat.le_of_ble_eq_true rfl) rfl lyp_151 rfl dX1_init_23 ?_
  show lt_J X 18 146 (ly_S 169 152) _ 26 [(0, .ref (lt_z X + 150)), (1, .ref (lt_z X + 12))] []
  refine jr_aload_n hF dX1_init_26 0 rfl rfl ?_
  show lt_J X 18 146 (ly_S 169 152) _ 27 [(0, .ref (lt_z X + 150)), (1, .ref (lt_z X + 12))] [.ref (lt_z X + 150)]
  refine jr_aload_n hF dX1_init_27 1 rfl rfl ?_
  show lt_J X 18 146 (ly_S 169 152) _ 28 [(0, .ref (lt_z X + 150)), (1, .ref (lt_z X + 12))] [.ref (lt_z X + 12), .ref (lt_z X + 150)]
  refine jr_putR (a := 150) (b := 12) hF hI clX1 (Nat.le_of_ble_eq_true rfl) lyf_X1_21 rfl rfl rfl (fun x => ⟨rfl, rfl⟩) (Nat.le_of_ble_eq_true rfl) rfl lyp_152 rfl dX1_init_28 ?_
  show lt_J X 18 146 (ly_S 169 153) _ 31 [(0, .ref (lt_z X + 150)), (1, .ref (lt_z X + 12))] []
  exact jr_return hF hE dX1_init_31
def wI_X5_170 (w : lt_W) : lt_W := lyw_5 170 (w)
theorem zI_X5_170 {w : lt_W} (hz : ly_z w 171) : ly_z (wI_X5_170 w) 179 := by
  have hz1 := lyw_5_z (hz.up (Nat.le_of_ble_eq_true rfl : 171 ≤ 179)) (Nat.le_of_ble_eq_true rfl : 170 + 1 ≤ 179)
  exact hz1.up (Nat.le_of_ble_eq_true rfl)
set_option maxRecDepth 100000 in
set_option maxHeartbeats 4000000 in
theorem cI_X5_170 {l : Launch} {D : va_G} {gA : Nat → ClassId} {s0 : State} {w : lt_W} (hz : ly_z w 171) : lt_C l D gA s0 yX5_init cX5_init 1 none (lt_rmI 2 8 56) [.ref (s0.heap.size + 170)] (ly_S 171 154) w (ly_S 179 162) none (wI_X5_170 w) := by
  refine lt_enterI rfl rfl (Nat.le_of_ble_eq_true rfl) (fun X e1 e2 e3 e4 hF hI hE => ?_)
  subst e1 e2 e3 e4
  have hF : lt_F X cX5_init RX5 1 (lt_rmI 2 8 56) := hF
  show lt_J X 0 0 (ly_S 171 154) w 0 [(0, .ref (lt_z X + 170))] []
  refine jr_aload_n hF dX5_init_0 0 rfl rfl ?_
  show lt_J X 0 0 (ly_S 171 154) _ 1 [(0, .ref (lt_z X + 170))] [.ref (lt_z X + 170)]
  refine jr_objI hF lyq_8 lyq_1 lyq_2 ⟨Nat.le_of_ble_eq_true rfl, Nat.le_of_ble_eq_true rfl⟩ dX5_init_1 ?_
  show lt_J X 0 0 (ly_S 171 154) _ 4 [(0, .ref (lt_z X + 170))] []
  refine jr_aload_n hF dX5_init_4 0 rfl rfl ?_
  show lt_J X 0 0 (ly_S 171 154) _ 5 [(0, .ref (lt_z X + 170))] [.ref (lt_z X + 170)]
  refine jr_bipush (v := 7) hF dX5_init_5 rfl ?_
  show lt_J X 0 0 (ly_S 171 154) _ 7 [(0, .ref (lt_z X + 170))] [.int 7, .ref (lt_z X + 170)]
  refine jr_newa_long (len := 7) (n := 7) hF lyq_3 rfl rfl (by decide) (by decide) rfl hz ⟨Nat.le_of_ble_eq_true rfl, Nat.le_of_ble_eq_true rfl⟩ dX5_init_7 ?_
  show lt_J X 1 7 (ly_S 172 154) _ 9 [(0, .ref (lt_z X + 170))] [.ref (lt_z X + 171), .ref (lt_z X + 170)]
  refine jr_putR (a := 170) (b := 171) hF hI clX5 (Nat.le_of_ble_eq_true rfl) lyf_X5_9 rfl rfl rfl (fun x => ⟨rfl, rfl⟩) (Nat.le_of_ble_eq_true rfl) rfl lyp_154 rfl dX5_init_9 ?_
  show lt_J X 1 7 (ly_S 172 155) _ 12 [(0, .ref (lt_z X + 170))] []
  refine jr_aload_n hF dX5_init_12 0 rfl rfl ?_
  show lt_J X 1 7 (ly_S 172 155) _ 13 [(0, .ref (lt_z X + 170))] [.ref (lt_z X + 170)]
  refine jr_bipush (v := 7) hF dX5_init_13 rfl ?_
  show lt_J X 1 7 (ly_S 172 155) _ 15 [(0, .ref (lt_z X + 170))] [.int 7, .ref (lt_z X + 170)]
  refine jr_newa_int (len := 7) (n := 7) hF lyq_10 rfl rfl (by decide) (by decide) rfl (hz.up (Nat.le_of_ble_eq_true rfl : 171 ≤ 172)) ⟨Nat.le_of_ble_eq_true rfl, Nat.le_of_ble_eq_true rfl⟩ dX5_init_15 ?_
  show lt_J X 2 14 (ly_S 173 155) _ 17 [(0, .ref (lt_z X + 170))] [.ref (lt_z X + 172), .ref (lt_z X + 170)]
  refine jr_putR (a := 170) (b := 172) hF hI clX5 (Nat.le_of_ble_eq_true rfl) lyf_X5_15 rfl rfl rfl (fun x => ⟨rfl, rfl⟩) (Nat.le_of_ble_eq_true rfl) rfl lyp_155 rfl dX5_init_17 ?_
  show lt_J X 2 14 (ly_S 173 156) _ 20 [(0, .ref (lt_z X + 170))] []
  refine jr_aload_n hF dX5_init_20 0 rfl rfl ?_
  show lt_J X 2 14 (ly_S 173 156) _ 21 [(0, .ref (lt_z X + 170))] [.ref (lt_z X + 170)]
  refine jr_bipush (v := 7) hF dX5_init_21 rfl ?_
  show lt_J X 2 14 (ly_S 173 156) _ 23 [(0, .ref (lt_z X + 170))] [.int 7, .ref (lt_z X + 170)]
  refine jr_newa_int (len := 7) (n := 7) hF lyq_10 rfl rfl (by decide) (by decide) rfl (hz.up (Nat.le_of_ble_eq_true rfl : 171 ≤ 173)) ⟨Nat.le_of_ble_eq_true rfl, Nat.le_of_ble_eq_true rfl⟩ dX5_init_23 ?_
  show lt_J X 3 21 (ly_S 174 156) _ 25 [(0, .ref (lt_z X + 170))] [.ref (lt_z X + 173), .ref (lt_z X + 170)]
  refine jr_putR (a := 170) (b := 173) hF hI clX5 (Nat.le_of_ble_eq_true rfl) lyf_X5_19 rfl rfl rfl (fun x => ⟨rfl, rfl⟩) (Nat.le_of_ble_eq_true rfl) rfl lyp_156 rfl dX5_init_25 ?_
  show lt_J X 3 21 (ly_S 174 157) _ 28 [(0, .ref (lt_z X + 170))] []
  refine jr_aload_n hF dX5_init_28 0 rfl rfl ?_
  show lt_J X 3 21 (ly_S 174 157) _ 29 [(0, .ref (lt_z X + 170))] [.ref (lt_z X + 170)]
  refine jr_bipush (v := 7) hF dX5_init_29 rfl ?_
  show lt_J X 3 21 (ly_S 174 157) _ 31 [(0, .ref (lt_z X + 170))] [.int 7, .ref (lt_z X + 170)]
  refine jr_newa_int (len := 7) (n := 7) hF lyq_10 rfl rfl (by decide) (by decide) rfl (hz.up (Nat.le_of_ble_eq_true rfl : 171 ≤ 174)) ⟨Nat.le_of_ble_eq_true rfl, Nat.le_of_ble_eq_true rfl⟩ dX5_init_31 ?_
  show lt_J X 4 28 (ly_S 175 157) _ 33 [(0, .ref (lt_z X + 170))] [.ref (lt_z X + 174), .ref (lt_z X + 170)]
  refine jr_putR (a := 170) (b := 174) hF hI clX5 (Nat.le_of_ble_eq_true rfl) lyf_X5_22 rfl rfl rfl (fun x => ⟨rfl, rfl⟩) (Nat.le_of_ble_eq_true rfl) rfl lyp_157 rfl dX5_init_33 ?_
  show lt_J X 4 28 (ly_S 175 158) _ 36 [(0, .ref (lt_z X + 170))] []
  refine jr_aload_n hF dX5_init_36 0 rfl rfl ?_
  show lt_J X 4 28 (ly_S 175 158) _ 37 [(0, .ref (lt_z X + 170))] [.ref (lt_z X + 170)]
  refine jr_bipush (v := 7) hF dX5_init_37 rfl ?_
  show lt_J X 4 28 (ly_S 175 158) _ 39 [(0, .ref (lt_z X + 170))] [.int 7, .ref (lt_z X + 170)]
  refine jr_newa_int (len := 7) (n := 7) hF lyq_10 rfl rfl (by decide) (by decide) rfl (hz.up (Nat.le_of_ble_eq_true rfl : 171 ≤ 175)) ⟨Nat.le_of_ble_eq_true rfl, Nat.le_of_ble_eq_true rfl⟩ dX5_init_39 ?_
  show lt_J X 5 35 (ly_S 176 158) _ 41 [(0, .ref (lt_z X + 170))] [.ref (lt_z X + 175), .ref (lt_z X + 170)]
  refine jr_putR (a := 170) (b := 175) hF hI clX5 (Nat.le_of_ble_eq_true rfl) lyf_X5_25 rfl rfl rfl (fun x => ⟨rfl, rfl⟩) (Nat.le_of_ble_eq_true rfl) rfl lyp_158 rfl dX5_init_41 ?_
  show lt_J X 5 35 (ly_S 176 159) _ 44 [(0, .ref (lt_z X + 170))] []
  refine jr_aload_n hF dX5_init_44 0 rfl rfl ?_
  show lt_J X 5 35 (ly_S 176 159) _ 45 [(0, .ref (lt_z X + 170))] [.ref (lt_z X + 170)]
  refine jr_bipush (v := 7) hF dX5_init_45 rfl ?_
  show lt_J X 5 35 (ly_S 176 159) _ 47 [(0, .ref (lt_z X + 170))] [.int 7, .ref (lt_z X + 170)]
  refine jr_newa_int (len := 7) (n := 7) hF lyq_10 rfl rfl (by decide) (by decide) rfl (hz.up (Nat.le_of_ble_eq_true rfl : 171 ≤ 176)) ⟨Nat.le_of_ble_eq_true rfl, Nat.le_of_ble_eq_true rfl⟩ dX5_init_47 ?_
  show lt_J X 6 42 (ly_S 177 159) _ 49 [(0, .ref (lt_z X + 170))] [.ref (lt_z X + 176), .ref (lt_z X + 170)]
  refine jr_putR (a := 170) (b := 176) hF hI clX5 (Nat.le_of_ble_eq_true rfl) lyf_X5_28 rfl rfl rfl (fun x => ⟨rfl, rfl⟩) (Nat.le_of_ble_eq_true rfl) rfl lyp_159 rfl dX5_init_49 ?_
  show lt_J X 6 42 (ly_S 177 160) _ 52 [(0, .ref (lt_z X + 170))] []
  refine jr_aload_n hF dX5_init_52 0 rfl rfl ?_
  show lt_J X 6 42 (ly_S 177 160) _ 53 [(0, .ref (lt_z X + 170))] [.ref (lt_z X + 170)]
  refine jr_bipush (v := 7) hF dX5_init_53 rfl ?_
  show lt_J X 6 42 (ly_S 177 160) _ 55 [(0, .ref (lt_z X + 170))] [.int 7, .ref (lt_z X + 170)]
  refine jr_newa_int (len := 7) (n := 7) hF lyq_10 rfl rfl (by decide) (by decide) rfl (hz.up (Nat.le_of_ble_eq_true rfl : 171 ≤ 177)) ⟨Nat.le_of_ble_eq_true rfl, Nat.le_of_ble_eq_true rfl⟩ dX5_init_55 ?_
  show lt_J X 7 49 (ly_S 178 160) _ 57 [(0, .ref (lt_z X + 170))] [.ref (lt_z X + 177), .ref (lt_z X + 170)]
  refine jr_putR (a := 170) (b := 177) hF hI clX5 (Nat.le_of_ble_eq_true rfl) lyf_X5_31 rfl rfl rfl (fun x => ⟨rfl, rfl⟩) (Nat.le_of_ble_eq_true rfl) rfl lyp_160 rfl dX5_init_57 ?_
  show lt_J X 7 49 (ly_S 178 161) _ 60 [(0, .ref (lt_z X + 170))] []
  refine jr_aload_n hF dX5_init_60 0 rfl rfl ?_
  show lt_J X 7 49 (ly_S 178 161) _ 61 [(0, .ref (lt_z X + 170))] [.ref (lt_z X + 170)]
  refine jr_bipush (v := 7) hF dX5_init_61 rfl ?_
  show lt_J X 7 49 (ly_S 178 161) _ 63 [(0, .ref (lt_z X + 170))] [.int 7, .ref (lt_z X + 170)]
  refine jr_newa_int (len := 7) (n := 7) hF lyq_10 rfl rfl (by decide) (by decide) rfl (hz.up (Nat.le_of_ble_eq_true rfl : 171 ≤ 178)) ⟨Nat.le_of_ble_eq_true rfl, Nat.le_of_ble_eq_true rfl⟩ dX5_init_63 ?_
  show lt_J X 8 56 (ly_S 179 161) _ 65 [(0, .ref (lt_z X + 170))] [.ref (lt_z X + 178), .ref (lt_z X + 170)]
  refine jr_putR (a := 170) (b := 178) hF hI clX5 (Nat.le_of_ble_eq_true rfl) lyf_X5_34 rfl rfl rfl (fun x => ⟨rfl, rfl⟩) (Nat.le_of_ble_eq_true rfl) rfl lyp_161 rfl dX5_init_65 ?_
  show lt_J X 8 56 (ly_S 179 162) _ 68 [(0, .ref (lt_z X + 170))] []
  refine jr_aload_n hF dX5_init_68 0 rfl rfl ?_
  show lt_J X 8 56 (ly_S 179 162) _ 69 [(0, .ref (lt_z X + 170))] [.ref (lt_z X + 170)]
  refine jr_callV (As := []) (st := []) hF ml_X5_37 (c_X5_clear (w := _) (r := lyw_5 170 _) (ly_c (Nat.le_of_ble_eq_true rfl)) rfl) (ly_c (Nat.le_of_ble_eq_true rfl)) rfl ⟨Nat.le_of_ble_eq_true rfl, Nat.le_of_ble_eq_true rfl⟩ ⟨Nat.le_of_ble_eq_true rfl, Nat.le_of_ble_eq_true rfl⟩ (Nat.le_of_ble_eq_true rfl) dX5_init_69 ?_
  have hz1 := lyw_5_z (hz.up (Nat.le_of_ble_eq_true rfl : 171 ≤ 179)) (Nat.le_of_ble_eq_true rfl : 170 + 1 ≤ 179)
  show lt_J X 8 56 (ly_S 179 162) _ 72 [(0, .ref (lt_z X + 170))] []
  exact jr_return hF hE dX5_init_72
def wI_X2_169 (w : lt_W) : lt_W := wI_X5_170 (w)
theorem zI_X2_169 {w : lt_W} (hz : ly_z w 170) : ly_z (wI_X2_169 w) 179 := by
  have hz1 := zI_X5_170 (hz.up (Nat.le_of_ble_eq_true rfl : 170 ≤ 171))
  exact hz1.up (Nat.le_of_ble_eq_true rfl)
set_option maxRecDepth 100000 in
set_option maxHeartbeats 4000000 in
theorem cI_X2_169 {l : Launch} {D : va_G} {gA : Nat → ClassId} {s0 : State} {w : lt_W} (hz : ly_z w 170) : lt_C l D gA s0 yX2_init cX2_init 3 none (lt_rmI 3 9 73) [.ref (s0.heap.size + 169), .ref (s0.heap.size + 12), .ref (s0.heap.size + 21)] (ly_S 170 154) w (ly_S 179 165) none (wI_X2_169 w) := by
  refine lt_enterI rfl rfl (Nat.le_of_ble_eq_true rfl) (fun X e1 e2 e3 e4 hF hI hE => ?_)
  subst e1 e2 e3 e4
  have hF : lt_F X cX2_init RX2 3 (lt_rmI 3 9 73) := hF
  show lt_J X 0 0 (ly_S 170 154) w 0 [(0, .ref (lt_z X + 169)), (1, .ref (lt_z X + 12)), (2, .ref (lt_z X + 21))] []
  refine jr_aload_n hF dX2_init_0 0 rfl rfl ?_
  show lt_J X 0 0 (ly_S 170 154) _ 1 [(0, .ref (lt_z X + 169)), (1, .ref (lt_z X + 12)), (2, .ref (lt_z X + 21))] [.ref (lt_z X + 169)]
  refine jr_objI hF lyq_70 lyq_1 lyq_2 ⟨Nat.le_of_ble_eq_true rfl, Nat.le_of_ble_eq_true rfl⟩ dX2_init_1 ?_
  show lt_J X 0 0 (ly_S 170 154) _ 4 [(0, .ref (lt_z X + 169)), (1, .ref (lt_z X + 12)), (2, .ref (lt_z X + 21))] []
  refine jr_aload_n hF dX2_init_4 0 rfl rfl ?_
  show lt_J X 0 0 (ly_S 170 154) _ 5 [(0, .ref (lt_z X + 169)), (1, .ref (lt_z X + 12)), (2, .ref (lt_z X + 21))] [.ref (lt_z X + 169)]
  refine jr_new (ci := 5) hF clX5 lyq_71 lyq_28 lyq_29 rfl dvX5 (by decide +kernel) hz ⟨Nat.le_of_ble_eq_true rfl, Nat.le_of_ble_eq_true rfl⟩ dX2_init_5 ?_
  show lt_J X 1 17 (ly_S 171 154) _ 8 [(0, .ref (lt_z X + 169)), (1, .ref (lt_z X + 12)), (2, .ref (lt_z X + 21))] [.ref (lt_z X + 170), .ref (lt_z X + 169)]
  refine jr_dup hF dX2_init_8 rfl ?_
  show lt_J X 1 17 (ly_S 171 154) _ 9 [(0, .ref (lt_z X + 169)), (1, .ref (lt_z X + 12)), (2, .ref (lt_z X + 21))] [.ref (lt_z X + 170), .ref (lt_z X + 170), .ref (lt_z X + 169)]
  refine jr_callI (As := []) (st := [.ref (lt_z X + 170), .ref (lt_z X + 169)]) hF mi_X2_11 (cI_X5_170 (hz.up (Nat.le_of_ble_eq_true rfl : 170 ≤ 171))) rfl ⟨Nat.le_of_ble_eq_true rfl, Nat.le_of_ble_eq_true rfl⟩ ⟨Nat.le_of_ble_eq_true rfl, Nat.le_of_ble_eq_true rfl⟩ (Nat.le_of_ble_eq_true rfl) dX2_init_9 ?_
  have hz1 := zI_X5_170 (hz.up (Nat.le_of_ble_eq_true rfl : 170 ≤ 171))
  show lt_J X 9 73 (ly_S 179 162) _ 12 [(0, .ref (lt_z X + 169)), (1, .ref (lt_z X + 12)), (2, .ref (lt_z X + 21))] [.ref (lt_z X + 170), .ref (lt_z X + 169)]
  refine jr_putR (a := 169) (b := 170) hF hI clX2 (Nat.le_of_ble_eq_true rfl) lyf_X2_12 rfl rfl rfl (fun x => ⟨rfl, rfl⟩) (Nat.le_of_ble_eq_true rfl) rfl lyp_162 rfl dX2_init_12 ?_
  show lt_J X 9 73 (ly_S 179 163) _ 15 [(0, .ref (lt_z X + 169)), (1, .ref (lt_z X + 12)), (2, .ref (lt_z X + 21))] []
  refine jr_aload_n hF dX2_init_15 0 rfl rfl ?_
  show lt_J X 9 73 (ly_S 179 163) _ 16 [(0, .ref (lt_z X + 169)), (1, .ref (lt_z X + 12)), (2, .ref (lt_z X + 21))] [.ref (lt_z X + 169)]
  refine jr_aload_n hF dX2_init_16 1 rfl rfl ?_
  show lt_J X 9 73 (ly_S 179 163) _ 17 [(0, .ref (lt_z X + 169)), (1, .ref (lt_z X + 12)), (2, .ref (lt_z X + 21))] [.ref (lt_z X + 12), .ref (lt_z X + 169)]
  refine jr_putR (a := 169) (b := 12) hF hI clX2 (Nat.le_of_ble_eq_true rfl) lyf_X2_18 rfl rfl rfl (fun x => ⟨rfl, rfl⟩) (Nat.le_of_ble_eq_true rfl) rfl lyp_163 rfl dX2_init_17 ?_
  show lt_J X 9 73 (ly_S 179 164) _ 20 [(0, .ref (lt_z X + 169)), (1, .ref (lt_z X + 12)), (2, .ref (lt_z X + 21))] []
  refine jr_aload_n hF dX2_init_20 0 rfl rfl ?_
  show lt_J X 9 73 (ly_S 179 164) _ 21 [(0, .ref (lt_z X + 169)), (1, .ref (lt_z X + 12)), (2, .ref (lt_z X + 21))] [.ref (lt_z X + 169)]
  refine jr_aload_n hF dX2_init_21 2 rfl rfl ?_
  show lt_J X 9 73 (ly_S 179 164) _ 22 [(0, .ref (lt_z X + 169)), (1, .ref (lt_z X + 12)), (2, .ref (lt_z X + 21))] [.ref (lt_z X + 21), .ref (lt_z X + 169)]
  refine jr_putR (a := 169) (b := 21) hF hI clX2 (Nat.le_of_ble_eq_true rfl) lyf_X2_21 rfl rfl rfl (fun x => ⟨rfl, rfl⟩) (Nat.le_of_ble_eq_true rfl) rfl lyp_164 rfl dX2_init_22 ?_
  show lt_J X 9 73 (ly_S 179 165) _ 25 [(0, .ref (lt_z X + 169)), (1, .ref (lt_z X + 12)), (2, .ref (lt_z X + 21))] []
  exact jr_return hF hE dX2_init_25
