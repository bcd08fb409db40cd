/-! the class, the reference -/
theorem lyq_76 : Cond.methodLink RX11 1 Lib.objectInit ∈ lt_tb := (lt_m1 26 rfl rfl)
theorem lyq_77 : Cond.classLink RX11 13 RX8 ∈ lt_tb := (lt_m1 29 rfl rfl)
theorem lyq_78 : Cond.arrayOver (.object "LoafTable$Tray") ∈ lw_tbl := (List.mem_of_getElem? (i := 143) (by decide +kernel))
theorem lyf_X11_15 : Cond.fieldLink RX11 15 (TX11 3).1 (TX11 3).2.1 (TX11 3).2.2.1 ∈ lt_tb := (lt_m2 223 rfl rfl)
theorem lyq_80 : Cond.instantiable RX8 4 ∈ lt_tb := (lt_m1 31 rfl rfl)
theorem lyq_81 : Cond.initialized RX8 ∈ lt_tb := (lt_m1 2 rfl rfl)
theorem mi_X11_19 : lt_MIN RX11 19 yX8_init RX11 cX8_init 1 0 := ⟨⟨(List.mem_of_getElem? (i := 145) (by decide +kernel)), (lt_m1 33 rfl rfl), (lt_m1 2 rfl rfl), (lt_m1 34 rfl rfl)⟩, rfl, by decide +kernel, by decide +kernel, by decide +kernel⟩
theorem lyq_83 : Cond.classLink RX11 20 RX7 ∈ lt_tb := (lt_m1 55 rfl rfl)
theorem lyq_84 : Cond.instantiable RX7 11 ∈ lt_tb := (lt_m1 56 rfl rfl)
theorem lyq_85 : Cond.initialized RX7 ∈ lt_tb := (lt_m1 3 rfl rfl)
theorem mi_X11_22 : lt_MIN RX11 22 yX7_init RX11 cX7_init 1 0 := ⟨⟨(List.mem_of_getElem? (i := 170) (by decide +kernel)), (lt_m1 58 rfl rfl), (lt_m1 3 rfl rfl), (lt_m1 59 rfl rfl)⟩, rfl, by decide +kernel, by decide +kernel, by decide +kernel⟩
theorem lyf_X11_23 : Cond.fieldLink RX11 23 (TX11 4).1 (TX11 4).2.1 (TX11 4).2.2.1 ∈ lt_tb := (lt_m2 224 rfl rfl)
theorem lyq_88 : Cond.classLink RX11 27 RX5 ∈ lt_tb := (lt_m1 104 rfl rfl)
theorem mi_X11_29 : lt_MI RX11 29 yX5_init cX5_init 1 0 := ⟨⟨(lt_m1 106 rfl rfl), (lt_m1 107 rfl rfl), (lt_m1 4 rfl rfl), (lt_m1 108 rfl rfl)⟩, rfl, by decide +kernel, by decide +kernel, by decide +kernel⟩
theorem lyf_X11_30 : Cond.fieldLink RX11 30 (TX11 5).1 (TX11 5).2.1 (TX11 5).2.2.1 ∈ lt_tb := (lt_m2 225 rfl rfl)
theorem lyq_91 : Cond.classLink RX11 34 RX9 ∈ lt_tb := (lt_m1 210 rfl rfl)
theorem mi_X11_36 : lt_MIN RX11 36 yX9_init RX11 cX9_init 1 0 := ⟨⟨(List.mem_of_getElem? (i := 325) (by decide +kernel)), (lt_m1 213 rfl rfl), (lt_m1 5 rfl rfl), (lt_m1 214 rfl rfl)⟩, rfl, by decide +kernel, by decide +kernel, by decide +kernel⟩
theorem lyf_X11_37 : Cond.fieldLink RX11 37 (TX11 6).1 (TX11 6).2.1 (TX11 6).2.2.1 ∈ lt_tb := (lt_m2 226 rfl rfl)
theorem lyq_94 : Cond.classLink RX11 41 RX6 ∈ lt_tb := (lt_m2 23 rfl rfl)
theorem lyq_95 : Cond.instantiable RX6 3 ∈ lt_tb := (lt_m2 24 rfl rfl)
theorem lyq_96 : Cond.initialized RX6 ∈ lt_tb := (lt_m1 6 rfl rfl)
theorem mi_X11_43 : lt_MI RX11 43 yX6_init cX6_init 2 1 := ⟨⟨(lt_m2 25 rfl rfl), (lt_m2 26 rfl rfl), (lt_m1 6 rfl rfl), (lt_m2 27 rfl rfl)⟩, rfl, by decide +kernel, by decide +kernel, by decide +kernel⟩
theorem lyf_X11_46 : Cond.fieldLink RX11 46 (TX11 7).1 (TX11 7).2.1 (TX11 7).2.2.1 ∈ lt_tb := (lt_m2 227 rfl rfl)
theorem lyq_99 : Cond.classLink RX11 50 RX10 ∈ lt_tb := (lt_m2 42 rfl rfl)
theorem lyq_100 : Cond.instantiable RX10 5 ∈ lt_tb := (lt_m2 43 rfl rfl)
theorem lyq_101 : Cond.initialized RX10 ∈ lt_tb := (lt_m1 7 rfl rfl)
theorem mi_X11_52 : lt_MI RX11 52 yX10_init cX10_init 3 2 := ⟨⟨(lt_m2 44 rfl rfl), (lt_m2 45 rfl rfl), (lt_m1 7 rfl rfl), (lt_m2 46 rfl rfl)⟩, rfl, by decide +kernel, by decide +kernel, by decide +kernel⟩
theorem lyf_X11_55 : Cond.fieldLink RX11 55 (TX11 8).1 (TX11 8).2.1 (TX11 8).2.2.1 ∈ lt_tb := (lt_m2 228 rfl rfl)
theorem lyq_104 : Cond.classLink RX11 59 RX0 ∈ lt_tb := (lt_m2 67 rfl rfl)
theorem lyq_105 : Cond.instantiable RX0 4 ∈ lt_tb := (lt_m2 68 rfl rfl)
theorem lyq_106 : Cond.initialized RX0 ∈ lt_tb := (lt_m1 8 rfl rfl)
theorem mi_X11_61 : lt_MI RX11 61 yX0_init cX0_init 2 1 := ⟨⟨(lt_m2 69 rfl rfl), (lt_m2 70 rfl rfl), (lt_m1 8 rfl rfl), (lt_m2 71 rfl rfl)⟩, rfl, by decide +kernel, by decide +kernel, by decide +kernel⟩
theorem lyf_X11_64 : Cond.fieldLink RX11 64 (TX11 9).1 (TX11 9).2.1 (TX11 9).2.2.1 ∈ lt_tb := (lt_m2 229 rfl rfl)
theorem lyq_109 : Cond.classLink RX11 68 RX3 ∈ lt_tb := (lt_m2 90 rfl rfl)
theorem lyq_110 : Cond.instantiable RX3 5 ∈ lt_tb := (lt_m2 91 rfl rfl)
theorem lyq_111 : Cond.initialized RX3 ∈ lt_tb := (lt_m1 9 rfl rfl)
theorem mi_X11_70 : lt_MI RX11 70 yX3_init cX3_init 3 1 := ⟨⟨(lt_m2 92 rfl rfl), (lt_m2 93 rfl rfl), (lt_m1 9 rfl rfl), (lt_m2 94 rfl rfl)⟩, rfl, by decide +kernel, by decide +kernel, by decide +kernel⟩
theorem lyf_X11_71 : Cond.fieldLink RX11 71 (TX11 10).1 (TX11 10).2.1 (TX11 10).2.2.1 ∈ lt_tb := (lt_m2 230 rfl rfl)
theorem lyq_114 : Cond.classLink RX11 75 RX4 ∈ lt_tb := (lt_m2 116 rfl rfl)
theorem lyq_115 : Cond.instantiable RX4 7 ∈ lt_tb := (lt_m2 117 rfl rfl)
theorem lyq_116 : Cond.initialized RX4 ∈ lt_tb := (lt_m1 10 rfl rfl)
theorem mi_X11_77 : lt_MI RX11 77 yX4_init cX4_init 2 1 := ⟨⟨(lt_m2 118 rfl rfl), (lt_m2 119 rfl rfl), (lt_m1 10 rfl rfl), (lt_m2 120 rfl rfl)⟩, rfl, by decide +kernel, by decide +kernel, by decide +kernel⟩
theorem lyf_X11_78 : Cond.fieldLink RX11 78 (TX11 11).1 (TX11 11).2.1 (TX11 11).2.2.1 ∈ lt_tb := (lt_m2 231 rfl rfl)
theorem lyq_119 : Cond.classLink RX11 82 RX1 ∈ lt_tb := (lt_m2 151 rfl rfl)
theorem lyq_120 : Cond.instantiable RX1 7 ∈ lt_tb := (lt_m2 152 rfl rfl)
theorem lyq_121 : Cond.initialized RX1 ∈ lt_tb := (lt_m1 11 rfl rfl)
theorem mi_X11_84 : lt_MI RX11 84 yX1_init cX1_init 2 1 := ⟨⟨(lt_m2 153 rfl rfl), (lt_m2 154 rfl rfl), (lt_m1 11 rfl rfl), (lt_m2 155 rfl rfl)⟩, rfl, by decide +kernel, by decide +kernel, by decide +kernel⟩
theorem lyf_X11_85 : Cond.fieldLink RX11 85 (TX11 12).1 (TX11 12).2.1 (TX11 12).2.2.1 ∈ lt_tb := (lt_m2 232 rfl rfl)
theorem lyq_124 : Cond.classLink RX11 89 RX2 ∈ lt_tb := (lt_m2 182 rfl rfl)
theorem lyq_125 : Cond.instantiable RX2 8 ∈ lt_tb := (lt_m2 183 rfl rfl)
theorem lyq_126 : Cond.initialized RX2 ∈ lt_tb := (lt_m1 12 rfl rfl)
theorem mi_X11_91 : lt_MI RX11 91 yX2_init cX2_init 3 2 := ⟨⟨(lt_m2 184 rfl rfl), (lt_m2 185 rfl rfl), (lt_m1 12 rfl rfl), (lt_m2 186 rfl rfl)⟩, rfl, by decide +kernel, by decide +kernel, by decide +kernel⟩
theorem lyf_X11_94 : Cond.fieldLink RX11 94 (TX11 13).1 (TX11 13).2.1 (TX11 13).2.2.1 ∈ lt_tb := (lt_m2 233 rfl rfl)
theorem lyf_X11_98 : Cond.fieldLink RX11 98 (TX11 14).1 (TX11 14).2.1 (TX11 14).2.2.1 ∈ lt_tb := (lt_m2 234 rfl rfl)
theorem lyf_X11_102 : Cond.fieldLink RX11 102 (TX11 16).1 (TX11 16).2.1 (TX11 16).2.2.1 ∈ lt_tb := (lt_m2 236 rfl rfl)
theorem lyq_131 : Cond.arrayOver (.object "LoafTable$Weeks") ∈ lw_tbl := (List.mem_of_getElem? (i := 572) (by decide +kernel))
theorem lyf_X11_106 : Cond.fieldLink RX11 106 (TX11 17).1 (TX11 17).2.1 (TX11 17).2.2.1 ∈ lt_tb := (lt_m2 237 rfl rfl)
theorem lyq_133 : Cond.methodLink RX12 1 Lib.objectInit ∈ lt_tb := (lt_m5 236 rfl rfl)
theorem lyf_X12_7 : Cond.fieldLink RX12 7 (TX12 0).1 (TX12 0).2.1 (TX12 0).2.2.1 ∈ lt_tb := (lt_m6 1 rfl rfl)
theorem lyf_X12_13 : Cond.fieldLink RX12 13 (TX12 1).1 (TX12 1).2.1 (TX12 1).2.2.1 ∈ lt_tb := (lt_m6 2 rfl rfl)
theorem lyf_X12_21 : Cond.fieldLink RX12 21 (TX12 5).1 (TX12 5).2.1 (TX12 5).2.2.1 ∈ lt_tb := (lt_m6 6 rfl rfl)
theorem lyf_X12_24 : Cond.fieldLink RX12 24 (TX12 6).1 (TX12 6).2.1 (TX12 6).2.2.1 ∈ lt_tb := (lt_m6 7 rfl rfl)
theorem lyf_X12_27 : Cond.fieldLink RX12 27 (TX12 7).1 (TX12 7).2.1 (TX12 7).2.2.1 ∈ lt_tb := (lt_m6 8 rfl rfl)
theorem lyf_X12_30 : Cond.fieldLink RX12 30 (TX12 8).1 (TX12 8).2.1 (TX12 8).2.2.1 ∈ lt_tb := (lt_m6 9 rfl rfl)
theorem lyf_X12_34 : Cond.fieldLink RX12 34 (TX12 9).1 (TX12 9).2.1 (TX12 9).2.2.1 ∈ lt_tb := (lt_m6 10 rfl rfl)
theorem lyf_X12_44 : Cond.fieldLink RX12 44 (TX12 21).1 (TX12 21).2.1 (TX12 21).2.2.1 ∈ lt_tb := (lt_m6 22 rfl rfl)
theorem lyf_X12_47 : Cond.fieldLink RX12 47 (TX12 24).1 (TX12 24).2.1 (TX12 24).2.2.1 ∈ lt_tb := (lt_m6 25 rfl rfl)
theorem lyf_X12_50 : Cond.fieldLink RX12 50 (TX12 25).1 (TX12 25).2.1 (TX12 25).2.2.1 ∈ lt_tb := (lt_m6 26 rfl rfl)
theorem lyf_X12_53 : Cond.fieldLink RX12 53 (TX12 26).1 (TX12 26).2.1 (TX12 26).2.2.1 ∈ lt_tb := (lt_m6 27 rfl rfl)
theorem lyf_X12_56 : Cond.fieldLink RX12 56 (TX12 27).1 (TX12 27).2.1 (TX12 27).2.2.1 ∈ lt_tb := (lt_m6 28 rfl rfl)
theorem lyf_X12_59 : Cond.fieldLink RX12 59 (TX12 28).1 (TX12 28).2.1 (TX12 28).2.2.1 ∈ lt_tb := (lt_m6 29 rfl rfl)
theorem lyq_147 : Cond.arrayClass FieldType.boolean ∈ lt_tb := (lt_m6 125 rfl rfl)
theorem lyf_X12_62 : Cond.fieldLink RX12 62 (TX12 29).1 (TX12 29).2.1 (TX12 29).2.2.1 ∈ lt_tb := (lt_m6 30 rfl rfl)
theorem lyf_X12_66 : Cond.fieldLink RX12 66 (TX12 30).1 (TX12 30).2.1 (TX12 30).2.2.1 ∈ lt_tb := (lt_m6 31 rfl rfl)
theorem lyf_X12_69 : Cond.fieldLink RX12 69 (TX12 31).1 (TX12 31).2.1 (TX12 31).2.2.1 ∈ lt_tb := (lt_m6 32 rfl rfl)
theorem lyf_X12_72 : Cond.fieldLink RX12 72 (TX12 32).1 (TX12 32).2.1 (TX12 32).2.2.1 ∈ lt_tb := (lt_m6 33 rfl rfl)
theorem lyf_X12_75 : Cond.fieldLink RX12 75 (TX12 33).1 (TX12 33).2.1 (TX12 33).2.2.1 ∈ lt_tb := (lt_m6 34 rfl rfl)
theorem lyf_X12_78 : Cond.fieldLink RX12 78 (TX12 36).1 (TX12 36).2.1 (TX12 36).2.2.1 ∈ lt_tb := (lt_m6 37 rfl rfl)
theorem lyf_X12_81 : Cond.fieldLink RX12 81 (TX12 37).1 (TX12 37).2.1 (TX12 37).2.2.1 ∈ lt_tb := (lt_m6 38 rfl rfl)
theorem lyf_X12_84 : Cond.fieldLink RX12 84 (TX12 38).1 (TX12 38).2.1 (TX12 38).2.2.1 ∈ lt_tb := (lt_m6 39 rfl rfl)
set_option maxRecDepth 100000 in
set_option maxHeartbeats 4000000 in
theorem cI_X8_4 {l : Launch} {D : va_G} {gA : Nat → ClassId} {s0 : State} {w : lt_W} (hz : ly_z w 5) : lt_C l D gA s0 yX8_init cX8_init 1 none (lt_rmI 1 1 60) [.ref (s0.heap.size + 4)] (ly_S 5 3) w (ly_S 6 4) none w := by
  refine lt_enterI rfl rfl (Nat.le_of_ble_eq_true rfl) (fun X e1 e2 e3 e4 hF hI hE => ?_)
  subst e1 e2 e3 e4
  have hF : lt_F X cX8_init RX8 1 (lt_rmI 1 1 60) := hF
  show lt_J X 0 0 (ly_S 5 3) w 0 [(0, .ref (lt_z X + 4))] []
  refine jr_aload_n hF dX8_init_0 0 rfl rfl ?_
  show lt_J X 0 0 (ly_S 5 3) _ 1 [(0, .ref (lt_z X + 4))] [.ref (lt_z X + 4)]
  refine jr_objI hF lyq_0 lyq_1 lyq_2 ⟨Nat.le_of_ble_eq_true rfl, Nat.le_of_ble_eq_true rfl⟩ dX8_init_1 ?_
  show lt_J X 0 0 (ly_S 5 3) _ 4 [(0, .ref (lt_z X + 4))] []
  refine jr_aload_n hF dX8_init_4 0 rfl rfl ?_
  show lt_J X 0 0 (ly_S 5 3) _ 5 [(0, .ref (lt_z X + 4))] [.ref (lt_z X + 4)]
  refine jr_bipush (v := 60) hF dX8_init_5 rfl ?_
  show lt_J X 0 0 (ly_S 5 3) _ 7 [(0, .ref (lt_z X + 4))] [.int 60, .ref (lt_z X + 4)]
  refine jr_newa_long (len := 60) (n := 60) hF lyq_3 rfl rfl (by decide) (by decide) rfl hz ⟨Nat.le_of_ble_eq_true rfl, Nat.le_of_ble_eq_true rfl⟩ dX8_init_7 ?_
  show lt_J X 1 60 (ly_S 6 3) _ 9 [(0, .ref (lt_z X + 4))] [.ref (lt_z X + 5), .ref (lt_z X + 4)]
  refine jr_putR (a := 4) (b := 5) hF hI clX8 (Nat.le_of_ble_eq_true rfl) lyf_X8_9 rfl rfl rfl (fun x => ⟨rfl, rfl⟩) (Nat.le_of_ble_eq_true rfl) rfl lyp_3 rfl dX8_init_9 ?_
  show lt_J X 1 60 (ly_S 6 4) _ 12 [(0, .ref (lt_z X + 4))] []
  exact jr_return hF hE dX8_init_12
set_option maxRecDepth 100000 in
set_option maxHeartbeats 4000000 in
theorem cI_X8_6 {l : Launch} {D : va_G} {gA : Nat → ClassId} {s0 : State} {w : lt_W} (hz : ly_z w 7) : lt_C l D gA s0 yX8_init cX8_init 1 none (lt_rmI 1 1 60) [.ref (s0.heap.size + 6)] (ly_S 7 5) w (ly_S 8 6) none w := by
  refine lt_enterI rfl rfl (Nat.le_of_ble_eq_true rfl) (fun X e1 e2 e3 e4 hF hI hE => ?_)
  subst e1 e2 e3 e4
  have hF : lt_F X cX8_init RX8 1 (lt_rmI 1 1 60) := hF
  show lt_J X 0 0 (ly_S 7 5) w 0 [(0, .ref (lt_z X + 6))] []
  refine jr_aload_n hF dX8_init_0 0 rfl rfl ?_
  show lt_J X 0 0 (ly_S 7 5) _ 1 [(0, .ref (lt_z X + 6))] [.ref (lt_z X + 6)]
  refine jr_objI hF lyq_0 lyq_1 lyq_2 ⟨Nat.le_of_ble_eq_true rfl, Nat.le_of_ble_eq_true rfl⟩ dX8_init_1 ?_
  show lt_J X 0 0 (ly_S 7 5) _ 4 [(0, .ref (lt_z X + 6))] []
  refine jr_aload_n hF dX8_init_4 0 rfl rfl ?_
  show lt_J X 0 0 (ly_S 7 5) _ 5 [(0, .ref (lt_z X + 6))] [.ref (lt_z X + 6)]
  refine jr_bipush (v := 60) hF dX8_init_5 rfl ?_
  show lt_J X 0 0 (ly_S 7 5) _ 7 [(0, .ref (lt_z X + 6))] [.int 60, .ref (lt_z X + 6)]
  refine jr_newa_long (len := 60) (n := 60) hF lyq_3 rfl rfl (by decide) (by decide) rfl hz ⟨Nat.le_of_ble_eq_true rfl, Nat.le_of_ble_eq_true rfl⟩ dX8_init_7 ?_
  show lt_J X 1 60 (ly_S 8 5) _ 9 [(0, .ref (lt_z X + 6))] [.ref (lt_z X + 7), .ref (lt_z X + 6)]
  refine jr_putR (a := 6) (b := 7) hF hI clX8 (Nat.le_of_ble_eq_true rfl) lyf_X8_9 rfl rfl rfl (fun x => ⟨rfl, rfl⟩) (Nat.le_of_ble_eq_true rfl) rfl lyp_5 rfl dX8_init_9 ?_
  show lt_J X 1 60 (ly_S 8 6) _ 12 [(0, .ref (lt_z X + 6))] []
  exact jr_return hF hE dX8_init_12
set_option maxRecDepth 100000 in
set_option maxHeartbeats 4000000 in
theorem cI_X8_8 {l : Launch} {D : va_G} {gA : Nat → ClassId} {s0 : State} {w : lt_W} (hz : ly_z w 9) : lt_C l D gA s0 yX8_init cX8_init 1 none (lt_rmI 1 1 60) [.ref (s0.heap.size + 8)] (ly_S 9 7) w (ly_S 10 8) none w := by
  refine lt_enterI rfl rfl (Nat.le_of_ble_eq_true rfl) (fun X e1 e2 e3 e4 hF hI hE => ?_)
  subst e1 e2 e3 e4
  have hF : lt_F X cX8_init RX8 1 (lt_rmI 1 1 60) := hF
  show lt_J X 0 0 (ly_S 9 7) w 0 [(0, .ref (lt_z X + 8))] []
  refine jr_aload_n hF dX8_init_0 0 rfl rfl ?_
  show lt_J X 0 0 (ly_S 9 7) _ 1 [(0, .ref (lt_z X + 8))] [.ref (lt_z X + 8)]
  refine jr_objI hF lyq_0 lyq_1 lyq_2 ⟨Nat.le_of_ble_eq_true rfl, Nat.le_of_ble_eq_true rfl⟩ dX8_init_1 ?_
  show lt_J X 0 0 (ly_S 9 7) _ 4 [(0, .ref (lt_z X + 8))] []
  refine jr_aload_n hF dX8_init_4 0 rfl rfl ?_
  show lt_J X 0 0 (ly_S 9 7) _ 5 [(0, .ref (lt_z X + 8))] [.ref (lt_z X + 8)]
  refine jr_bipush (v := 60) hF dX8_init_5 rfl ?_
  show lt_J X 0 0 (ly_S 9 7) _ 7 [(0, .ref (lt_z X + 8))] [.int 60, .ref (lt_z X + 8)]
  refine jr_newa_long (len := 60) (n := 60) hF lyq_3 rfl rfl (by decide) (by decide) rfl hz ⟨Nat.le_of_ble_eq_true rfl, Nat.le_of_ble_eq_true rfl⟩ dX8_init_7 ?_
  show lt_J X 1 60 (ly_S 10 7) _ 9 [(0, .ref (lt_z X + 8))] [.ref (lt_z X + 9), .ref (lt_z X + 8)]
  refine jr_putR (a := 8) (b := 9) hF hI clX8 (Nat.le_of_ble_eq_true rfl) lyf_X8_9 rfl rfl rfl (fun x => ⟨rfl, rfl⟩) (Nat.le_of_ble_eq_true rfl) rfl lyp_7 rfl dX8_init_9 ?_
  show lt_J X 1 60 (ly_S 10 8) _ 12 [(0, .ref (lt_z X + 8))] []
  exact jr_return hF hE dX8_init_12
def wI_X5_182 (w : lt_W) : lt_W := lyw_5 182 (w)
theorem zI_X5_182 {w : lt_W} (hz : ly_z w 183) : ly_z (wI_X5_182 w) 191 := by
  have hz1 := lyw_5_z (hz.up (Nat.le_of_ble_eq_true rfl : 183 ≤ 191)) (Nat.le_of_ble_eq_true rfl : 182 + 1 ≤ 191)
  exact hz1.up (Nat.le_of_ble_eq_true rfl)
set_option maxRecDepth 100000 in
set_option maxHeartbeats 4000000 in
theorem cI_X5_182 {l : Launch} {D : va_G} {gA : Nat → ClassId} {s0 : State} {w : lt_W} (hz : ly_z w 183) : lt_C l D gA s0 yX5_init cX5_init 1 none (lt_rmI 2 8 56) [.ref (s0.heap.size + 182)] (ly_S 183 169) w (ly_S 191 177) none (wI_X5_182 w) := by
  refine lt_enterI rfl rfl (Nat.le_of_ble_eq_true rfl) (fun X e1 e2 e3 e4 hF hI hE => ?_)
  subst e1 e2 e3 e4
  have hF : lt_F X cX5_init RX5 1 (lt_rmI 2 8 56) := hF
  show lt_J X 0 0 (ly_S 183 169) w 0 [(0, .ref (lt_z X + 182))] []
  refine jr_aload_n hF dX5_init_0 0 rfl rfl ?_
  show lt_J X 0 0 (ly_S 183 169) _ 1 [(0, .ref (lt_z X + 182))] [.ref (lt_z X + 182)]
  refine jr_objI hF lyq_8 lyq_1 lyq_2 ⟨Nat.le_of_ble_eq_true rfl, Nat.le_of_ble_eq_true rfl⟩ dX5_init_1 ?_
  show lt_J X 0 0 (ly_S 183 169) _ 4 [(0, .ref (lt_z X + 182))] []
  refine jr_aload_n hF dX5_init_4 0 rfl rfl ?_
  show lt_J X 0 0 (ly_S 183 169) _ 5 [(0, .ref (lt_z X + 182))] [.ref (lt_z X + 182)]
  refine jr_bipush (v := 7) hF dX5_init_5 rfl ?_
  show lt_J X 0 0 (ly_S 183 169) _ 7 [(0, .ref (lt_z X + 182))] [.int 7, .ref (lt_z X + 182)]
  refine jr_newa_long (len := 7) (n := 7) hF lyq_3 rfl rfl (by decide) (by decide) rfl hz ⟨Nat.le_of_ble_eq_true rfl, Nat.le_of_ble_eq_true rfl⟩ dX5_init_7 ?_
  show lt_J X 1 7 (ly_S 184 169) _ 9 [(0, .ref (lt_z X + 182))] [.ref (lt_z X + 183), .ref (lt_z X + 182)]
  refine jr_putR (a := 182) (b := 183) hF hI clX5 (Nat.le_of_ble_eq_true rfl) lyf_X5_9 rfl rfl rfl (fun x => ⟨rfl, rfl⟩) (Nat.le_of_ble_eq_true rfl) rfl lyp_169 rfl dX5_init_9 ?_
  show lt_J X 1 7 (ly_S 184 170) _ 12 [(0, .ref (lt_z X + 182))] []
  refine jr_aload_n hF dX5_init_12 0 rfl rfl ?_
  show lt_J X 1 7 (ly_S 184 170) _ 13 [(0, .ref (lt_z X + 182))] [.ref (lt_z X + 182)]
  refine jr_bipush (v := 7) hF dX5_init_13 rfl ?_
  show lt_J X 1 7 (ly_S 184 170) _ 15 [(0, .ref (lt_z X + 182))] [.int 7, .ref (lt_z X + 182)]
  refine jr_newa_int (len := 7) (n := 7) hF lyq_10 rfl rfl (by decide) (by decide) rfl (hz.up (Nat.le_of_ble_eq_true rfl : 183 ≤ 184)) ⟨Nat.le_of_ble_eq_true rfl, Nat.le_of_ble_eq_true rfl⟩ dX5_init_15 ?_
  show lt_J X 2 14 (ly_S 185 170) _ 17 [(0, .ref (lt_z X + 182))] [.ref (lt_z X + 184), .ref (lt_z X + 182)]
  refine jr_putR (a := 182) (b := 184) hF hI clX5 (Nat.le_of_ble_eq_true rfl) lyf_X5_15 rfl rfl rfl (fun x => ⟨rfl, rfl⟩) (Nat.le_of_ble_eq_true rfl) rfl lyp_170 rfl dX5_init_17 ?_
  show lt_J X 2 14 (ly_S 185 171) _ 20 [(0, .ref (lt_z X + 182))] []
  refine jr_aload_n hF dX5_init_20 0 rfl rfl ?_
  show lt_J X 2 14 (ly_S 185 171) _ 21 [(0, .ref (lt_z X + 182))] [.ref (lt_z X + 182)]
  refine jr_bipush (v := 7) hF dX5_init_21 rfl ?_
  show lt_J X 2 14 (ly_S 185 171) _ 23 [(0, .ref (lt_z X + 182))] [.int 7, .ref (lt_z X + 182)]
  refine jr_newa_int (len := 7) (n := 7) hF lyq_10 rfl rfl (by decide) (by decide) rfl (hz.up (Nat.le_of_ble_eq_true rfl : 183 ≤ 185)) ⟨Nat.le_of_ble_eq_true rfl, Nat.le_of_ble_eq_true rfl⟩ dX5_init_23 ?_
  show lt_J X 3 21 (ly_S 186 171) _ 25 [(0, .ref (lt_z X + 182))] [.ref (lt_z X + 185), .ref (lt_z X + 182)]
  refine jr_putR (a := 182) (b := 185) hF hI clX5 (Nat.le_of_ble_eq_true rfl) lyf_X5_19 rfl rfl rfl (fun x => ⟨rfl, rfl⟩) (Nat.le_of_ble_eq_true rfl) rfl lyp_171 rfl dX5_init_25 ?_
  show lt_J X 3 21 (ly_S 186 172) _ 28 [(0, .ref (lt_z X + 182))] []
  refine jr_aload_n hF dX5_init_28 0 rfl rfl ?_
  show lt_J X 3 21 (ly_S 186 172) _ 29 [(0, .ref (lt_z X + 182))] [.ref (lt_z X + 182)]
  refine jr_bipush (v := 7) hF dX5_init_29 rfl ?_
  show lt_J X 3 21 (ly_S 186 172) _ 31 [(0, .ref (lt_z X + 182))] [.int 7, .ref (lt_z X + 182)]
  refine jr_newa_int (len := 7) (n := 7) hF lyq_10 rfl rfl (by decide) (by decide) rfl (hz.up (Nat.le_of_ble_eq_true rfl : 183 ≤ 186)) ⟨Nat.le_of_ble_eq_true rfl, Nat.le_of_ble_eq_true rfl⟩ dX5_init_31 ?_
  show lt_J X 4 28 (ly_S 187 172) _ 33 [(0, .ref (lt_z X + 182))] [.ref (lt_z X + 186), .ref (lt_z X + 182)]
  refine jr_putR (a := 182) (b := 186) hF hI clX5 (Nat.le_of_ble_eq_true rfl) lyf_X5_22 rfl rfl rfl (fun x => ⟨rfl, rfl⟩) (Nat.le_of_ble_eq_true rfl) rfl lyp_172 rfl dX5_init_33 ?_
  show lt_J X 4 28 (ly_S 187 173) _ 36 [(0, .ref (lt_z X + 182))] []
  refine jr_aload_n hF dX5_init_36 0 rfl rfl ?_
  show lt_J X 4 28 (ly_S 187 173) _ 37 [(0, .ref (lt_z X + 182))] [.ref (lt_z X + 182)]
  refine jr_bipush (v := 7) hF dX5_init_37 rfl ?_
  show lt_J X 4 28 (ly_S 187 173) _ 39 [(0, .ref (lt_z X + 182))] [.int 7, .ref (lt_z X + 182)]
  refine jr_newa_int (len := 7) (n := 7) hF lyq_10 rfl rfl (by decide) (by decide) rfl (hz.up (Nat.le_of_ble_eq_true rfl : 183 ≤ 187)) ⟨Nat.le_of_ble_eq_true rfl, Nat.le_of_ble_eq_true rfl⟩ dX5_init_39 ?_
  show lt_J X 5 35 (ly_S 188 173) _ 41 [(0, .ref (lt_z X + 182))] [.ref (lt_z X + 187), .ref (lt_z X + 182)]
  refine jr_putR (a := 182) (b := 187) hF hI clX5 (Nat.le_of_ble_eq_true rfl) lyf_X5_25 rfl rfl rfl (fun x => ⟨rfl, rfl⟩) (Nat.le_of_ble_eq_true rfl) rfl lyp_173 rfl dX5_init_41 ?_
  show lt_J X 5 35 (ly_S 188 174) _ 44 [(0, .ref (lt_z X + 182))] []
  refine jr_aload_n hF dX5_init_44 0 rfl rfl ?_
  show lt_J X 5 35 (ly_S 188 174) _ 45 [(0, .ref (lt_z X + 182))] [.ref (lt_z X + 182)]
  refine jr_bipush (v := 7) hF dX5_init_45 rfl ?_
  show lt_J X 5 35 (ly_S 188 174) _ 47 [(0, .ref (lt_z X + 182))] [.int 7, .ref (lt_z X + 182)]
  refine jr_newa_int (len := 7) (n := 7) hF lyq_10 rfl rfl (by decide) (by decide) rfl (hz.up (Nat.le_of_ble_eq_true rfl : 183 ≤ 188)) ⟨Nat.le_of_ble_eq_true rfl, Nat.le_of_ble_eq_true rfl⟩ dX5_init_47 ?_
  show lt_J X 6 42 (ly_S 189 174) _ 49 [(0, .ref (lt_z X + 182))] [.ref (lt_z X + 188), .ref (lt_z X + 182)]
  refine jr_putR (a := 182) (b := 188) hF hI clX5 (Nat.le_of_ble_eq_true rfl) lyf_X5_28 rfl rfl rfl (fun x => ⟨rfl, rfl⟩) (Nat.le_of_ble_eq_true rfl) rfl lyp_174 rfl dX5_init_49 ?_
  show lt_J X 6 42 (ly_S 189 175) _ 52 [(0, .ref (lt_z X + 182))] []
  refine jr_aload_n hF dX5_init_52 0 rfl rfl ?_
  show lt_J X 6 42 (ly_S 189 175) _ 53 [(0, .ref (lt_z X + 182))] [.ref (lt_z X + 182)]
  refine jr_bipush (v := 7) hF dX5_init_53 rfl ?_
  show lt_J X 6 42 (ly_S 189 175) _ 55 [(0, .ref (lt_z X + 182))] [.int 7, .ref (lt_z X + 182)]
  refine jr_newa_int (len := 7) (n := 7) hF lyq_10 rfl rfl (by decide) (by decide) rfl (hz.up (Nat.le_of_ble_eq_true rfl : 183 ≤ 189)) ⟨Nat.le_of_ble_eq_true rfl, Nat.le_of_ble_eq_true rfl⟩ dX5_init_55 ?_
  show lt_J X 7 49 (ly_S 190 175) _ 57 [(0, .ref (lt_z X + 182))] [.ref (lt_z X + 189), .ref (lt_z X + 182)]
  refine jr_putR (a := 182) (b := 189) hF hI clX5 (Nat.le_of_ble_eq_true rfl) lyf_X5_31 rfl rfl rfl (fun x => ⟨rfl, rfl⟩) (Nat.le_of_ble_eq_true rfl) rfl lyp_175 rfl dX5_init_57 ?_
  show lt_J X 7 49 (ly_S 190 176) _ 60 [(0, .ref (lt_z X + 182))] []
  refine jr_aload_n hF dX5_init_60 0 rfl rfl ?_
  show lt_J X 7 49 (ly_S 190 176) _ 61 [(0, .ref (lt_z X + 182))] [.ref (lt_z X + 182)]
  refine jr_bipush (v := 7) hF dX5_init_61 rfl ?_
  show lt_J X 7 49 (ly_S 190 176) _ 63 [(0, .ref (lt_z X + 182))] [.int 7, .ref (lt_z X + 182)]
  refine jr_newa_int (len := 7) (n := 7) hF lyq_10 rfl rfl (by decide) (by decide) rfl (hz.up (Nat.le_of_ble_eq_true rfl : 183 ≤ 190)) ⟨Nat.le_of_ble_eq_true rfl, Nat.le_of_ble_eq_true rfl⟩ dX5_init_63 ?_
  show lt_J X 8 56 (ly_S 191 176) _ 65 [(0, .ref (lt_z X + 182))] [.ref (lt_z X + 190), .ref (lt_z X + 182)]
  refine jr_putR (a := 182) (b := 190) hF hI clX5 (Nat.le_of_ble_eq_true rfl) lyf_X5_34 rfl rfl rfl (fun x => ⟨rfl, rfl⟩) (Nat.le_of_ble_eq_true rfl) rfl lyp_176 rfl dX5_init_65 ?_
  show lt_J X 8 56 (ly_S 191 177) _ 68 [(0, .ref (lt_z X + 182))] []
  refine jr_aload_n hF dX5_init_68 0 rfl rfl ?_
  show lt_J X 8 56 (ly_S 191 177) _ 69 [(0, .ref (lt_z X + 182))] [.ref (lt_z X + 182)]
  refine jr_callV (As := []) (st := []) hF ml_X5_37 (c_X5_clear (w := _) (r := lyw_5 182 _) (ly_c (Nat.le_of_ble_eq_true rfl)) rfl) (ly_c (Nat.le_of_ble_eq_true rfl)) rfl ⟨Nat.le_of_ble_eq_true rfl, Nat.le_of_ble_eq_true rfl⟩ ⟨Nat.le_of_ble_eq_true rfl, Nat.le_of_ble_eq_true rfl⟩ (Nat.le_of_ble_eq_true rfl) dX5_init_69 ?_
  have hz1 := lyw_5_z (hz.up (Nat.le_of_ble_eq_true rfl : 183 ≤ 191)) (Nat.le_of_ble_eq_true rfl : 182 + 1 ≤ 191)
  show lt_J X 8 56 (ly_S 191 177) _ 72 [(0, .ref (lt_z X + 182))] []
  exact jr_return hF hE dX5_init_72
set_option maxRecDepth 100000 in
set_option maxHeartbeats 4000000 in
theorem cI_X9_191 {l : Launch} {D : va_G} {gA : Nat → ClassId} {s0 : State} {w : lt_W} (hz : ly_z w 192) : lt_C l D gA s0 yX9_init cX9_init 1 none (lt_rmI 1 7 210) [.ref (s0.heap.size + 191)] (ly_S 192 178) w (ly_S 199 185) none w := by
  refine lt_enterI rfl rfl (Nat.le_of_ble_eq_true rfl) (fun X e1 e2 e3 e4 hF hI hE => ?_)
  subst e1 e2 e3 e4
  have hF : lt_F X cX9_init RX9 1 (lt_rmI 1 7 210) := hF
  show lt_J X 0 0 (ly_S 192 178) w 0 [(0, .ref (lt_z X + 191))] []
  refine jr_aload_n hF dX9_init_0 0 rfl rfl ?_
  show lt_J X 0 0 (ly_S 192 178) _ 1 [(0, .ref (lt_z X + 191))] [.ref (lt_z X + 191)]
  refine jr_objI hF lyq_18 lyq_1 lyq_2 ⟨Nat.le_of_ble_eq_true rfl, Nat.le_of_ble_eq_true rfl⟩ dX9_init_1 ?_
  show lt_J X 0 0 (ly_S 192 178) _ 4 [(0, .ref (lt_z X + 191))] []
  refine jr_aload_n hF dX9_init_4 0 rfl rfl ?_
  show lt_J X 0 0 (ly_S 192 178) _ 5 [(0, .ref (lt_z X + 191))] [.ref (lt_z X + 191)]
  refine jr_bipush (v := 30) hF dX9_init_5 rfl ?_
  show lt_J X 0 0 (ly_S 192 178) _ 7 [(0, .ref (lt_z X + 191))] [.int 30, .ref (lt_z X + 191)]
  refine jr_newa_int (len := 30) (n := 30) hF lyq_10 rfl rfl (by decide) (by decide) rfl hz ⟨Nat.le_of_ble_eq_true rfl, Nat.le_of_ble_eq_true rfl⟩ dX9_init_7 ?_
  show lt_J X 1 30 (ly_S 193 178) _ 9 [(0, .ref (lt_z X + 191))] [.ref (lt_z X + 192), .ref (lt_z X + 191)]
  refine jr_putR (a := 191) (b := 192) hF hI clX9 (Nat.le_of_ble_eq_true rfl) lyf_X9_9 rfl rfl rfl (fun x => ⟨rfl, rfl⟩) (Nat.le_of_ble_eq_true rfl) rfl lyp_178 rfl dX9_init_9 ?_
  show lt_J X 1 30 (ly_S 193 179) _ 12 [(0, .ref (lt_z X + 191))] []
  refine jr_aload_n hF dX9_init_12 0 rfl rfl ?_
  show lt_J X 1 30 (ly_S 193 179) _ 13 [(0, .ref (lt_z X + 191))] [.ref (lt_z X + 191)]
  refine jr_bipush (v := 30) hF dX9_init_13 rfl ?_
  show lt_J X 1 30 (ly_S 193 179) _ 15 [(0, .ref (lt_z X + 191))] [.int 30, .ref (lt_z X + 191)]
  refine jr_newa_int (len := 30) (n := 30) hF lyq_10 rfl rfl (by decide) (by decide) rfl (hz.up (Nat.le_of_ble_eq_true rfl : 192 ≤ 193)) ⟨Nat.le_of_ble_eq_true rfl, Nat.le_of_ble_eq_true rfl⟩ dX9_init_15 ?_
  show lt_J X 2 60 (ly_S 194 179) _ 17 [(0, .ref (lt_z X + 191))] [.ref (lt_z X + 193), .ref (lt_z X + 191)]
  refine jr_putR (a := 191) (b := 193) hF hI clX9 (Nat.le_of_ble_eq_true rfl) lyf_X9_15 rfl rfl rfl (fun x => ⟨rfl, rfl⟩) (Nat.le_of_ble_eq_true rfl) rfl lyp_179 rfl dX9_init_17 ?_
  show lt_J X 2 60 (ly_S 194 180) _ 20 [(0, .ref (lt_z X + 191))] []
  refine jr_aload_n hF dX9_init_20 0 rfl rfl ?_
  show lt_J X 2 60 (ly_S 194 180) _ 21 [(0, .ref (lt_z X + 191))] [.ref (lt_z X + 191)]
  refine jr_bipush (v := 30) hF dX9_init_21 rfl ?_
  show lt_J X 2 60 (ly_S 194 180) _ 23 [(0, .ref (lt_z X + 191))] [.int 30, .ref (lt_z X + 191)]
  refine jr_newa_int (len := 30) (n := 30) hF lyq_10 rfl rfl (by decide) (by decide) rfl (hz.up (Nat.le_of_ble_eq_true rfl : 192 ≤ 194)) ⟨Nat.le_of_ble_eq_true rfl, Nat.le_of_ble_eq_true rfl⟩ dX9_init_23 ?_
  show lt_J X 3 90 (ly_S 195 180) _ 25 [(0, .ref (lt_z X + 191))] [.ref (lt_z X + 194), .ref (lt_z X + 191)]
  refine jr_putR (a := 191) (b := 194) hF hI clX9 (Nat.le_of_ble_eq_true rfl) lyf_X9_18 rfl rfl rfl (fun x => ⟨rfl, rfl⟩) (Nat.le_of_ble_eq_true rfl) rfl lyp_180 rfl dX9_init_25 ?_
  show lt_J X 3 90 (ly_S 195 181) _ 28 [(0, .ref (lt_z X + 191))] []
  refine jr_aload_n hF dX9_init_28 0 rfl rfl ?_
  show lt_J X 3 90 (ly_S 195 181) _ 29 [(0, .ref (lt_z X + 191))] [.ref (lt_z X + 191)]
  refine jr_bipush (v := 30) hF dX9_init_29 rfl ?_
  show lt_J X 3 90 (ly_S 195 181) _ 31 [(0, .ref (lt_z X + 191))] [.int 30, .ref (lt_z X + 191)]
  refine jr_newa_int (len := 30) (n := 30) hF lyq_10 rfl rfl (by decide) (by decide) rfl (hz.up (Nat.le_of_ble_eq_true rfl : 192 ≤ 195)) ⟨Nat.le_of_ble_eq_true rfl, Nat.le_of_ble_eq_true rfl⟩ dX9_init_31 ?_
  show lt_J X 4 120 (ly_S 196 181) _ 33 [(0, .ref (lt_z X + 191))] [.ref (lt_z X + 195), .ref (lt_z X + 191)]
  refine jr_putR (a := 191) (b := 195) hF hI clX9 (Nat.le_of_ble_eq_true rfl) lyf_X9_21 rfl rfl rfl (fun x => ⟨rfl, rfl⟩) (Nat.le_of_ble_eq_true rfl) rfl lyp_181 rfl dX9_init_33 ?_
  show lt_J X 4 120 (ly_S 196 182) _ 36 [(0, .ref (lt_z X + 191))] []
  refine jr_aload_n hF dX9_init_36 0 rfl rfl ?_
  show lt_J X 4 120 (ly_S 196 182) _ 37 [(0, .ref (lt_z X + 191))] [.ref (lt_z X + 191)]
  refine jr_bipush (v := 30) hF dX9_init_37 rfl ?_
  show lt_J X 4 120 (ly_S 196 182) _ 39 [(0, .ref (lt_z X + 191))] [.int 30, .ref (lt_z X + 191)]
  refine jr_newa_int (len := 30) (n := 30) hF lyq_10 rfl rfl (by decide) (by decide) rfl (hz.up (Nat.le_of_ble_eq_true rfl : 192 ≤ 196)) ⟨Nat.le_of_ble_eq_true rfl, Nat.le_of_ble_eq_true rfl⟩ dX9_init_39 ?_
  show lt_J X 5 150 (ly_S 197 182) _ 41 [(0, .ref (lt_z X + 191))] [.ref (lt_z X + 196), .ref (lt_z X + 191)]
  refine jr_putR (a := 191) (b := 196) hF hI clX9 (Nat.le_of_ble_eq_true rfl) lyf_X9_24 rfl rfl rfl (fun x => ⟨rfl, rfl⟩) (Nat.le_of_ble_eq_true rfl) rfl lyp_182 rfl dX9_init_41 ?_
  show lt_J X 5 150 (ly_S 197 183) _ 44 [(0, .ref (lt_z X + 191))] []
  refine jr_aload_n hF dX9_init_44 0 rfl rfl ?_
  show lt_J X 5 150 (ly_S 197 183) _ 45 [(0, .ref (lt_z X + 191))] [.ref (lt_z X + 191)]
  refine jr_bipush (v := 30) hF dX9_init_45 rfl ?_
  show lt_J X 5 150 (ly_S 197 183) _ 47 [(0, .ref (lt_z X + 191))] [.int 30, .ref (lt_z X + 191)]
  refine jr_newa_int (len := 30) (n := 30) hF lyq_10 rfl rfl (by decide) (by decide) rfl (hz.up (Nat.le_of_ble_eq_true rfl : 192 ≤ 197)) ⟨Nat.le_of_ble_eq_true rfl, Nat.le_of_ble_eq_true rfl⟩ dX9_init_47 ?_
  show lt_J X 6 180 (ly_S 198 183) _ 49 [(0, .ref (lt_z X + 191))] [.ref (lt_z X + 197), .ref (lt_z X + 191)]
  refine jr_putR (a := 191) (b := 197) hF hI clX9 (Nat.le_of_ble_eq_true rfl) lyf_X9_27 rfl rfl rfl (fun x => ⟨rfl, rfl⟩) (Nat.le_of_ble_eq_true rfl) rfl lyp_183 rfl dX9_init_49 ?_
  show lt_J X 6 180 (ly_S 198 184) _ 52 [(0, .ref (lt_z X + 191))] []
  refine jr_aload_n hF dX9_init_52 0 rfl rfl ?_
  show lt_J X 6 180 (ly_S 198 184) _ 53 [(0, .ref (lt_z X + 191))] [.ref (lt_z X + 191)]
  refine jr_bipush (v := 30) hF dX9_init_53 rfl ?_
  show lt_J X 6 180 (ly_S 198 184) _ 55 [(0, .ref (lt_z X + 191))] [.int 30, .ref (lt_z X + 191)]
  refine jr_newa_int (len := 30) (n := 30) hF lyq_10 rfl rfl (by decide) (by decide) rfl (hz.up (Nat.le_of_ble_eq_true rfl : 192 ≤ 198)) ⟨Nat.le_of_ble_eq_true rfl, Nat.le_of_ble_eq_true rfl⟩ dX9_init_55 ?_
  show lt_J X 7 210 (ly_S 199 184) _ 57 [(0, .ref (lt_z X + 191))] [.ref (lt_z X + 198), .ref (lt_z X + 191)]
  refine jr_putR (a := 191) (b := 198) hF hI clX9 (Nat.le_of_ble_eq_true rfl) lyf_X9_30 rfl rfl rfl (fun x => ⟨rfl, rfl⟩) (Nat.le_of_ble_eq_true rfl) rfl lyp_184 rfl dX9_init_57 ?_
  show lt_J X 7 210 (ly_S 199 185) _ 60 [(0, .ref (lt_z X + 191))] []
  exact jr_return hF hE dX9_init_60
def wI_X5_199 (w : lt_W) : lt_W := lyw_5 199 (w)
theorem zI_X5_199 {w : lt_W} (hz : ly_z w 200) : ly_z (wI_X5_199 w) 208 := by
  have hz1 := lyw_5_z (hz.up (Nat.le_of_ble_eq_true rfl : 200 ≤ 208)) (Nat.le_of_ble_eq_true rfl : 199 + 1 ≤ 208)
  exact hz1.up (Nat.le_of_ble_eq_true rfl)
set_option maxRecDepth 100000 in
set_option maxHeartbeats 4000000 in
theorem cI_X5_199 {l : Launch} {D : va_G} {gA : Nat → ClassId} {s0 : State} {w : lt_W} (hz : ly_z w 200) : lt_C l D gA s0 yX5_init cX5_init 1 none (lt_rmI 2 8 56) [.ref (s0.heap.size + 199)] (ly_S 200 186) w (ly_S 208 194) none (wI_X5_199 w) := by
  refine lt_enterI rfl rfl (Nat.le_of_ble_eq_true rfl) (fun X e1 e2 e3 e4 hF hI hE => ?_)
  subst e1 e2 e3 e4
  have hF : lt_F X cX5_init RX5 1 (lt_rmI 2 8 56) := hF
  show lt_J X 0 0 (ly_S 200 186) w 0 [(0, .ref (lt_z X + 199))] []
  refine jr_aload_n hF dX5_init_0 0 rfl rfl ?_
  show lt_J X 0 0 (ly_S 200 186) _ 1 [(0, .ref (lt_z X + 199))] [.ref (lt_z X + 199)]
  refine jr_objI hF lyq_8 lyq_1 lyq_2 ⟨Nat.le_of_ble_eq_true rfl, Nat.le_of_ble_eq_true rfl⟩ dX5_init_1 ?_
  show lt_J X 0 0 (ly_S 200 186) _ 4 [(0, .ref (lt_z X + 199))] []
  refine jr_aload_n hF dX5_init_4 0 rfl rfl ?_
  show lt_J X 0 0 (ly_S 200 186) _ 5 [(0, .ref (lt_z X + 199))] [.ref (lt_z X + 199)]
  refine jr_bipush (v := 7) hF dX5_init_5 rfl ?_
  show lt_J X 0 0 (ly_S 200 186) _ 7 [(0, .ref (lt_z X + 199))] [.int 7, .ref (lt_z X + 199)]
  refine jr_newa_long (len := 7) (n := 7) hF lyq_3 rfl rfl (by decide) (by decide) rfl hz ⟨Nat.le_of_ble_eq_true rfl, Nat.le_of_ble_eq_true rfl⟩ dX5_init_7 ?_
  show lt_J X 1 7 (ly_S 201 186) _ 9 [(0, .ref (lt_z X + 199))] [.ref (lt_z X + 200), .ref (lt_z X + 199)]
  refine jr_putR (a := 199) (b := 200) hF hI clX5 (Nat.le_of_ble_eq_true rfl) lyf_X5_9 rfl rfl rfl (fun x => ⟨rfl, rfl⟩) (Nat.le_of_ble_eq_true rfl) rfl lyp_186 rfl dX5_init_9 ?_
  show lt_J X 1 7 (ly_S 201 187) _ 12 [(0, .ref (lt_z X + 199))] []
  refine jr_aload_n hF dX5_init_12 0 rfl rfl ?_
  show lt_J X 1 7 (ly_S 201 187) _ 13 [(0, .ref (lt_z X + 199))] [.ref (lt_z X + 199)]
  refine jr_bipush (v := 7) hF dX5_init_13 rfl ?_
  show lt_J X 1 7 (ly_S 201 187) _ 15 [(0, .ref (lt_z X + 199))] [.int 7, .ref (lt_z X + 199)]
  refine jr_newa_int (len := 7) (n := 7) hF lyq_10 rfl rfl (by decide) (by decide) rfl (hz.up (Nat.le_of_ble_eq_true rfl : 200 ≤ 201)) ⟨Nat.le_of_ble_eq_true rfl, Nat.le_of_ble_eq_true rfl⟩ dX5_init_15 ?_
  show lt_J X 2 14 (ly_S 202 187) _ 17 [(0, .ref (lt_z X + 199))] [.ref (lt_z X + 201), .ref (lt_z X + 199)]
  refine jr_putR (a := 199) (b := 201) hF hI clX5 (Nat.le_of_ble_eq_true rfl) lyf_X5_15 rfl rfl rfl (fun x => ⟨rfl, rfl⟩) (Nat.le_of_ble_eq_true rfl) rfl lyp_187 rfl dX5_init_17 ?_
  show lt_J X 2 14 (ly_S 202 188) _ 20 [(0, .ref (lt_z X + 199))] []
  refine jr_aload_n hF dX5_init_20 0 rfl rfl ?_
  show lt_J X 2 14 (ly_S 202 188) _ 21 [(0, .ref (lt_z X + 199))] [.ref (lt_z X + 199)]
  refine jr_bipush (v := 7) hF dX5_init_21 rfl ?_
  show lt_J X 2 14 (ly_S 202 188) _ 23 [(0, .ref (lt_z X + 199))] [.int 7, .ref (lt_z X + 199)]
  refine jr_newa_int (len := 7) (n := 7) hF lyq_10 rfl rfl (by decide) (by decide) rfl (hz.up (Nat.le_of_ble_eq_true rfl : 200 ≤ 202)) ⟨Nat.le_of_ble_eq_true rfl, Nat.le_of_ble_eq_true rfl⟩ dX5_init_23 ?_
  show lt_J X 3 21 (ly_S 203 188) _ 25 [(0, .ref (lt_z X + 199))] [.ref (lt_z X + 202), .ref (lt_z X + 199)]
  refine jr_putR (a := 199) (b := 202) hF hI clX5 (Nat.le_of_ble_eq_true rfl) lyf_X5_19 rfl rfl rfl (fun x => ⟨rfl, rfl⟩) (Nat.le_of_ble_eq_true rfl) rfl lyp_188 rfl dX5_init_25 ?_
  show lt_J X 3 21 (ly_S 203 189) _ 28 [(0, .ref (lt_z X + 199))] []
  refine jr_aload_n hF dX5_init_28 0 rfl rfl ?_
  show lt_J X 3 21 (ly_S 203 189) _ 29 [(0, .ref (lt_z X + 199))] [.ref (lt_z X + 199)]
  refine jr_bipush (v := 7) hF dX5_init_29 rfl ?_
  show lt_J X 3 21 (ly_S 203 189) _ 31 [(0, .ref (lt_z X + 199))] [.int 7, .ref (lt_z X + 199)]
  refine jr_newa_int (len := 7) (n := 7) hF lyq_10 rfl rfl (by decide) (by decide) rfl (hz.up (Nat.le_of_ble_eq_true rfl : 200 ≤ 203)) ⟨Nat.le_of_ble_eq_true rfl, Nat.le_of_ble_eq_true rfl⟩ dX5_init_31 ?_
  show lt_J X 4 28 (ly_S 204 189) _ 33 [(0, .ref (lt_z X + 199))] [.ref (lt_z X + 203), .ref (lt_z X + 199)]
  refine jr_putR (a := 199) (b := 203) hF hI clX5 (Nat.le_of_ble_eq_true rfl) lyf_X5_22 rfl rfl rfl (fun x => ⟨rfl, rfl⟩) (Nat.le_of_ble_eq_true rfl) rfl lyp_189 rfl dX5_init_33 ?_
  show lt_J X 4 28 (ly_S 204 190) _ 36 [(0, .ref (lt_z X + 199))] []
  refine jr_aload_n hF dX5_init_36 0 rfl rfl ?_
  show lt_J X 4 28 (ly_S 204 190) _ 37 [(0, .ref (lt_z X + 199))] [.ref (lt_z X + 199)]
  refine jr_bipush (v := 7) hF dX5_init_37 rfl ?_
  show lt_J X 4 28 (ly_S 204 190) _ 39 [(0, .ref (lt_z X + 199))] [.int 7, .ref (lt_z X + 199)]
  refine jr_newa_int (len := 7) (n := 7) hF lyq_10 rfl rfl (by decide) (by decide) rfl (hz.up (Nat.le_of_ble_eq_true rfl : 200 ≤ 204)) ⟨Nat.le_of_ble_eq_true rfl, Nat.le_of_ble_eq_true rfl⟩ dX5_init_39 ?_
  show lt_J X 5 35 (ly_S 205 190) _ 41 [(0, .ref (lt_z X + 199))] [.ref (lt_z X + 204), .ref (lt_z X + 199)]
  refine jr_putR (a := 199) (b := 204) hF hI clX5 (Nat.le_of_ble_eq_true rfl) lyf_X5_25 rfl rfl rfl (fun x => ⟨rfl, rfl⟩) (Nat.le_of_ble_eq_true rfl) rfl lyp_190 rfl dX5_init_41 ?_
  show lt_J X 5 35 (ly_S 205 191) _ 44 [(0, .ref (lt_z X + 199))] []
  refine jr_aload_n hF dX5_init_44 0 rfl rfl ?_
  show lt_J X 5 35 (ly_S 205 191) _ 45 [(0, .ref (lt_z X + 199))] [.ref (lt_z X + 199)]
  refine jr_bipush (v := 7) hF dX5_init_45 rfl ?_
  show lt_J X 5 35 (ly_S 205 191) _ 47 [(0, .ref (lt_z X + 199))] [.int 7, .ref (lt_z X + 199)]
  refine jr_newa_int (len := 7) (n := 7) hF lyq_10 rfl rfl (by decide) (by decide) rfl (hz.up (Nat.le_of_ble_eq_true rfl : 200 ≤ 205)) ⟨Nat.le_of_ble_eq_true rfl, Nat.le_of_ble_eq_true rfl⟩ dX5_init_47 ?_
  show lt_J X 6 42 (ly_S 206 191) _ 49 [(0, .ref (lt_z X + 199))] [.ref (lt_z X + 205), .ref (lt_z X + 199)]
  refine jr_putR (a := 199) (b := 205) hF hI clX5 (Nat.le_of_ble_eq_true rfl) lyf_X5_28 rfl rfl rfl (fun x => ⟨rfl, rfl⟩) (Nat.le_of_ble_eq_true rfl) rfl lyp_191 rfl dX5_init_49 ?_
  show lt_J X 6 42 (ly_S 206 192) _ 52 [(0, .ref (lt_z X + 199))] []
  refine jr_aload_n hF dX5_init_52 0 rfl rfl ?_
  show lt_J X 6 42 (ly_S 206 192) _ 53 [(0, .ref (lt_z X + 199))] [.ref (lt_z X + 199)]
  refine jr_bipush (v := 7) hF dX5_init_53 rfl ?_
  show lt_J X 6 42 (ly_S 206 192) _ 55 [(0, .ref (lt_z X + 199))] [.int 7, .ref (lt_z X + 199)]
  refine jr_newa_int (len := 7) (n := 7) hF lyq_10 rfl rfl (by decide) (by decide) rfl (hz.up (Nat.le_of_ble_eq_true rfl : 200 ≤ 206)) ⟨Nat.le_of_ble_eq_true rfl, Nat.le_of_ble_eq_true rfl⟩ dX5_init_55 ?_
  show lt_J X 7 49 (ly_S 207 192) _ 57 [(0, .ref (lt_z X + 199))] [.ref (lt_z X + 206), .ref (lt_z X + 199)]
  refine jr_putR (a := 199) (b := 206) hF hI clX5 (Nat.le_of_ble_eq_true rfl) lyf_X5_31 rfl rfl rfl (fun x => ⟨rfl, rfl⟩) (Nat.le_of_ble_eq_true rfl) rfl lyp_192 rfl dX5_init_57 ?_
  show lt_J X 7 49 (ly_S 207 193) _ 60 [(0, .ref (lt_z X + 199))] []
  refine jr_aload_n hF dX5_init_60 0 rfl rfl ?_
  show lt_J X 7 49 (ly_S 207 193) _ 61 [(0, .ref (lt_z X + 199))] [.ref (lt_z X + 199)]
  refine jr_bipush (v := 7) hF dX5_init_61 rfl ?_
  show lt_J X 7 49 (ly_S 207 193) _ 63 [(0, .ref (lt_z X + 199))] [.int 7, .ref (lt_z X + 199)]
  refine jr_newa_int (len := 7) (n := 7) hF lyq_10 rfl rfl (by decide) (by decide) rfl (hz.up (Nat.le_of_ble_eq_true rfl : 200 ≤ 207)) ⟨Nat.le_of_ble_eq_true rfl, Nat.le_of_ble_eq_true rfl⟩ dX5_init_63 ?_
  show lt_J X 8 56 (ly_S 208 193) _ 65 [(0, .ref (lt_z X + 199))] [.ref (lt_z X + 207), .ref (lt_z X + 199)]
  refine jr_putR (a := 199) (b := 207) hF hI clX5 (Nat.le_of_ble_eq_true rfl) lyf_X5_34 rfl rfl rfl (fun x => ⟨rfl, rfl⟩) (Nat.le_of_ble_eq_true rfl) rfl lyp_193 rfl dX5_init_65 ?_
  show lt_J X 8 56 (ly_S 208 194) _ 68 [(0, .ref (lt_z X + 199))] []
  refine jr_aload_n hF dX5_init_68 0 rfl rfl ?_
  show lt_J X 8 56 (ly_S 208 194) _ 69 [(0, .ref (lt_z X + 199))] [.ref (lt_z X + 199)]
  refine jr_callV (As := []) (st := []) hF ml_X5_37 (c_X5_clear (w := _) (r := lyw_5 199 _) (ly_c (Nat.le_of_ble_eq_true rfl)) rfl) (ly_c (Nat.le_of_ble_eq_true rfl)) rfl ⟨Nat.le_of_ble_eq_true rfl, Nat.le_of_ble_eq_true rfl⟩ ⟨Nat.le_of_ble_eq_true rfl, Nat.le_of_ble_eq_true rfl⟩ (Nat.le_of_ble_eq_true rfl) dX5_init_69 ?_
  have hz1 := lyw_5_z (hz.up (Nat.le_of_ble_eq_true rfl : 200 ≤ 208)) (Nat.le_of_ble_eq_true rfl : 199 + 1 ≤ 208)
  show lt_J X 8 56 (ly_S 208 194) _ 72 [(0, .ref (lt_z X + 199))] []
  exact jr_return hF hE dX5_init_72
set_option maxRecDepth 100000 in
set_option maxHeartbeats 4000000 in
theorem cI_X9_208 {l : Launch} {D : va_G} {gA : Nat → ClassId} {s0 : State} {w : lt_W} (hz : ly_z w 209) : lt_C l D gA s0 yX9_init cX9_init 1 none (lt_rmI 1 7 210) [.ref (s0.heap.size + 208)] (ly_S 209 195) w (ly_S 216 202) none w := by
  refine lt_enterI rfl rfl (Nat.le_of_ble_eq_true rfl) (fun X e1 e2 e3 e4 hF hI hE => ?_)
  subst e1 e2 e3 e4
  have hF : lt_F X cX9_init RX9 1 (lt_rmI 1 7 210) := hF
  show lt_J X 0 0 (ly_S 209 195) w 0 [(0, .ref (lt_z X + 208))] []
  refine jr_aload_n hF dX9_init_0 0 rfl rfl ?_
  show lt_J X 0 0 (ly_S 209 195) _ 1 [(0, .ref (lt_z X + 208))] [.ref (lt_z X + 208)]
  refine jr_objI hF lyq_18 lyq_1 lyq_2 ⟨Nat.le_of_ble_eq_true rfl, Nat.le_of_ble_eq_true rfl⟩ dX9_init_1 ?_
  show lt_J X 0 0 (ly_S 209 195) _ 4 [(0, .ref (lt_z X + 208))] []
  refine jr_aload_n hF dX9_init_4 0 rfl rfl ?_
  show lt_J X 0 0 (ly_S 209 195) _ 5 [(0, .ref (lt_z X + 208))] [.ref (lt_z X + 208)]
  refine jr_bipush (v := 30) hF dX9_init_5 rfl ?_
  show lt_J X 0 0 (ly_S 209 195) _ 7 [(0, .ref (lt_z X + 208))] [.int 30, .ref (lt_z X + 208)]
  refine jr_newa_int (len := 30) (n := 30) hF lyq_10 rfl rfl (by decide) (by decide) rfl hz ⟨Nat.le_of_ble_eq_true rfl, Nat.le_of_ble_eq_true rfl⟩ dX9_init_7 ?_
  show lt_J X 1 30 (ly_S 210 195) _ 9 [(0, .ref (lt_z X + 208))] [.ref (lt_z X + 209), .ref (lt_z X + 208)]
  refine jr_putR (a := 208) (b := 209) hF hI clX9 (Nat.le_of_ble_eq_true rfl) lyf_X9_9 rfl rfl rfl (fun x => ⟨rfl, rfl⟩) (Nat.le_of_ble_eq_true rfl) rfl lyp_195 rfl dX9_init_9 ?_
  show lt_J X 1 30 (ly_S 210 196) _ 12 [(0, .ref (lt_z X + 208))] []
  refine jr_aload_n hF dX9_init_12 0 rfl rfl ?_
  show lt_J X 1 30 (ly_S 210 196) _ 13 [(0, .ref (lt_z X + 208))] [.ref (lt_z X + 208)]
  refine jr_bipush (v := 30) hF dX9_init_13 rfl ?_
  show lt_J X 1 30 (ly_S 210 196) _ 15 [(0, .ref (lt_z X + 208))] [.int 30, .ref (lt_z X + 208)]
  refine jr_newa_int (len := 30) (n := 30) hF lyq_10 rfl rfl (by decide) (by decide) rfl (hz.up (Nat.le_of_ble_eq_true rfl : 209 ≤ 210)) ⟨Nat.le_of_ble_eq_true rfl, Nat.le_of_ble_eq_true rfl⟩ dX9_init_15 ?_
  show lt_J X 2 60 (ly_S 211 196) _ 17 [(0, .ref (lt_z X + 208))] [.ref (lt_z X + 210), .ref (lt_z X + 208)]
  refine jr_putR (a := 208) (b := 210) hF hI clX9 (Nat.le_of_ble_eq_true rfl) lyf_X9_15 rfl rfl rfl (fun x => ⟨rfl, rfl⟩) (Nat.le_of_ble_eq_true rfl) rfl lyp_196 rfl dX9_init_17 ?_
  show lt_J X 2 60 (ly_S 211 197) _ 20 [(0, .ref (lt_z X + 208))] []
  refine jr_aload_n hF dX9_init_20 0 rfl rfl ?_
  show lt_J X 2 60 (ly_S 211 197) _ 21 [(0, .ref (lt_z X + 208))] [.ref (lt_z X + 208)]
  refine jr_bipush (v := 30) hF dX9_init_21 rfl ?_
  show lt_J X 2 60 (ly_S 211 197) _ 23 [(0, .ref (lt_z X + 208))] [.int 30, .ref (lt_z X + 208)]
  refine jr_newa_int (len := 30) (n := 30) hF lyq_10 rfl rfl (by decide) (by decide) rfl (hz.up (Nat.le_of_ble_eq_true rfl : 209 ≤ 211)) ⟨Nat.le_of_ble_eq_true rfl, Nat.le_of_ble_eq_true rfl⟩ dX9_init_23 ?_
  show lt_J X 3 90 (ly_S 212 197) _ 25 [(0, .ref (lt_z X + 208))] [.ref (lt_z X + 211), .ref (lt_z X + 208)]
  refine jr_putR (a := 208) (b := 211) hF hI clX9 (Nat.le_of_ble_eq_true rfl) lyf_X9_18 rfl rfl rfl (fun x => ⟨rfl, rfl⟩) (Nat.le_of_ble_eq_true rfl) rfl lyp_197 rfl dX9_init_25 ?_
  show lt_J X 3 90 (ly_S 212 198) _ 28 [(0, .ref (lt_z X + 208))] []
  refine jr_aload_n hF dX9_init_28 0 rfl rfl ?_
  show lt_J X 3 90 (ly_S 212 198) _ 29 [(0, .ref (lt_z X + 208))] [.ref (lt_z X + 208)]
  refine jr_bipush (v := 30) hF dX9_init_29 rfl ?_
  show lt_J X 3 90 (ly_S 212 198) _ 31 [(0, .ref (lt_z X + 208))] [.int 30, .ref (lt_z X + 208)]
  refine jr_newa_int (len := 30) (n := 30) hF lyq_10 rfl rfl (by decide) (by decide) rfl (hz.up (Nat.le_of_ble_eq_true rfl : 209 ≤ 212)) ⟨Nat.le_of_ble_eq_true rfl, Nat.le_of_ble_eq_true rfl⟩ dX9_init_31 ?_
  show lt_J X 4 120 (ly_S 213 198) _ 33 [(0, .ref (lt_z X + 208))] [.ref (lt_z X + 212), .ref (lt_z X + 208)]
  refine jr_putR (a := 208) (b := 212) hF hI clX9 (Nat.le_of_ble_eq_true rfl) lyf_X9_21 rfl rfl rfl (fun x => ⟨rfl, rfl⟩) (Nat.le_of_ble_eq_true rfl) rfl lyp_198 rfl dX9_init_33 ?_
  show lt_J X 4 120 (ly_S 213 199) _ 36 [(0, .ref (lt_z X + 208))] []
  refine jr_aload_n hF dX9_init_36 0 rfl rfl ?_
  show lt_J X 4 120 (ly_S 213 199) _ 37 [(0, .ref (lt_z X + 208))] [.ref (lt_z X + 208)]
  refine jr_bipush (v := 30) hF dX9_init_37 rfl ?_
  show lt_J X 4 120 (ly_S 213 199) _ 39 [(0, .ref (lt_z X + 208))] [.int 30, .ref (lt_z X + 208)]
  refine jr_newa_int (len := 30) (n := 30) hF lyq_10 rfl rfl (by decide) (by decide) rfl (hz.up (Nat.le_of_ble_eq_true rfl : 209 ≤ 213)) ⟨Nat.le_of_ble_eq_true rfl, Nat.le_of_ble_eq_true rfl⟩ dX9_init_39 ?_
  show lt_J X 5 150 (ly_S 214 199) _ 41 [(0, .ref (lt_z X + 208))] [.ref (lt_z X + 213), .ref (lt_z X + 208)]
  refine jr_putR (a := 208) (b := 213) hF hI clX9 (Nat.le_of_ble_eq_true rfl) lyf_X9_24 rfl rfl rfl (fun x => ⟨rfl, rfl⟩) (Nat.le_of_ble_eq_true rfl) rfl lyp_199 rfl dX9_init_41 ?_
  show lt_J X 5 150 (ly_S 214 200) _ 44 [(0, .ref (lt_z X + 208))] []
  refine jr_aload_n hF dX9_init_44 0 rfl rfl ?_
  show lt_J X 5 150 (ly_S 214 200) _ 45 [(0, .ref (lt_z X + 208))] [.ref (lt_z X + 208)]
  refine jr_bipush (v := 30) hF dX9_init_45 rfl ?_
  show lt_J X 5 150 (ly_S 214 200) _ 47 [(0, .ref (lt_z X + 208))] [.int 30, .ref (lt_z X + 208)]
  refine jr_newa_int (len := 30) (n := 30) hF lyq_10 rfl rfl (by decide) (by decide) rfl (hz.up (Nat.le_of_ble_eq_true rfl : 209 ≤ 214)) ⟨Nat.le_of_ble_eq_true rfl, Nat.le_of_ble_eq_true rfl⟩ dX9_init_47 ?_
  show lt_J X 6 180 (ly_S 215 200) _ 49 [(0, .ref (lt_z X + 208))] [.ref (lt_z X + 214), .ref (lt_z X + 208)]
  refine jr_putR (a := 208) (b := 214) hF hI clX9 (Nat.le_of_ble_eq_true rfl) lyf_X9_27 rfl rfl rfl (fun x => ⟨rfl, rfl⟩) (Nat.le_of_ble_eq_true rfl) rfl lyp_200 rfl dX9_init_49 ?_
  show lt_J X 6 180 (ly_S 215 201) _ 52 [(0, .ref (lt_z X + 208))] []
  refine jr_aload_n hF dX9_init_52 0 rfl rfl ?_
  show lt_J X 6 180 (ly_S 215 201) _ 53 [(0, .ref (lt_z X + 208))] [.ref (lt_z X + 208)]
  refine jr_bipush (v := 30) hF dX9_init_53 rfl ?_
  show lt_J X 6 180 (ly_S 215 201) _ 55 [(0, .ref (lt_z X + 208))] [.int 30, .ref (lt_z X + 208)]
  refine jr_newa_int (len := 30) (n := 30) hF lyq_10 rfl rfl (by decide) (by decide) rfl (hz.up (Nat.le_of_ble_eq_true rfl : 209 ≤ 215)) ⟨Nat.le_of_ble_eq_true rfl, Nat.le_of_ble_eq_true rfl⟩ dX9_init_55 ?_
  show lt_J X 7 210 (ly_S 216 201) _ 57 [(0, .ref (lt_z X + 208))] [.ref (lt_z X + 215), .ref (lt_z X + 208)]
  refine jr_putR (a := 208) (b := 215) hF hI clX9 (Nat.le_of_ble_eq_true rfl) lyf_X9_30 rfl rfl rfl (fun x => ⟨rfl, rfl⟩) (Nat.le_of_ble_eq_true rfl) rfl lyp_201 rfl dX9_init_57 ?_
  show lt_J X 7 210 (ly_S 216 202) _ 60 [(0, .ref (lt_z X + 208))] []
  exact jr_return hF hE dX9_init_60
def wI_X5_216 (w : lt_W) : lt_W := lyw_5 216 (w)
theorem zI_X5_216 {w : lt_W} (hz : ly_z w 217) : ly_z (wI_X5_216 w) 225 := by
  have hz1 := lyw_5_z (hz.up (Nat.le_of_ble_eq_true rfl : 217 ≤ 225)) (Nat.le_of_ble_eq_true rfl : 216 + 1 ≤ 225)
  exact hz1.up (Nat.le_of_ble_eq_true rfl)
set_option maxRecDepth 100000 in
set_option maxHeartbeats 4000000 in
theorem cI_X5_216 {l : Launch} {D : va_G} {gA : Nat → ClassId} {s0 : State} {w : lt_W} (hz : ly_z w 217) : lt_C l D gA s0 yX5_init cX5_init 1 none (lt_rmI 2 8 56) [.ref (s0.heap.size + 216)] (ly_S 217 203) w (ly_S 225 211) none (wI_X5_216 w) := by
  refine lt_enterI rfl rfl (Nat.le_of_ble_eq_true rfl) (fun X e1 e2 e3 e4 hF hI hE => ?_)
  subst e1 e2 e3 e4
  have hF : lt_F X cX5_init RX5 1 (lt_rmI 2 8 56) := hF
  show lt_J X 0 0 (ly_S 217 203) w 0 [(0, .ref (lt_z X + 216))] []
  refine jr_aload_n hF dX5_init_0 0 rfl rfl ?_
  show lt_J X 0 0 (ly_S 217 203) _ 1 [(0, .ref (lt_z X + 216))] [.ref (lt_z X + 216)]
  refine jr_objI hF lyq_8 lyq_1 lyq_2 ⟨Nat.le_of_ble_eq_true rfl, Nat.le_of_ble_eq_true rfl⟩ dX5_init_1 ?_
  show lt_J X 0 0 (ly_S 217 203) _ 4 [(0, .ref (lt_z X + 216))] []
  refine jr_aload_n hF dX5_init_4 0 rfl rfl ?_
  show lt_J X 0 0 (ly_S 217 203) _ 5 [(0, .ref (lt_z X + 216))] [.ref (lt_z X + 216)]
  refine jr_bipush (v := 7) hF dX5_init_5 rfl ?_
  show lt_J X 0 0 (ly_S 217 203) _ 7 [(0, .ref (lt_z X + 216))] [.int 7, .ref (lt_z X + 216)]
  refine jr_newa_long (len := 7) (n := 7) hF lyq_3 rfl rfl (by decide) (by decide) rfl hz ⟨Nat.le_of_ble_eq_true rfl, Nat.le_of_ble_eq_true rfl⟩ dX5_init_7 ?_
  show lt_J X 1 7 (ly_S 218 203) _ 9 [(0, .ref (lt_z X + 216))] [.ref (lt_z X + 217), .ref (lt_z X + 216)]
  refine jr_putR (a := 216) (b := 217) hF hI clX5 (Nat.le_of_ble_eq_true rfl) lyf_X5_9 rfl rfl rfl (fun x => ⟨rfl, rfl⟩) (Nat.le_of_ble_eq_true rfl) rfl lyp_203 rfl dX5_init_9 ?_
  show lt_J X 1 7 (ly_S 218 204) _ 12 [(0, .ref (lt_z X + 216))] []
  refine jr_aload_n hF dX5_init_12 0 rfl rfl ?_
  show lt_J X 1 7 (ly_S 218 204) _ 13 [(0, .ref (lt_z X + 216))] [.ref (lt_z X + 216)]
  refine jr_bipush (v := 7) hF dX5_init_13 rfl ?_
  show lt_J X 1 7 (ly_S 218 204) _ 15 [(0, .ref (lt_z X + 216))] [.int 7, .ref (lt_z X + 216)]
  refine jr_newa_int (len := 7) (n := 7) hF lyq_10 rfl rfl (by decide) (by decide) rfl (hz.up (Nat.le_of_ble_eq_true rfl : 217 ≤ 218)) ⟨Nat.le_of_ble_eq_true rfl, Nat.le_of_ble_eq_true rfl⟩ dX5_init_15 ?_
  show lt_J X 2 14 (ly_S 219 204) _ 17 [(0, .ref (lt_z X + 216))] [.ref (lt_z X + 218), .ref (lt_z X + 216)]
  refine jr_putR (a := 216) (b := 218) hF hI clX5 (Nat.le_of_ble_eq_true rfl) lyf_X5_15 rfl rfl rfl (fun x => ⟨rfl, rfl⟩) (Nat.le_of_ble_eq_true rfl) rfl lyp_204 rfl dX5_init_17 ?_
  show lt_J X 2 14 (ly_S 219 205) _ 20 [(0, .ref (lt_z X + 216))] []
  refine jr_aload_n hF dX5_init_20 0 rfl rfl ?_
  show lt_J X 2 14 (ly_S 219 205) _ 21 [(0, .ref (lt_z X + 216))] [.ref (lt_z X + 216)]
  refine jr_bipush (v := 7) hF dX5_init_21 rfl ?_
  show lt_J X 2 14 (ly_S 219 205) _ 23 [(0, .ref (lt_z X + 216))] [.int 7, .ref (lt_z X + 216)]
  refine jr_newa_int (len := 7) (n := 7) hF lyq_10 rfl rfl (by decide) (by decide) rfl (hz.up (Nat.le_of_ble_eq_true rfl : 217 ≤ 219)) ⟨Nat.le_of_ble_eq_true rfl, Nat.le_of_ble_eq_true rfl⟩ dX5_init_23 ?_
  show lt_J X 3 21 (ly_S 220 205) _ 25 [(0, .ref (lt_z X + 216))] [.ref (lt_z X + 219), .ref (lt_z X + 216)]
  refine jr_putR (a := 216) (b := 219) hF hI clX5 (Nat.le_of_ble_eq_true rfl) lyf_X5_19 rfl rfl rfl (fun x => ⟨rfl, rfl⟩) (Nat.le_of_ble_eq_true rfl) rfl lyp_205 rfl dX5_init_25 ?_
  show lt_J X 3 21 (ly_S 220 206) _ 28 [(0, .ref (lt_z X + 216))] []
  refine jr_aload_n hF dX5_init_28 0 rfl rfl ?_
  show lt_J X 3 21 (ly_S 220 206) _ 29 [(0, .ref (lt_z X + 216))] [.ref (lt_z X + 216)]
  refine jr_bipush (v := 7) hF dX5_init_29 rfl ?_
  show lt_J X 3 21 (ly_S 220 206) _ 31 [(0, .ref (lt_z X + 216))] [.int 7, .ref (lt_z X + 216)]
  refine jr_newa_int (len := 7) (n := 7) hF lyq_10 rfl rfl (by decide) (by decide) rfl (hz.up (Nat.le_of_ble_eq_true rfl : 217 ≤ 220)) ⟨Nat.le_of_ble_eq_true rfl, Nat.le_of_ble_eq_true rfl⟩ dX5_init_31 ?_
  show lt_J X 4 28 (ly_S 221 206) _ 33 [(0, .ref (lt_z X + 216))] [.ref (lt_z X + 220), .ref (lt_z X + 216)]
  refine jr_putR (a := 216) (b := 220) hF hI clX5 (Nat.le_of_ble_eq_true rfl) lyf_X5_22 rfl rfl rfl (fun x => ⟨rfl, rfl⟩) (Nat.le_of_ble_eq_true rfl) rfl lyp_206 rfl dX5_init_33 ?_
  show lt_J X 4 28 (ly_S 221 207) _ 36 [(0, .ref (lt_z X + 216))] []
  refine jr_aload_n hF dX5_init_36 0 rfl rfl ?_
  show lt_J X 4 28 (ly_S 221 207) _ 37 [(0, .ref (lt_z X + 216))] [.ref (lt_z X + 216)]
  refine jr_bipush (v := 7) hF dX5_init_37 rfl ?_
  show lt_J X 4 28 (ly_S 221 207) _ 39 [(0, .ref (lt_z X + 216))] [.int 7, .ref (lt_z X + 216)]
  refine jr_newa_int (len := 7) (n := 7) hF lyq_10 rfl rfl (by decide) (by decide) rfl (hz.up (Nat.le_of_ble_eq_true rfl : 217 ≤ 221)) ⟨Nat.le_of_ble_eq_true rfl, Nat.le_of_ble_eq_true rfl⟩ dX5_init_39 ?_
  show lt_J X 5 35 (ly_S 222 207) _ 41 [(0, .ref (lt_z X + 216))] [.ref (lt_z X + 221), .ref (lt_z X + 216)]
  refine jr_putR (a := 216) (b := 221) hF hI clX5 (Nat.le_of_ble_eq_true rfl) lyf_X5_25 rfl rfl rfl (fun x => ⟨rfl, rfl⟩) (Nat.le_of_ble_eq_true rfl) rfl lyp_207 rfl dX5_init_41 ?_
  show lt_J X 5 35 (ly_S 222 208) _ 44 [(0, .ref (lt_z X + 216))] []
  refine jr_aload_n hF dX5_init_44 0 rfl rfl ?_
  show lt_J X 5 35 (ly_S 222 208) _ 45 [(0, .ref (lt_z X + 216))] [.ref (lt_z X + 216)]
  refine jr_bipush (v := 7) hF dX5_init_45 rfl ?_
  show lt_J X 5 35 (ly_S 222 208) _ 47 [(0, .ref (lt_z X + 216))] [.int 7, .ref (lt_z X + 216)]
  refine jr_newa_int (len := 7) (n := 7) hF lyq_10 rfl rfl (by decide) (by decide) rfl (hz.up (Nat.le_of_ble_eq_true rfl : 217 ≤ 222)) ⟨Nat.le_of_ble_eq_true rfl, Nat.le_of_ble_eq_true rfl⟩ dX5_init_47 ?_
  show lt_J X 6 42 (ly_S 223 208) _ 49 [(0, .ref (lt_z X + 216))] [.ref (lt_z X + 222), .ref (lt_z X + 216)]
  refine jr_putR (a := 216) (b := 222) hF hI clX5 (Nat.le_of_ble_eq_true rfl) lyf_X5_28 rfl rfl rfl (fun x => ⟨rfl, rfl⟩) (Nat.le_of_ble_eq_true rfl) rfl lyp_208 rfl dX5_init_49 ?_
  show lt_J X 6 42 (ly_S 223 209) _ 52 [(0, .ref (lt_z X + 216))] []
  refine jr_aload_n hF dX5_init_52 0 rfl rfl ?_
  show lt_J X 6 42 (ly_S 223 209) _ 53 [(0, .ref (lt_z X + 216))] [.ref (lt_z X + 216)]
  refine jr_bipush (v := 7) hF dX5_init_53 rfl ?_
  show lt_J X 6 42 (ly_S 223 209) _ 55 [(0, .ref (lt_z X + 216))] [.int 7, .ref (lt_z X + 216)]
  refine jr_newa_int (len := 7) (n := 7) hF lyq_10 rfl rfl (by decide) (by decide) rfl (hz.up (Nat.le_of_ble_eq_true rfl : 217 ≤ 223)) ⟨Nat.le_of_ble_eq_true rfl, Nat.le_of_ble_eq_true rfl⟩ dX5_init_55 ?_
  show lt_J X 7 49 (ly_S 224 209) _ 57 [(0, .ref (lt_z X + 216))] [.ref (lt_z X + 223), .ref (lt_z X + 216)]
  refine jr_putR (a := 216) (b := 223) hF hI clX5 (Nat.le_of_ble_eq_true rfl) lyf_X5_31 rfl rfl rfl (fun x => ⟨rfl, rfl⟩) (Nat.le_of_ble_eq_true rfl) rfl lyp_209 rfl dX5_init_57 ?_
  show lt_J X 7 49 (ly_S 224 210) _ 60 [(0, .ref (lt_z X + 216))] []
  refine jr_aload_n hF dX5_init_60 0 rfl rfl ?_
  show lt_J X 7 49 (ly_S 224 210) _ 61 [(0, .ref (lt_z X + 216))] [.ref (lt_z X + 216)]
  refine jr_bipush (v := 7) hF dX5_init_61 rfl ?_
  show lt_J X 7 49 (ly_S 224 210) _ 63 [(0, .ref (lt_z X + 216))] [.int 7, .ref (lt_z X + 216)]
  refine jr_newa_int (len := 7) (n := 7) hF lyq_10 rfl rfl (by decide) (by decide) rfl (hz.up (Nat.le_of_ble_eq_true rfl : 217 ≤ 224)) ⟨Nat.le_of_ble_eq_true rfl, Nat.le_of_ble_eq_true rfl⟩ dX5_init_63 ?_
  show lt_J X 8 56 (ly_S 225 210) _ 65 [(0, .ref (lt_z X + 216))] [.ref (lt_z X + 224), .ref (lt_z X + 216)]
  refine jr_putR (a := 216) (b := 224) hF hI clX5 (Nat.le_of_ble_eq_true rfl) lyf_X5_34 rfl rfl rfl (fun x => ⟨rfl, rfl⟩) (Nat.le_of_ble_eq_true rfl) rfl lyp_210 rfl dX5_init_65 ?_
  show lt_J X 8 56 (ly_S 225 211) _ 68 [(0, .ref (lt_z X + 216))] []
  refine jr_aload_n hF dX5_init_68 0 rfl rfl ?_
  show lt_J X 8 56 (ly_S 225 211) _ 69 [(0, .ref (lt_z X + 216))] [.ref (lt_z X + 216)]
  refine jr_callV (As := []) (st := []) hF ml_X5_37 (c_X5_clear (w := _) (r := lyw_5 216 _) (ly_c (Nat.le_of_ble_eq_true rfl)) rfl) (ly_c (Nat.le_of_ble_eq_true rfl)) rfl ⟨Nat.le_of_ble_eq_true rfl, Nat.le_of_ble_eq_true rfl⟩ ⟨Nat.le_of_ble_eq_true rfl, Nat.le_of_ble_eq_true rfl⟩ (Nat.le_of_ble_eq_true rfl) dX5_init_69 ?_
  have hz1 := lyw_5_z (hz.up (Nat.le_of_ble_eq_true rfl : 217 ≤ 225)) (Nat.le_of_ble_eq_true rfl : 216 + 1 ≤ 225)
  show lt_J X 8 56 (ly_S 225 211) _ 72 [(0, .ref (lt_z X + 216))] []
  exact jr_return hF hE dX5_init_72
set_option maxRecDepth 100000 in
set_option maxHeartbeats 4000000 in
theorem cI_X9_225 {l : Launch} {D : va_G} {gA : Nat → ClassId} {s0 : State} {w : lt_W} (hz : ly_z w 226) : lt_C l D gA s0 yX9_init cX9_init 1 none (lt_rmI 1 7 210) [.ref (s0.heap.size + 225)] (ly_S 226 212) w (ly_S 233 219) none w := by
  refine lt_enterI rfl rfl (Nat.le_of_ble_eq_true rfl) (fun X e1 e2 e3 e4 hF hI hE => ?_)
  subst e1 e2 e3 e4
  have hF : lt_F X cX9_init RX9 1 (lt_rmI 1 7 210) := hF
  show lt_J X 0 0 (ly_S 226 212) w 0 [(0, .ref (lt_z X + 225))] []
  refine jr_aload_n hF dX9_init_0 0 rfl rfl ?_
  show lt_J X 0 0 (ly_S 226 212) _ 1 [(0, .ref (lt_z X + 225))] [.ref (lt_z X + 225)]
  refine jr_objI hF lyq_18 lyq_1 lyq_2 ⟨Nat.le_of_ble_eq_true rfl, Nat.le_of_ble_eq_true rfl⟩ dX9_init_1 ?_
  show lt_J X 0 0 (ly_S 226 212) _ 4 [(0, .ref (lt_z X + 225))] []
  refine jr_aload_n hF dX9_init_4 0 rfl rfl ?_
  show lt_J X 0 0 (ly_S 226 212) _ 5 [(0, .ref (lt_z X + 225))] [.ref (lt_z X + 225)]
  refine jr_bipush (v := 30) hF dX9_init_5 rfl ?_
  show lt_J X 0 0 (ly_S 226 212) _ 7 [(0, .ref (lt_z X + 225))] [.int 30, .ref (lt_z X + 225)]
  refine jr_newa_int (len := 30) (n := 30) hF lyq_10 rfl rfl (by decide) (by decide) rfl hz ⟨Nat.le_of_ble_eq_true rfl, Nat.le_of_ble_eq_true rfl⟩ dX9_init_7 ?_
  show lt_J X 1 30 (ly_S 227 212) _ 9 [(0, .ref (lt_z X + 225))] [.ref (lt_z X + 226), .ref (lt_z X + 225)]
  refine jr_putR (a := 225) (b := 226) hF hI clX9 (Nat.le_of_ble_eq_true rfl) lyf_X9_9 rfl rfl rfl (fun x => ⟨rfl, rfl⟩) (Nat.le_of_ble_eq_true rfl) rfl lyp_212 rfl dX9_init_9 ?_
  show lt_J X 1 30 (ly_S 227 213) _ 12 [(0, .ref (lt_z X + 225))] []
  refine jr_aload_n hF dX9_init_12 0 rfl rfl ?_
  show lt_J X 1 30 (ly_S 227 213) _ 13 [(0, .ref (lt_z X + 225))] [.ref (lt_z X + 225)]
  refine jr_bipush (v := 30) hF dX9_init_13 rfl ?_
  show lt_J X 1 30 (ly_S 227 213) _ 15 [(0, .ref (lt_z X + 225))] [.int 30, .ref (lt_z X + 225)]
  refine jr_newa_int (len := 30) (n := 30) hF lyq_10 rfl rfl (by decide) (by decide) rfl (hz.up (Nat.le_of_ble_eq_true rfl : 226 ≤ 227)) ⟨Nat.le_of_ble_eq_true rfl, Nat.le_of_ble_eq_true rfl⟩ dX9_init_15 ?_
  show lt_J X 2 60 (ly_S 228 213) _ 17 [(0, .ref (lt_z X + 225))] [.ref (lt_z X + 227), .ref (lt_z X + 225)]
  refine jr_putR (a := 225) (b := 227) hF hI clX9 (Nat.le_of_ble_eq_true rfl) lyf_X9_15 rfl rfl rfl (fun x => ⟨rfl, rfl⟩) (Nat.le_of_ble_eq_true rfl) rfl lyp_213 rfl dX9_init_17 ?_
  show lt_J X 2 60 (ly_S 228 214) _ 20 [(0, .ref (lt_z X + 225))] []
  refine jr_aload_n hF dX9_init_20 0 rfl rfl ?_
  show lt_J X 2 60 (ly_S 228 214) _ 21 [(0, .ref (lt_z X + 225))] [.ref (lt_z X + 225)]
  refine jr_bipush (v := 30) hF dX9_init_21 rfl ?_
  show lt_J X 2 60 (ly_S 228 214) _ 23 [(0, .ref (lt_z X + 225))] [.int 30, .ref (lt_z X + 225)]
  refine jr_newa_int (len := 30) (n := 30) hF lyq_10 rfl rfl (by decide) (by decide) rfl (hz.up (Nat.le_of_ble_eq_true rfl : 226 ≤ 228)) ⟨Nat.le_of_ble_eq_true rfl, Nat.le_of_ble_eq_true rfl⟩ dX9_init_23 ?_
  show lt_J X 3 90 (ly_S 229 214) _ 25 [(0, .ref (lt_z X + 225))] [.ref (lt_z X + 228), .ref (lt_z X + 225)]
  refine jr_putR (a := 225) (b := 228) hF hI clX9 (Nat.le_of_ble_eq_true rfl) lyf_X9_18 rfl rfl rfl (fun x => ⟨rfl, rfl⟩) (Nat.le_of_ble_eq_true rfl) rfl lyp_214 rfl dX9_init_25 ?_
  show lt_J X 3 90 (ly_S 229 215) _ 28 [(0, .ref (lt_z X + 225))] []
  refine jr_aload_n hF dX9_init_28 0 rfl rfl ?_
  show lt_J X 3 90 (ly_S 229 215) _ 29 [(0, .ref (lt_z X + 225))] [.ref (lt_z X + 225)]
  refine jr_bipush (v := 30) hF dX9_init_29 rfl ?_
  show lt_J X 3 90 (ly_S 229 215) _ 31 [(0, .ref (lt_z X + 225))] [.int 30, .ref (lt_z X + 225)]
  refine jr_newa_int (len := 30) (n := 30) hF lyq_10 rfl rfl (by decide) (by decide) rfl (hz.up (Nat.le_of_ble_eq_true rfl : 226 ≤ 229)) ⟨Nat.le_of_ble_eq_true rfl, Nat.le_of_ble_eq_true rfl⟩ dX9_init_31 ?_
  show lt_J X 4 120 (ly_S 230 215) _ 33 [(0, .ref (lt_z X + 225))] [.ref (lt_z X + 229), .ref (lt_z X + 225)]
  refine jr_putR (a := 225) (b := 229) hF hI clX9 (Nat.le_of_ble_eq_true rfl) lyf_X9_21 rfl rfl rfl (fun x => ⟨rfl, rfl⟩) (Nat.le_of_ble_eq_true rfl) rfl lyp_215 rfl dX9_init_33 ?_
  show lt_J X 4 120 (ly_S 230 216) _ 36 [(0, .ref (lt_z X + 225))] []
  refine jr_aload_n hF dX9_init_36 0 rfl rfl ?_
  show lt_J X 4 120 (ly_S 230 216) _ 37 [(0, .ref (lt_z X + 225))] [.ref (lt_z X + 225)]
  refine jr_bipush (v := 30) hF dX9_init_37 rfl ?_
  show lt_J X 4 120 (ly_S 230 216) _ 39 [(0, .ref (lt_z X + 225))] [.int 30, .ref (lt_z X + 225)]
  refine jr_newa_int (len := 30) (n := 30) hF lyq_10 rfl rfl (by decide) (by decide) rfl (hz.up (Nat.le_of_ble_eq_true rfl : 226 ≤ 230)) ⟨Nat.le_of_ble_eq_true rfl, Nat.le_of_ble_eq_true rfl⟩ dX9_init_39 ?_
  show lt_J X 5 150 (ly_S 231 216) _ 41 [(0, .ref (lt_z X + 225))] [.ref (lt_z X + 230), .ref (lt_z X + 225)]
  refine jr_putR (a := 225) (b := 230) hF hI clX9 (Nat.le_of_ble_eq_true rfl) lyf_X9_24 rfl rfl rfl (fun x => ⟨rfl, rfl⟩) (Nat.le_of_ble_eq_true rfl) rfl lyp_216 rfl dX9_init_41 ?_
  show lt_J X 5 150 (ly_S 231 217) _ 44 [(0, .ref (lt_z X + 225))] []
  refine jr_aload_n hF dX9_init_44 0 rfl rfl ?_
  show lt_J X 5 150 (ly_S 231 217) _ 45 [(0, .ref (lt_z X + 225))] [.ref (lt_z X + 225)]
  refine jr_bipush (v := 30) hF dX9_init_45 rfl ?_
  show lt_J X 5 150 (ly_S 231 217) _ 47 [(0, .ref (lt_z X + 225))] [.int 30, .ref (lt_z X + 225)]
  refine jr_newa_int (len := 30) (n := 30) hF lyq_10 rfl rfl (by decide) (by decide) rfl (hz.up (Nat.le_of_ble_eq_true rfl : 226 ≤ 231)) ⟨Nat.le_of_ble_eq_true rfl, Nat.le_of_ble_eq_true rfl⟩ dX9_init_47 ?_
  show lt_J X 6 180 (ly_S 232 217) _ 49 [(0, .ref (lt_z X + 225))] [.ref (lt_z X + 231), .ref (lt_z X + 225)]
  refine jr_putR (a := 225) (b := 231) hF hI clX9 (Nat.le_of_ble_eq_true rfl) lyf_X9_27 rfl rfl rfl (fun x => ⟨rfl, rfl⟩) (Nat.le_of_ble_eq_true rfl) rfl lyp_217 rfl dX9_init_49 ?_
  show lt_J X 6 180 (ly_S 232 218) _ 52 [(0, .ref (lt_z X + 225))] []
  refine jr_aload_n hF dX9_init_52 0 rfl rfl ?_
  show lt_J X 6 180 (ly_S 232 218) _ 53 [(0, .ref (lt_z X + 225))] [.ref (lt_z X + 225)]
  refine jr_bipush (v := 30) hF dX9_init_53 rfl ?_
  show lt_J X 6 180 (ly_S 232 218) _ 55 [(0, .ref (lt_z X + 225))] [.int 30, .ref (lt_z X + 225)]
  refine jr_newa_int (len := 30) (n := 30) hF lyq_10 rfl rfl (by decide) (by decide) rfl (hz.up (Nat.le_of_ble_eq_true rfl : 226 ≤ 232)) ⟨Nat.le_of_ble_eq_true rfl, Nat.le_of_ble_eq_true rfl⟩ dX9_init_55 ?_
  show lt_J X 7 210 (ly_S 233 218) _ 57 [(0, .ref (lt_z X + 225))] [.ref (lt_z X + 232), .ref (lt_z X + 225)]
  refine jr_putR (a := 225) (b := 232) hF hI clX9 (Nat.le_of_ble_eq_true rfl) lyf_X9_30 rfl rfl rfl (fun x => ⟨rfl, rfl⟩) (Nat.le_of_ble_eq_true rfl) rfl lyp_218 rfl dX9_init_57 ?_
  show lt_J X 7 210 (ly_S 233 219) _ 60 [(0, .ref (lt_z X + 225))] []
  exact jr_return hF hE dX9_init_60
def wI_X11_0 (w : lt_W) : lt_W := wI_X5_216 (wI_X5_199 (wI_X5_182 (wI_X2_169 (wI_X1_150 (wI_X4_117 (wI_X3_59 (wI_X0_49 (wI_X6_29 (wI_X5_12 (wI_X7_10 (lt_sl (w) 0 2 (1))))))))))))
theorem zI_X11_0 {w : lt_W} (hz : ly_z w 1) : ly_z (wI_X11_0 w) 233 := by
  have hz1 := hz.sl (b := 0) (j := 2) (v := (1)) (Nat.le_of_ble_eq_true rfl)
  have hz2 := zI_X7_10 (hz1.up (Nat.le_of_ble_eq_true rfl : 1 ≤ 11))
  have hz3 := zI_X5_12 (hz2.up (Nat.le_of_ble_eq_true rfl : 12 ≤ 13))
  have hz4 := zI_X6_29 (hz3.up (Nat.le_of_ble_eq_true rfl : 21 ≤ 30))
  have hz5 := zI_X0_49 (hz4.up (Nat.le_of_ble_eq_true rfl : 39 ≤ 50))
  have hz6 := zI_X3_59 (hz5.up (Nat.le_of_ble_eq_true rfl : 59 ≤ 60))
  have hz7 := zI_X4_117 (hz6.up (Nat.le_of_ble_eq_true rfl : 117 ≤ 118))
  have hz8 := zI_X1_150 (hz7.up (Nat.le_of_ble_eq_true rfl : 150 ≤ 151))
  have hz9 := zI_X2_169 (hz8.up (Nat.le_of_ble_eq_true rfl : 169 ≤ 170))
  have hz10 := zI_X5_182 (hz9.up (Nat.le_of_ble_eq_true rfl : 179 ≤ 183))
  have hz11 := zI_X5_199 (hz10.up (Nat.le_of_ble_eq_true rfl : 191 ≤ 200))
  have hz12 := zI_X5_216 (hz11.up (Nat.le_of_ble_eq_true rfl : 208 ≤ 217))
  exact hz12.up (Nat.le_of_ble_eq_true rfl)
set_option maxRecDepth 100000 in
set_option maxHeartbeats 4000000 in
theorem cI_X11_0 {l : Launch} {D : va_G} {gA : Nat → ClassId} {s0 : State} {w : lt_W} (hz : ly_z w 1) : lt_C l D gA s0 yX11_init cX11_init 2 none (lt_rmI 4 232 3713) [.ref (s0.heap.size + 0)] (ly_S 1 0) w (ly_S 233 220) none (wI_X11_0 w) := by
  refine lt_enterI rfl rfl (Nat.le_of_ble_eq_true rfl) (fun X e1 e2 e3 e4 hF hI hE => ?_)
  subst e1 e2 e3 e4
  have hF : lt_F X cX11_init RX11 2 (lt_rmI 4 232 3713) := hF
  show lt_J X 0 0 (ly_S 1 0) w 0 [(0, .ref (lt_z X + 0))] []
  refine jr_aload_n hF dX11_init_0 0 rfl rfl ?_
  show lt_J X 0 0 (ly_S 1 0) _ 1 [(0, .ref (lt_z X + 0))] [.ref (lt_z X + 0)]
  refine jr_objI hF lyq_76 lyq_1 lyq_2 ⟨Nat.le_of_ble_eq_true rfl, Nat.le_of_ble_eq_true rfl⟩ dX11_init_1 ?_
  show lt_J X 0 0 (ly_S 1 0) _ 4 [(0, .ref (lt_z X + 0))] []
  refine jr_aload_n hF dX11_init_4 0 rfl rfl ?_
  show lt_J X 0 0 (ly_S 1 0) _ 5 [(0, .ref (lt_z X + 0))] [.ref (lt_z X + 0)]
  refine jr_lconst (v := 1) hF dX11_init_5 rfl ?_
  show lt_J X 0 0 (ly_S 1 0) _ 6 [(0, .ref (lt_z X + 0))] [.long 1, .ref (lt_z X + 0)]
  refine jr_putL hF pf_X11_7 (ly_c (Nat.le_of_ble_eq_true rfl)) dX11_init_6 ?_
  have hz1 := hz.sl (b := 0) (j := 2) (v := (1)) (Nat.le_of_ble_eq_true rfl)
  show lt_J X 0 0 (ly_S 1 0) _ 9 [(0, .ref (lt_z X + 0))] []
  refine jr_aload_n hF dX11_init_9 0 rfl rfl ?_
  show lt_J X 0 0 (ly_S 1 0) _ 10 [(0, .ref (lt_z X + 0))] [.ref (lt_z X + 0)]
  refine jr_iconst (v := 4) hF dX11_init_10 rfl ?_
  show lt_J X 0 0 (ly_S 1 0) _ 11 [(0, .ref (lt_z X + 0))] [.int 4, .ref (lt_z X + 0)]
  refine jr_anew (len := 4) (c := 54) (q := 4) (C := "LoafTable$Tray") (n := 4) hF lyq_77 lyq_78 rfl (by decide) rfl rfl (by decide) (by decide) rfl (by decide +kernel) hz1 ⟨Nat.le_of_ble_eq_true rfl, Nat.le_of_ble_eq_true rfl⟩ dX11_init_11 ?_
  show lt_J X 1 4 (ly_S 2 0) _ 14 [(0, .ref (lt_z X + 0))] [.ref (lt_z X + 1), .ref (lt_z X + 0)]
  refine jr_putR (a := 0) (b := 1) hF hI clX11 (Nat.le_of_ble_eq_true rfl) lyf_X11_15 rfl rfl rfl (fun x => ⟨rfl, rfl⟩) (Nat.le_of_ble_eq_true rfl) rfl lyp_0 rfl dX11_init_14 ?_
  show lt_J X 1 4 (ly_S 2 1) _ 17 [(0, .ref (lt_z X + 0))] []
  refine jr_iconst (v := 0) hF dX11_init_17 rfl ?_
  show lt_J X 1 4 (ly_S 2 1) _ 18 [(0, .ref (lt_z X + 0))] [.int 0]
  refine jr_istore_n (lv' := [(0, .ref (lt_z X + 0)), (1, .int 0)]) hF dX11_init_18 rfl (by decide) [1, 0] rfl ?_
  show lt_J X 1 4 (ly_S 2 1) _ 19 [(0, .ref (lt_z X + 0)), (1, .int 0)] []
  refine jr_iload_n hF dX11_init_19 1 rfl rfl ?_
  show lt_J X 1 4 (ly_S 2 1) _ 20 [(0, .ref (lt_z X + 0)), (1, .int 0)] [.int 0]
  refine jr_iconst (v := 4) hF dX11_init_20 rfl ?_
  show lt_J X 1 4 (ly_S 2 1) _ 21 [(0, .ref (lt_z X + 0)), (1, .int 0)] [.int 4, .int 0]
  refine jr_icmp_ge (tgt := 43) (g1 := none) (g2 := some ()) (r := ()) hF dX11_init_21 rfl rfl (fun z => by cases z) (fun _ => ?_)
  show lt_J X 1 4 (ly_S 2 1) _ 24 [(0, .ref (lt_z X + 0)), (1, .int 0)] []
  refine jr_aload_n hF dX11_init_24 0 rfl rfl ?_
  show lt_J X 1 4 (ly_S 2 1) _ 25 [(0, .ref (lt_z X + 0)), (1, .int 0)] [.ref (lt_z X + 0)]
  refine jr_getR hF gf_X11_15 (ly_c (Nat.le_of_ble_eq_true rfl)) ((ly_rv1 (Or.inr (by decide +kernel))).trans rfl) dX11_init_25 ?_
  show lt_J X 1 4 (ly_S 2 1) _ 28 [(0, .ref (lt_z X + 0)), (1, .int 0)] [.ref (lt_z X + 1)]
  refine jr_iload_n hF dX11_init_28 1 rfl rfl ?_
  show lt_J X 1 4 (ly_S 2 1) _ 29 [(0, .ref (lt_z X + 0)), (1, .int 0)] [.int 0, .ref (lt_z X + 1)]
  refine jr_new (ci := 8) hF clX8 lyq_77 lyq_80 lyq_81 rfl dvX8 (by decide +kernel) (hz1.up (Nat.le_of_ble_eq_true rfl : 1 ≤ 2)) ⟨Nat.le_of_ble_eq_true rfl, Nat.le_of_ble_eq_true rfl⟩ dX11_init_29 ?_
  show lt_J X 2 8 (ly_S 3 1) _ 32 [(0, .ref (lt_z X + 0)), (1, .int 0)] [.ref (lt_z X + 2), .int 0, .ref (lt_z X + 1)]
  refine jr_dup hF dX11_init_32 rfl ?_
  show lt_J X 2 8 (ly_S 3 1) _ 33 [(0, .ref (lt_z X + 0)), (1, .int 0)] [.ref (lt_z X + 2), .ref (lt_z X + 2), .int 0, .ref (lt_z X + 1)]
  refine jr_callIN (As := []) (st := [.ref (lt_z X + 2), .int 0, .ref (lt_z X + 1)]) hF mi_X11_19 (cI_X8_2 (hz1.up (Nat.le_of_ble_eq_true rfl : 1 ≤ 3))) rfl ⟨Nat.le_of_ble_eq_true rfl, Nat.le_of_ble_eq_true rfl⟩ ⟨Nat.le_of_ble_eq_true rfl, Nat.le_of_ble_eq_true rfl⟩ (Nat.le_of_ble_eq_true rfl) dX11_init_33 ?_
  show lt_J X 3 68 (ly_S 4 2) _ 36 [(0, .ref (lt_z X + 0)), (1, .int 0)] [.ref (lt_z X + 2), .int 0, .ref (lt_z X + 1)]
  refine jr_aastR (a := 1) (b := 2) (q := 4) (c := 54) (k := 0) hF (show vwCl[8]? = some _ from rfl) rfl (by decide) (Nat.le_of_ble_eq_true rfl) rfl (Nat.le_of_ble_eq_true rfl) rfl (by decide) (by decide) (Nat.le_of_ble_eq_true rfl) lyp_2 rfl dX11_init_36 ?_
  show lt_J X 3 68 (ly_S 4 3) _ 37 [(0, .ref (lt_z X + 0)), (1, .int 0)] []
  refine jr_iinc (v := 1) (lv' := [(0, .ref (lt_z X + 0)), (1, .int 1)]) hF dX11_init_37 1 rfl rfl (by decide) [1, 0] rfl ?_
  show lt_J X 3 68 (ly_S 4 3) _ 40 [(0, .ref (lt_z X + 0)), (1, .int 1)] []
  refine jr_goto (tgt := 19) hF dX11_init_40 rfl ?_
  show lt_J X 3 68 (ly_S 4 3) _ 19 [(0, .ref (lt_z X + 0)), (1, .int 1)] []
  refine jr_iload_n hF dX11_init_19 1 rfl rfl ?_
  show lt_J X 3 68 (ly_S 4 3) _ 20 [(0, .ref (lt_z X + 0)), (1, .int 1)] [.int 1]
  refine jr_iconst (v := 4) hF dX11_init_20 rfl ?_
  show lt_J X 3 68 (ly_S 4 3) _ 21 [(0, .ref (lt_z X + 0)), (1, .int 1)] [.int 4, .int 1]
  refine jr_icmp_ge (tgt := 43) (g1 := none) (g2 := some ()) (r := ()) hF dX11_init_21 rfl rfl (fun z => by cases z) (fun _ => ?_)
  show lt_J X 3 68 (ly_S 4 3) _ 24 [(0, .ref (lt_z X + 0)), (1, .int 1)] []
  refine jr_aload_n hF dX11_init_24 0 rfl rfl ?_
  show lt_J X 3 68 (ly_S 4 3) _ 25 [(0, .ref (lt_z X + 0)), (1, .int 1)] [.ref (lt_z X + 0)]
  refine jr_getR hF gf_X11_15 (ly_c (Nat.le_of_ble_eq_true rfl)) ((ly_rv1 (Or.inr (by decide +kernel))).trans rfl) dX11_init_25 ?_
  show lt_J X 3 68 (ly_S 4 3) _ 28 [(0, .ref (lt_z X + 0)), (1, .int 1)] [.ref (lt_z X + 1)]
  refine jr_iload_n hF dX11_init_28 1 rfl rfl ?_
  show lt_J X 3 68 (ly_S 4 3) _ 29 [(0, .ref (lt_z X + 0)), (1, .int 1)] [.int 1, .ref (lt_z X + 1)]
  refine jr_new (ci := 8) hF clX8 lyq_77 lyq_80 lyq_81 rfl dvX8 (by decide +kernel) (hz1.up (Nat.le_of_ble_eq_true rfl : 1 ≤ 4)) ⟨Nat.le_of_ble_eq_true rfl, Nat.le_of_ble_eq_true rfl⟩ dX11_init_29 ?_
  show lt_J X 4 72 (ly_S 5 3) _ 32 [(0, .ref (lt_z X + 0)), (1, .int 1)] [.ref (lt_z X + 4), .int 1, .ref (lt_z X + 1)]
  refine jr_dup hF dX11_init_32 rfl ?_
  show lt_J X 4 72 (ly_S 5 3) _ 33 [(0, .ref (lt_z X + 0)), (1, .int 1)] [.ref (lt_z X + 4), .ref (lt_z X + 4), .int 1, .ref (lt_z X + 1)]
  refine jr_callIN (As := []) (st := [.ref (lt_z X + 4), .int 1, .ref (lt_z X + 1)]) hF mi_X11_19 (cI_X8_4 (hz1.up (Nat.le_of_ble_eq_true rfl : 1 ≤ 5))) rfl ⟨Nat.le_of_ble_eq_true rfl, Nat.le_of_ble_eq_true rfl⟩ ⟨Nat.le_of_ble_eq_true rfl, Nat.le_of_ble_eq_true rfl⟩ (Nat.le_of_ble_eq_true rfl) dX11_init_33 ?_
  show lt_J X 5 132 (ly_S 6 4) _ 36 [(0, .ref (lt_z X + 0)), (1, .int 1)] [.ref (lt_z X + 4), .int 1, .ref (lt_z X + 1)]
  refine jr_aastR (a := 1) (b := 4) (q := 4) (c := 54) (k := 1) hF (show vwCl[8]? = some _ from rfl) rfl (by decide) (Nat.le_of_ble_eq_true rfl) rfl (Nat.le_of_ble_eq_true rfl) rfl (by decide) (by decide) (Nat.le_of_ble_eq_true rfl) lyp_4 rfl dX11_init_36 ?_
  show lt_J X 5 132 (ly_S 6 5) _ 37 [(0, .ref (lt_z X + 0)), (1, .int 1)] []
  refine jr_iinc (v := 2) (lv' := [(0, .ref (lt_z X + 0)), (1, .int 2)]) hF dX11_init_37 1 rfl rfl (by decide) [1, 0] rfl ?_
  show lt_J X 5 132 (ly_S 6 5) _ 40 [(0, .ref (lt_z X + 0)), (1, .int 2)] []
  refine jr_goto (tgt := 19) hF dX11_init_40 rfl ?_
  show lt_J X 5 132 (ly_S 6 5) _ 19 [(0, .ref (lt_z X + 0)), (1, .int 2)] []
  refine jr_iload_n hF dX11_init_19 1 rfl rfl ?_
  show lt_J X 5 132 (ly_S 6 5) _ 20 [(0, .ref (lt_z X + 0)), (1, .int 2)] [.int 2]
  refine jr_iconst (v := 4) hF dX11_init_20 rfl ?_
  show lt_J X 5 132 (ly_S 6 5) _ 21 [(0, .ref (lt_z X + 0)), (1, .int 2)] [.int 4, .int 2]
  refine jr_icmp_ge (tgt := 43) (g1 := none) (g2 := some ()) (r := ()) hF dX11_init_21 rfl rfl (fun z => by cases z) (fun _ => ?_)
  show lt_J X 5 132 (ly_S 6 5) _ 24 [(0, .ref (lt_z X + 0)), (1, .int 2)] []
  refine jr_aload_n hF dX11_init_24 0 rfl rfl ?_
  show lt_J X 5 132 (ly_S 6 5) _ 25 [(0, .ref (lt_z X + 0)), (1, .int 2)] [.ref (lt_z X + 0)]
  refine jr_getR hF gf_X11_15 (ly_c (Nat.le_of_ble_eq_true rfl)) ((ly_rv1 (Or.inr (by decide +kernel))).trans rfl) dX11_init_25 ?_
  show lt_J X 5 132 (ly_S 6 5) _ 28 [(0, .ref (lt_z X + 0)), (1, .int 2)] [.ref (lt_z X + 1)]
  refine jr_iload_n hF dX11_init_28 1 rfl rfl ?_
  show lt_J X 5 132 (ly_S 6 5) _ 29 [(0, .ref (lt_z X + 0)), (1, .int 2)] [.int 2, .ref (lt_z X + 1)]
  refine jr_new (ci := 8) hF clX8 lyq_77 lyq_80 lyq_81 rfl dvX8 (by decide +kernel) (hz1.up (Nat.le_of_ble_eq_true rfl : 1 ≤ 6)) ⟨Nat.le_of_ble_eq_true rfl, Nat.le_of_ble_eq_true rfl⟩ dX11_init_29 ?_
  show lt_J X 6 136 (ly_S 7 5) _ 32 [(0, .ref (lt_z X + 0)), (1, .int 2)] [.ref (lt_z X + 6), .int 2, .ref (lt_z X + 1)]
  refine jr_dup hF dX11_init_32 rfl ?_
  show lt_J X 6 136 (ly_S 7 5) _ 33 [(0, .ref (lt_z X + 0)), (1, .int 2)] [.ref (lt_z X + 6), .ref (lt_z X + 6), .int 2, .ref (lt_z X + 1)]
  refine jr_callIN (As := []) (st := [.ref (lt_z X + 6), .int 2, .ref (lt_z X + 1)]) hF mi_X11_19 (cI_X8_6 (hz1.up (Nat.le_of_ble_eq_true rfl : 1 ≤ 7))) rfl ⟨Nat.le_of_ble_eq_true rfl, Nat.le_of_ble_eq_true rfl⟩ ⟨Nat.le_of_ble_eq_true rfl, Nat.le_of_ble_eq_true rfl⟩ (Nat.le_of_ble_eq_true rfl) dX11_init_33 ?_
  show lt_J X 7 196 (ly_S 8 6) _ 36 [(0, .ref (lt_z X + 0)), (1, .int 2)] [.ref (lt_z X + 6), .int 2, .ref (lt_z X + 1)]
  refine jr_aastR (a := 1) (b := 6) (q := 4) (c := 54) (k := 2) hF (show vwCl[8]? = some _ from rfl) rfl (by decide) (Nat.le_of_ble_eq_true rfl) rfl (Nat.le_of_ble_eq_true rfl) rfl (by decide) (by decide) (Nat.le_of_ble_eq_true rfl) lyp_6 rfl dX11_init_36 ?_
  show lt_J X 7 196 (ly_S 8 7) _ 37 [(0, .ref (lt_z X + 0)), (1, .int 2)] []
  refine jr_iinc (v := 3) (lv' := [(0, .ref (lt_z X + 0)), (1, .int 3)]) hF dX11_init_37 1 rfl rfl (by decide) [1, 0] rfl ?_
  show lt_J X 7 196 (ly_S 8 7) _ 40 [(0, .ref (lt_z X + 0)), (1, .int 3)] []
  refine jr_goto (tgt := 19) hF dX11_init_40 rfl ?_
  show lt_J X 7 196 (ly_S 8 7) _ 19 [(0, .ref (lt_z X + 0)), (1, .int 3)] []
  refine jr_iload_n hF dX11_init_19 1 rfl rfl ?_
  show lt_J X 7 196 (ly_S 8 7) _ 20 [(0, .ref (lt_z X + 0)), (1, .int 3)] [.int 3]
  refine jr_iconst (v := 4) hF dX11_init_20 rfl ?_
  show lt_J X 7 196 (ly_S 8 7) _ 21 [(0, .ref (lt_z X + 0)), (1, .int 3)] [.int 4, .int 3]
  refine jr_icmp_ge (tgt := 43) (g1 := none) (g2 := some ()) (r := ()) hF dX11_init_21 rfl rfl (fun z => by cases z) (fun _ => ?_)
  show lt_J X 7 196 (ly_S 8 7) _ 24 [(0, .ref (lt_z X + 0)), (1, .int 3)] []
  refine jr_aload_n hF dX11_init_24 0 rfl rfl ?_
  show lt_J X 7 196 (ly_S 8 7) _ 25 [(0, .ref (lt_z X + 0)), (1, .int 3)] [.ref (lt_z X + 0)]
  refine jr_getR hF gf_X11_15 (ly_c (Nat.le_of_ble_eq_true rfl)) ((ly_rv1 (Or.inr (by decide +kernel))).trans rfl) dX11_init_25 ?_
  show lt_J X 7 196 (ly_S 8 7) _ 28 [(0, .ref (lt_z X + 0)), (1, .int 3)] [.ref (lt_z X + 1)]
  refine jr_iload_n hF dX11_init_28 1 rfl rfl ?_
  show lt_J X 7 196 (ly_S 8 7) _ 29 [(0, .ref (lt_z X + 0)), (1, .int 3)] [.int 3, .ref (lt_z X + 1)]
  refine jr_new (ci := 8) hF clX8 lyq_77 lyq_80 lyq_81 rfl dvX8 (by decide +kernel) (hz1.up (Nat.le_of_ble_eq_true rfl : 1 ≤ 8)) ⟨Nat.le_of_ble_eq_true rfl, Nat.le_of_ble_eq_true rfl⟩ dX11_init_29 ?_
  show lt_J X 8 200 (ly_S 9 7) _ 32 [(0, .ref (lt_z X + 0)), (1, .int 3)] [.ref (lt_z X + 8), .int 3, .ref (lt_z X + 1)]
  refine jr_dup hF dX11_init_32 rfl ?_
  show lt_J X 8 200 (ly_S 9 7) _ 33 [(0, .ref (lt_z X + 0)), (1, .int 3)] [.ref (lt_z X + 8), .ref (lt_z X + 8), .int 3, .ref (lt_z X + 1)]
  refine jr_callIN (As := []) (st := [.ref (lt_z X + 8), .int 3, .ref (lt_z X + 1)]) hF mi_X11_19 (cI_X8_8 (hz1.up (Nat.le_of_ble_eq_true rfl : 1 ≤ 9))) rfl ⟨Nat.le_of_ble_eq_true rfl, Nat.le_of_ble_eq_true rfl⟩ ⟨Nat.le_of_ble_eq_true rfl, Nat.le_of_ble_eq_true rfl⟩ (Nat.le_of_ble_eq_true rfl) dX11_init_33 ?_
  show lt_J X 9 260 (ly_S 10 8) _ 36 [(0, .ref (lt_z X + 0)), (1, .int 3)] [.ref (lt_z X + 8), .int 3, .ref (lt_z X + 1)]
  refine jr_aastR (a := 1) (b := 8) (q := 4) (c := 54) (k := 3) hF (show vwCl[8]? = some _ from rfl) rfl (by decide) (Nat.le_of_ble_eq_true rfl) rfl (Nat.le_of_ble_eq_true rfl) rfl (by decide) (by decide) (Nat.le_of_ble_eq_true rfl) lyp_8 rfl dX11_init_36 ?_
  show lt_J X 9 260 (ly_S 10 9) _ 37 [(0, .ref (lt_z X + 0)), (1, .int 3)] []
  refine jr_iinc (v := 4) (lv' := [(0, .ref (lt_z X + 0)), (1, .int 4)]) hF dX11_init_37 1 rfl rfl (by decide) [1, 0] rfl ?_
  show lt_J X 9 260 (ly_S 10 9) _ 40 [(0, .ref (lt_z X + 0)), (1, .int 4)] []
  refine jr_goto (tgt := 19) hF dX11_init_40 rfl ?_
  show lt_J X 9 260 (ly_S 10 9) _ 19 [(0, .ref (lt_z X + 0)), (1, .int 4)] []
  refine jr_iload_n hF dX11_init_19 1 rfl rfl ?_
  show lt_J X 9 260 (ly_S 10 9) _ 20 [(0, .ref (lt_z X + 0)), (1, .int 4)] [.int 4]
  refine jr_iconst (v := 4) hF dX11_init_20 rfl ?_
  show lt_J X 9 260 (ly_S 10 9) _ 21 [(0, .ref (lt_z X + 0)), (1, .int 4)] [.int 4, .int 4]
  refine jr_icmp_ge (tgt := 43) (g1 := some ()) (g2 := none) (r := ()) hF dX11_init_21 rfl rfl (fun _ => ?_) (fun z => by cases z)
  show lt_J X 9 260 (ly_S 10 9) _ 43 [(0, .ref (lt_z X + 0)), (1, .int 4)] []
  refine jr_aload_n hF dX11_init_43 0 rfl rfl ?_
  show lt_J X 9 260 (ly_S 10 9) _ 44 [(0, .ref (lt_z X + 0)), (1, .int 4)] [.ref (lt_z X + 0)]
  refine jr_new (ci := 7) hF clX7 lyq_83 lyq_84 lyq_85 rfl dvX7 (by decide +kernel) (hz1.up (Nat.le_of_ble_eq_true rfl : 1 ≤ 10)) ⟨Nat.le_of_ble_eq_true rfl, Nat.le_of_ble_eq_true rfl⟩ dX11_init_44 ?_
  show lt_J X 10 271 (ly_S 11 9) _ 47 [(0, .ref (lt_z X + 0)), (1, .int 4)] [.ref (lt_z X + 10), .ref (lt_z X + 0)]
  refine jr_dup hF dX11_init_47 rfl ?_
  show lt_J X 10 271 (ly_S 11 9) _ 48 [(0, .ref (lt_z X + 0)), (1, .int 4)] [.ref (lt_z X + 10), .ref (lt_z X + 10), .ref (lt_z X + 0)]
  refine jr_callIN (As := []) (st := [.ref (lt_z X + 10), .ref (lt_z X + 0)]) hF mi_X11_22 (cI_X7_10 (hz1.up (Nat.le_of_ble_eq_true rfl : 1 ≤ 11))) rfl ⟨Nat.le_of_ble_eq_true rfl, Nat.le_of_ble_eq_true rfl⟩ ⟨Nat.le_of_ble_eq_true rfl, Nat.le_of_ble_eq_true rfl⟩ (Nat.le_of_ble_eq_true rfl) dX11_init_48 ?_
  have hz2 := zI_X7_10 (hz1.up (Nat.le_of_ble_eq_true rfl : 1 ≤ 11))
  show lt_J X 11 1171 (ly_S 12 10) _ 51 [(0, .ref (lt_z X + 0)), (1, .int 4)] [.ref (lt_z X + 10), .ref (lt_z X + 0)]
  refine jr_putR (a := 0) (b := 10) hF hI clX11 (Nat.le_of_ble_eq_true rfl) lyf_X11_23 rfl rfl rfl (fun x => ⟨rfl, rfl⟩) (Nat.le_of_ble_eq_true rfl) rfl lyp_10 rfl dX11_init_51 ?_
  show lt_J X 11 1171 (ly_S 12 11) _ 54 [(0, .ref (lt_z X + 0)), (1, .int 4)] []
  refine jr_aload_n hF dX11_init_54 0 rfl rfl ?_
  show lt_J X 11 1171 (ly_S 12 11) _ 55 [(0, .ref (lt_z X + 0)), (1, .int 4)] [.ref (lt_z X + 0)]
  refine jr_new (ci := 5) hF clX5 lyq_88 lyq_28 lyq_29 rfl dvX5 (by decide +kernel) hz2 ⟨Nat.le_of_ble_eq_true rfl, Nat.le_of_ble_eq_true rfl⟩ dX11_init_55 ?_
  show lt_J X 12 1188 (ly_S 13 11) _ 58 [(0, .ref (lt_z X + 0)), (1, .int 4)] [.ref (lt_z X + 12), .ref (lt_z X + 0)]
  refine jr_dup hF dX11_init_58 rfl ?_
  show lt_J X 12 1188 (ly_S 13 11) _ 59 [(0, .ref (lt_z X + 0)), (1, .int 4)] [.ref (lt_z X + 12), .ref (lt_z X + 12), .ref (lt_z X + 0)]
  refine jr_callI (As := []) (st := [.ref (lt_z X + 12), .ref (lt_z X + 0)]) hF mi_X11_29 (cI_X5_12 (hz2.up (Nat.le_of_ble_eq_true rfl : 12 ≤ 13))) rfl ⟨Nat.le_of_ble_eq_true rfl, Nat.le_of_ble_eq_true rfl⟩ ⟨Nat.le_of_ble_eq_true rfl, Nat.le_of_ble_eq_true rfl⟩ (Nat.le_of_ble_eq_true rfl) dX11_init_59 ?_
  have hz3 := zI_X5_12 (hz2.up (Nat.le_of_ble_eq_true rfl : 12 ≤ 13))
  show lt_J X 20 1244 (ly_S 21 19) _ 62 [(0, .ref (lt_z X + 0)), (1, .int 4)] [.ref (lt_z X + 12), .ref (lt_z X + 0)]
  refine jr_putR (a := 0) (b := 12) hF hI clX11 (Nat.le_of_ble_eq_true rfl) lyf_X11_30 rfl rfl rfl (fun x => ⟨rfl, rfl⟩) (Nat.le_of_ble_eq_true rfl) rfl lyp_19 rfl dX11_init_62 ?_
  show lt_J X 20 1244 (ly_S 21 20) _ 65 [(0, .ref (lt_z X + 0)), (1, .int 4)] []
  refine jr_aload_n hF dX11_init_65 0 rfl rfl ?_
  show lt_J X 20 1244 (ly_S 21 20) _ 66 [(0, .ref (lt_z X + 0)), (1, .int 4)] [.ref (lt_z X + 0)]
  refine jr_new (ci := 9) hF clX9 lyq_91 lyq_35 lyq_36 rfl dvX9 (by decide +kernel) hz3 ⟨Nat.le_of_ble_eq_true rfl, Nat.le_of_ble_eq_true rfl⟩ dX11_init_66 ?_
  show lt_J X 21 1253 (ly_S 22 20) _ 69 [(0, .ref (lt_z X + 0)), (1, .int 4)] [.ref (lt_z X + 21), .ref (lt_z X + 0)]
  refine jr_dup hF dX11_init_69 rfl ?_
  show lt_J X 21 1253 (ly_S 22 20) _ 70 [(0, .ref (lt_z X + 0)), (1, .int 4)] [.ref (lt_z X + 21), .ref (lt_z X + 21), .ref (lt_z X + 0)]
  refine jr_callIN (As := []) (st := [.ref (lt_z X + 21), .ref (lt_z X + 0)]) hF mi_X11_36 (cI_X9_21 (hz3.up (Nat.le_of_ble_eq_true rfl : 21 ≤ 22))) rfl ⟨Nat.le_of_ble_eq_true rfl, Nat.le_of_ble_eq_true rfl⟩ ⟨Nat.le_of_ble_eq_true rfl, Nat.le_of_ble_eq_true rfl⟩ (Nat.le_of_ble_eq_true rfl) dX11_init_70 ?_
  show lt_J X 28 1463 (ly_S 29 27) _ 73 [(0, .ref (lt_z X + 0)), (1, .int 4)] [.ref (lt_z X + 21), .ref (lt_z X + 0)]
  refine jr_putR (a := 0) (b := 21) hF hI clX11 (Nat.le_of_ble_eq_true rfl) lyf_X11_37 rfl rfl rfl (fun x => ⟨rfl, rfl⟩) (Nat.le_of_ble_eq_true rfl) rfl lyp_27 rfl dX11_init_73 ?_
  show lt_J X 28 1463 (ly_S 29 28) _ 76 [(0, .ref (lt_z X + 0)), (1, .int 4)] []
  refine jr_aload_n hF dX11_init_76 0 rfl rfl ?_
  show lt_J X 28 1463 (ly_S 29 28) _ 77 [(0, .ref (lt_z X + 0)), (1, .int 4)] [.ref (lt_z X + 0)]
  refine jr_new (ci := 6) hF clX6 lyq_94 lyq_95 lyq_96 rfl dvX6 (by decide +kernel) (hz3.up (Nat.le_of_ble_eq_true rfl : 21 ≤ 29)) ⟨Nat.le_of_ble_eq_true rfl, Nat.le_of_ble_eq_true rfl⟩ dX11_init_77 ?_
  show lt_J X 29 1466 (ly_S 30 28) _ 80 [(0, .ref (lt_z X + 0)), (1, .int 4)] [.ref (lt_z X + 29), .ref (lt_z X + 0)]
  refine jr_dup hF dX11_init_80 rfl ?_
  show lt_J X 29 1466 (ly_S 30 28) _ 81 [(0, .ref (lt_z X + 0)), (1, .int 4)] [.ref (lt_z X + 29), .ref (lt_z X + 29), .ref (lt_z X + 0)]
  refine jr_aload_n hF dX11_init_81 0 rfl rfl ?_
  show lt_J X 29 1466 (ly_S 30 28) _ 82 [(0, .ref (lt_z X + 0)), (1, .int 4)] [.ref (lt_z X + 0), .ref (lt_z X + 29), .ref (lt_z X + 29), .ref (lt_z X + 0)]
  refine jr_getR hF gf_X11_23 (ly_c (Nat.le_of_ble_eq_true rfl)) ((ly_rv1 (Or.inr (by decide +kernel))).trans rfl) dX11_init_82 ?_
  show lt_J X 29 1466 (ly_S 30 28) _ 85 [(0, .ref (lt_z X + 0)), (1, .int 4)] [.ref (lt_z X + 10), .ref (lt_z X + 29), .ref (lt_z X + 29), .ref (lt_z X + 0)]
  refine jr_callI (As := [.ref (lt_z X + 10)]) (st := [.ref (lt_z X + 29), .ref (lt_z X + 0)]) hF mi_X11_43 (cI_X6_29 (hz3.up (Nat.le_of_ble_eq_true rfl : 21 ≤ 30))) rfl ⟨Nat.le_of_ble_eq_true rfl, Nat.le_of_ble_eq_true rfl⟩ ⟨Nat.le_of_ble_eq_true rfl, Nat.le_of_ble_eq_true rfl⟩ (Nat.le_of_ble_eq_true rfl) dX11_init_85 ?_
  have hz4 := zI_X6_29 (hz3.up (Nat.le_of_ble_eq_true rfl : 21 ≤ 30))
  show lt_J X 38 1539 (ly_S 39 38) _ 88 [(0, .ref (lt_z X + 0)), (1, .int 4)] [.ref (lt_z X + 29), .ref (lt_z X + 0)]
  refine jr_putR (a := 0) (b := 29) hF hI clX11 (Nat.le_of_ble_eq_true rfl) lyf_X11_46 rfl rfl rfl (fun x => ⟨rfl, rfl⟩) (Nat.le_of_ble_eq_true rfl) rfl lyp_38 rfl dX11_init_88 ?_
  show lt_J X 38 1539 (ly_S 39 39) _ 91 [(0, .ref (lt_z X + 0)), (1, .int 4)] []
  refine jr_aload_n hF dX11_init_91 0 rfl rfl ?_
  show lt_J X 38 1539 (ly_S 39 39) _ 92 [(0, .ref (lt_z X + 0)), (1, .int 4)] [.ref (lt_z X + 0)]
  refine jr_new (ci := 10) hF clX10 lyq_99 lyq_100 lyq_101 rfl dvX10 (by decide +kernel) hz4 ⟨Nat.le_of_ble_eq_true rfl, Nat.le_of_ble_eq_true rfl⟩ dX11_init_92 ?_
  show lt_J X 39 1544 (ly_S 40 39) _ 95 [(0, .ref (lt_z X + 0)), (1, .int 4)] [.ref (lt_z X + 39), .ref (lt_z X + 0)]
  refine jr_dup hF dX11_init_95 rfl ?_
  show lt_J X 39 1544 (ly_S 40 39) _ 96 [(0, .ref (lt_z X + 0)), (1, .int 4)] [.ref (lt_z X + 39), .ref (lt_z X + 39), .ref (lt_z X + 0)]
  refine jr_aload_n hF dX11_init_96 0 rfl rfl ?_
  show lt_J X 39 1544 (ly_S 40 39) _ 97 [(0, .ref (lt_z X + 0)), (1, .int 4)] [.ref (lt_z X + 0), .ref (lt_z X + 39), .ref (lt_z X + 39), .ref (lt_z X + 0)]
  refine jr_getR hF gf_X11_23 (ly_c (Nat.le_of_ble_eq_true rfl)) ((ly_rv1 (Or.inr (by decide +kernel))).trans rfl) dX11_init_97 ?_
  show lt_J X 39 1544 (ly_S 40 39) _ 100 [(0, .ref (lt_z X + 0)), (1, .int 4)] [.ref (lt_z X + 10), .ref (lt_z X + 39), .ref (lt_z X + 39), .ref (lt_z X + 0)]
  refine jr_aload_n hF dX11_init_100 0 rfl rfl ?_
  show lt_J X 39 1544 (ly_S 40 39) _ 101 [(0, .ref (lt_z X + 0)), (1, .int 4)] [.ref (lt_z X + 0), .ref (lt_z X + 10), .ref (lt_z X + 39), .ref (lt_z X + 39), .ref (lt_z X + 0)]
  refine jr_getR hF gf_X11_30 (ly_c (Nat.le_of_ble_eq_true rfl)) ((ly_rv1 (Or.inr (by decide +kernel))).trans rfl) dX11_init_101 ?_
  show lt_J X 39 1544 (ly_S 40 39) _ 104 [(0, .ref (lt_z X + 0)), (1, .int 4)] [.ref (lt_z X + 12), .ref (lt_z X + 10), .ref (lt_z X + 39), .ref (lt_z X + 39), .ref (lt_z X + 0)]
  refine jr_callI (As := [.ref (lt_z X + 10), .ref (lt_z X + 12)]) (st := [.ref (lt_z X + 39), .ref (lt_z X + 0)]) hF mi_X11_52 (cI_X10_39 (hz4.up (Nat.le_of_ble_eq_true rfl : 39 ≤ 40))) rfl ⟨Nat.le_of_ble_eq_true rfl, Nat.le_of_ble_eq_true rfl⟩ ⟨Nat.le_of_ble_eq_true rfl, Nat.le_of_ble_eq_true rfl⟩ (Nat.le_of_ble_eq_true rfl) dX11_init_104 ?_
  show lt_J X 48 1766 (ly_S 49 50) _ 107 [(0, .ref (lt_z X + 0)), (1, .int 4)] [.ref (lt_z X + 39), .ref (lt_z X + 0)]
  refine jr_putR (a := 0) (b := 39) hF hI clX11 (Nat.le_of_ble_eq_true rfl) lyf_X11_55 rfl rfl rfl (fun x => ⟨rfl, rfl⟩) (Nat.le_of_ble_eq_true rfl) rfl lyp_50 rfl dX11_init_107 ?_
  show lt_J X 48 1766 (ly_S 49 51) _ 110 [(0, .ref (lt_z X + 0)), (1, .int 4)] []
  refine jr_aload_n hF dX11_init_110 0 rfl rfl ?_
  show lt_J X 48 1766 (ly_S 49 51) _ 111 [(0, .ref (lt_z X + 0)), (1, .int 4)] [.ref (lt_z X + 0)]
  refine jr_new (ci := 0) hF clX0 lyq_104 lyq_105 lyq_106 rfl dvX0 (by decide +kernel) (hz4.up (Nat.le_of_ble_eq_true rfl : 39 ≤ 49)) ⟨Nat.le_of_ble_eq_true rfl, Nat.le_of_ble_eq_true rfl⟩ dX11_init_111 ?_
  show lt_J X 49 1770 (ly_S 50 51) _ 114 [(0, .ref (lt_z X + 0)), (1, .int 4)] [.ref (lt_z X + 49), .ref (lt_z X + 0)]
  refine jr_dup hF dX11_init_114 rfl ?_
  show lt_J X 49 1770 (ly_S 50 51) _ 115 [(0, .ref (lt_z X + 0)), (1, .int 4)] [.ref (lt_z X + 49), .ref (lt_z X + 49), .ref (lt_z X + 0)]
  refine jr_aload_n hF dX11_init_115 0 rfl rfl ?_
  show lt_J X 49 1770 (ly_S 50 51) _ 116 [(0, .ref (lt_z X + 0)), (1, .int 4)] [.ref (lt_z X + 0), .ref (lt_z X + 49), .ref (lt_z X + 49), .ref (lt_z X + 0)]
  refine jr_getR hF gf_X11_30 (ly_c (Nat.le_of_ble_eq_true rfl)) ((ly_rv1 (Or.inr (by decide +kernel))).trans rfl) dX11_init_116 ?_
  show lt_J X 49 1770 (ly_S 50 51) _ 119 [(0, .ref (lt_z X + 0)), (1, .int 4)] [.ref (lt_z X + 12), .ref (lt_z X + 49), .ref (lt_z X + 49), .ref (lt_z X + 0)]
  refine jr_callI (As := [.ref (lt_z X + 12)]) (st := [.ref (lt_z X + 49), .ref (lt_z X + 0)]) hF mi_X11_61 (cI_X0_49 (hz4.up (Nat.le_of_ble_eq_true rfl : 39 ≤ 50))) rfl ⟨Nat.le_of_ble_eq_true rfl, Nat.le_of_ble_eq_true rfl⟩ ⟨Nat.le_of_ble_eq_true rfl, Nat.le_of_ble_eq_true rfl⟩ (Nat.le_of_ble_eq_true rfl) dX11_init_119 ?_
  have hz5 := zI_X0_49 (hz4.up (Nat.le_of_ble_eq_true rfl : 39 ≤ 50))
  show lt_J X 58 1843 (ly_S 59 61) _ 122 [(0, .ref (lt_z X + 0)), (1, .int 4)] [.ref (lt_z X + 49), .ref (lt_z X + 0)]
  refine jr_putR (a := 0) (b := 49) hF hI clX11 (Nat.le_of_ble_eq_true rfl) lyf_X11_64 rfl rfl rfl (fun x => ⟨rfl, rfl⟩) (Nat.le_of_ble_eq_true rfl) rfl lyp_61 rfl dX11_init_122 ?_
  show lt_J X 58 1843 (ly_S 59 62) _ 125 [(0, .ref (lt_z X + 0)), (1, .int 4)] []
  refine jr_aload_n hF dX11_init_125 0 rfl rfl ?_
  show lt_J X 58 1843 (ly_S 59 62) _ 126 [(0, .ref (lt_z X + 0)), (1, .int 4)] [.ref (lt_z X + 0)]
  refine jr_new (ci := 3) hF clX3 lyq_109 lyq_110 lyq_111 rfl dvX3 (by decide +kernel) hz5 ⟨Nat.le_of_ble_eq_true rfl, Nat.le_of_ble_eq_true rfl⟩ dX11_init_126 ?_
  show lt_J X 59 1848 (ly_S 60 62) _ 129 [(0, .ref (lt_z X + 0)), (1, .int 4)] [.ref (lt_z X + 59), .ref (lt_z X + 0)]
  refine jr_dup hF dX11_init_129 rfl ?_
  show lt_J X 59 1848 (ly_S 60 62) _ 130 [(0, .ref (lt_z X + 0)), (1, .int 4)] [.ref (lt_z X + 59), .ref (lt_z X + 59), .ref (lt_z X + 0)]
  refine jr_aload_n hF dX11_init_130 0 rfl rfl ?_
  show lt_J X 59 1848 (ly_S 60 62) _ 131 [(0, .ref (lt_z X + 0)), (1, .int 4)] [.ref (lt_z X + 0), .ref (lt_z X + 59), .ref (lt_z X + 59), .ref (lt_z X + 0)]
  refine jr_getR hF gf_X11_30 (ly_c (Nat.le_of_ble_eq_true rfl)) ((ly_rv1 (Or.inr (by decide +kernel))).trans rfl) dX11_init_131 ?_
  show lt_J X 59 1848 (ly_S 60 62) _ 134 [(0, .ref (lt_z X + 0)), (1, .int 4)] [.ref (lt_z X + 12), .ref (lt_z X + 59), .ref (lt_z X + 59), .ref (lt_z X + 0)]
  refine jr_callI (As := [.ref (lt_z X + 12)]) (st := [.ref (lt_z X + 59), .ref (lt_z X + 0)]) hF mi_X11_70 (cI_X3_59 (hz5.up (Nat.le_of_ble_eq_true rfl : 59 ≤ 60))) rfl ⟨Nat.le_of_ble_eq_true rfl, Nat.le_of_ble_eq_true rfl⟩ ⟨Nat.le_of_ble_eq_true rfl, Nat.le_of_ble_eq_true rfl⟩ (Nat.le_of_ble_eq_true rfl) dX11_init_134 ?_
  have hz6 := zI_X3_59 (hz5.up (Nat.le_of_ble_eq_true rfl : 59 ≤ 60))
  show lt_J X 116 2302 (ly_S 117 120) _ 137 [(0, .ref (lt_z X + 0)), (1, .int 4)] [.ref (lt_z X + 59), .ref (lt_z X + 0)]
  refine jr_putR (a := 0) (b := 59) hF hI clX11 (Nat.le_of_ble_eq_true rfl) lyf_X11_71 rfl rfl rfl (fun x => ⟨rfl, rfl⟩) (Nat.le_of_ble_eq_true rfl) rfl lyp_120 rfl dX11_init_137 ?_
  show lt_J X 116 2302 (ly_S 117 121) _ 140 [(0, .ref (lt_z X + 0)), (1, .int 4)] []
  refine jr_aload_n hF dX11_init_140 0 rfl rfl ?_
  show lt_J X 116 2302 (ly_S 117 121) _ 141 [(0, .ref (lt_z X + 0)), (1, .int 4)] [.ref (lt_z X + 0)]
  refine jr_new (ci := 4) hF clX4 lyq_114 lyq_115 lyq_116 rfl dvX4 (by decide +kernel) hz6 ⟨Nat.le_of_ble_eq_true rfl, Nat.le_of_ble_eq_true rfl⟩ dX11_init_141 ?_
  show lt_J X 117 2309 (ly_S 118 121) _ 144 [(0, .ref (lt_z X + 0)), (1, .int 4)] [.ref (lt_z X + 117), .ref (lt_z X + 0)]
  refine jr_dup hF dX11_init_144 rfl ?_
  show lt_J X 117 2309 (ly_S 118 121) _ 145 [(0, .ref (lt_z X + 0)), (1, .int 4)] [.ref (lt_z X + 117), .ref (lt_z X + 117), .ref (lt_z X + 0)]
  refine jr_aload_n hF dX11_init_145 0 rfl rfl ?_
  show lt_J X 117 2309 (ly_S 118 121) _ 146 [(0, .ref (lt_z X + 0)), (1, .int 4)] [.ref (lt_z X + 0), .ref (lt_z X + 117), .ref (lt_z X + 117), .ref (lt_z X + 0)]
  refine jr_getR hF gf_X11_30 (ly_c (Nat.le_of_ble_eq_true rfl)) ((ly_rv1 (Or.inr (by decide +kernel))).trans rfl) dX11_init_146 ?_
  show lt_J X 117 2309 (ly_S 118 121) _ 149 [(0, .ref (lt_z X + 0)), (1, .int 4)] [.ref (lt_z X + 12), .ref (lt_z X + 117), .ref (lt_z X + 117), .ref (lt_z X + 0)]
  refine jr_callI (As := [.ref (lt_z X + 12)]) (st := [.ref (lt_z X + 117), .ref (lt_z X + 0)]) hF mi_X11_77 (cI_X4_117 (hz6.up (Nat.le_of_ble_eq_true rfl : 117 ≤ 118))) rfl ⟨Nat.le_of_ble_eq_true rfl, Nat.le_of_ble_eq_true rfl⟩ ⟨Nat.le_of_ble_eq_true rfl, Nat.le_of_ble_eq_true rfl⟩ (Nat.le_of_ble_eq_true rfl) dX11_init_149 ?_
  have hz7 := zI_X4_117 (hz6.up (Nat.le_of_ble_eq_true rfl : 117 ≤ 118))
  show lt_J X 149 2592 (ly_S 150 133) _ 152 [(0, .ref (lt_z X + 0)), (1, .int 4)] [.ref (lt_z X + 117), .ref (lt_z X + 0)]
  refine jr_putR (a := 0) (b := 117) hF hI clX11 (Nat.le_of_ble_eq_true rfl) lyf_X11_78 rfl rfl rfl (fun x => ⟨rfl, rfl⟩) (Nat.le_of_ble_eq_true rfl) rfl lyp_133 rfl dX11_init_152 ?_
  show lt_J X 149 2592 (ly_S 150 134) _ 155 [(0, .ref (lt_z X + 0)), (1, .int 4)] []
  refine jr_aload_n hF dX11_init_155 0 rfl rfl ?_
  show lt_J X 149 2592 (ly_S 150 134) _ 156 [(0, .ref (lt_z X + 0)), (1, .int 4)] [.ref (lt_z X + 0)]
  refine jr_new (ci := 1) hF clX1 lyq_119 lyq_120 lyq_121 rfl dvX1 (by decide +kernel) hz7 ⟨Nat.le_of_ble_eq_true rfl, Nat.le_of_ble_eq_true rfl⟩ dX11_init_156 ?_
  show lt_J X 150 2599 (ly_S 151 134) _ 159 [(0, .ref (lt_z X + 0)), (1, .int 4)] [.ref (lt_z X + 150), .ref (lt_z X + 0)]
  refine jr_dup hF dX11_init_159 rfl ?_
  show lt_J X 150 2599 (ly_S 151 134) _ 160 [(0, .ref (lt_z X + 0)), (1, .int 4)] [.ref (lt_z X + 150), .ref (lt_z X + 150), .ref (lt_z X + 0)]
  refine jr_aload_n hF dX11_init_160 0 rfl rfl ?_
  show lt_J X 150 2599 (ly_S 151 134) _ 161 [(0, .ref (lt_z X + 0)), (1, .int 4)] [.ref (lt_z X + 0), .ref (lt_z X + 150), .ref (lt_z X + 150), .ref (lt_z X + 0)]
  refine jr_getR hF gf_X11_30 (ly_c (Nat.le_of_ble_eq_true rfl)) ((ly_rv1 (Or.inr (by decide +kernel))).trans rfl) dX11_init_161 ?_
  show lt_J X 150 2599 (ly_S 151 134) _ 164 [(0, .ref (lt_z X + 0)), (1, .int 4)] [.ref (lt_z X + 12), .ref (lt_z X + 150), .ref (lt_z X + 150), .ref (lt_z X + 0)]
  refine jr_callI (As := [.ref (lt_z X + 12)]) (st := [.ref (lt_z X + 150), .ref (lt_z X + 0)]) hF mi_X11_84 (cI_X1_150 (hz7.up (Nat.le_of_ble_eq_true rfl : 150 ≤ 151))) rfl ⟨Nat.le_of_ble_eq_true rfl, Nat.le_of_ble_eq_true rfl⟩ ⟨Nat.le_of_ble_eq_true rfl, Nat.le_of_ble_eq_true rfl⟩ (Nat.le_of_ble_eq_true rfl) dX11_init_164 ?_
  have hz8 := zI_X1_150 (hz7.up (Nat.le_of_ble_eq_true rfl : 150 ≤ 151))
  show lt_J X 168 2745 (ly_S 169 153) _ 167 [(0, .ref (lt_z X + 0)), (1, .int 4)] [.ref (lt_z X + 150), .ref (lt_z X + 0)]
  refine jr_putR (a := 0) (b := 150) hF hI clX11 (Nat.le_of_ble_eq_true rfl) lyf_X11_85 rfl rfl rfl (fun x => ⟨rfl, rfl⟩) (Nat.le_of_ble_eq_true rfl) rfl lyp_153 rfl dX11_init_167 ?_
  show lt_J X 168 2745 (ly_S 169 154) _ 170 [(0, .ref (lt_z X + 0)), (1, .int 4)] []
  refine jr_aload_n hF dX11_init_170 0 rfl rfl ?_
  show lt_J X 168 2745 (ly_S 169 154) _ 171 [(0, .ref (lt_z X + 0)), (1, .int 4)] [.ref (lt_z X + 0)]
  refine jr_new (ci := 2) hF clX2 lyq_124 lyq_125 lyq_126 rfl dvX2 (by decide +kernel) hz8 ⟨Nat.le_of_ble_eq_true rfl, Nat.le_of_ble_eq_true rfl⟩ dX11_init_171 ?_
  show lt_J X 169 2753 (ly_S 170 154) _ 174 [(0, .ref (lt_z X + 0)), (1, .int 4)] [.ref (lt_z X + 169), .ref (lt_z X + 0)]
  refine jr_dup hF dX11_init_174 rfl ?_
  show lt_J X 169 2753 (ly_S 170 154) _ 175 [(0, .ref (lt_z X + 0)), (1, .int 4)] [.ref (lt_z X + 169), .ref (lt_z X + 169), .ref (lt_z X + 0)]
  refine jr_aload_n hF dX11_init_175 0 rfl rfl ?_
  show lt_J X 169 2753 (ly_S 170 154) _ 176 [(0, .ref (lt_z X + 0)), (1, .int 4)] [.ref (lt_z X + 0), .ref (lt_z X + 169), .ref (lt_z X + 169), .ref (lt_z X + 0)]
  refine jr_getR hF gf_X11_30 (ly_c (Nat.le_of_ble_eq_true rfl)) ((ly_rv1 (Or.inr (by decide +kernel))).trans rfl) dX11_init_176 ?_
  show lt_J X 169 2753 (ly_S 170 154) _ 179 [(0, .ref (lt_z X + 0)), (1, .int 4)] [.ref (lt_z X + 12), .ref (lt_z X + 169), .ref (lt_z X + 169), .ref (lt_z X + 0)]
  refine jr_aload_n hF dX11_init_179 0 rfl rfl ?_
  show lt_J X 169 2753 (ly_S 170 154) _ 180 [(0, .ref (lt_z X + 0)), (1, .int 4)] [.ref (lt_z X + 0), .ref (lt_z X + 12), .ref (lt_z X + 169), .ref (lt_z X + 169), .ref (lt_z X + 0)]
  refine jr_getR hF gf_X11_37 (ly_c (Nat.le_of_ble_eq_true rfl)) ((ly_rv1 (Or.inr (by decide +kernel))).trans rfl) dX11_init_180 ?_
  show lt_J X 169 2753 (ly_S 170 154) _ 183 [(0, .ref (lt_z X + 0)), (1, .int 4)] [.ref (lt_z X + 21), .ref (lt_z X + 12), .ref (lt_z X + 169), .ref (lt_z X + 169), .ref (lt_z X + 0)]
  refine jr_callI (As := [.ref (lt_z X + 12), .ref (lt_z X + 21)]) (st := [.ref (lt_z X + 169), .ref (lt_z X + 0)]) hF mi_X11_91 (cI_X2_169 (hz8.up (Nat.le_of_ble_eq_true rfl : 169 ≤ 170))) rfl ⟨Nat.le_of_ble_eq_true rfl, Nat.le_of_ble_eq_true rfl⟩ ⟨Nat.le_of_ble_eq_true rfl, Nat.le_of_ble_eq_true rfl⟩ (Nat.le_of_ble_eq_true rfl) dX11_init_183 ?_
  have hz9 := zI_X2_169 (hz8.up (Nat.le_of_ble_eq_true rfl : 169 ≤ 170))
  show lt_J X 178 2826 (ly_S 179 165) _ 186 [(0, .ref (lt_z X + 0)), (1, .int 4)] [.ref (lt_z X + 169), .ref (lt_z X + 0)]
  refine jr_putR (a := 0) (b := 169) hF hI clX11 (Nat.le_of_ble_eq_true rfl) lyf_X11_94 rfl rfl rfl (fun x => ⟨rfl, rfl⟩) (Nat.le_of_ble_eq_true rfl) rfl lyp_165 rfl dX11_init_186 ?_
  show lt_J X 178 2826 (ly_S 179 166) _ 189 [(0, .ref (lt_z X + 0)), (1, .int 4)] []
  refine jr_aload_n hF dX11_init_189 0 rfl rfl ?_
  show lt_J X 178 2826 (ly_S 179 166) _ 190 [(0, .ref (lt_z X + 0)), (1, .int 4)] [.ref (lt_z X + 0)]
  refine jr_iconst (v := 5) hF dX11_init_190 rfl ?_
  show lt_J X 178 2826 (ly_S 179 166) _ 191 [(0, .ref (lt_z X + 0)), (1, .int 4)] [.int 5, .ref (lt_z X + 0)]
  refine jr_newa_int (len := 5) (n := 5) hF lyq_10 rfl rfl (by decide) (by decide) rfl hz9 ⟨Nat.le_of_ble_eq_true rfl, Nat.le_of_ble_eq_true rfl⟩ dX11_init_191 ?_
  show lt_J X 179 2831 (ly_S 180 166) _ 193 [(0, .ref (lt_z X + 0)), (1, .int 4)] [.ref (lt_z X + 179), .ref (lt_z X + 0)]
  refine jr_putR (a := 0) (b := 179) hF hI clX11 (Nat.le_of_ble_eq_true rfl) lyf_X11_98 rfl rfl rfl (fun x => ⟨rfl, rfl⟩) (Nat.le_of_ble_eq_true rfl) rfl lyp_166 rfl dX11_init_193 ?_
  show lt_J X 179 2831 (ly_S 180 167) _ 196 [(0, .ref (lt_z X + 0)), (1, .int 4)] []
  refine jr_aload_n hF dX11_init_196 0 rfl rfl ?_
  show lt_J X 179 2831 (ly_S 180 167) _ 197 [(0, .ref (lt_z X + 0)), (1, .int 4)] [.ref (lt_z X + 0)]
  refine jr_iconst (v := 3) hF dX11_init_197 rfl ?_
  show lt_J X 179 2831 (ly_S 180 167) _ 198 [(0, .ref (lt_z X + 0)), (1, .int 4)] [.int 3, .ref (lt_z X + 0)]
  refine jr_anew (len := 3) (c := 55) (q := 5) (C := "LoafTable$Table") (n := 3) hF lyq_88 lyq_49 rfl (by decide) rfl rfl (by decide) (by decide) rfl (by decide +kernel) (hz9.up (Nat.le_of_ble_eq_true rfl : 179 ≤ 180)) ⟨Nat.le_of_ble_eq_true rfl, Nat.le_of_ble_eq_true rfl⟩ dX11_init_198 ?_
  show lt_J X 180 2834 (ly_S 181 167) _ 201 [(0, .ref (lt_z X + 0)), (1, .int 4)] [.ref (lt_z X + 180), .ref (lt_z X + 0)]
  refine jr_putR (a := 0) (b := 180) hF hI clX11 (Nat.le_of_ble_eq_true rfl) lyf_X11_102 rfl rfl rfl (fun x => ⟨rfl, rfl⟩) (Nat.le_of_ble_eq_true rfl) rfl lyp_167 rfl dX11_init_201 ?_
  show lt_J X 180 2834 (ly_S 181 168) _ 204 [(0, .ref (lt_z X + 0)), (1, .int 4)] []
  refine jr_aload_n hF dX11_init_204 0 rfl rfl ?_
  show lt_J X 180 2834 (ly_S 181 168) _ 205 [(0, .ref (lt_z X + 0)), (1, .int 4)] [.ref (lt_z X + 0)]
  refine jr_iconst (v := 3) hF dX11_init_205 rfl ?_
  show lt_J X 180 2834 (ly_S 181 168) _ 206 [(0, .ref (lt_z X + 0)), (1, .int 4)] [.int 3, .ref (lt_z X + 0)]
  refine jr_anew (len := 3) (c := 56) (q := 6) (C := "LoafTable$Weeks") (n := 3) hF lyq_91 lyq_131 rfl (by decide) rfl rfl (by decide) (by decide) rfl (by decide +kernel) (hz9.up (Nat.le_of_ble_eq_true rfl : 179 ≤ 181)) ⟨Nat.le_of_ble_eq_true rfl, Nat.le_of_ble_eq_true rfl⟩ dX11_init_206 ?_
  show lt_J X 181 2837 (ly_S 182 168) _ 209 [(0, .ref (lt_z X + 0)), (1, .int 4)] [.ref (lt_z X + 181), .ref (lt_z X + 0)]
  refine jr_putR (a := 0) (b := 181) hF hI clX11 (Nat.le_of_ble_eq_true rfl) lyf_X11_106 rfl rfl rfl (fun x => ⟨rfl, rfl⟩) (Nat.le_of_ble_eq_true rfl) rfl lyp_168 rfl dX11_init_209 ?_
  show lt_J X 181 2837 (ly_S 182 169) _ 212 [(0, .ref (lt_z X + 0)), (1, .int 4)] []
  refine jr_iconst (v := 0) hF dX11_init_212 rfl ?_
  show lt_J X 181 2837 (ly_S 182 169) _ 213 [(0, .ref (lt_z X + 0)), (1, .int 4)] [.int 0]
  refine jr_istore_n (lv' := [(0, .ref (lt_z X + 0)), (1, .int 0)]) hF dX11_init_213 rfl (by decide) [1, 0] rfl ?_
  show lt_J X 181 2837 (ly_S 182 169) _ 214 [(0, .ref (lt_z X + 0)), (1, .int 0)] []
  refine jr_iload_n hF dX11_init_214 1 rfl rfl ?_
  show lt_J X 181 2837 (ly_S 182 169) _ 215 [(0, .ref (lt_z X + 0)), (1, .int 0)] [.int 0]
  refine jr_iconst (v := 3) hF dX11_init_215 rfl ?_
  show lt_J X 181 2837 (ly_S 182 169) _ 216 [(0, .ref (lt_z X + 0)), (1, .int 0)] [.int 3, .int 0]
  refine jr_icmp_ge (tgt := 251) (g1 := none) (g2 := some ()) (r := ()) hF dX11_init_216 rfl rfl (fun z => by cases z) (fun _ => ?_)
  show lt_J X 181 2837 (ly_S 182 169) _ 219 [(0, .ref (lt_z X + 0)), (1, .int 0)] []
  refine jr_aload_n hF dX11_init_219 0 rfl rfl ?_
  show lt_J X 181 2837 (ly_S 182 169) _ 220 [(0, .ref (lt_z X + 0)), (1, .int 0)] [.ref (lt_z X + 0)]
  refine jr_getR hF gf_X11_102 (ly_c (Nat.le_of_ble_eq_true rfl)) ((ly_rv1 (Or.inr (by decide +kernel))).trans rfl) dX11_init_220 ?_
  show lt_J X 181 2837 (ly_S 182 169) _ 223 [(0, .ref (lt_z X + 0)), (1, .int 0)] [.ref (lt_z X + 180)]
  refine jr_iload_n hF dX11_init_223 1 rfl rfl ?_
  show lt_J X 181 2837 (ly_S 182 169) _ 224 [(0, .ref (lt_z X + 0)), (1, .int 0)] [.int 0, .ref (lt_z X + 180)]
  refine jr_new (ci := 5) hF clX5 lyq_88 lyq_28 lyq_29 rfl dvX5 (by decide +kernel) (hz9.up (Nat.le_of_ble_eq_true rfl : 179 ≤ 182)) ⟨Nat.le_of_ble_eq_true rfl, Nat.le_of_ble_eq_true rfl⟩ dX11_init_224 ?_
  show lt_J X 182 2854 (ly_S 183 169) _ 227 [(0, .ref (lt_z X + 0)), (1, .int 0)] [.ref (lt_z X + 182), .int 0, .ref (lt_z X + 180)]
  refine jr_dup hF dX11_init_227 rfl ?_
  show lt_J X 182 2854 (ly_S 183 169) _ 228 [(0, .ref (lt_z X + 0)), (1, .int 0)] [.ref (lt_z X + 182), .ref (lt_z X + 182), .int 0, .ref (lt_z X + 180)]
  refine jr_callI (As := []) (st := [.ref (lt_z X + 182), .int 0, .ref (lt_z X + 180)]) hF mi_X11_29 (cI_X5_182 (hz9.up (Nat.le_of_ble_eq_true rfl : 179 ≤ 183))) rfl ⟨Nat.le_of_ble_eq_true rfl, Nat.le_of_ble_eq_true rfl⟩ ⟨Nat.le_of_ble_eq_true rfl, Nat.le_of_ble_eq_true rfl⟩ (Nat.le_of_ble_eq_true rfl) dX11_init_228 ?_
  have hz10 := zI_X5_182 (hz9.up (Nat.le_of_ble_eq_true rfl : 179 ≤ 183))
  show lt_J X 190 2910 (ly_S 191 177) _ 231 [(0, .ref (lt_z X + 0)), (1, .int 0)] [.ref (lt_z X + 182), .int 0, .ref (lt_z X + 180)]
  refine jr_aastR (a := 180) (b := 182) (q := 5) (c := 55) (k := 0) hF (show vwCl[5]? = some _ from rfl) rfl (by decide) (Nat.le_of_ble_eq_true rfl) rfl (Nat.le_of_ble_eq_true rfl) rfl (by decide) (by decide) (Nat.le_of_ble_eq_true rfl) lyp_177 rfl dX11_init_231 ?_
  show lt_J X 190 2910 (ly_S 191 178) _ 232 [(0, .ref (lt_z X + 0)), (1, .int 0)] []
  refine jr_aload_n hF dX11_init_232 0 rfl rfl ?_
  show lt_J X 190 2910 (ly_S 191 178) _ 233 [(0, .ref (lt_z X + 0)), (1, .int 0)] [.ref (lt_z X + 0)]
  refine jr_getR hF gf_X11_106 (ly_c (Nat.le_of_ble_eq_true rfl)) ((ly_rv1 (Or.inr (by decide +kernel))).trans rfl) dX11_init_233 ?_
  show lt_J X 190 2910 (ly_S 191 178) _ 236 [(0, .ref (lt_z X + 0)), (1, .int 0)] [.ref (lt_z X + 181)]
  refine jr_iload_n hF dX11_init_236 1 rfl rfl ?_
  show lt_J X 190 2910 (ly_S 191 178) _ 237 [(0, .ref (lt_z X + 0)), (1, .int 0)] [.int 0, .ref (lt_z X + 181)]
  refine jr_new (ci := 9) hF clX9 lyq_91 lyq_35 lyq_36 rfl dvX9 (by decide +kernel) hz10 ⟨Nat.le_of_ble_eq_true rfl, Nat.le_of_ble_eq_true rfl⟩ dX11_init_237 ?_
  show lt_J X 191 2919 (ly_S 192 178) _ 240 [(0, .ref (lt_z X + 0)), (1, .int 0)] [.ref (lt_z X + 191), .int 0, .ref (lt_z X + 181)]
  refine jr_dup hF dX11_init_240 rfl ?_
  show lt_J X 191 2919 (ly_S 192 178) _ 241 [(0, .ref (lt_z X + 0)), (1, .int 0)] [.ref (lt_z X + 191), .ref (lt_z X + 191), .int 0, .ref (lt_z X + 181)]
  refine jr_callIN (As := []) (st := [.ref (lt_z X + 191), .int 0, .ref (lt_z X + 181)]) hF mi_X11_36 (cI_X9_191 (hz10.up (Nat.le_of_ble_eq_true rfl : 191 ≤ 192))) rfl ⟨Nat.le_of_ble_eq_true rfl, Nat.le_of_ble_eq_true rfl⟩ ⟨Nat.le_of_ble_eq_true rfl, Nat.le_of_ble_eq_true rfl⟩ (Nat.le_of_ble_eq_true rfl) dX11_init_241 ?_
  show lt_J X 198 3129 (ly_S 199 185) _ 244 [(0, .ref (lt_z X + 0)), (1, .int 0)] [.ref (lt_z X + 191), .int 0, .ref (lt_z X + 181)]
  refine jr_aastR (a := 181) (b := 191) (q := 6) (c := 56) (k := 0) hF (show vwCl[9]? = some _ from rfl) rfl (by decide) (Nat.le_of_ble_eq_true rfl) rfl (Nat.le_of_ble_eq_true rfl) rfl (by decide) (by decide) (Nat.le_of_ble_eq_true rfl) lyp_185 rfl dX11_init_244 ?_
  show lt_J X 198 3129 (ly_S 199 186) _ 245 [(0, .ref (lt_z X + 0)), (1, .int 0)] []
  refine jr_iinc (v := 1) (lv' := [(0, .ref (lt_z X + 0)), (1, .int 1)]) hF dX11_init_245 1 rfl rfl (by decide) [1, 0] rfl ?_
  show lt_J X 198 3129 (ly_S 199 186) _ 248 [(0, .ref (lt_z X + 0)), (1, .int 1)] []
  refine jr_goto (tgt := 214) hF dX11_init_248 rfl ?_
  show lt_J X 198 3129 (ly_S 199 186) _ 214 [(0, .ref (lt_z X + 0)), (1, .int 1)] []
  refine jr_iload_n hF dX11_init_214 1 rfl rfl ?_
  show lt_J X 198 3129 (ly_S 199 186) _ 215 [(0, .ref (lt_z X + 0)), (1, .int 1)] [.int 1]
  refine jr_iconst (v := 3) hF dX11_init_215 rfl ?_
  show lt_J X 198 3129 (ly_S 199 186) _ 216 [(0, .ref (lt_z X + 0)), (1, .int 1)] [.int 3, .int 1]
  refine jr_icmp_ge (tgt := 251) (g1 := none) (g2 := some ()) (r := ()) hF dX11_init_216 rfl rfl (fun z => by cases z) (fun _ => ?_)
  show lt_J X 198 3129 (ly_S 199 186) _ 219 [(0, .ref (lt_z X + 0)), (1, .int 1)] []
  refine jr_aload_n hF dX11_init_219 0 rfl rfl ?_
  show lt_J X 198 3129 (ly_S 199 186) _ 220 [(0, .ref (lt_z X + 0)), (1, .int 1)] [.ref (lt_z X + 0)]
  refine jr_getR hF gf_X11_102 (ly_c (Nat.le_of_ble_eq_true rfl)) ((ly_rv1 (Or.inr (by decide +kernel))).trans rfl) dX11_init_220 ?_
  show lt_J X 198 3129 (ly_S 199 186) _ 223 [(0, .ref (lt_z X + 0)), (1, .int 1)] [.ref (lt_z X + 180)]
  refine jr_iload_n hF dX11_init_223 1 rfl rfl ?_
  show lt_J X 198 3129 (ly_S 199 186) _ 224 [(0, .ref (lt_z X + 0)), (1, .int 1)] [.int 1, .ref (lt_z X + 180)]
  refine jr_new (ci := 5) hF clX5 lyq_88 lyq_28 lyq_29 rfl dvX5 (by decide +kernel) (hz10.up (Nat.le_of_ble_eq_true rfl : 191 ≤ 199)) ⟨Nat.le_of_ble_eq_true rfl, Nat.le_of_ble_eq_true rfl⟩ dX11_init_224 ?_
  show lt_J X 199 3146 (ly_S 200 186) _ 227 [(0, .ref (lt_z X + 0)), (1, .int 1)] [.ref (lt_z X + 199), .int 1, .ref (lt_z X + 180)]
  refine jr_dup hF dX11_init_227 rfl ?_
  show lt_J X 199 3146 (ly_S 200 186) _ 228 [(0, .ref (lt_z X + 0)), (1, .int 1)] [.ref (lt_z X + 199), .ref (lt_z X + 199), .int 1, .ref (lt_z X + 180)]
  refine jr_callI (As := []) (st := [.ref (lt_z X + 199), .int 1, .ref (lt_z X + 180)]) hF mi_X11_29 (cI_X5_199 (hz10.up (Nat.le_of_ble_eq_true rfl : 191 ≤ 200))) rfl ⟨Nat.le_of_ble_eq_true rfl, Nat.le_of_ble_eq_true rfl⟩ ⟨Nat.le_of_ble_eq_true rfl, Nat.le_of_ble_eq_true rfl⟩ (Nat.le_of_ble_eq_true rfl) dX11_init_228 ?_
  have hz11 := zI_X5_199 (hz10.up (Nat.le_of_ble_eq_true rfl : 191 ≤ 200))
  show lt_J X 207 3202 (ly_S 208 194) _ 231 [(0, .ref (lt_z X + 0)), (1, .int 1)] [.ref (lt_z X + 199), .int 1, .ref (lt_z X + 180)]
  refine jr_aastR (a := 180) (b := 199) (q := 5) (c := 55) (k := 1) hF (show vwCl[5]? = some _ from rfl) rfl (by decide) (Nat.le_of_ble_eq_true rfl) rfl (Nat.le_of_ble_eq_true rfl) rfl (by decide) (by decide) (Nat.le_of_ble_eq_true rfl) lyp_194 rfl dX11_init_231 ?_
  show lt_J X 207 3202 (ly_S 208 195) _ 232 [(0, .ref (lt_z X + 0)), (1, .int 1)] []
  refine jr_aload_n hF dX11_init_232 0 rfl rfl ?_
  show lt_J X 207 3202 (ly_S 208 195) _ 233 [(0, .ref (lt_z X + 0)), (1, .int 1)] [.ref (lt_z X + 0)]
  refine jr_getR hF gf_X11_106 (ly_c (Nat.le_of_ble_eq_true rfl)) ((ly_rv1 (Or.inr (by decide +kernel))).trans rfl) dX11_init_233 ?_
  show lt_J X 207 3202 (ly_S 208 195) _ 236 [(0, .ref (lt_z X + 0)), (1, .int 1)] [.ref (lt_z X + 181)]
  refine jr_iload_n hF dX11_init_236 1 rfl rfl ?_
  show lt_J X 207 3202 (ly_S 208 195) _ 237 [(0, .ref (lt_z X + 0)), (1, .int 1)] [.int 1, .ref (lt_z X + 181)]
  refine jr_new (ci := 9) hF clX9 lyq_91 lyq_35 lyq_36 rfl dvX9 (by decide +kernel) hz11 ⟨Nat.le_of_ble_eq_true rfl, Nat.le_of_ble_eq_true rfl⟩ dX11_init_237 ?_
  show lt_J X 208 3211 (ly_S 209 195) _ 240 [(0, .ref (lt_z X + 0)), (1, .int 1)] [.ref (lt_z X + 208), .int 1, .ref (lt_z X + 181)]
  refine jr_dup hF dX11_init_240 rfl ?_
  show lt_J X 208 3211 (ly_S 209 195) _ 241 [(0, .ref (lt_z X + 0)), (1, .int 1)] [.ref (lt_z X + 208), .ref (lt_z X + 208), .int 1, .ref (lt_z X + 181)]
  refine jr_callIN (As := []) (st := [.ref (lt_z X + 208), .int 1, .ref (lt_z X + 181)]) hF mi_X11_36 (cI_X9_208 (hz11.up (Nat.le_of_ble_eq_true rfl : 208 ≤ 209))) rfl ⟨Nat.le_of_ble_eq_true rfl, Nat.le_of_ble_eq_true rfl⟩ ⟨Nat.le_of_ble_eq_true rfl, Nat.le_of_ble_eq_true rfl⟩ (Nat.le_of_ble_eq_true rfl) dX11_init_241 ?_
  show lt_J X 215 3421 (ly_S 216 202) _ 244 [(0, .ref (lt_z X + 0)), (1, .int 1)] [.ref (lt_z X + 208), .int 1, .ref (lt_z X + 181)]
  refine jr_aastR (a := 181) (b := 208) (q := 6) (c := 56) (k := 1) hF (show vwCl[9]? = some _ from rfl) rfl (by decide) (Nat.le_of_ble_eq_true rfl) rfl (Nat.le_of_ble_eq_true rfl) rfl (by decide) (by decide) (Nat.le_of_ble_eq_true rfl) lyp_202 rfl dX11_init_244 ?_
  show lt_J X 215 3421 (ly_S 216 203) _ 245 [(0, .ref (lt_z X + 0)), (1, .int 1)] []
  refine jr_iinc (v := 2) (lv' := [(0, .ref (lt_z X + 0)), (1, .int 2)]) hF dX11_init_245 1 rfl rfl (by decide) [1, 0] rfl ?_
  show lt_J X 215 3421 (ly_S 216 203) _ 248 [(0, .ref (lt_z X + 0)), (1, .int 2)] []
  refine jr_goto (tgt := 214) hF dX11_init_248 rfl ?_
  show lt_J X 215 3421 (ly_S 216 203) _ 214 [(0, .ref (lt_z X + 0)), (1, .int 2)] []
  refine jr_iload_n hF dX11_init_214 1 rfl rfl ?_
  show lt_J X 215 3421 (ly_S 216 203) _ 215 [(0, .ref (lt_z X + 0)), (1, .int 2)] [.int 2]
  refine jr_iconst (v := 3) hF dX11_init_215 rfl ?_
  show lt_J X 215 3421 (ly_S 216 203) _ 216 [(0, .ref (lt_z X + 0)), (1, .int 2)] [.int 3, .int 2]
  refine jr_icmp_ge (tgt := 251) (g1 := none) (g2 := some ()) (r := ()) hF dX11_init_216 rfl rfl (fun z => by cases z) (fun _ => ?_)
  show lt_J X 215 3421 (ly_S 216 203) _ 219 [(0, .ref (lt_z X + 0)), (1, .int 2)] []
  refine jr_aload_n hF dX11_init_219 0 rfl rfl ?_
  show lt_J X 215 3421 (ly_S 216 203) _ 220 [(0, .ref (lt_z X + 0)), (1, .int 2)] [.ref (lt_z X + 0)]
  refine jr_getR hF gf_X11_102 (ly_c (Nat.le_of_ble_eq_true rfl)) ((ly_rv1 (Or.inr (by decide +kernel))).trans rfl) dX11_init_220 ?_
  show lt_J X 215 3421 (ly_S 216 203) _ 223 [(0, .ref (lt_z X + 0)), (1, .int 2)] [.ref (lt_z X + 180)]
  refine jr_iload_n hF dX11_init_223 1 rfl rfl ?_
  show lt_J X 215 3421 (ly_S 216 203) _ 224 [(0, .ref (lt_z X + 0)), (1, .int 2)] [.int 2, .ref (lt_z X + 180)]
  refine jr_new (ci := 5) hF clX5 lyq_88 lyq_28 lyq_29 rfl dvX5 (by decide +kernel) (hz11.up (Nat.le_of_ble_eq_true rfl : 208 ≤ 216)) ⟨Nat.le_of_ble_eq_true rfl, Nat.le_of_ble_eq_true rfl⟩ dX11_init_224 ?_
  show lt_J X 216 3438 (ly_S 217 203) _ 227 [(0, .ref (lt_z X + 0)), (1, .int 2)] [.ref (lt_z X + 216), .int 2, .ref (lt_z X + 180)]
  refine jr_dup hF dX11_init_227 rfl ?_
  show lt_J X 216 3438 (ly_S 217 203) _ 228 [(0, .ref (lt_z X + 0)), (1, .int 2)] [.ref (lt_z X + 216), .ref (lt_z X + 216), .int 2, .ref (lt_z X + 180)]
  refine jr_callI (As := []) (st := [.ref (lt_z X + 216), .int 2, .ref (lt_z X + 180)]) hF mi_X11_29 (cI_X5_216 (hz11.up (Nat.le_of_ble_eq_true rfl : 208 ≤ 217))) rfl ⟨Nat.le_of_ble_eq_true rfl, Nat.le_of_ble_eq_true rfl⟩ ⟨Nat.le_of_ble_eq_true rfl, Nat.le_of_ble_eq_true rfl⟩ (Nat.le_of_ble_eq_true rfl) dX11_init_228 ?_
  have hz12 := zI_X5_216 (hz11.up (Nat.le_of_ble_eq_true rfl : 208 ≤ 217))
  show lt_J X 224 3494 (ly_S 225 211) _ 231 [(0, .ref (lt_z X + 0)), (1, .int 2)] [.ref (lt_z X + 216), .int 2, .ref (lt_z X + 180)]
  refine jr_aastR (a := 180) (b := 216) (q := 5) (c := 55) (k := 2) hF (show vwCl[5]? = some _ from rfl) rfl (by decide) (Nat.le_of_ble_eq_true rfl) rfl (Nat.le_of_ble_eq_true rfl) rfl (by decide) (by decide) (Nat.le_of_ble_eq_true rfl) lyp_211 rfl dX11_init_231 ?_
  show lt_J X 224 3494 (ly_S 225 212) _ 232 [(0, .ref (lt_z X + 0)), (1, .int 2)] []
  refine jr_aload_n hF dX11_init_232 0 rfl rfl ?_
  show lt_J X 224 3494 (ly_S 225 212) _ 233 [(0, .ref (lt_z X + 0)), (1, .int 2)] [.ref (lt_z X + 0)]
  refine jr_getR hF gf_X11_106 (ly_c (Nat.le_of_ble_eq_true rfl)) ((ly_rv1 (Or.inr (by decide +kernel))).trans rfl) dX11_init_233 ?_
  show lt_J X 224 3494 (ly_S 225 212) _ 236 [(0, .ref (lt_z X + 0)), (1, .int 2)] [.ref (lt_z X + 181)]
  refine jr_iload_n hF dX11_init_236 1 rfl rfl ?_
  show lt_J X 224 3494 (ly_S 225 212) _ 237 [(0, .ref (lt_z X + 0)), (1, .int 2)] [.int 2, .ref (lt_z X + 181)]
  refine jr_new (ci := 9) hF clX9 lyq_91 lyq_35 lyq_36 rfl dvX9 (by decide +kernel) hz12 ⟨Nat.le_of_ble_eq_true rfl, Nat.le_of_ble_eq_true rfl⟩ dX11_init_237 ?_
  show lt_J X 225 3503 (ly_S 226 212) _ 240 [(0, .ref (lt_z X + 0)), (1, .int 2)] [.ref (lt_z X + 225), .int 2, .ref (lt_z X + 181)]
  refine jr_dup hF dX11_init_240 rfl ?_
  show lt_J X 225 3503 (ly_S 226 212) _ 241 [(0, .ref (lt_z X + 0)), (1, .int 2)] [.ref (lt_z X + 225), .ref (lt_z X + 225), .int 2, .ref (lt_z X + 181)]
  refine jr_callIN (As := []) (st := [.ref (lt_z X + 225), .int 2, .ref (lt_z X + 181)]) hF mi_X11_36 (cI_X9_225 (hz12.up (Nat.le_of_ble_eq_true rfl : 225 ≤ 226))) rfl ⟨Nat.le_of_ble_eq_true rfl, Nat.le_of_ble_eq_true rfl⟩ ⟨Nat.le_of_ble_eq_true rfl, Nat.le_of_ble_eq_true rfl⟩ (Nat.le_of_ble_eq_true rfl) dX11_init_241 ?_
  show lt_J X 232 3713 (ly_S 233 219) _ 244 [(0, .ref (lt_z X + 0)), (1, .int 2)] [.ref (lt_z X + 225), .int 2, .ref (lt_z X + 181)]
  refine jr_aastR (a := 181) (b := 225) (q := 6) (c := 56) (k := 2) hF (show vwCl[9]? = some _ from rfl) rfl (by decide) (Nat.le_of_ble_eq_true rfl) rfl (Nat.le_of_ble_eq_true rfl) rfl (by decide) (by decide) (Nat.le_of_ble_eq_true rfl) lyp_219 rfl dX11_init_244 ?_
  show lt_J X 232 3713 (ly_S 233 220) _ 245 [(0, .ref (lt_z X + 0)), (1, .int 2)] []
  refine jr_iinc (v := 3) (lv' := [(0, .ref (lt_z X + 0)), (1, .int 3)]) hF dX11_init_245 1 rfl rfl (by decide) [1, 0] rfl ?_
  show lt_J X 232 3713 (ly_S 233 220) _ 248 [(0, .ref (lt_z X + 0)), (1, .int 3)] []
  refine jr_goto (tgt := 214) hF dX11_init_248 rfl ?_
  show lt_J X 232 3713 (ly_S 233 220) _ 214 [(0, .ref (lt_z X + 0)), (1, .int 3)] []
  refine jr_iload_n hF dX11_init_214 1 rfl rfl ?_
  show lt_J X 232 3713 (ly_S 233 220) _ 215 [(0, .ref (lt_z X + 0)), (1, .int 3)] [.int 3]
  refine jr_iconst (v := 3) hF dX11_init_215 rfl ?_
  show lt_J X 232 3713 (ly_S 233 220) _ 216 [(0, .ref (lt_z X + 0)), (1, .int 3)] [.int 3, .int 3]
  refine jr_icmp_ge (tgt := 251) (g1 := some ()) (g2 := none) (r := ()) hF dX11_init_216 rfl rfl (fun _ => ?_) (fun z => by cases z)
  show lt_J X 232 3713 (ly_S 233 220) _ 251 [(0, .ref (lt_z X + 0)), (1, .int 3)] []
  exact jr_return hF hE dX11_init_251
def wI_X12_233 (w : lt_W) : lt_W := lt_si (lt_si (lt_si (lt_si (lt_si (lt_si (lt_sl (w) 233 4 (1)) 237 0 (-1)) 237 1 (-1)) 237 2 (-1)) 237 3 (-1)) 233 16 (-1)) 233 17 (-1)
set_option maxRecDepth 100000 in
set_option maxHeartbeats 4000000 in
theorem cI_X12_233 {l : Launch} {D : va_G} {gA : Nat → ClassId} {s0 : State} {w : lt_W} (hz : ly_z w 234) (hT : lt_Wt (ly_S 255 241)) {r : lt_W} (hr : f_X12_plain (ly_S 255 241) 233 0 (wI_X12_233 w) = some r) : lt_C l D gA s0 yX12_init cX12_init 1 none (lt_rmI 2 21 7004) [.ref (s0.heap.size + 233)] (ly_S 234 220) w (ly_S 255 241) none r := by
  refine lt_enterI rfl rfl (Nat.le_of_ble_eq_true rfl) (fun X e1 e2 e3 e4 hF hI hE => ?_)
  subst e1 e2 e3 e4
  have hF : lt_F X cX12_init RX12 1 (lt_rmI 2 21 7004) := hF
  show lt_J X 0 0 (ly_S 234 220) w 0 [(0, .ref (lt_z X + 233))] []
  refine jr_aload_n hF dX12_init_0 0 rfl rfl ?_
  show lt_J X 0 0 (ly_S 234 220) _ 1 [(0, .ref (lt_z X + 233))] [.ref (lt_z X + 233)]
  refine jr_objI hF lyq_133 lyq_1 lyq_2 ⟨Nat.le_of_ble_eq_true rfl, Nat.le_of_ble_eq_true rfl⟩ dX12_init_1 ?_
  show lt_J X 0 0 (ly_S 234 220) _ 4 [(0, .ref (lt_z X + 233))] []
  refine jr_aload_n hF dX12_init_4 0 rfl rfl ?_
  show lt_J X 0 0 (ly_S 234 220) _ 5 [(0, .ref (lt_z X + 233))] [.ref (lt_z X + 233)]
  refine jr_sipush (v := 2560) hF dX12_init_5 rfl ?_
  show lt_J X 0 0 (ly_S 234 220) _ 8 [(0, .ref (lt_z X + 233))] [.int 2560, .ref (lt_z X + 233)]
  refine jr_newa_int (len := 2560) (n := 2560) hF lyq_10 rfl rfl (by decide) (by decide) rfl hz ⟨Nat.le_of_ble_eq_true rfl, Nat.le_of_ble_eq_true rfl⟩ dX12_init_8 ?_
  show lt_J X 1 2560 (ly_S 235 220) _ 10 [(0, .ref (lt_z X + 233))] [.ref (lt_z X + 234), .ref (lt_z X + 233)]
  refine jr_putR (a := 233) (b := 234) hF hI clX12 (Nat.le_of_ble_eq_true rfl) lyf_X12_7 rfl rfl rfl (fun x => ⟨rfl, rfl⟩) (Nat.le_of_ble_eq_true rfl) rfl lyp_220 rfl dX12_init_10 ?_
  show lt_J X 1 2560 (ly_S 235 221) _ 13 [(0, .ref (lt_z X + 233))] []
  refine jr_aload_n hF dX12_init_13 0 rfl rfl ?_
  show lt_J X 1 2560 (ly_S 235 221) _ 14 [(0, .ref (lt_z X + 233))] [.ref (lt_z X + 233)]
  refine jr_bipush (v := 42) hF dX12_init_14 rfl ?_
  show lt_J X 1 2560 (ly_S 235 221) _ 16 [(0, .ref (lt_z X + 233))] [.int 42, .ref (lt_z X + 233)]
  refine jr_newa_long (len := 42) (n := 42) hF lyq_3 rfl rfl (by decide) (by decide) rfl (hz.up (Nat.le_of_ble_eq_true rfl : 234 ≤ 235)) ⟨Nat.le_of_ble_eq_true rfl, Nat.le_of_ble_eq_true rfl⟩ dX12_init_16 ?_
  show lt_J X 2 2602 (ly_S 236 221) _ 18 [(0, .ref (lt_z X + 233))] [.ref (lt_z X + 235), .ref (lt_z X + 233)]
  refine jr_putR (a := 233) (b := 235) hF hI clX12 (Nat.le_of_ble_eq_true rfl) lyf_X12_13 rfl rfl rfl (fun x => ⟨rfl, rfl⟩) (Nat.le_of_ble_eq_true rfl) rfl lyp_221 rfl dX12_init_18 ?_
  show lt_J X 2 2602 (ly_S 236 222) _ 21 [(0, .ref (lt_z X + 233))] []
  refine jr_aload_n hF dX12_init_21 0 rfl rfl ?_
  show lt_J X 2 2602 (ly_S 236 222) _ 22 [(0, .ref (lt_z X + 233))] [.ref (lt_z X + 233)]
  refine jr_lconst (v := 1) hF dX12_init_22 rfl ?_
  show lt_J X 2 2602 (ly_S 236 222) _ 23 [(0, .ref (lt_z X + 233))] [.long 1, .ref (lt_z X + 233)]
  refine jr_putL hF pf_X12_17 (ly_c (Nat.le_of_ble_eq_true rfl)) dX12_init_23 ?_
  have hz1 := (hz.up (Nat.le_of_ble_eq_true rfl : 234 ≤ 236)).sl (b := 233) (j := 4) (v := (1)) (Nat.le_of_ble_eq_true rfl)
  show lt_J X 2 2602 (ly_S 236 222) _ 26 [(0, .ref (lt_z X + 233))] []
  refine jr_aload_n hF dX12_init_26 0 rfl rfl ?_
  show lt_J X 2 2602 (ly_S 236 222) _ 27 [(0, .ref (lt_z X + 233))] [.ref (lt_z X + 233)]
  refine jr_iconst (v := 4) hF dX12_init_27 rfl ?_
  show lt_J X 2 2602 (ly_S 236 222) _ 28 [(0, .ref (lt_z X + 233))] [.int 4, .ref (lt_z X + 233)]
  refine jr_newa_int (len := 4) (n := 4) hF lyq_10 rfl rfl (by decide) (by decide) rfl hz1 ⟨Nat.le_of_ble_eq_true rfl, Nat.le_of_ble_eq_true rfl⟩ dX12_init_28 ?_
  show lt_J X 3 2606 (ly_S 237 222) _ 30 [(0, .ref (lt_z X + 233))] [.ref (lt_z X + 236), .ref (lt_z X + 233)]
  refine jr_putR (a := 233) (b := 236) hF hI clX12 (Nat.le_of_ble_eq_true rfl) lyf_X12_21 rfl rfl rfl (fun x => ⟨rfl, rfl⟩) (Nat.le_of_ble_eq_true rfl) rfl lyp_222 rfl dX12_init_30 ?_
  show lt_J X 3 2606 (ly_S 237 223) _ 33 [(0, .ref (lt_z X + 233))] []
  refine jr_aload_n hF dX12_init_33 0 rfl rfl ?_
  show lt_J X 3 2606 (ly_S 237 223) _ 34 [(0, .ref (lt_z X + 233))] [.ref (lt_z X + 233)]
  refine jr_iconst (v := 4) hF dX12_init_34 rfl ?_
  show lt_J X 3 2606 (ly_S 237 223) _ 35 [(0, .ref (lt_z X + 233))] [.int 4, .ref (lt_z X + 233)]
  refine jr_newa_int (len := 4) (n := 4) hF lyq_10 rfl rfl (by decide) (by decide) rfl (hz1.up (Nat.le_of_ble_eq_true rfl : 236 ≤ 237)) ⟨Nat.le_of_ble_eq_true rfl, Nat.le_of_ble_eq_true rfl⟩ dX12_init_35 ?_
  show lt_J X 4 2610 (ly_S 238 223) _ 37 [(0, .ref (lt_z X + 233))] [.ref (lt_z X + 237), .ref (lt_z X + 233)]
  refine jr_dup hF dX12_init_37 rfl ?_
  show lt_J X 4 2610 (ly_S 238 223) _ 38 [(0, .ref (lt_z X + 233))] [.ref (lt_z X + 237), .ref (lt_z X + 237), .ref (lt_z X + 233)]
  refine jr_iconst (v := 0) hF dX12_init_38 rfl ?_
  show lt_J X 4 2610 (ly_S 238 223) _ 39 [(0, .ref (lt_z X + 233))] [.int 0, .ref (lt_z X + 237), .ref (lt_z X + 237), .ref (lt_z X + 233)]
  refine jr_iconst (v := -1) hF dX12_init_39 rfl ?_
  show lt_J X 4 2610 (ly_S 238 223) _ 40 [(0, .ref (lt_z X + 233))] [.int (-1), .int 0, .ref (lt_z X + 237), .ref (lt_z X + 237), .ref (lt_z X + 233)]
  refine jr_iastore (g := some ()) (r := ()) hF (ly_c (Nat.le_of_ble_eq_true rfl)) dX12_init_40 rfl (fun _ => ?_)
  have hz2 := (hz1.up (Nat.le_of_ble_eq_true rfl : 236 ≤ 238)).si (b := 237) (j := 0) (v := (-1)) (Nat.le_of_ble_eq_true rfl)
  show lt_J X 4 2610 (ly_S 238 223) _ 41 [(0, .ref (lt_z X + 233))] [.ref (lt_z X + 237), .ref (lt_z X + 233)]
  refine jr_dup hF dX12_init_41 rfl ?_
  show lt_J X 4 2610 (ly_S 238 223) _ 42 [(0, .ref (lt_z X + 233))] [.ref (lt_z X + 237), .ref (lt_z X + 237), .ref (lt_z X + 233)]
  refine jr_iconst (v := 1) hF dX12_init_42 rfl ?_
  show lt_J X 4 2610 (ly_S 238 223) _ 43 [(0, .ref (lt_z X + 233))] [.int 1, .ref (lt_z X + 237), .ref (lt_z X + 237), .ref (lt_z X + 233)]
  refine jr_iconst (v := -1) hF dX12_init_43 rfl ?_
  show lt_J X 4 2610 (ly_S 238 223) _ 44 [(0, .ref (lt_z X + 233))] [.int (-1), .int 1, .ref (lt_z X + 237), .ref (lt_z X + 237), .ref (lt_z X + 233)]
  refine jr_iastore (g := some ()) (r := ()) hF (ly_c (Nat.le_of_ble_eq_true rfl)) dX12_init_44 rfl (fun _ => ?_)
  have hz3 := hz2.si (b := 237) (j := 1) (v := (-1)) (Nat.le_of_ble_eq_true rfl)
  show lt_J X 4 2610 (ly_S 238 223) _ 45 [(0, .ref (lt_z X + 233))] [.ref (lt_z X + 237), .ref (lt_z X + 233)]
  refine jr_dup hF dX12_init_45 rfl ?_
  show lt_J X 4 2610 (ly_S 238 223) _ 46 [(0, .ref (lt_z X + 233))] [.ref (lt_z X + 237), .ref (lt_z X + 237), .ref (lt_z X + 233)]
  refine jr_iconst (v := 2) hF dX12_init_46 rfl ?_
  show lt_J X 4 2610 (ly_S 238 223) _ 47 [(0, .ref (lt_z X + 233))] [.int 2, .ref (lt_z X + 237), .ref (lt_z X + 237), .ref (lt_z X + 233)]
  refine jr_iconst (v := -1) hF dX12_init_47 rfl ?_
  show lt_J X 4 2610 (ly_S 238 223) _ 48 [(0, .ref (lt_z X + 233))] [.int (-1), .int 2, .ref (lt_z X + 237), .ref (lt_z X + 237), .ref (lt_z X + 233)]
  refine jr_iastore (g := some ()) (r := ()) hF (ly_c (Nat.le_of_ble_eq_true rfl)) dX12_init_48 rfl (fun _ => ?_)
  have hz4 := hz3.si (b := 237) (j := 2) (v := (-1)) (Nat.le_of_ble_eq_true rfl)
  show lt_J X 4 2610 (ly_S 238 223) _ 49 [(0, .ref (lt_z X + 233))] [.ref (lt_z X + 237), .ref (lt_z X + 233)]
  refine jr_dup hF dX12_init_49 rfl ?_
  show lt_J X 4 2610 (ly_S 238 223) _ 50 [(0, .ref (lt_z X + 233))] [.ref (lt_z X + 237), .ref (lt_z X + 237), .ref (lt_z X + 233)]
  refine jr_iconst (v := 3) hF dX12_init_50 rfl ?_
  show lt_J X 4 2610 (ly_S 238 223) _ 51 [(0, .ref (lt_z X + 233))] [.int 3, .ref (lt_z X + 237), .ref (lt_z X + 237), .ref (lt_z X + 233)]
  refine jr_iconst (v := -1) hF dX12_init_51 rfl ?_
  show lt_J X 4 2610 (ly_S 238 223) _ 52 [(0, .ref (lt_z X + 233))] [.int (-1), .int 3, .ref (lt_z X + 237), .ref (lt_z X + 237), .ref (lt_z X + 233)]
  refine jr_iastore (g := some ()) (r := ()) hF (ly_c (Nat.le_of_ble_eq_true rfl)) dX12_init_52 rfl (fun _ => ?_)
  have hz5 := hz4.si (b := 237) (j := 3) (v := (-1)) (Nat.le_of_ble_eq_true rfl)
  show lt_J X 4 2610 (ly_S 238 223) _ 53 [(0, .ref (lt_z X + 233))] [.ref (lt_z X + 237), .ref (lt_z X + 233)]
  refine jr_putR (a := 233) (b := 237) hF hI clX12 (Nat.le_of_ble_eq_true rfl) lyf_X12_24 rfl rfl rfl (fun x => ⟨rfl, rfl⟩) (Nat.le_of_ble_eq_true rfl) rfl lyp_223 rfl dX12_init_53 ?_
  show lt_J X 4 2610 (ly_S 238 224) _ 56 [(0, .ref (lt_z X + 233))] []
  refine jr_aload_n hF dX12_init_56 0 rfl rfl ?_
  show lt_J X 4 2610 (ly_S 238 224) _ 57 [(0, .ref (lt_z X + 233))] [.ref (lt_z X + 233)]
  refine jr_sipush (v := 240) hF dX12_init_57 rfl ?_
  show lt_J X 4 2610 (ly_S 238 224) _ 60 [(0, .ref (lt_z X + 233))] [.int 240, .ref (lt_z X + 233)]
  refine jr_newa_long (len := 240) (n := 240) hF lyq_3 rfl rfl (by decide) (by decide) rfl hz5 ⟨Nat.le_of_ble_eq_true rfl, Nat.le_of_ble_eq_true rfl⟩ dX12_init_60 ?_
  show lt_J X 5 2850 (ly_S 239 224) _ 62 [(0, .ref (lt_z X + 233))] [.ref (lt_z X + 238), .ref (lt_z X + 233)]
  refine jr_putR (a := 233) (b := 238) hF hI clX12 (Nat.le_of_ble_eq_true rfl) lyf_X12_27 rfl rfl rfl (fun x => ⟨rfl, rfl⟩) (Nat.le_of_ble_eq_true rfl) rfl lyp_224 rfl dX12_init_62 ?_
  show lt_J X 5 2850 (ly_S 239 225) _ 65 [(0, .ref (lt_z X + 233))] []
  refine jr_aload_n hF dX12_init_65 0 rfl rfl ?_
  show lt_J X 5 2850 (ly_S 239 225) _ 66 [(0, .ref (lt_z X + 233))] [.ref (lt_z X + 233)]
  refine jr_sipush (v := 900) hF dX12_init_66 rfl ?_
  show lt_J X 5 2850 (ly_S 239 225) _ 69 [(0, .ref (lt_z X + 233))] [.int 900, .ref (lt_z X + 233)]
  refine jr_newa_byte (len := 900) (n := 900) hF lyq_6 rfl rfl (by decide) (by decide) rfl (hz5.up (Nat.le_of_ble_eq_true rfl : 238 ≤ 239)) ⟨Nat.le_of_ble_eq_true rfl, Nat.le_of_ble_eq_true rfl⟩ dX12_init_69 ?_
  show lt_J X 6 3750 (ly_S 240 225) _ 71 [(0, .ref (lt_z X + 233))] [.ref (lt_z X + 239), .ref (lt_z X + 233)]
  refine jr_putR (a := 233) (b := 239) hF hI clX12 (Nat.le_of_ble_eq_true rfl) lyf_X12_30 rfl rfl rfl (fun x => ⟨rfl, rfl⟩) (Nat.le_of_ble_eq_true rfl) rfl lyp_225 rfl dX12_init_71 ?_
  show lt_J X 6 3750 (ly_S 240 226) _ 74 [(0, .ref (lt_z X + 233))] []
  refine jr_aload_n hF dX12_init_74 0 rfl rfl ?_
  show lt_J X 6 3750 (ly_S 240 226) _ 75 [(0, .ref (lt_z X + 233))] [.ref (lt_z X + 233)]
  refine jr_sipush (v := 900) hF dX12_init_75 rfl ?_
  show lt_J X 6 3750 (ly_S 240 226) _ 78 [(0, .ref (lt_z X + 233))] [.int 900, .ref (lt_z X + 233)]
  refine jr_newa_byte (len := 900) (n := 900) hF lyq_6 rfl rfl (by decide) (by decide) rfl (hz5.up (Nat.le_of_ble_eq_true rfl : 238 ≤ 240)) ⟨Nat.le_of_ble_eq_true rfl, Nat.le_of_ble_eq_true rfl⟩ dX12_init_78 ?_
  show lt_J X 7 4650 (ly_S 241 226) _ 80 [(0, .ref (lt_z X + 233))] [.ref (lt_z X + 240), .ref (lt_z X + 233)]
  refine jr_putR (a := 233) (b := 240) hF hI clX12 (Nat.le_of_ble_eq_true rfl) lyf_X12_34 rfl rfl rfl (fun x => ⟨rfl, rfl⟩) (Nat.le_of_ble_eq_true rfl) rfl lyp_226 rfl dX12_init_80 ?_
  show lt_J X 7 4650 (ly_S 241 227) _ 83 [(0, .ref (lt_z X + 233))] []
  refine jr_aload_n hF dX12_init_83 0 rfl rfl ?_
  show lt_J X 7 4650 (ly_S 241 227) _ 84 [(0, .ref (lt_z X + 233))] [.ref (lt_z X + 233)]
  refine jr_iconst (v := -1) hF dX12_init_84 rfl ?_
  show lt_J X 7 4650 (ly_S 241 227) _ 85 [(0, .ref (lt_z X + 233))] [.int (-1), .ref (lt_z X + 233)]
  refine jr_putI hF pf_X12_37 (ly_c (Nat.le_of_ble_eq_true rfl)) dX12_init_85 ?_
  have hz6 := (hz5.up (Nat.le_of_ble_eq_true rfl : 238 ≤ 241)).si (b := 233) (j := 16) (v := (-1)) (Nat.le_of_ble_eq_true rfl)
  show lt_J X 7 4650 (ly_S 241 227) _ 88 [(0, .ref (lt_z X + 233))] []
  refine jr_aload_n hF dX12_init_88 0 rfl rfl ?_
  show lt_J X 7 4650 (ly_S 241 227) _ 89 [(0, .ref (lt_z X + 233))] [.ref (lt_z X + 233)]
  refine jr_iconst (v := -1) hF dX12_init_89 rfl ?_
  show lt_J X 7 4650 (ly_S 241 227) _ 90 [(0, .ref (lt_z X + 233))] [.int (-1), .ref (lt_z X + 233)]
  refine jr_putI hF pf_X12_41 (ly_c (Nat.le_of_ble_eq_true rfl)) dX12_init_90 ?_
  have hz7 := hz6.si (b := 233) (j := 17) (v := (-1)) (Nat.le_of_ble_eq_true rfl)
  show lt_J X 7 4650 (ly_S 241 227) _ 93 [(0, .ref (lt_z X + 233))] []
  refine jr_aload_n hF dX12_init_93 0 rfl rfl ?_
  show lt_J X 7 4650 (ly_S 241 227) _ 94 [(0, .ref (lt_z X + 233))] [.ref (lt_z X + 233)]
  refine jr_iconst (v := 3) hF dX12_init_94 rfl ?_
  show lt_J X 7 4650 (ly_S 241 227) _ 95 [(0, .ref (lt_z X + 233))] [.int 3, .ref (lt_z X + 233)]
  refine jr_newa_int (len := 3) (n := 3) hF lyq_10 rfl rfl (by decide) (by decide) rfl hz7 ⟨Nat.le_of_ble_eq_true rfl, Nat.le_of_ble_eq_true rfl⟩ dX12_init_95 ?_
  show lt_J X 8 4653 (ly_S 242 227) _ 97 [(0, .ref (lt_z X + 233))] [.ref (lt_z X + 241), .ref (lt_z X + 233)]
  refine jr_putR (a := 233) (b := 241) hF hI clX12 (Nat.le_of_ble_eq_true rfl) lyf_X12_44 rfl rfl rfl (fun x => ⟨rfl, rfl⟩) (Nat.le_of_ble_eq_true rfl) rfl lyp_227 rfl dX12_init_97 ?_
  show lt_J X 8 4653 (ly_S 242 228) _ 100 [(0, .ref (lt_z X + 233))] []
  refine jr_aload_n hF dX12_init_100 0 rfl rfl ?_
  show lt_J X 8 4653 (ly_S 242 228) _ 101 [(0, .ref (lt_z X + 233))] [.ref (lt_z X + 233)]
  refine jr_bipush (v := 6) hF dX12_init_101 rfl ?_
  show lt_J X 8 4653 (ly_S 242 228) _ 103 [(0, .ref (lt_z X + 233))] [.int 6, .ref (lt_z X + 233)]
  refine jr_newa_int (len := 6) (n := 6) hF lyq_10 rfl rfl (by decide) (by decide) rfl (hz7.up (Nat.le_of_ble_eq_true rfl : 241 ≤ 242)) ⟨Nat.le_of_ble_eq_true rfl, Nat.le_of_ble_eq_true rfl⟩ dX12_init_103 ?_
  show lt_J X 9 4659 (ly_S 243 228) _ 105 [(0, .ref (lt_z X + 233))] [.ref (lt_z X + 242), .ref (lt_z X + 233)]
  refine jr_putR (a := 233) (b := 242) hF hI clX12 (Nat.le_of_ble_eq_true rfl) lyf_X12_47 rfl rfl rfl (fun x => ⟨rfl, rfl⟩) (Nat.le_of_ble_eq_true rfl) rfl lyp_228 rfl dX12_init_105 ?_
  show lt_J X 9 4659 (ly_S 243 229) _ 108 [(0, .ref (lt_z X + 233))] []
  refine jr_aload_n hF dX12_init_108 0 rfl rfl ?_
  show lt_J X 9 4659 (ly_S 243 229) _ 109 [(0, .ref (lt_z X + 233))] [.ref (lt_z X + 233)]
  refine jr_bipush (v := 6) hF dX12_init_109 rfl ?_
  show lt_J X 9 4659 (ly_S 243 229) _ 111 [(0, .ref (lt_z X + 233))] [.int 6, .ref (lt_z X + 233)]
  refine jr_newa_int (len := 6) (n := 6) hF lyq_10 rfl rfl (by decide) (by decide) rfl (hz7.up (Nat.le_of_ble_eq_true rfl : 241 ≤ 243)) ⟨Nat.le_of_ble_eq_true rfl, Nat.le_of_ble_eq_true rfl⟩ dX12_init_111 ?_
  show lt_J X 10 4665 (ly_S 244 229) _ 113 [(0, .ref (lt_z X + 233))] [.ref (lt_z X + 243), .ref (lt_z X + 233)]
  refine jr_putR (a := 233) (b := 243) hF hI clX12 (Nat.le_of_ble_eq_true rfl) lyf_X12_50 rfl rfl rfl (fun x => ⟨rfl, rfl⟩) (Nat.le_of_ble_eq_true rfl) rfl lyp_229 rfl dX12_init_113 ?_
  show lt_J X 10 4665 (ly_S 244 230) _ 116 [(0, .ref (lt_z X + 233))] []
  refine jr_aload_n hF dX12_init_116 0 rfl rfl ?_
  show lt_J X 10 4665 (ly_S 244 230) _ 117 [(0, .ref (lt_z X + 233))] [.ref (lt_z X + 233)]
  refine jr_iconst (v := 5) hF dX12_init_117 rfl ?_
  show lt_J X 10 4665 (ly_S 244 230) _ 118 [(0, .ref (lt_z X + 233))] [.int 5, .ref (lt_z X + 233)]
  refine jr_newa_int (len := 5) (n := 5) hF lyq_10 rfl rfl (by decide) (by decide) rfl (hz7.up (Nat.le_of_ble_eq_true rfl : 241 ≤ 244)) ⟨Nat.le_of_ble_eq_true rfl, Nat.le_of_ble_eq_true rfl⟩ dX12_init_118 ?_
  show lt_J X 11 4670 (ly_S 245 230) _ 120 [(0, .ref (lt_z X + 233))] [.ref (lt_z X + 244), .ref (lt_z X + 233)]
  refine jr_putR (a := 233) (b := 244) hF hI clX12 (Nat.le_of_ble_eq_true rfl) lyf_X12_53 rfl rfl rfl (fun x => ⟨rfl, rfl⟩) (Nat.le_of_ble_eq_true rfl) rfl lyp_230 rfl dX12_init_120 ?_
  show lt_J X 11 4670 (ly_S 245 231) _ 123 [(0, .ref (lt_z X + 233))] []
  refine jr_aload_n hF dX12_init_123 0 rfl rfl ?_
  show lt_J X 11 4670 (ly_S 245 231) _ 124 [(0, .ref (lt_z X + 233))] [.ref (lt_z X + 233)]
  refine jr_bipush (v := 21) hF dX12_init_124 rfl ?_
  show lt_J X 11 4670 (ly_S 245 231) _ 126 [(0, .ref (lt_z X + 233))] [.int 21, .ref (lt_z X + 233)]
  refine jr_newa_int (len := 21) (n := 21) hF lyq_10 rfl rfl (by decide) (by decide) rfl (hz7.up (Nat.le_of_ble_eq_true rfl : 241 ≤ 245)) ⟨Nat.le_of_ble_eq_true rfl, Nat.le_of_ble_eq_true rfl⟩ dX12_init_126 ?_
  show lt_J X 12 4691 (ly_S 246 231) _ 128 [(0, .ref (lt_z X + 233))] [.ref (lt_z X + 245), .ref (lt_z X + 233)]
  refine jr_putR (a := 233) (b := 245) hF hI clX12 (Nat.le_of_ble_eq_true rfl) lyf_X12_56 rfl rfl rfl (fun x => ⟨rfl, rfl⟩) (Nat.le_of_ble_eq_true rfl) rfl lyp_231 rfl dX12_init_128 ?_
  show lt_J X 12 4691 (ly_S 246 232) _ 131 [(0, .ref (lt_z X + 233))] []
  refine jr_aload_n hF dX12_init_131 0 rfl rfl ?_
  show lt_J X 12 4691 (ly_S 246 232) _ 132 [(0, .ref (lt_z X + 233))] [.ref (lt_z X + 233)]
  refine jr_bipush (v := 8) hF dX12_init_132 rfl ?_
  show lt_J X 12 4691 (ly_S 246 232) _ 134 [(0, .ref (lt_z X + 233))] [.int 8, .ref (lt_z X + 233)]
  refine jr_newa_int (len := 8) (n := 8) hF lyq_10 rfl rfl (by decide) (by decide) rfl (hz7.up (Nat.le_of_ble_eq_true rfl : 241 ≤ 246)) ⟨Nat.le_of_ble_eq_true rfl, Nat.le_of_ble_eq_true rfl⟩ dX12_init_134 ?_
  show lt_J X 13 4699 (ly_S 247 232) _ 136 [(0, .ref (lt_z X + 233))] [.ref (lt_z X + 246), .ref (lt_z X + 233)]
  refine jr_putR (a := 233) (b := 246) hF hI clX12 (Nat.le_of_ble_eq_true rfl) lyf_X12_59 rfl rfl rfl (fun x => ⟨rfl, rfl⟩) (Nat.le_of_ble_eq_true rfl) rfl lyp_232 rfl dX12_init_136 ?_
  show lt_J X 13 4699 (ly_S 247 233) _ 139 [(0, .ref (lt_z X + 233))] []
  refine jr_aload_n hF dX12_init_139 0 rfl rfl ?_
  show lt_J X 13 4699 (ly_S 247 233) _ 140 [(0, .ref (lt_z X + 233))] [.ref (lt_z X + 233)]
  refine jr_bipush (v := 100) hF dX12_init_140 rfl ?_
  show lt_J X 13 4699 (ly_S 247 233) _ 142 [(0, .ref (lt_z X + 233))] [.int 100, .ref (lt_z X + 233)]
  refine jr_newa_boolean (len := 100) (n := 100) hF lyq_147 rfl rfl (by decide) (by decide) rfl (hz7.up (Nat.le_of_ble_eq_true rfl : 241 ≤ 247)) ⟨Nat.le_of_ble_eq_true rfl, Nat.le_of_ble_eq_true rfl⟩ dX12_init_142 ?_
  show lt_J X 14 4799 (ly_S 248 233) _ 144 [(0, .ref (lt_z X + 233))] [.ref (lt_z X + 247), .ref (lt_z X + 233)]
  refine jr_putR (a := 233) (b := 247) hF hI clX12 (Nat.le_of_ble_eq_true rfl) lyf_X12_62 rfl rfl rfl (fun x => ⟨rfl, rfl⟩) (Nat.le_of_ble_eq_true rfl) rfl lyp_233 rfl dX12_init_144 ?_
  show lt_J X 14 4799 (ly_S 248 234) _ 147 [(0, .ref (lt_z X + 233))] []
  refine jr_aload_n hF dX12_init_147 0 rfl rfl ?_
  show lt_J X 14 4799 (ly_S 248 234) _ 148 [(0, .ref (lt_z X + 233))] [.ref (lt_z X + 233)]
  refine jr_sipush (v := 2100) hF dX12_init_148 rfl ?_
  show lt_J X 14 4799 (ly_S 248 234) _ 151 [(0, .ref (lt_z X + 233))] [.int 2100, .ref (lt_z X + 233)]
  refine jr_newa_int (len := 2100) (n := 2100) hF lyq_10 rfl rfl (by decide) (by decide) rfl (hz7.up (Nat.le_of_ble_eq_true rfl : 241 ≤ 248)) ⟨Nat.le_of_ble_eq_true rfl, Nat.le_of_ble_eq_true rfl⟩ dX12_init_151 ?_
  show lt_J X 15 6899 (ly_S 249 234) _ 153 [(0, .ref (lt_z X + 233))] [.ref (lt_z X + 248), .ref (lt_z X + 233)]
  refine jr_putR (a := 233) (b := 248) hF hI clX12 (Nat.le_of_ble_eq_true rfl) lyf_X12_66 rfl rfl rfl (fun x => ⟨rfl, rfl⟩) (Nat.le_of_ble_eq_true rfl) rfl lyp_234 rfl dX12_init_153 ?_
  show lt_J X 15 6899 (ly_S 249 235) _ 156 [(0, .ref (lt_z X + 233))] []
  refine jr_aload_n hF dX12_init_156 0 rfl rfl ?_
  show lt_J X 15 6899 (ly_S 249 235) _ 157 [(0, .ref (lt_z X + 233))] [.ref (lt_z X + 233)]
  refine jr_bipush (v := 7) hF dX12_init_157 rfl ?_
  show lt_J X 15 6899 (ly_S 249 235) _ 159 [(0, .ref (lt_z X + 233))] [.int 7, .ref (lt_z X + 233)]
  refine jr_newa_long (len := 7) (n := 7) hF lyq_3 rfl rfl (by decide) (by decide) rfl (hz7.up (Nat.le_of_ble_eq_true rfl : 241 ≤ 249)) ⟨Nat.le_of_ble_eq_true rfl, Nat.le_of_ble_eq_true rfl⟩ dX12_init_159 ?_
  show lt_J X 16 6906 (ly_S 250 235) _ 161 [(0, .ref (lt_z X + 233))] [.ref (lt_z X + 249), .ref (lt_z X + 233)]
  refine jr_putR (a := 233) (b := 249) hF hI clX12 (Nat.le_of_ble_eq_true rfl) lyf_X12_69 rfl rfl rfl (fun x => ⟨rfl, rfl⟩) (Nat.le_of_ble_eq_true rfl) rfl lyp_235 rfl dX12_init_161 ?_
  show lt_J X 16 6906 (ly_S 250 236) _ 164 [(0, .ref (lt_z X + 233))] []
  refine jr_aload_n hF dX12_init_164 0 rfl rfl ?_
  show lt_J X 16 6906 (ly_S 250 236) _ 165 [(0, .ref (lt_z X + 233))] [.ref (lt_z X + 233)]
  refine jr_iconst (v := 4) hF dX12_init_165 rfl ?_
  show lt_J X 16 6906 (ly_S 250 236) _ 166 [(0, .ref (lt_z X + 233))] [.int 4, .ref (lt_z X + 233)]
  refine jr_newa_int (len := 4) (n := 4) hF lyq_10 rfl rfl (by decide) (by decide) rfl (hz7.up (Nat.le_of_ble_eq_true rfl : 241 ≤ 250)) ⟨Nat.le_of_ble_eq_true rfl, Nat.le_of_ble_eq_true rfl⟩ dX12_init_166 ?_
  show lt_J X 17 6910 (ly_S 251 236) _ 168 [(0, .ref (lt_z X + 233))] [.ref (lt_z X + 250), .ref (lt_z X + 233)]
  refine jr_putR (a := 233) (b := 250) hF hI clX12 (Nat.le_of_ble_eq_true rfl) lyf_X12_72 rfl rfl rfl (fun x => ⟨rfl, rfl⟩) (Nat.le_of_ble_eq_true rfl) rfl lyp_236 rfl dX12_init_168 ?_
  show lt_J X 17 6910 (ly_S 251 237) _ 171 [(0, .ref (lt_z X + 233))] []
  refine jr_aload_n hF dX12_init_171 0 rfl rfl ?_
  show lt_J X 17 6910 (ly_S 251 237) _ 172 [(0, .ref (lt_z X + 233))] [.ref (lt_z X + 233)]
  refine jr_iconst (v := 4) hF dX12_init_172 rfl ?_
  show lt_J X 17 6910 (ly_S 251 237) _ 173 [(0, .ref (lt_z X + 233))] [.int 4, .ref (lt_z X + 233)]
  refine jr_newa_int (len := 4) (n := 4) hF lyq_10 rfl rfl (by decide) (by decide) rfl (hz7.up (Nat.le_of_ble_eq_true rfl : 241 ≤ 251)) ⟨Nat.le_of_ble_eq_true rfl, Nat.le_of_ble_eq_true rfl⟩ dX12_init_173 ?_
  show lt_J X 18 6914 (ly_S 252 237) _ 175 [(0, .ref (lt_z X + 233))] [.ref (lt_z X + 251), .ref (lt_z X + 233)]
  refine jr_putR (a := 233) (b := 251) hF hI clX12 (Nat.le_of_ble_eq_true rfl) lyf_X12_75 rfl rfl rfl (fun x => ⟨rfl, rfl⟩) (Nat.le_of_ble_eq_true rfl) rfl lyp_237 rfl dX12_init_175 ?_
  show lt_J X 18 6914 (ly_S 252 238) _ 178 [(0, .ref (lt_z X + 233))] []
  refine jr_aload_n hF dX12_init_178 0 rfl rfl ?_
  show lt_J X 18 6914 (ly_S 252 238) _ 179 [(0, .ref (lt_z X + 233))] [.ref (lt_z X + 233)]
  refine jr_bipush (v := 80) hF dX12_init_179 rfl ?_
  show lt_J X 18 6914 (ly_S 252 238) _ 181 [(0, .ref (lt_z X + 233))] [.int 80, .ref (lt_z X + 233)]
  refine jr_newa_int (len := 80) (n := 80) hF lyq_10 rfl rfl (by decide) (by decide) rfl (hz7.up (Nat.le_of_ble_eq_true rfl : 241 ≤ 252)) ⟨Nat.le_of_ble_eq_true rfl, Nat.le_of_ble_eq_true rfl⟩ dX12_init_181 ?_
  show lt_J X 19 6994 (ly_S 253 238) _ 183 [(0, .ref (lt_z X + 233))] [.ref (lt_z X + 252), .ref (lt_z X + 233)]
  refine jr_putR (a := 233) (b := 252) hF hI clX12 (Nat.le_of_ble_eq_true rfl) lyf_X12_78 rfl rfl rfl (fun x => ⟨rfl, rfl⟩) (Nat.le_of_ble_eq_true rfl) rfl lyp_238 rfl dX12_init_183 ?_
  show lt_J X 19 6994 (ly_S 253 239) _ 186 [(0, .ref (lt_z X + 233))] []
  refine jr_aload_n hF dX12_init_186 0 rfl rfl ?_
  show lt_J X 19 6994 (ly_S 253 239) _ 187 [(0, .ref (lt_z X + 233))] [.ref (lt_z X + 233)]
  refine jr_iconst (v := 5) hF dX12_init_187 rfl ?_
  show lt_J X 19 6994 (ly_S 253 239) _ 188 [(0, .ref (lt_z X + 233))] [.int 5, .ref (lt_z X + 233)]
  refine jr_newa_int (len := 5) (n := 5) hF lyq_10 rfl rfl (by decide) (by decide) rfl (hz7.up (Nat.le_of_ble_eq_true rfl : 241 ≤ 253)) ⟨Nat.le_of_ble_eq_true rfl, Nat.le_of_ble_eq_true rfl⟩ dX12_init_188 ?_
  show lt_J X 20 6999 (ly_S 254 239) _ 190 [(0, .ref (lt_z X + 233))] [.ref (lt_z X + 253), .ref (lt_z X + 233)]
  refine jr_putR (a := 233) (b := 253) hF hI clX12 (Nat.le_of_ble_eq_true rfl) lyf_X12_81 rfl rfl rfl (fun x => ⟨rfl, rfl⟩) (Nat.le_of_ble_eq_true rfl) rfl lyp_239 rfl dX12_init_190 ?_
  show lt_J X 20 6999 (ly_S 254 240) _ 193 [(0, .ref (lt_z X + 233))] []
  refine jr_aload_n hF dX12_init_193 0 rfl rfl ?_
  show lt_J X 20 6999 (ly_S 254 240) _ 194 [(0, .ref (lt_z X + 233))] [.ref (lt_z X + 233)]
  refine jr_iconst (v := 5) hF dX12_init_194 rfl ?_
  show lt_J X 20 6999 (ly_S 254 240) _ 195 [(0, .ref (lt_z X + 233))] [.int 5, .ref (lt_z X + 233)]
  refine jr_newa_int (len := 5) (n := 5) hF lyq_10 rfl rfl (by decide) (by decide) rfl (hz7.up (Nat.le_of_ble_eq_true rfl : 241 ≤ 254)) ⟨Nat.le_of_ble_eq_true rfl, Nat.le_of_ble_eq_true rfl⟩ dX12_init_195 ?_
  show lt_J X 21 7004 (ly_S 255 240) _ 197 [(0, .ref (lt_z X + 233))] [.ref (lt_z X + 254), .ref (lt_z X + 233)]
  refine jr_putR (a := 233) (b := 254) hF hI clX12 (Nat.le_of_ble_eq_true rfl) lyf_X12_84 rfl rfl rfl (fun x => ⟨rfl, rfl⟩) (Nat.le_of_ble_eq_true rfl) rfl lyp_240 rfl dX12_init_197 ?_
  show lt_J X 21 7004 (ly_S 255 241) _ 200 [(0, .ref (lt_z X + 233))] []
  refine jr_aload_n hF dX12_init_200 0 rfl rfl ?_
  show lt_J X 21 7004 (ly_S 255 241) _ 201 [(0, .ref (lt_z X + 233))] [.ref (lt_z X + 233)]
  refine jr_iconst (v := 0) hF dX12_init_201 rfl ?_
  show lt_J X 21 7004 (ly_S 255 241) _ 202 [(0, .ref (lt_z X + 233))] [.int 0, .ref (lt_z X + 233)]
  refine jr_callV (As := [.int 0]) (st := []) hF ml_X12_87 (c_X12_plain hT (ly_c (Nat.le_of_ble_eq_true rfl)) hr) (ly_c (Nat.le_of_ble_eq_true rfl)) rfl ⟨Nat.le_of_ble_eq_true rfl, Nat.le_of_ble_eq_true rfl⟩ ⟨Nat.le_of_ble_eq_true rfl, Nat.le_of_ble_eq_true rfl⟩ (Nat.le_of_ble_eq_true rfl) dX12_init_202 ?_
  show lt_J X 21 7004 (ly_S 255 241) _ 205 [(0, .ref (lt_z X + 233))] []
  exact jr_return hF hE dX12_init_205
