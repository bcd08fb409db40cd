def lt_fu : Nat := 1000000

set_option maxRecDepth 100000 in
def fb_J6_bitCount_0f7a4_0 (x0 : Int32) : Option Int32 := lt_let (x0 - ((lt_ush x0 1) &&& 1431655765)) (fun z1 => lt_let ((z1 &&& 858993459) + ((lt_ush z1 2) &&& 858993459)) (fun z2 => lt_let ((z2 + (lt_ush z2 4)) &&& 252645135) (fun z3 => lt_let ((z3 + (lt_ush z3 8)) + (lt_ush (z3 + (lt_ush z3 8)) 16)) (fun z4 => some (z4 &&& 63)))))
set_option maxHeartbeats 4000000 in
set_option maxRecDepth 100000 in
theorem jb_J6_bitCount_0f7a4_0 {X : lt_X} {σ : lt_S} {r : Int32} {w : lt_W} (hF : lt_F X cJ6_bitCount_0f7a4 RJ6 1 (lt_rm 1)) (hE : lt_E X 0 0 σ (some .int) (some (.int r)) w) : ∀ (x0 : Int32), fb_J6_bitCount_0f7a4_0 x0 = some r → lt_J X 0 0 σ w 0 [(0, .int x0)] [] := by
  intro x0 hf
  unfold fb_J6_bitCount_0f7a4_0 at hf
  refine jr_iload_n hF dJ6_bitCount_0f7a4_0 0 rfl rfl ?_
  refine jr_iload_n hF dJ6_bitCount_0f7a4_1 0 rfl rfl ?_
  refine jr_iconst (v := 1) hF dJ6_bitCount_0f7a4_2 rfl ?_
  refine jr_iushr hF dJ6_bitCount_0f7a4_3 ?_
  refine jr_ldcw (v := 1431655765) hF dJ6_bitCount_0f7a4_4 kc_J6_265 ?_
  refine jr_iand hF dJ6_bitCount_0f7a4_7 ?_
  refine jr_isub hF dJ6_bitCount_0f7a4_8 ?_
  refine jr_letI hf (fun z1 hf => ?_)
  refine jr_istore_n (lv' := [(0, .int z1)]) hF dJ6_bitCount_0f7a4_9 rfl (by decide) [0] rfl ?_
  refine jr_iload_n hF dJ6_bitCount_0f7a4_10 0 rfl rfl ?_
  refine jr_ldcw (v := 858993459) hF dJ6_bitCount_0f7a4_11 kc_J6_266 ?_
  refine jr_iand hF dJ6_bitCount_0f7a4_14 ?_
  refine jr_iload_n hF dJ6_bitCount_0f7a4_15 0 rfl rfl ?_
  refine jr_iconst (v := 2) hF dJ6_bitCount_0f7a4_16 rfl ?_
  refine jr_iushr hF dJ6_bitCount_0f7a4_17 ?_
  refine jr_ldcw (v := 858993459) hF dJ6_bitCount_0f7a4_18 kc_J6_266 ?_
  refine jr_iand hF dJ6_bitCount_0f7a4_21 ?_
  refine jr_iadd hF dJ6_bitCount_0f7a4_22 ?_
  refine jr_letI hf (fun z2 hf => ?_)
  refine jr_istore_n (lv' := [(0, .int z2)]) hF dJ6_bitCount_0f7a4_23 rfl (by decide) [0] rfl ?_
  refine jr_iload_n hF dJ6_bitCount_0f7a4_24 0 rfl rfl ?_
  refine jr_iload_n hF dJ6_bitCount_0f7a4_25 0 rfl rfl ?_
  refine jr_iconst (v := 4) hF dJ6_bitCount_0f7a4_26 rfl ?_
  refine jr_iushr hF dJ6_bitCount_0f7a4_27 ?_
  refine jr_iadd hF dJ6_bitCount_0f7a4_28 ?_
  refine jr_ldcw (v := 252645135) hF dJ6_bitCount_0f7a4_29 kc_J6_267 ?_
  refine jr_iand hF dJ6_bitCount_0f7a4_32 ?_
  refine jr_letI hf (fun z3 hf => ?_)
  refine jr_istore_n (lv' := [(0, .int z3)]) hF dJ6_bitCount_0f7a4_33 rfl (by decide) [0] rfl ?_
  refine jr_iload_n hF dJ6_bitCount_0f7a4_34 0 rfl rfl ?_
  refine jr_iload_n hF dJ6_bitCount_0f7a4_35 0 rfl rfl ?_
  refine jr_bipush (v := 8) hF dJ6_bitCount_0f7a4_36 rfl ?_
  refine jr_iushr hF dJ6_bitCount_0f7a4_38 ?_
  refine jr_iadd hF dJ6_bitCount_0f7a4_39 ?_
  refine jr_istore_n (lv' := [(0, .int (z3 + (lt_ush z3 8)))]) hF dJ6_bitCount_0f7a4_40 rfl (by decide) [0] rfl ?_
  refine jr_iload_n hF dJ6_bitCount_0f7a4_41 0 rfl rfl ?_
  refine jr_iload_n hF dJ6_bitCount_0f7a4_42 0 rfl rfl ?_
  refine jr_bipush (v := 16) hF dJ6_bitCount_0f7a4_43 rfl ?_
  refine jr_iushr hF dJ6_bitCount_0f7a4_45 ?_
  refine jr_iadd hF dJ6_bitCount_0f7a4_46 ?_
  refine jr_letI hf (fun z4 hf => ?_)
  refine jr_istore_n (lv' := [(0, .int z4)]) hF dJ6_bitCount_0f7a4_47 rfl (by decide) [0] rfl ?_
  refine jr_iload_n hF dJ6_bitCount_0f7a4_48 0 rfl rfl ?_
  refine jr_bipush (v := 63) hF dJ6_bitCount_0f7a4_49 rfl ?_
  refine jr_iand hF dJ6_bitCount_0f7a4_51 ?_
  obtain rfl := Option.some.inj hf
  exact jr_ireturn hF hE dJ6_bitCount_0f7a4_52
def f_J6_bitCount_0f7a4 (x0 : Int32) : Option Int32 := fb_J6_bitCount_0f7a4_0 x0
set_option maxRecDepth 100000 in
theorem c_J6_bitCount_0f7a4 {l : Launch} {D : va_G} {gA : Nat → ClassId} {s0 : State} {σ : lt_S} {x0 : Int32} {w : lt_W} {r : Int32} (hf : f_J6_bitCount_0f7a4 x0 = some r) : lt_C l D gA s0 yJ6_bitCount_0f7a4 cJ6_bitCount_0f7a4 1 (some .int) (lt_rm 1) [.int x0] σ w σ (some (.int r)) w := by
  refine lt_enter rfl (Nat.le_of_ble_eq_true rfl) (fun X e1 e2 e3 e4 hF hE => ?_)
  subst e1 e2 e3 e4
  exact jb_J6_bitCount_0f7a4_0 hF hE _ hf

set_option maxRecDepth 100000 in
def fb_X5_copyFrom_0 (σ : lt_S) (o : Nat) (x1 : Nat) (w : lt_W) : Option lt_W := lt_let (lt_si w o 0 (lt_gi w x1 0)) (fun w1 => lt_let (lt_si w1 o 1 (lt_gi w1 x1 1)) (fun w2 => lt_let (lt_si w2 o 2 (lt_gi w2 x1 2)) (fun w3 => lt_let (lt_si w3 o 3 (lt_gi w3 x1 3)) (fun w4 => lt_let (lt_si w4 o 4 (lt_gi w4 x1 4)) (fun w5 => lt_let (lt_si w5 o 5 (lt_gi w5 x1 5)) (fun w6 => lt_let (lt_si w6 o 6 (lt_gi w6 x1 6)) (fun w7 => lt_let (lt_si w7 o 7 (lt_gi w7 x1 7)) (fun w8 => lt_let (lt_si w8 o 8 (lt_gi w8 x1 8)) (fun w9 => lt_cc (lt_len σ (lt_r σ x1 9)) (lt_len σ (lt_r σ o 9)) 0 0 7 (lt_let (lt_cl w9 (lt_r σ x1 9) (lt_r σ o 9) (0 : Int32).toNatClampNeg (0 : Int32).toNatClampNeg (7 : Int32).toNatClampNeg) (fun w12 => lt_cc (lt_len σ (lt_r σ x1 10)) (lt_len σ (lt_r σ o 10)) 0 0 7 (lt_let (lt_ci w12 (lt_r σ x1 10) (lt_r σ o 10) (0 : Int32).toNatClampNeg (0 : Int32).toNatClampNeg (7 : Int32).toNatClampNeg) (fun w15 => lt_cc (lt_len σ (lt_r σ x1 11)) (lt_len σ (lt_r σ o 11)) 0 0 7 (lt_let (lt_ci w15 (lt_r σ x1 11) (lt_r σ o 11) (0 : Int32).toNatClampNeg (0 : Int32).toNatClampNeg (7 : Int32).toNatClampNeg) (fun w18 => lt_cc (lt_len σ (lt_r σ x1 12)) (lt_len σ (lt_r σ o 12)) 0 0 7 (lt_let (lt_ci w18 (lt_r σ x1 12) (lt_r σ o 12) (0 : Int32).toNatClampNeg (0 : Int32).toNatClampNeg (7 : Int32).toNatClampNeg) (fun w21 => lt_cc (lt_len σ (lt_r σ x1 13)) (lt_len σ (lt_r σ o 13)) 0 0 7 (lt_let (lt_ci w21 (lt_r σ x1 13) (lt_r σ o 13) (0 : Int32).toNatClampNeg (0 : Int32).toNatClampNeg (7 : Int32).toNatClampNeg) (fun w24 => lt_cc (lt_len σ (lt_r σ x1 14)) (lt_len σ (lt_r σ o 14)) 0 0 7 (lt_let (lt_ci w24 (lt_r σ x1 14) (lt_r σ o 14) (0 : Int32).toNatClampNeg (0 : Int32).toNatClampNeg (7 : Int32).toNatClampNeg) (fun w27 => lt_cc (lt_len σ (lt_r σ x1 15)) (lt_len σ (lt_r σ o 15)) 0 0 7 (lt_let (lt_ci w27 (lt_r σ x1 15) (lt_r σ o 15) (0 : Int32).toNatClampNeg (0 : Int32).toNatClampNeg (7 : Int32).toNatClampNeg) (fun w30 => some w30)))))))))))))))))))))))
set_option maxHeartbeats 4000000 in
set_option maxRecDepth 100000 in
theorem jb_X5_copyFrom_0 {X : lt_X} {σ : lt_S} (hT : lt_Wt σ) {o : Nat} (h0 : lt_c σ o = 5) {r : lt_W} (hF : lt_F X cX5_copyFrom RX5 2 (lt_rm 2)) (hE : lt_E X 0 0 σ none none r) : ∀ (x1 : Nat) (w : lt_W), lt_c σ x1 = 5 → fb_X5_copyFrom_0 σ o x1 w = some r → lt_J X 0 0 σ w 0 [(0, .ref (lt_z X + o)), (1, .ref (lt_z X + x1))] [] := by
  intro x1 w t1 hf
  unfold fb_X5_copyFrom_0 at hf
  refine jr_aload_n hF dX5_copyFrom_0 0 rfl rfl ?_
  refine jr_aload_n hF dX5_copyFrom_1 1 rfl rfl ?_
  refine jr_getI hF gf_X5_40 t1 dX5_copyFrom_2 ?_
  refine jr_putI hF pf_X5_40 h0 dX5_copyFrom_5 ?_
  refine jr_letW hf (fun w1 hf => ?_)
  refine jr_aload_n hF dX5_copyFrom_8 0 rfl rfl ?_
  refine jr_aload_n hF dX5_copyFrom_9 1 rfl rfl ?_
  refine jr_getI hF gf_X5_44 t1 dX5_copyFrom_10 ?_
  refine jr_putI hF pf_X5_44 h0 dX5_copyFrom_13 ?_
  refine jr_letW hf (fun w2 hf => ?_)
  refine jr_aload_n hF dX5_copyFrom_16 0 rfl rfl ?_
  refine jr_aload_n hF dX5_copyFrom_17 1 rfl rfl ?_
  refine jr_getI hF gf_X5_47 t1 dX5_copyFrom_18 ?_
  refine jr_putI hF pf_X5_47 h0 dX5_copyFrom_21 ?_
  refine jr_letW hf (fun w3 hf => ?_)
  refine jr_aload_n hF dX5_copyFrom_24 0 rfl rfl ?_
  refine jr_aload_n hF dX5_copyFrom_25 1 rfl rfl ?_
  refine jr_getI hF gf_X5_50 t1 dX5_copyFrom_26 ?_
  refine jr_putI hF pf_X5_50 h0 dX5_copyFrom_29 ?_
  refine jr_letW hf (fun w4 hf => ?_)
  refine jr_aload_n hF dX5_copyFrom_32 0 rfl rfl ?_
  refine jr_aload_n hF dX5_copyFrom_33 1 rfl rfl ?_
  refine jr_getI hF gf_X5_53 t1 dX5_copyFrom_34 ?_
  refine jr_putI hF pf_X5_53 h0 dX5_copyFrom_37 ?_
  refine jr_letW hf (fun w5 hf => ?_)
  refine jr_aload_n hF dX5_copyFrom_40 0 rfl rfl ?_
  refine jr_aload_n hF dX5_copyFrom_41 1 rfl rfl ?_
  refine jr_getI hF gf_X5_56 t1 dX5_copyFrom_42 ?_
  refine jr_putI hF pf_X5_56 h0 dX5_copyFrom_45 ?_
  refine jr_letW hf (fun w6 hf => ?_)
  refine jr_aload_n hF dX5_copyFrom_48 0 rfl rfl ?_
  refine jr_aload_n hF dX5_copyFrom_49 1 rfl rfl ?_
  refine jr_getI hF gf_X5_59 t1 dX5_copyFrom_50 ?_
  refine jr_putI hF pf_X5_59 h0 dX5_copyFrom_53 ?_
  refine jr_letW hf (fun w7 hf => ?_)
  refine jr_aload_n hF dX5_copyFrom_56 0 rfl rfl ?_
  refine jr_aload_n hF dX5_copyFrom_57 1 rfl rfl ?_
  refine jr_getI hF gf_X5_62 t1 dX5_copyFrom_58 ?_
  refine jr_putI hF pf_X5_62 h0 dX5_copyFrom_61 ?_
  refine jr_letW hf (fun w8 hf => ?_)
  refine jr_aload_n hF dX5_copyFrom_64 0 rfl rfl ?_
  refine jr_aload_n hF dX5_copyFrom_65 1 rfl rfl ?_
  refine jr_getI hF gf_X5_65 t1 dX5_copyFrom_66 ?_
  refine jr_putI hF pf_X5_65 h0 dX5_copyFrom_69 ?_
  refine jr_letW hf (fun w9 hf => ?_)
  refine jr_aload_n hF dX5_copyFrom_72 1 rfl rfl ?_
  refine jr_getRT (cr := 51) hF gf_X5_9 hT t1 rfl rfl dX5_copyFrom_73 (fun t10 => ?_)
  refine jr_iconst (v := 0) hF dX5_copyFrom_76 rfl ?_
  refine jr_aload_n hF dX5_copyFrom_77 0 rfl rfl ?_
  refine jr_getRT (cr := 51) hF gf_X5_9 hT h0 rfl rfl dX5_copyFrom_78 (fun t11 => ?_)
  refine jr_iconst (v := 0) hF dX5_copyFrom_81 rfl ?_
  refine jr_bipush (v := 7) hF dX5_copyFrom_82 rfl ?_
  refine jr_copyL hF ac_X5_68 t10 t11 ⟨Nat.le_of_ble_eq_true rfl, Nat.le_of_ble_eq_true rfl⟩ dX5_copyFrom_84 hf (fun hf => ?_)
  refine jr_letW hf (fun w12 hf => ?_)
  refine jr_aload_n hF dX5_copyFrom_87 1 rfl rfl ?_
  refine jr_getRT (cr := 50) hF gf_X5_15 hT t1 rfl rfl dX5_copyFrom_88 (fun t13 => ?_)
  refine jr_iconst (v := 0) hF dX5_copyFrom_91 rfl ?_
  refine jr_aload_n hF dX5_copyFrom_92 0 rfl rfl ?_
  refine jr_getRT (cr := 50) hF gf_X5_15 hT h0 rfl rfl dX5_copyFrom_93 (fun t14 => ?_)
  refine jr_iconst (v := 0) hF dX5_copyFrom_96 rfl ?_
  refine jr_bipush (v := 7) hF dX5_copyFrom_97 rfl ?_
  refine jr_copyI hF ac_X5_68 t13 t14 ⟨Nat.le_of_ble_eq_true rfl, Nat.le_of_ble_eq_true rfl⟩ dX5_copyFrom_99 hf (fun hf => ?_)
  refine jr_letW hf (fun w15 hf => ?_)
  refine jr_aload_n hF dX5_copyFrom_102 1 rfl rfl ?_
  refine jr_getRT (cr := 50) hF gf_X5_19 hT t1 rfl rfl dX5_copyFrom_103 (fun t16 => ?_)
  refine jr_iconst (v := 0) hF dX5_copyFrom_106 rfl ?_
  refine jr_aload_n hF dX5_copyFrom_107 0 rfl rfl ?_
  refine jr_getRT (cr := 50) hF gf_X5_19 hT h0 rfl rfl dX5_copyFrom_108 (fun t17 => ?_)
  refine jr_iconst (v := 0) hF dX5_copyFrom_111 rfl ?_
  refine jr_bipush (v := 7) hF dX5_copyFrom_112 rfl ?_
  refine jr_copyI hF ac_X5_68 t16 t17 ⟨Nat.le_of_ble_eq_true rfl, Nat.le_of_ble_eq_true rfl⟩ dX5_copyFrom_114 hf (fun hf => ?_)
  refine jr_letW hf (fun w18 hf => ?_)
  refine jr_aload_n hF dX5_copyFrom_117 1 rfl rfl ?_
  refine jr_getRT (cr := 50) hF gf_X5_22 hT t1 rfl rfl dX5_copyFrom_118 (fun t19 => ?_)
  refine jr_iconst (v := 0) hF dX5_copyFrom_121 rfl ?_
  refine jr_aload_n hF dX5_copyFrom_122 0 rfl rfl ?_
  refine jr_getRT (cr := 50) hF gf_X5_22 hT h0 rfl rfl dX5_copyFrom_123 (fun t20 => ?_)
  refine jr_iconst (v := 0) hF dX5_copyFrom_126 rfl ?_
  refine jr_bipush (v := 7) hF dX5_copyFrom_127 rfl ?_
  refine jr_copyI hF ac_X5_68 t19 t20 ⟨Nat.le_of_ble_eq_true rfl, Nat.le_of_ble_eq_true rfl⟩ dX5_copyFrom_129 hf (fun hf => ?_)
  refine jr_letW hf (fun w21 hf => ?_)
  refine jr_aload_n hF dX5_copyFrom_132 1 rfl rfl ?_
  refine jr_getRT (cr := 50) hF gf_X5_25 hT t1 rfl rfl dX5_copyFrom_133 (fun t22 => ?_)
  refine jr_iconst (v := 0) hF dX5_copyFrom_136 rfl ?_
  refine jr_aload_n hF dX5_copyFrom_137 0 rfl rfl ?_
  refine jr_getRT (cr := 50) hF gf_X5_25 hT h0 rfl rfl dX5_copyFrom_138 (fun t23 => ?_)
  refine jr_iconst (v := 0) hF dX5_copyFrom_141 rfl ?_
  refine jr_bipush (v := 7) hF dX5_copyFrom_142 rfl ?_
  refine jr_copyI hF ac_X5_68 t22 t23 ⟨Nat.le_of_ble_eq_true rfl, Nat.le_of_ble_eq_true rfl⟩ dX5_copyFrom_144 hf (fun hf => ?_)
  refine jr_letW hf (fun w24 hf => ?_)
  refine jr_aload_n hF dX5_copyFrom_147 1 rfl rfl ?_
  refine jr_getRT (cr := 50) hF gf_X5_28 hT t1 rfl rfl dX5_copyFrom_148 (fun t25 => ?_)
  refine jr_iconst (v := 0) hF dX5_copyFrom_151 rfl ?_
  refine jr_aload_n hF dX5_copyFrom_152 0 rfl rfl ?_
  refine jr_getRT (cr := 50) hF gf_X5_28 hT h0 rfl rfl dX5_copyFrom_153 (fun t26 => ?_)
  refine jr_iconst (v := 0) hF dX5_copyFrom_156 rfl ?_
  refine jr_bipush (v := 7) hF dX5_copyFrom_157 rfl ?_
  refine jr_copyI hF ac_X5_68 t25 t26 ⟨Nat.le_of_ble_eq_true rfl, Nat.le_of_ble_eq_true rfl⟩ dX5_copyFrom_159 hf (fun hf => ?_)
  refine jr_letW hf (fun w27 hf => ?_)
  refine jr_aload_n hF dX5_copyFrom_162 1 rfl rfl ?_
  refine jr_getRT (cr := 50) hF gf_X5_31 hT t1 rfl rfl dX5_copyFrom_163 (fun t28 => ?_)
  refine jr_iconst (v := 0) hF dX5_copyFrom_166 rfl ?_
  refine jr_aload_n hF dX5_copyFrom_167 0 rfl rfl ?_
  refine jr_getRT (cr := 50) hF gf_X5_31 hT h0 rfl rfl dX5_copyFrom_168 (fun t29 => ?_)
  refine jr_iconst (v := 0) hF dX5_copyFrom_171 rfl ?_
  refine jr_bipush (v := 7) hF dX5_copyFrom_172 rfl ?_
  refine jr_copyI hF ac_X5_68 t28 t29 ⟨Nat.le_of_ble_eq_true rfl, Nat.le_of_ble_eq_true rfl⟩ dX5_copyFrom_174 hf (fun hf => ?_)
  refine jr_letW hf (fun w30 hf => ?_)
  obtain rfl := Option.some.inj hf
  exact jr_return hF hE dX5_copyFrom_177
def f_X5_copyFrom (σ : lt_S) (o : Nat) (x1 : Nat) (w : lt_W) : Option lt_W := fb_X5_copyFrom_0 σ o x1 w
set_option maxRecDepth 100000 in
theorem c_X5_copyFrom {l : Launch} {D : va_G} {gA : Nat → ClassId} {s0 : State} {σ : lt_S} (hT : lt_Wt σ) {o : Nat} (h0 : lt_c σ o = 5) {x1 : Nat} (t1 : lt_c σ x1 = 5) {w : lt_W} {r : lt_W} (hf : f_X5_copyFrom σ o x1 w = some r) : lt_C l D gA s0 yX5_copyFrom cX5_copyFrom 2 none (lt_rm 2) [.ref (s0.heap.size + o), .ref (s0.heap.size + x1)] σ w σ none r := by
  refine lt_enter rfl (Nat.le_of_ble_eq_true rfl) (fun X e1 e2 e3 e4 hF hE => ?_)
  subst e1 e2 e3 e4
  exact jb_X5_copyFrom_0 hT h0 hF hE _ _ t1 hf

set_option maxRecDepth 100000 in
def fb_X5_isThere_0 (σ : lt_S) (o : Nat) (w : lt_W) (x1 : Int32) : Option Int32 := if x1 < 0 then some 0 else if (lt_gi w o 0) ≤ x1 then some 0 else if ((lt_gi w o 8) &&& (1 <<< (x1 &&& 31))) = 0 then some 0 else some 1
set_option maxHeartbeats 4000000 in
set_option maxRecDepth 100000 in
theorem jb_X5_isThere_0 {X : lt_X} {σ : lt_S} {o : Nat} (h0 : lt_c σ o = 5) {r : Int32} {w : lt_W} (hF : lt_F X cX5_isThere RX5 2 (lt_rm 1)) (hE : lt_E X 0 0 σ (some .boolean) (some (.int r)) w) : ∀ (x1 : Int32), fb_X5_isThere_0 σ o w x1 = some r → lt_J X 0 0 σ w 0 [(0, .ref (lt_z X + o)), (1, .int x1)] [] := by
  intro x1 hf
  unfold fb_X5_isThere_0 at hf
  refine jr_iload_n hF dX5_isThere_0 1 rfl rfl ?_
  refine jr_if_lt (tgt := 27) hF dX5_isThere_1 rfl hf (fun hf => ?_) (fun hf => ?_)
  · refine jr_iconst (v := 0) hF dX5_isThere_27 rfl ?_
    obtain rfl := Option.some.inj hf
    exact jr_zreturn hF hE (Or.inl rfl) dX5_isThere_28
  · refine jr_iload_n hF dX5_isThere_4 1 rfl rfl ?_
    refine jr_aload_n hF dX5_isThere_5 0 rfl rfl ?_
    refine jr_getI hF gf_X5_40 h0 dX5_isThere_6 ?_
    refine jr_icmp_ge (tgt := 27) hF dX5_isThere_9 rfl hf (fun hf => ?_) (fun hf => ?_)
    · refine jr_iconst (v := 0) hF dX5_isThere_27 rfl ?_
      obtain rfl := Option.some.inj hf
      exact jr_zreturn hF hE (Or.inl rfl) dX5_isThere_28
    · refine jr_aload_n hF dX5_isThere_12 0 rfl rfl ?_
      refine jr_getI hF gf_X5_65 h0 dX5_isThere_13 ?_
      refine jr_iconst (v := 1) hF dX5_isThere_16 rfl ?_
      refine jr_iload_n hF dX5_isThere_17 1 rfl rfl ?_
      refine jr_ishl hF dX5_isThere_18 ?_
      refine jr_iand hF dX5_isThere_19 ?_
      refine jr_if_eq (tgt := 27) hF dX5_isThere_20 rfl hf (fun hf => ?_) (fun hf => ?_)
      · refine jr_iconst (v := 0) hF dX5_isThere_27 rfl ?_
        obtain rfl := Option.some.inj hf
        exact jr_zreturn hF hE (Or.inl rfl) dX5_isThere_28
      · refine jr_iconst (v := 1) hF dX5_isThere_23 rfl ?_
        refine jr_goto (tgt := 28) hF dX5_isThere_24 rfl ?_
        obtain rfl := Option.some.inj hf
        exact jr_zreturn hF hE (Or.inr rfl) dX5_isThere_28
def f_X5_isThere (σ : lt_S) (o : Nat) (x1 : Int32) (w : lt_W) : Option Int32 := fb_X5_isThere_0 σ o w x1
set_option maxRecDepth 100000 in
theorem c_X5_isThere {l : Launch} {D : va_G} {gA : Nat → ClassId} {s0 : State} {σ : lt_S} {o : Nat} (h0 : lt_c σ o = 5) {x1 : Int32} {w : lt_W} {r : Int32} (hf : f_X5_isThere σ o x1 w = some r) : lt_C l D gA s0 yX5_isThere cX5_isThere 2 (some .boolean) (lt_rm 1) [.ref (s0.heap.size + o), .int x1] σ w σ (some (.int r)) w := by
  refine lt_enter rfl (Nat.le_of_ble_eq_true rfl) (fun X e1 e2 e3 e4 hF hE => ?_)
  subst e1 e2 e3 e4
  exact jb_X5_isThere_0 h0 hF hE _ hf

set_option maxRecDepth 100000 in
def fb_X5_starvedSet_4 (σ : lt_S) (o : Nat) (w : lt_W) : Nat → Int32 → Int32 → Option Int32
  | 0, _, _ => none
  | n + 1, x1, x2 => if (lt_gi w o 0) ≤ x2 then some x1 else Option.bind (f_X5_isThere σ o x2 w) (fun q1 => if q1 = 0 then fb_X5_starvedSet_4 σ o w n x1 (x2 + 1) else lt_ck x2 (lt_len σ (lt_r σ o 14)) (lt_ck x2 (lt_len σ (lt_r σ o 11)) (if (lt_gi w (lt_r σ o 14) x2.toNatClampNeg) ≤ (lt_gi w (lt_r σ o 11) x2.toNatClampNeg) then fb_X5_starvedSet_4 σ o w n x1 (x2 + 1) else lt_let (x1 ||| (1 <<< (x2 &&& 31))) (fun z4 => fb_X5_starvedSet_4 σ o w n z4 (x2 + 1)))))
set_option maxHeartbeats 4000000 in
set_option maxRecDepth 100000 in
theorem jb_X5_starvedSet_4 {X : lt_X} {σ : lt_S} (hT : lt_Wt σ) {o : Nat} (h0 : lt_c σ o = 5) {r : Int32} {w : lt_W} (hF : lt_F X cX5_starvedSet RX5 3 (lt_rm 2)) (hE : lt_E X 0 0 σ (some .int) (some (.int r)) w) (n : Nat) : ∀ (x1 : Int32) (x2 : Int32), fb_X5_starvedSet_4 σ o w n x1 x2 = some r → lt_J X 0 0 σ w 4 [(0, .ref (lt_z X + o)), (1, .int x1), (2, .int x2)] [] := by
  induction n with
  | zero => intro x1 x2 hf; rw [fb_X5_starvedSet_4] at hf; cases hf
  | succ n ih =>
    intro x1 x2 hf
    rw [fb_X5_starvedSet_4] at hf
    refine jr_iload_n hF dX5_starvedSet_4 2 rfl rfl ?_
    refine jr_aload_n hF dX5_starvedSet_5 0 rfl rfl ?_
    refine jr_getI hF gf_X5_40 h0 dX5_starvedSet_6 ?_
    refine jr_icmp_ge (tgt := 47) hF dX5_starvedSet_9 rfl hf (fun hf => ?_) (fun hf => ?_)
    · refine jr_iload_n hF dX5_starvedSet_47 1 rfl rfl ?_
      obtain rfl := Option.some.inj hf
      exact jr_ireturn hF hE dX5_starvedSet_48
    · refine jr_aload_n hF dX5_starvedSet_12 0 rfl rfl ?_
      refine jr_iload_n hF dX5_starvedSet_13 2 rfl rfl ?_
      obtain ⟨q1, hq1, hf⟩ := Option.bind_eq_some_iff.mp hf
      refine jr_cV11 hF ml_X5_74 (c_X5_isThere h0 hq1) h0 ⟨Nat.le_of_ble_eq_true rfl, Nat.le_of_ble_eq_true rfl⟩ (Nat.le_of_ble_eq_true rfl) dX5_starvedSet_14 ?_
      refine jr_if_eq (tgt := 41) hF dX5_starvedSet_17 rfl hf (fun hf => ?_) (fun hf => ?_)
      · refine jr_iinc (v := x2 + 1) (lv' := [(0, .ref (lt_z X + o)), (1, .int x1), (2, .int (x2 + 1))]) hF dX5_starvedSet_41 2 rfl rfl (by decide) [1, 2, 0] rfl ?_
        refine jr_goto (tgt := 4) hF dX5_starvedSet_44 rfl ?_
        exact ih _ _ hf
      · refine jr_aload_n hF dX5_starvedSet_20 0 rfl rfl ?_
        refine jr_getRT (cr := 50) hF gf_X5_28 hT h0 rfl rfl dX5_starvedSet_21 (fun t2 => ?_)
        refine jr_iload_n hF dX5_starvedSet_24 2 rfl rfl ?_
        refine jr_iaload hF t2 dX5_starvedSet_25 hf (fun hf => ?_)
        refine jr_aload_n hF dX5_starvedSet_26 0 rfl rfl ?_
        refine jr_getRT (cr := 50) hF gf_X5_19 hT h0 rfl rfl dX5_starvedSet_27 (fun t3 => ?_)
        refine jr_iload_n hF dX5_starvedSet_30 2 rfl rfl ?_
        refine jr_iaload hF t3 dX5_starvedSet_31 hf (fun hf => ?_)
        refine jr_icmp_le (tgt := 41) hF dX5_starvedSet_32 rfl hf (fun hf => ?_) (fun hf => ?_)
        · refine jr_iinc (v := x2 + 1) (lv' := [(0, .ref (lt_z X + o)), (1, .int x1), (2, .int (x2 + 1))]) hF dX5_starvedSet_41 2 rfl rfl (by decide) [1, 2, 0] rfl ?_
          refine jr_goto (tgt := 4) hF dX5_starvedSet_44 rfl ?_
          exact ih _ _ hf
        · refine jr_iload_n hF dX5_starvedSet_35 1 rfl rfl ?_
          refine jr_iconst (v := 1) hF dX5_starvedSet_36 rfl ?_
          refine jr_iload_n hF dX5_starvedSet_37 2 rfl rfl ?_
          refine jr_ishl hF dX5_starvedSet_38 ?_
          refine jr_ior hF dX5_starvedSet_39 ?_
          refine jr_letI hf (fun z4 hf => ?_)
          refine jr_istore_n (lv' := [(0, .ref (lt_z X + o)), (1, .int z4), (2, .int x2)]) hF dX5_starvedSet_40 rfl (by decide) [1, 0, 2] rfl ?_
          refine jr_iinc (v := x2 + 1) (lv' := [(0, .ref (lt_z X + o)), (1, .int z4), (2, .int (x2 + 1))]) hF dX5_starvedSet_41 2 rfl rfl (by decide) [1, 2, 0] rfl ?_
          refine jr_goto (tgt := 4) hF dX5_starvedSet_44 rfl ?_
          exact ih _ _ hf
set_option maxRecDepth 100000 in
def fb_X5_starvedSet_0 (σ : lt_S) (o : Nat) (w : lt_W) : Option Int32 := fb_X5_starvedSet_4 σ o w lt_fu 0 0
set_option maxHeartbeats 4000000 in
set_option maxRecDepth 100000 in
theorem jb_X5_starvedSet_0 {X : lt_X} {σ : lt_S} (hT : lt_Wt σ) {o : Nat} (h0 : lt_c σ o = 5) {r : Int32} {w : lt_W} (hF : lt_F X cX5_starvedSet RX5 3 (lt_rm 2)) (hE : lt_E X 0 0 σ (some .int) (some (.int r)) w) : fb_X5_starvedSet_0 σ o w = some r → lt_J X 0 0 σ w 0 [(0, .ref (lt_z X + o))] [] := by
  intro  hf
  unfold fb_X5_starvedSet_0 at hf
  refine jr_iconst (v := 0) hF dX5_starvedSet_0 rfl ?_
  refine jr_istore_n (lv' := [(0, .ref (lt_z X + o)), (1, .int 0)]) hF dX5_starvedSet_1 rfl (by decide) [1, 0] rfl ?_
  refine jr_iconst (v := 0) hF dX5_starvedSet_2 rfl ?_
  refine jr_istore_n (lv' := [(0, .ref (lt_z X + o)), (1, .int 0), (2, .int 0)]) hF dX5_starvedSet_3 rfl (by decide) [1, 2, 0] rfl ?_
  exact jb_X5_starvedSet_4 hT h0 hF hE lt_fu _ _ hf
def f_X5_starvedSet (σ : lt_S) (o : Nat) (w : lt_W) : Option Int32 := fb_X5_starvedSet_0 σ o w
set_option maxRecDepth 100000 in
theorem c_X5_starvedSet {l : Launch} {D : va_G} {gA : Nat → ClassId} {s0 : State} {σ : lt_S} (hT : lt_Wt σ) {o : Nat} (h0 : lt_c σ o = 5) {w : lt_W} {r : Int32} (hf : f_X5_starvedSet σ o w = some r) : lt_C l D gA s0 yX5_starvedSet cX5_starvedSet 3 (some .int) (lt_rm 2) [.ref (s0.heap.size + o)] σ w σ (some (.int r)) w := by
  refine lt_enter rfl (Nat.le_of_ble_eq_true rfl) (fun X e1 e2 e3 e4 hF hE => ?_)
  subst e1 e2 e3 e4
  exact jb_X5_starvedSet_0 hT h0 hF hE hf

set_option maxRecDepth 100000 in
def fb_X5_firstCutter_20 (σ : lt_S) (o : Nat) (w : lt_W) : Nat → Int32 → Int32 → Int32 → Option Int32
  | 0, _, _, _ => none
  | n + 1, x1, x2, x3 => if (lt_gi w o 0) ≤ x3 then some x1 else Option.bind (f_X5_isThere σ o x3 w) (fun q1 => if q1 = 0 then fb_X5_firstCutter_20 σ o w n x1 x2 (x3 + 1) else lt_ck x3 (lt_len σ (lt_r σ o 10)) (if (lt_gi w (lt_r σ o 10) x3.toNatClampNeg) ≤ x2 then fb_X5_firstCutter_20 σ o w n x1 x2 (x3 + 1) else lt_ck x3 (lt_len σ (lt_r σ o 10)) (lt_let (lt_gi w (lt_r σ o 10) x3.toNatClampNeg) (fun z4 => fb_X5_firstCutter_20 σ o w n x3 z4 (x3 + 1)))))
set_option maxHeartbeats 4000000 in
set_option maxRecDepth 100000 in
theorem jb_X5_firstCutter_20 {X : lt_X} {σ : lt_S} (hT : lt_Wt σ) {o : Nat} (h0 : lt_c σ o = 5) {r : Int32} {w : lt_W} (hF : lt_F X cX5_firstCutter RX5 4 (lt_rm 2)) (hE : lt_E X 0 0 σ (some .int) (some (.int r)) w) (n : Nat) : ∀ (x1 : Int32) (x2 : Int32) (x3 : Int32), fb_X5_firstCutter_20 σ o w n x1 x2 x3 = some r → lt_J X 0 0 σ w 20 [(0, .ref (lt_z X + o)), (1, .int x1), (2, .int x2), (3, .int x3)] [] := by
  induction n with
  | zero => intro x1 x2 x3 hf; rw [fb_X5_firstCutter_20] at hf; cases hf
  | succ n ih =>
    intro x1 x2 x3 hf
    rw [fb_X5_firstCutter_20] at hf
    refine jr_iload_n hF dX5_firstCutter_20 3 rfl rfl ?_
    refine jr_aload_n hF dX5_firstCutter_21 0 rfl rfl ?_
    refine jr_getI hF gf_X5_40 h0 dX5_firstCutter_22 ?_
    refine jr_icmp_ge (tgt := 61) hF dX5_firstCutter_25 rfl hf (fun hf => ?_) (fun hf => ?_)
    · refine jr_iload_n hF dX5_firstCutter_61 1 rfl rfl ?_
      obtain rfl := Option.some.inj hf
      exact jr_ireturn hF hE dX5_firstCutter_62
    · refine jr_aload_n hF dX5_firstCutter_28 0 rfl rfl ?_
      refine jr_iload_n hF dX5_firstCutter_29 3 rfl rfl ?_
      obtain ⟨q1, hq1, hf⟩ := Option.bind_eq_some_iff.mp hf
      refine jr_cV11 hF ml_X5_74 (c_X5_isThere h0 hq1) h0 ⟨Nat.le_of_ble_eq_true rfl, Nat.le_of_ble_eq_true rfl⟩ (Nat.le_of_ble_eq_true rfl) dX5_firstCutter_30 ?_
      refine jr_if_eq (tgt := 55) hF dX5_firstCutter_33 rfl hf (fun hf => ?_) (fun hf => ?_)
      · refine jr_iinc (v := x3 + 1) (lv' := [(0, .ref (lt_z X + o)), (1, .int x1), (2, .int x2), (3, .int (x3 + 1))]) hF dX5_firstCutter_55 3 rfl rfl (by decide) [1, 2, 3, 0] rfl ?_
        refine jr_goto (tgt := 20) hF dX5_firstCutter_58 rfl ?_
        exact ih _ _ _ hf
      · refine jr_aload_n hF dX5_firstCutter_36 0 rfl rfl ?_
        refine jr_getRT (cr := 50) hF gf_X5_15 hT h0 rfl rfl dX5_firstCutter_37 (fun t2 => ?_)
        refine jr_iload_n hF dX5_firstCutter_40 3 rfl rfl ?_
        refine jr_iaload hF t2 dX5_firstCutter_41 hf (fun hf => ?_)
        refine jr_iload_n hF dX5_firstCutter_42 2 rfl rfl ?_
        refine jr_icmp_le (tgt := 55) hF dX5_firstCutter_43 rfl hf (fun hf => ?_) (fun hf => ?_)
        · refine jr_iinc (v := x3 + 1) (lv' := [(0, .ref (lt_z X + o)), (1, .int x1), (2, .int x2), (3, .int (x3 + 1))]) hF dX5_firstCutter_55 3 rfl rfl (by decide) [1, 2, 3, 0] rfl ?_
          refine jr_goto (tgt := 20) hF dX5_firstCutter_58 rfl ?_
          exact ih _ _ _ hf
        · refine jr_iload_n hF dX5_firstCutter_46 3 rfl rfl ?_
          refine jr_istore_n (lv' := [(0, .ref (lt_z X + o)), (1, .int x3), (3, .int x3)]) hF dX5_firstCutter_47 rfl (by decide) [1, 0, 3] rfl ?_
          refine jr_aload_n hF dX5_firstCutter_48 0 rfl rfl ?_
          refine jr_getRT (cr := 50) hF gf_X5_15 hT h0 rfl rfl dX5_firstCutter_49 (fun t3 => ?_)
          refine jr_iload_n hF dX5_firstCutter_52 2 rfl rfl ?_
          refine jr_iaload hF t3 dX5_firstCutter_53 hf (fun hf => ?_)
          refine jr_letI hf (fun z4 hf => ?_)
          refine jr_istore_n (lv' := [(0, .ref (lt_z X + o)), (1, .int x3), (2, .int z4), (3, .int x3)]) hF dX5_firstCutter_54 rfl (by decide) [1, 2, 0, 3] rfl ?_
          refine jr_iinc (v := x3 + 1) (lv' := [(0, .ref (lt_z X + o)), (1, .int x3), (2, .int z4), (3, .int (x3 + 1))]) hF dX5_firstCutter_55 3 rfl rfl (by decide) [1, 2, 3, 0] rfl ?_
          refine jr_goto (tgt := 20) hF dX5_firstCutter_58 rfl ?_
          exact ih _ _ _ hf
set_option maxRecDepth 100000 in
def fb_X5_firstCutter_0 (σ : lt_S) (o : Nat) (w : lt_W) : Option Int32 := if (lt_gi w o 5) ≤ 0 then fb_X5_firstCutter_20 σ o w lt_fu (-1) ((lt_gi w o 2) - 1) 0 else some (-1)
set_option maxHeartbeats 4000000 in
set_option maxRecDepth 100000 in
theorem jb_X5_firstCutter_0 {X : lt_X} {σ : lt_S} (hT : lt_Wt σ) {o : Nat} (h0 : lt_c σ o = 5) {r : Int32} {w : lt_W} (hF : lt_F X cX5_firstCutter RX5 4 (lt_rm 2)) (hE : lt_E X 0 0 σ (some .int) (some (.int r)) w) : fb_X5_firstCutter_0 σ o w = some r → lt_J X 0 0 σ w 0 [(0, .ref (lt_z X + o))] [] := by
  intro  hf
  unfold fb_X5_firstCutter_0 at hf
  refine jr_aload_n hF dX5_firstCutter_0 0 rfl rfl ?_
  refine jr_getI hF gf_X5_56 h0 dX5_firstCutter_1 ?_
  refine jr_if_le (tgt := 9) hF dX5_firstCutter_4 rfl hf (fun hf => ?_) (fun hf => ?_)
  · refine jr_iconst (v := (-1)) hF dX5_firstCutter_9 rfl ?_
    refine jr_istore_n (lv' := [(0, .ref (lt_z X + o)), (1, .int (-1))]) hF dX5_firstCutter_10 rfl (by decide) [1, 0] rfl ?_
    refine jr_aload_n hF dX5_firstCutter_11 0 rfl rfl ?_
    refine jr_getI hF gf_X5_47 h0 dX5_firstCutter_12 ?_
    refine jr_iconst (v := 1) hF dX5_firstCutter_15 rfl ?_
    refine jr_isub hF dX5_firstCutter_16 ?_
    refine jr_istore_n (lv' := [(0, .ref (lt_z X + o)), (1, .int (-1)), (2, .int ((lt_gi w o 2) - 1))]) hF dX5_firstCutter_17 rfl (by decide) [1, 2, 0] rfl ?_
    refine jr_iconst (v := 0) hF dX5_firstCutter_18 rfl ?_
    refine jr_istore_n (lv' := [(0, .ref (lt_z X + o)), (1, .int (-1)), (2, .int ((lt_gi w o 2) - 1)), (3, .int 0)]) hF dX5_firstCutter_19 rfl (by decide) [1, 2, 3, 0] rfl ?_
    exact jb_X5_firstCutter_20 hT h0 hF hE lt_fu _ _ _ hf
  · refine jr_iconst (v := (-1)) hF dX5_firstCutter_7 rfl ?_
    obtain rfl := Option.some.inj hf
    exact jr_ireturn hF hE dX5_firstCutter_8
def f_X5_firstCutter (σ : lt_S) (o : Nat) (w : lt_W) : Option Int32 := fb_X5_firstCutter_0 σ o w
set_option maxRecDepth 100000 in
theorem c_X5_firstCutter {l : Launch} {D : va_G} {gA : Nat → ClassId} {s0 : State} {σ : lt_S} (hT : lt_Wt σ) {o : Nat} (h0 : lt_c σ o = 5) {w : lt_W} {r : Int32} (hf : f_X5_firstCutter σ o w = some r) : lt_C l D gA s0 yX5_firstCutter cX5_firstCutter 4 (some .int) (lt_rm 2) [.ref (s0.heap.size + o)] σ w σ (some (.int r)) w := by
  refine lt_enter rfl (Nat.le_of_ble_eq_true rfl) (fun X e1 e2 e3 e4 hF hE => ?_)
  subst e1 e2 e3 e4
  exact jb_X5_firstCutter_0 hT h0 hF hE hf

set_option maxRecDepth 100000 in
def fb_X5_cutBy_43 (σ : lt_S) (o : Nat) (x1 : Int32) (y0 : Nat) (y1 : Int32) (w : lt_W) : Option (Int32 × lt_W) := lt_let (lt_si w y0 5 y1) (fun w1 => lt_let (lt_si w1 o 7 ((lt_gi w1 o 7) + 1)) (fun w2 => lt_ck x1 (lt_len σ (lt_r σ o 13)) (if (lt_gi w2 (lt_r σ o 13) x1.toNatClampNeg) = 1 then lt_ck x1 (lt_len σ (lt_r σ o 10)) (lt_let (lt_si w2 (lt_r σ o 10) x1.toNatClampNeg 0) (fun w6 => some (1, w6))) else lt_let (lt_si w2 o 8 ((lt_gi w2 o 8) &&& ((1 <<< (x1 &&& 31)) ^^^ (-1)))) (fun w4 => some (1, w4)))))
set_option maxHeartbeats 4000000 in
set_option maxRecDepth 100000 in
theorem jb_X5_cutBy_43 {X : lt_X} {σ : lt_S} (hT : lt_Wt σ) {o : Nat} (h0 : lt_c σ o = 5) {r : Int32 × lt_W} (hF : lt_F X cX5_cutBy RX5 2 (lt_rm 2)) (hE : lt_E X 0 0 σ (some .boolean) (some (.int r.1)) r.2) : ∀ (x1 : Int32) (y0 : Nat) (y1 : Int32) (w : lt_W), lt_c σ y0 = 5 → fb_X5_cutBy_43 σ o x1 y0 y1 w = some r → lt_J X 0 0 σ w 43 [(0, .ref (lt_z X + o)), (1, .int x1)] [.int y1, .ref (lt_z X + y0)] := by
  intro x1 y0 y1 w u0 hf
  unfold fb_X5_cutBy_43 at hf
  refine jr_putI hF pf_X5_56 u0 dX5_cutBy_43 ?_
  refine jr_letW hf (fun w1 hf => ?_)
  refine jr_aload_n hF dX5_cutBy_46 0 rfl rfl ?_
  refine jr_dup hF dX5_cutBy_47 rfl ?_
  refine jr_getI hF gf_X5_62 h0 dX5_cutBy_48 ?_
  refine jr_iconst (v := 1) hF dX5_cutBy_51 rfl ?_
  refine jr_iadd hF dX5_cutBy_52 ?_
  refine jr_putI hF pf_X5_62 h0 dX5_cutBy_53 ?_
  refine jr_letW hf (fun w2 hf => ?_)
  refine jr_aload_n hF dX5_cutBy_56 0 rfl rfl ?_
  refine jr_getRT (cr := 50) hF gf_X5_25 hT h0 rfl rfl dX5_cutBy_57 (fun t3 => ?_)
  refine jr_iload_n hF dX5_cutBy_60 1 rfl rfl ?_
  refine jr_iaload hF t3 dX5_cutBy_61 hf (fun hf => ?_)
  refine jr_iconst (v := 1) hF dX5_cutBy_62 rfl ?_
  refine jr_icmp_ne (tgt := 76) hF dX5_cutBy_63 rfl hf (fun hf => ?_) (fun hf => ?_)
  · refine jr_aload_n hF dX5_cutBy_76 0 rfl rfl ?_
    refine jr_dup hF dX5_cutBy_77 rfl ?_
    refine jr_getI hF gf_X5_65 h0 dX5_cutBy_78 ?_
    refine jr_iconst (v := 1) hF dX5_cutBy_81 rfl ?_
    refine jr_iload_n hF dX5_cutBy_82 1 rfl rfl ?_
    refine jr_ishl hF dX5_cutBy_83 ?_
    refine jr_iconst (v := (-1)) hF dX5_cutBy_84 rfl ?_
    refine jr_ixor hF dX5_cutBy_85 ?_
    refine jr_iand hF dX5_cutBy_86 ?_
    refine jr_putI hF pf_X5_65 h0 dX5_cutBy_87 ?_
    refine jr_letW hf (fun w4 hf => ?_)
    refine jr_iconst (v := 1) hF dX5_cutBy_90 rfl ?_
    obtain rfl := Option.some.inj hf
    exact jr_zreturn hF hE (Or.inr rfl) dX5_cutBy_91
  · refine jr_aload_n hF dX5_cutBy_66 0 rfl rfl ?_
    refine jr_getRT (cr := 50) hF gf_X5_15 hT h0 rfl rfl dX5_cutBy_67 (fun t5 => ?_)
    refine jr_iload_n hF dX5_cutBy_70 1 rfl rfl ?_
    refine jr_iconst (v := 0) hF dX5_cutBy_71 rfl ?_
    refine jr_iastore hF t5 dX5_cutBy_72 hf (fun hf => ?_)
    refine jr_letW hf (fun w6 hf => ?_)
    refine jr_goto (tgt := 90) hF dX5_cutBy_73 rfl ?_
    refine jr_iconst (v := 1) hF dX5_cutBy_90 rfl ?_
    obtain rfl := Option.some.inj hf
    exact jr_zreturn hF hE (Or.inr rfl) dX5_cutBy_91
set_option maxRecDepth 100000 in
def fb_X5_cutBy_0 (σ : lt_S) (o : Nat) (x1 : Int32) (w : lt_W) : Option (Int32 × lt_W) := Option.bind (f_X5_isThere σ o x1 w) (fun q1 => if q1 = 0 then some (0, w) else if (lt_gi w o 5) ≤ 0 then lt_ck x1 (lt_len σ (lt_r σ o 13)) (if (lt_gi w (lt_r σ o 13) x1.toNatClampNeg) = 2 then fb_X5_cutBy_43 σ o x1 o (((lt_gi w o 4) + 1) / 2) w else fb_X5_cutBy_43 σ o x1 o (lt_gi w o 4) w) else some (0, w))
set_option maxHeartbeats 4000000 in
set_option maxRecDepth 100000 in
theorem jb_X5_cutBy_0 {X : lt_X} {σ : lt_S} (hT : lt_Wt σ) {o : Nat} (h0 : lt_c σ o = 5) {r : Int32 × lt_W} (hF : lt_F X cX5_cutBy RX5 2 (lt_rm 2)) (hE : lt_E X 0 0 σ (some .boolean) (some (.int r.1)) r.2) : ∀ (x1 : Int32) (w : lt_W), fb_X5_cutBy_0 σ o x1 w = some r → lt_J X 0 0 σ w 0 [(0, .ref (lt_z X + o)), (1, .int x1)] [] := by
  intro x1 w hf
  unfold fb_X5_cutBy_0 at hf
  refine jr_aload_n hF dX5_cutBy_0 0 rfl rfl ?_
  refine jr_iload_n hF dX5_cutBy_1 1 rfl rfl ?_
  obtain ⟨q1, hq1, hf⟩ := Option.bind_eq_some_iff.mp hf
  refine jr_cV11 hF ml_X5_74 (c_X5_isThere h0 hq1) h0 ⟨Nat.le_of_ble_eq_true rfl, Nat.le_of_ble_eq_true rfl⟩ (Nat.le_of_ble_eq_true rfl) dX5_cutBy_2 ?_
  refine jr_if_eq (tgt := 15) hF dX5_cutBy_5 rfl hf (fun hf => ?_) (fun hf => ?_)
  · refine jr_iconst (v := 0) hF dX5_cutBy_15 rfl ?_
    obtain rfl := Option.some.inj hf
    exact jr_zreturn hF hE (Or.inl rfl) dX5_cutBy_16
  · refine jr_aload_n hF dX5_cutBy_8 0 rfl rfl ?_
    refine jr_getI hF gf_X5_56 h0 dX5_cutBy_9 ?_
    refine jr_if_le (tgt := 17) hF dX5_cutBy_12 rfl hf (fun hf => ?_) (fun hf => ?_)
    · refine jr_aload_n hF dX5_cutBy_17 0 rfl rfl ?_
      refine jr_aload_n hF dX5_cutBy_18 0 rfl rfl ?_
      refine jr_getRT (cr := 50) hF gf_X5_25 hT h0 rfl rfl dX5_cutBy_19 (fun t2 => ?_)
      refine jr_iload_n hF dX5_cutBy_22 1 rfl rfl ?_
      refine jr_iaload hF t2 dX5_cutBy_23 hf (fun hf => ?_)
      refine jr_iconst (v := 2) hF dX5_cutBy_24 rfl ?_
      refine jr_icmp_ne (tgt := 39) hF dX5_cutBy_25 rfl hf (fun hf => ?_) (fun hf => ?_)
      · refine jr_aload_n hF dX5_cutBy_39 0 rfl rfl ?_
        refine jr_getI hF gf_X5_53 h0 dX5_cutBy_40 ?_
        exact jb_X5_cutBy_43 hT h0 hF hE _ _ _ _ h0 hf
      · refine jr_aload_n hF dX5_cutBy_28 0 rfl rfl ?_
        refine jr_getI hF gf_X5_53 h0 dX5_cutBy_29 ?_
        refine jr_iconst (v := 1) hF dX5_cutBy_32 rfl ?_
        refine jr_iadd hF dX5_cutBy_33 ?_
        refine jr_iconst (v := 2) hF dX5_cutBy_34 rfl ?_
        refine jr_idivc hF dX5_cutBy_35 (by decide) ?_
        refine jr_goto (tgt := 43) hF dX5_cutBy_36 rfl ?_
        exact jb_X5_cutBy_43 hT h0 hF hE _ _ _ _ h0 hf
    · refine jr_iconst (v := 0) hF dX5_cutBy_15 rfl ?_
      obtain rfl := Option.some.inj hf
      exact jr_zreturn hF hE (Or.inl rfl) dX5_cutBy_16
def f_X5_cutBy (σ : lt_S) (o : Nat) (x1 : Int32) (w : lt_W) : Option (Int32 × lt_W) := fb_X5_cutBy_0 σ o x1 w
set_option maxRecDepth 100000 in
theorem c_X5_cutBy {l : Launch} {D : va_G} {gA : Nat → ClassId} {s0 : State} {σ : lt_S} (hT : lt_Wt σ) {o : Nat} (h0 : lt_c σ o = 5) {x1 : Int32} {w : lt_W} {r : Int32 × lt_W} (hf : f_X5_cutBy σ o x1 w = some r) : lt_C l D gA s0 yX5_cutBy cX5_cutBy 2 (some .boolean) (lt_rm 2) [.ref (s0.heap.size + o), .int x1] σ w σ (some (.int r.1)) r.2 := by
  refine lt_enter rfl (Nat.le_of_ble_eq_true rfl) (fun X e1 e2 e3 e4 hF hE => ?_)
  subst e1 e2 e3 e4
  exact jb_X5_cutBy_0 hT h0 hF hE _ _ hf

set_option maxRecDepth 100000 in
def fb_X5_eat_2 (σ : lt_S) (o : Nat) : Nat → Int32 → lt_W → Option lt_W
  | 0, _, _ => none
  | n + 1, x1, w => if (lt_gi w o 0) ≤ x1 then some w else Option.bind (f_X5_isThere σ o x1 w) (fun q1 => if q1 = 0 then fb_X5_eat_2 σ o n (x1 + 1) w else if (lt_gi w o 5) ≤ 0 then lt_ck x1 (lt_len σ (lt_r σ o 14)) (lt_ck x1 (lt_len σ (lt_r σ o 14)) (lt_let (lt_si w (lt_r σ o 14) x1.toNatClampNeg (lt_min 99 ((lt_gi w (lt_r σ o 14) x1.toNatClampNeg) + 1))) (fun w4 => fb_X5_eat_2 σ o n (x1 + 1) w4))) else lt_let (lt_si w o 5 ((lt_gi w o 5) - 1)) (fun w5 => lt_ck x1 (lt_len σ (lt_r σ o 14)) (lt_let (lt_si w5 (lt_r σ o 14) x1.toNatClampNeg 0) (fun w7 => fb_X5_eat_2 σ o n (x1 + 1) w7))))
set_option maxHeartbeats 4000000 in
set_option maxRecDepth 100000 in
theorem jb_X5_eat_2 {X : lt_X} {σ : lt_S} (hT : lt_Wt σ) {o : Nat} (h0 : lt_c σ o = 5) {r : lt_W} (hF : lt_F X cX5_eat RX5 2 (lt_rm 2)) (hE : lt_E X 0 0 σ none none r) (n : Nat) : ∀ (x1 : Int32) (w : lt_W), fb_X5_eat_2 σ o n x1 w = some r → lt_J X 0 0 σ w 2 [(0, .ref (lt_z X + o)), (1, .int x1)] [] := by
  induction n with
  | zero => intro x1 w hf; rw [fb_X5_eat_2] at hf; cases hf
  | succ n ih =>
    intro x1 w hf
    rw [fb_X5_eat_2] at hf
    refine jr_iload_n hF dX5_eat_2 1 rfl rfl ?_
    refine jr_aload_n hF dX5_eat_3 0 rfl rfl ?_
    refine jr_getI hF gf_X5_40 h0 dX5_eat_4 ?_
    refine jr_icmp_ge (tgt := 73) hF dX5_eat_7 rfl hf (fun hf => ?_) (fun hf => ?_)
    · obtain rfl := Option.some.inj hf
      exact jr_return hF hE dX5_eat_73
    · refine jr_aload_n hF dX5_eat_10 0 rfl rfl ?_
      refine jr_iload_n hF dX5_eat_11 1 rfl rfl ?_
      obtain ⟨q1, hq1, hf⟩ := Option.bind_eq_some_iff.mp hf
      refine jr_cV11 hF ml_X5_74 (c_X5_isThere h0 hq1) h0 ⟨Nat.le_of_ble_eq_true rfl, Nat.le_of_ble_eq_true rfl⟩ (Nat.le_of_ble_eq_true rfl) dX5_eat_12 ?_
      refine jr_if_ne (tgt := 21) hF dX5_eat_15 rfl hf (fun hf => ?_) (fun hf => ?_)
      · refine jr_aload_n hF dX5_eat_21 0 rfl rfl ?_
        refine jr_getI hF gf_X5_56 h0 dX5_eat_22 ?_
        refine jr_if_le (tgt := 48) hF dX5_eat_25 rfl hf (fun hf => ?_) (fun hf => ?_)
        · refine jr_aload_n hF dX5_eat_48 0 rfl rfl ?_
          refine jr_getRT (cr := 50) hF gf_X5_28 hT h0 rfl rfl dX5_eat_49 (fun t2 => ?_)
          refine jr_iload_n hF dX5_eat_52 1 rfl rfl ?_
          refine jr_bipush (v := 99) hF dX5_eat_53 rfl ?_
          refine jr_aload_n hF dX5_eat_55 0 rfl rfl ?_
          refine jr_getRT (cr := 50) hF gf_X5_28 hT h0 rfl rfl dX5_eat_56 (fun t3 => ?_)
          refine jr_iload_n hF dX5_eat_59 1 rfl rfl ?_
          refine jr_iaload hF t3 dX5_eat_60 hf (fun hf => ?_)
          refine jr_iconst (v := 1) hF dX5_eat_61 rfl ?_
          refine jr_iadd hF dX5_eat_62 ?_
          refine jr_min hF mm_X5_107 ⟨Nat.le_of_ble_eq_true rfl, Nat.le_of_ble_eq_true rfl, Nat.zero_le _, Nat.zero_le _⟩ dX5_eat_63 ?_
          refine jr_iastore hF t2 dX5_eat_66 hf (fun hf => ?_)
          refine jr_letW hf (fun w4 hf => ?_)
          refine jr_iinc (v := x1 + 1) (lv' := [(0, .ref (lt_z X + o)), (1, .int (x1 + 1))]) hF dX5_eat_67 1 rfl rfl (by decide) [1, 0] rfl ?_
          refine jr_goto (tgt := 2) hF dX5_eat_70 rfl ?_
          exact ih _ _ hf
        · refine jr_aload_n hF dX5_eat_28 0 rfl rfl ?_
          refine jr_dup hF dX5_eat_29 rfl ?_
          refine jr_getI hF gf_X5_56 h0 dX5_eat_30 ?_
          refine jr_iconst (v := 1) hF dX5_eat_33 rfl ?_
          refine jr_isub hF dX5_eat_34 ?_
          refine jr_putI hF pf_X5_56 h0 dX5_eat_35 ?_
          refine jr_letW hf (fun w5 hf => ?_)
          refine jr_aload_n hF dX5_eat_38 0 rfl rfl ?_
          refine jr_getRT (cr := 50) hF gf_X5_28 hT h0 rfl rfl dX5_eat_39 (fun t6 => ?_)
          refine jr_iload_n hF dX5_eat_42 1 rfl rfl ?_
          refine jr_iconst (v := 0) hF dX5_eat_43 rfl ?_
          refine jr_iastore hF t6 dX5_eat_44 hf (fun hf => ?_)
          refine jr_letW hf (fun w7 hf => ?_)
          refine jr_goto (tgt := 67) hF dX5_eat_45 rfl ?_
          refine jr_iinc (v := x1 + 1) (lv' := [(0, .ref (lt_z X + o)), (1, .int (x1 + 1))]) hF dX5_eat_67 1 rfl rfl (by decide) [1, 0] rfl ?_
          refine jr_goto (tgt := 2) hF dX5_eat_70 rfl ?_
          exact ih _ _ hf
      · refine jr_goto (tgt := 67) hF dX5_eat_18 rfl ?_
        refine jr_iinc (v := x1 + 1) (lv' := [(0, .ref (lt_z X + o)), (1, .int (x1 + 1))]) hF dX5_eat_67 1 rfl rfl (by decide) [1, 0] rfl ?_
        refine jr_goto (tgt := 2) hF dX5_eat_70 rfl ?_
        exact ih _ _ hf
set_option maxRecDepth 100000 in
def fb_X5_eat_0 (σ : lt_S) (o : Nat) (w : lt_W) : Option lt_W := fb_X5_eat_2 σ o lt_fu 0 w
set_option maxHeartbeats 4000000 in
set_option maxRecDepth 100000 in
theorem jb_X5_eat_0 {X : lt_X} {σ : lt_S} (hT : lt_Wt σ) {o : Nat} (h0 : lt_c σ o = 5) {r : lt_W} (hF : lt_F X cX5_eat RX5 2 (lt_rm 2)) (hE : lt_E X 0 0 σ none none r) : ∀ (w : lt_W), fb_X5_eat_0 σ o w = some r → lt_J X 0 0 σ w 0 [(0, .ref (lt_z X + o))] [] := by
  intro w hf
  unfold fb_X5_eat_0 at hf
  refine jr_iconst (v := 0) hF dX5_eat_0 rfl ?_
  refine jr_istore_n (lv' := [(0, .ref (lt_z X + o)), (1, .int 0)]) hF dX5_eat_1 rfl (by decide) [1, 0] rfl ?_
  exact jb_X5_eat_2 hT h0 hF hE lt_fu _ _ hf
def f_X5_eat (σ : lt_S) (o : Nat) (w : lt_W) : Option lt_W := fb_X5_eat_0 σ o w
set_option maxRecDepth 100000 in
theorem c_X5_eat {l : Launch} {D : va_G} {gA : Nat → ClassId} {s0 : State} {σ : lt_S} (hT : lt_Wt σ) {o : Nat} (h0 : lt_c σ o = 5) {w : lt_W} {r : lt_W} (hf : f_X5_eat σ o w = some r) : lt_C l D gA s0 yX5_eat cX5_eat 2 none (lt_rm 2) [.ref (s0.heap.size + o)] σ w σ none r := by
  refine lt_enter rfl (Nat.le_of_ble_eq_true rfl) (fun X e1 e2 e3 e4 hF hE => ?_)
  subst e1 e2 e3 e4
  exact jb_X5_eat_0 hT h0 hF hE _ hf

set_option maxRecDepth 100000 in
def fb_X5_hasGuest_0 (σ : lt_S) (o : Nat) (w : lt_W) (x1 : Int32) : Option Int32 := if x1 < 0 then some 0 else if (lt_gi w o 0) ≤ x1 then some 0 else some 1
set_option maxHeartbeats 4000000 in
set_option maxRecDepth 100000 in
theorem jb_X5_hasGuest_0 {X : lt_X} {σ : lt_S} {o : Nat} (h0 : lt_c σ o = 5) {r : Int32} {w : lt_W} (hF : lt_F X cX5_hasGuest RX5 2 (lt_rm 1)) (hE : lt_E X 0 0 σ (some .boolean) (some (.int r)) w) : ∀ (x1 : Int32), fb_X5_hasGuest_0 σ o w x1 = some r → lt_J X 0 0 σ w 0 [(0, .ref (lt_z X + o)), (1, .int x1)] [] := by
  intro x1 hf
  unfold fb_X5_hasGuest_0 at hf
  refine jr_iload_n hF dX5_hasGuest_0 1 rfl rfl ?_
  refine jr_if_lt (tgt := 16) hF dX5_hasGuest_1 rfl hf (fun hf => ?_) (fun hf => ?_)
  · refine jr_iconst (v := 0) hF dX5_hasGuest_16 rfl ?_
    obtain rfl := Option.some.inj hf
    exact jr_zreturn hF hE (Or.inl rfl) dX5_hasGuest_17
  · refine jr_iload_n hF dX5_hasGuest_4 1 rfl rfl ?_
    refine jr_aload_n hF dX5_hasGuest_5 0 rfl rfl ?_
    refine jr_getI hF gf_X5_40 h0 dX5_hasGuest_6 ?_
    refine jr_icmp_ge (tgt := 16) hF dX5_hasGuest_9 rfl hf (fun hf => ?_) (fun hf => ?_)
    · refine jr_iconst (v := 0) hF dX5_hasGuest_16 rfl ?_
      obtain rfl := Option.some.inj hf
      exact jr_zreturn hF hE (Or.inl rfl) dX5_hasGuest_17
    · refine jr_iconst (v := 1) hF dX5_hasGuest_12 rfl ?_
      refine jr_goto (tgt := 17) hF dX5_hasGuest_13 rfl ?_
      obtain rfl := Option.some.inj hf
      exact jr_zreturn hF hE (Or.inr rfl) dX5_hasGuest_17
def f_X5_hasGuest (σ : lt_S) (o : Nat) (x1 : Int32) (w : lt_W) : Option Int32 := fb_X5_hasGuest_0 σ o w x1
set_option maxRecDepth 100000 in
theorem c_X5_hasGuest {l : Launch} {D : va_G} {gA : Nat → ClassId} {s0 : State} {σ : lt_S} {o : Nat} (h0 : lt_c σ o = 5) {x1 : Int32} {w : lt_W} {r : Int32} (hf : f_X5_hasGuest σ o x1 w = some r) : lt_C l D gA s0 yX5_hasGuest cX5_hasGuest 2 (some .boolean) (lt_rm 1) [.ref (s0.heap.size + o), .int x1] σ w σ (some (.int r)) w := by
  refine lt_enter rfl (Nat.le_of_ble_eq_true rfl) (fun X e1 e2 e3 e4 hF hE => ?_)
  subst e1 e2 e3 e4
  exact jb_X5_hasGuest_0 h0 hF hE _ hf

set_option maxRecDepth 100000 in
def fb_X5_yearn_125 (σ : lt_S) (o : Nat) (k77 : Int32 → lt_W → Option lt_W) (x1 : Int32) (y0 : Int32) (y1 : Int32) (w : lt_W) : Option lt_W := lt_ck x1 (lt_len σ (lt_r σ o 10)) (lt_ck x1 (lt_len σ (lt_r σ o 10)) (lt_let (lt_si w (lt_r σ o 10) x1.toNatClampNeg (lt_min 20 ((lt_gi w (lt_r σ o 10) x1.toNatClampNeg) + (y0 + y1)))) (fun w3 => k77 (x1 + 1) w3)))
set_option maxHeartbeats 4000000 in
set_option maxRecDepth 100000 in
theorem jb_X5_yearn_125 {X : lt_X} {σ : lt_S} (hT : lt_Wt σ) {o : Nat} (h0 : lt_c σ o = 5) {r : lt_W} {k77 : Int32 → lt_W → Option lt_W} (hF : lt_F X cX5_yearn RX5 3 (lt_rm 2)) (hE : lt_E X 0 0 σ none none r) (hk77 : ∀ (x1 : Int32) (w : lt_W), k77 x1 w = some r → lt_J X 0 0 σ w 77 [(0, .ref (lt_z X + o)), (1, .int x1)] []) : ∀ (x1 : Int32) (y0 : Int32) (y1 : Int32) (w : lt_W), fb_X5_yearn_125 σ o k77 x1 y0 y1 w = some r → lt_J X 0 0 σ w 125 [(0, .ref (lt_z X + o)), (1, .int x1)] [.int y1, .int y0] := by
  intro x1 y0 y1 w hf
  unfold fb_X5_yearn_125 at hf
  refine jr_iadd hF dX5_yearn_125 ?_
  refine jr_istore_n (lv' := [(0, .ref (lt_z X + o)), (1, .int x1), (2, .int (y0 + y1))]) hF dX5_yearn_126 rfl (by decide) [1, 2, 0] rfl ?_
  refine jr_aload_n hF dX5_yearn_127 0 rfl rfl ?_
  refine jr_getRT (cr := 50) hF gf_X5_15 hT h0 rfl rfl dX5_yearn_128 (fun t1 => ?_)
  refine jr_iload_n hF dX5_yearn_131 1 rfl rfl ?_
  refine jr_bipush (v := 20) hF dX5_yearn_132 rfl ?_
  refine jr_aload_n hF dX5_yearn_134 0 rfl rfl ?_
  refine jr_getRT (cr := 50) hF gf_X5_15 hT h0 rfl rfl dX5_yearn_135 (fun t2 => ?_)
  refine jr_iload_n hF dX5_yearn_138 1 rfl rfl ?_
  refine jr_iaload hF t2 dX5_yearn_139 hf (fun hf => ?_)
  refine jr_iload_n hF dX5_yearn_140 2 rfl rfl ?_
  refine jr_iadd hF dX5_yearn_141 ?_
  refine jr_min hF mm_X5_107 ⟨Nat.le_of_ble_eq_true rfl, Nat.le_of_ble_eq_true rfl, Nat.zero_le _, Nat.zero_le _⟩ dX5_yearn_142 ?_
  refine jr_iastore hF t1 dX5_yearn_145 hf (fun hf => ?_)
  refine jr_letW hf (fun w3 hf => ?_)
  refine jr_iinc (v := x1 + 1) (lv' := [(0, .ref (lt_z X + o)), (1, .int (x1 + 1)), (2, .int (y0 + y1))]) hF dX5_yearn_146 1 rfl rfl (by decide) [1, 0, 2] rfl ?_
  refine jr_goto (tgt := 77) hF dX5_yearn_149 rfl ?_
  refine jr_sub [0, 1] rfl ?_
  exact hk77 _ _ hf
set_option maxRecDepth 100000 in
def fb_X5_yearn_107 (σ : lt_S) (o : Nat) (k77 : Int32 → lt_W → Option lt_W) (x1 : Int32) (y0 : Int32) (w : lt_W) : Option lt_W := lt_ck x1 (lt_len σ (lt_r σ o 16)) (if (lt_gi w (lt_r σ o 16) x1.toNatClampNeg) < (lt_gi w o 3) then fb_X5_yearn_125 σ o k77 x1 y0 0 w else fb_X5_yearn_125 σ o k77 x1 y0 1 w)
set_option maxHeartbeats 4000000 in
set_option maxRecDepth 100000 in
theorem jb_X5_yearn_107 {X : lt_X} {σ : lt_S} (hT : lt_Wt σ) {o : Nat} (h0 : lt_c σ o = 5) {r : lt_W} {k77 : Int32 → lt_W → Option lt_W} (hF : lt_F X cX5_yearn RX5 3 (lt_rm 2)) (hE : lt_E X 0 0 σ none none r) (hk77 : ∀ (x1 : Int32) (w : lt_W), k77 x1 w = some r → lt_J X 0 0 σ w 77 [(0, .ref (lt_z X + o)), (1, .int x1)] []) : ∀ (x1 : Int32) (y0 : Int32) (w : lt_W), fb_X5_yearn_107 σ o k77 x1 y0 w = some r → lt_J X 0 0 σ w 107 [(0, .ref (lt_z X + o)), (1, .int x1)] [.int y0] := by
  intro x1 y0 w hf
  unfold fb_X5_yearn_107 at hf
  refine jr_aload_n hF dX5_yearn_107 0 rfl rfl ?_
  refine jr_getRT (cr := 50) hF gf_X5_34 hT h0 rfl rfl dX5_yearn_108 (fun t1 => ?_)
  refine jr_iload_n hF dX5_yearn_111 1 rfl rfl ?_
  refine jr_iaload hF t1 dX5_yearn_112 hf (fun hf => ?_)
  refine jr_aload_n hF dX5_yearn_113 0 rfl rfl ?_
  refine jr_getI hF gf_X5_50 h0 dX5_yearn_114 ?_
  refine jr_icmp_lt (tgt := 124) hF dX5_yearn_117 rfl hf (fun hf => ?_) (fun hf => ?_)
  · refine jr_iconst (v := 0) hF dX5_yearn_124 rfl ?_
    exact jb_X5_yearn_125 hT h0 hF hE hk77 _ _ _ _ hf
  · refine jr_iconst (v := 1) hF dX5_yearn_120 rfl ?_
    refine jr_goto (tgt := 125) hF dX5_yearn_121 rfl ?_
    exact jb_X5_yearn_125 hT h0 hF hE hk77 _ _ _ _ hf
set_option maxRecDepth 100000 in
def fb_X5_yearn_77 (σ : lt_S) (o : Nat) : Nat → Int32 → lt_W → Option lt_W
  | 0, _, _ => none
  | n + 1, x1, w => if (lt_gi w o 0) ≤ x1 then some w else Option.bind (f_X5_isThere σ o x1 w) (fun q1 => if q1 = 0 then fb_X5_yearn_77 σ o n (x1 + 1) w else lt_ck x1 (lt_len σ (lt_r σ o 14)) (if (lt_gi w (lt_r σ o 14) x1.toNatClampNeg) ≤ 0 then fb_X5_yearn_107 σ o (fun x1 w => fb_X5_yearn_77 σ o n x1 w) x1 0 w else fb_X5_yearn_107 σ o (fun x1 w => fb_X5_yearn_77 σ o n x1 w) x1 1 w))
set_option maxHeartbeats 4000000 in
set_option maxRecDepth 100000 in
theorem jb_X5_yearn_77 {X : lt_X} {σ : lt_S} (hT : lt_Wt σ) {o : Nat} (h0 : lt_c σ o = 5) {r : lt_W} (hF : lt_F X cX5_yearn RX5 3 (lt_rm 2)) (hE : lt_E X 0 0 σ none none r) (n : Nat) : ∀ (x1 : Int32) (w : lt_W), fb_X5_yearn_77 σ o n x1 w = some r → lt_J X 0 0 σ w 77 [(0, .ref (lt_z X + o)), (1, .int x1)] [] := by
  induction n with
  | zero => intro x1 w hf; rw [fb_X5_yearn_77] at hf; cases hf
  | succ n ih =>
    intro x1 w hf
    rw [fb_X5_yearn_77] at hf
    refine jr_iload_n hF dX5_yearn_77 1 rfl rfl ?_
    refine jr_aload_n hF dX5_yearn_78 0 rfl rfl ?_
    refine jr_getI hF gf_X5_40 h0 dX5_yearn_79 ?_
    refine jr_icmp_ge (tgt := 152) hF dX5_yearn_82 rfl hf (fun hf => ?_) (fun hf => ?_)
    · obtain rfl := Option.some.inj hf
      exact jr_return hF hE dX5_yearn_152
    · refine jr_aload_n hF dX5_yearn_85 0 rfl rfl ?_
      refine jr_iload_n hF dX5_yearn_86 1 rfl rfl ?_
      obtain ⟨q1, hq1, hf⟩ := Option.bind_eq_some_iff.mp hf
      refine jr_cV11 hF ml_X5_74 (c_X5_isThere h0 hq1) h0 ⟨Nat.le_of_ble_eq_true rfl, Nat.le_of_ble_eq_true rfl⟩ (Nat.le_of_ble_eq_true rfl) dX5_yearn_87 ?_
      refine jr_if_eq (tgt := 146) hF dX5_yearn_90 rfl hf (fun hf => ?_) (fun hf => ?_)
      · refine jr_iinc (v := x1 + 1) (lv' := [(0, .ref (lt_z X + o)), (1, .int (x1 + 1))]) hF dX5_yearn_146 1 rfl rfl (by decide) [1, 0] rfl ?_
        refine jr_goto (tgt := 77) hF dX5_yearn_149 rfl ?_
        exact ih _ _ hf
      · refine jr_aload_n hF dX5_yearn_93 0 rfl rfl ?_
        refine jr_getRT (cr := 50) hF gf_X5_28 hT h0 rfl rfl dX5_yearn_94 (fun t2 => ?_)
        refine jr_iload_n hF dX5_yearn_97 1 rfl rfl ?_
        refine jr_iaload hF t2 dX5_yearn_98 hf (fun hf => ?_)
        refine jr_if_le (tgt := 106) hF dX5_yearn_99 rfl hf (fun hf => ?_) (fun hf => ?_)
        · refine jr_iconst (v := 0) hF dX5_yearn_106 rfl ?_
          exact jb_X5_yearn_107 hT h0 hF hE ih _ _ _ hf
        · refine jr_iconst (v := 1) hF dX5_yearn_102 rfl ?_
          refine jr_goto (tgt := 107) hF dX5_yearn_103 rfl ?_
          exact jb_X5_yearn_107 hT h0 hF hE ih _ _ _ hf
set_option maxRecDepth 100000 in
def fb_X5_yearn_25 (σ : lt_S) (o : Nat) : Nat → Int32 → lt_W → Option lt_W
  | 0, _, _ => none
  | n + 1, x1, w => if (lt_gi w o 0) ≤ x1 then fb_X5_yearn_77 σ o lt_fu 0 w else Option.bind (f_X5_isThere σ o x1 w) (fun q1 => if q1 = 0 then fb_X5_yearn_25 σ o n (x1 + 1) w else lt_ck x1 (lt_len σ (lt_r σ o 15)) (Option.bind (f_X5_hasGuest σ o (lt_gi w (lt_r σ o 15) x1.toNatClampNeg) w) (fun q3 => if q3 = 0 then fb_X5_yearn_25 σ o n (x1 + 1) w else lt_ck x1 (lt_len σ (lt_r σ o 15)) (lt_ck (lt_gi w (lt_r σ o 15) x1.toNatClampNeg) (lt_len σ (lt_r σ o 16)) (lt_ck (lt_gi w (lt_r σ o 15) x1.toNatClampNeg) (lt_len σ (lt_r σ o 16)) (lt_let (lt_si w (lt_r σ o 16) (lt_gi w (lt_r σ o 15) x1.toNatClampNeg).toNatClampNeg ((lt_gi w (lt_r σ o 16) (lt_gi w (lt_r σ o 15) x1.toNatClampNeg).toNatClampNeg) + 1)) (fun w6 => fb_X5_yearn_25 σ o n (x1 + 1) w6)))))))
set_option maxHeartbeats 4000000 in
set_option maxRecDepth 100000 in
theorem jb_X5_yearn_25 {X : lt_X} {σ : lt_S} (hT : lt_Wt σ) {o : Nat} (h0 : lt_c σ o = 5) {r : lt_W} (hF : lt_F X cX5_yearn RX5 3 (lt_rm 2)) (hE : lt_E X 0 0 σ none none r) (n : Nat) : ∀ (x1 : Int32) (w : lt_W), fb_X5_yearn_25 σ o n x1 w = some r → lt_J X 0 0 σ w 25 [(0, .ref (lt_z X + o)), (1, .int x1)] [] := by
  induction n with
  | zero => intro x1 w hf; rw [fb_X5_yearn_25] at hf; cases hf
  | succ n ih =>
    intro x1 w hf
    rw [fb_X5_yearn_25] at hf
    refine jr_iload_n hF dX5_yearn_25 1 rfl rfl ?_
    refine jr_aload_n hF dX5_yearn_26 0 rfl rfl ?_
    refine jr_getI hF gf_X5_40 h0 dX5_yearn_27 ?_
    refine jr_icmp_ge (tgt := 75) hF dX5_yearn_30 rfl hf (fun hf => ?_) (fun hf => ?_)
    · refine jr_iconst (v := 0) hF dX5_yearn_75 rfl ?_
      refine jr_istore_n (lv' := [(0, .ref (lt_z X + o)), (1, .int 0)]) hF dX5_yearn_76 rfl (by decide) [1, 0] rfl ?_
      exact jb_X5_yearn_77 hT h0 hF hE lt_fu _ _ hf
    · refine jr_aload_n hF dX5_yearn_33 0 rfl rfl ?_
      refine jr_iload_n hF dX5_yearn_34 1 rfl rfl ?_
      obtain ⟨q1, hq1, hf⟩ := Option.bind_eq_some_iff.mp hf
      refine jr_cV11 hF ml_X5_74 (c_X5_isThere h0 hq1) h0 ⟨Nat.le_of_ble_eq_true rfl, Nat.le_of_ble_eq_true rfl⟩ (Nat.le_of_ble_eq_true rfl) dX5_yearn_35 ?_
      refine jr_if_eq (tgt := 69) hF dX5_yearn_38 rfl hf (fun hf => ?_) (fun hf => ?_)
      · refine jr_iinc (v := x1 + 1) (lv' := [(0, .ref (lt_z X + o)), (1, .int (x1 + 1))]) hF dX5_yearn_69 1 rfl rfl (by decide) [1, 0] rfl ?_
        refine jr_goto (tgt := 25) hF dX5_yearn_72 rfl ?_
        exact ih _ _ hf
      · refine jr_aload_n hF dX5_yearn_41 0 rfl rfl ?_
        refine jr_aload_n hF dX5_yearn_42 0 rfl rfl ?_
        refine jr_getRT (cr := 50) hF gf_X5_31 hT h0 rfl rfl dX5_yearn_43 (fun t2 => ?_)
        refine jr_iload_n hF dX5_yearn_46 1 rfl rfl ?_
        refine jr_iaload hF t2 dX5_yearn_47 hf (fun hf => ?_)
        obtain ⟨q3, hq3, hf⟩ := Option.bind_eq_some_iff.mp hf
        refine jr_cV11 hF ml_X5_113 (c_X5_hasGuest h0 hq3) h0 ⟨Nat.le_of_ble_eq_true rfl, Nat.le_of_ble_eq_true rfl⟩ (Nat.le_of_ble_eq_true rfl) dX5_yearn_48 ?_
        refine jr_if_eq (tgt := 69) hF dX5_yearn_51 rfl hf (fun hf => ?_) (fun hf => ?_)
        · refine jr_iinc (v := x1 + 1) (lv' := [(0, .ref (lt_z X + o)), (1, .int (x1 + 1))]) hF dX5_yearn_69 1 rfl rfl (by decide) [1, 0] rfl ?_
          refine jr_goto (tgt := 25) hF dX5_yearn_72 rfl ?_
          exact ih _ _ hf
        · refine jr_aload_n hF dX5_yearn_54 0 rfl rfl ?_
          refine jr_getRT (cr := 50) hF gf_X5_34 hT h0 rfl rfl dX5_yearn_55 (fun t4 => ?_)
          refine jr_aload_n hF dX5_yearn_58 0 rfl rfl ?_
          refine jr_getRT (cr := 50) hF gf_X5_31 hT h0 rfl rfl dX5_yearn_59 (fun t5 => ?_)
          refine jr_iload_n hF dX5_yearn_62 1 rfl rfl ?_
          refine jr_iaload hF t5 dX5_yearn_63 hf (fun hf => ?_)
          refine jr_dup2 hF dX5_yearn_64 rfl rfl ?_
          refine jr_iaload hF t4 dX5_yearn_65 hf (fun hf => ?_)
          refine jr_iconst (v := 1) hF dX5_yearn_66 rfl ?_
          refine jr_iadd hF dX5_yearn_67 ?_
          refine jr_iastore hF t4 dX5_yearn_68 hf (fun hf => ?_)
          refine jr_letW hf (fun w6 hf => ?_)
          refine jr_iinc (v := x1 + 1) (lv' := [(0, .ref (lt_z X + o)), (1, .int (x1 + 1))]) hF dX5_yearn_69 1 rfl rfl (by decide) [1, 0] rfl ?_
          refine jr_goto (tgt := 25) hF dX5_yearn_72 rfl ?_
          exact ih _ _ hf
set_option maxRecDepth 100000 in
def fb_X5_yearn_2 (σ : lt_S) (o : Nat) : Nat → Int32 → lt_W → Option lt_W
  | 0, _, _ => none
  | n + 1, x1, w => if (lt_gi w o 0) ≤ x1 then fb_X5_yearn_25 σ o lt_fu 0 w else lt_ck x1 (lt_len σ (lt_r σ o 16)) (lt_let (lt_si w (lt_r σ o 16) x1.toNatClampNeg 0) (fun w2 => fb_X5_yearn_2 σ o n (x1 + 1) w2))
set_option maxHeartbeats 4000000 in
set_option maxRecDepth 100000 in
theorem jb_X5_yearn_2 {X : lt_X} {σ : lt_S} (hT : lt_Wt σ) {o : Nat} (h0 : lt_c σ o = 5) {r : lt_W} (hF : lt_F X cX5_yearn RX5 3 (lt_rm 2)) (hE : lt_E X 0 0 σ none none r) (n : Nat) : ∀ (x1 : Int32) (w : lt_W), fb_X5_yearn_2 σ o n x1 w = some r → lt_J X 0 0 σ w 2 [(0, .ref (lt_z X + o)), (1, .int x1)] [] := by
  induction n with
  | zero => intro x1 w hf; rw [fb_X5_yearn_2] at hf; cases hf
  | succ n ih =>
    intro x1 w hf
    rw [fb_X5_yearn_2] at hf
    refine jr_iload_n hF dX5_yearn_2 1 rfl rfl ?_
    refine jr_aload_n hF dX5_yearn_3 0 rfl rfl ?_
    refine jr_getI hF gf_X5_40 h0 dX5_yearn_4 ?_
    refine jr_icmp_ge (tgt := 23) hF dX5_yearn_7 rfl hf (fun hf => ?_) (fun hf => ?_)
    · refine jr_iconst (v := 0) hF dX5_yearn_23 rfl ?_
      refine jr_istore_n (lv' := [(0, .ref (lt_z X + o)), (1, .int 0)]) hF dX5_yearn_24 rfl (by decide) [1, 0] rfl ?_
      exact jb_X5_yearn_25 hT h0 hF hE lt_fu _ _ hf
    · refine jr_aload_n hF dX5_yearn_10 0 rfl rfl ?_
      refine jr_getRT (cr := 50) hF gf_X5_34 hT h0 rfl rfl dX5_yearn_11 (fun t1 => ?_)
      refine jr_iload_n hF dX5_yearn_14 1 rfl rfl ?_
      refine jr_iconst (v := 0) hF dX5_yearn_15 rfl ?_
      refine jr_iastore hF t1 dX5_yearn_16 hf (fun hf => ?_)
      refine jr_letW hf (fun w2 hf => ?_)
      refine jr_iinc (v := x1 + 1) (lv' := [(0, .ref (lt_z X + o)), (1, .int (x1 + 1))]) hF dX5_yearn_17 1 rfl rfl (by decide) [1, 0] rfl ?_
      refine jr_goto (tgt := 2) hF dX5_yearn_20 rfl ?_
      exact ih _ _ hf
set_option maxRecDepth 100000 in
def fb_X5_yearn_0 (σ : lt_S) (o : Nat) (w : lt_W) : Option lt_W := fb_X5_yearn_2 σ o lt_fu 0 w
set_option maxHeartbeats 4000000 in
set_option maxRecDepth 100000 in
theorem jb_X5_yearn_0 {X : lt_X} {σ : lt_S} (hT : lt_Wt σ) {o : Nat} (h0 : lt_c σ o = 5) {r : lt_W} (hF : lt_F X cX5_yearn RX5 3 (lt_rm 2)) (hE : lt_E X 0 0 σ none none r) : ∀ (w : lt_W), fb_X5_yearn_0 σ o w = some r → lt_J X 0 0 σ w 0 [(0, .ref (lt_z X + o))] [] := by
  intro w hf
  unfold fb_X5_yearn_0 at hf
  refine jr_iconst (v := 0) hF dX5_yearn_0 rfl ?_
  refine jr_istore_n (lv' := [(0, .ref (lt_z X + o)), (1, .int 0)]) hF dX5_yearn_1 rfl (by decide) [1, 0] rfl ?_
  exact jb_X5_yearn_2 hT h0 hF hE lt_fu _ _ hf
def f_X5_yearn (σ : lt_S) (o : Nat) (w : lt_W) : Option lt_W := fb_X5_yearn_0 σ o w
set_option maxRecDepth 100000 in
theorem c_X5_yearn {l : Launch} {D : va_G} {gA : Nat → ClassId} {s0 : State} {σ : lt_S} (hT : lt_Wt σ) {o : Nat} (h0 : lt_c σ o = 5) {w : lt_W} {r : lt_W} (hf : f_X5_yearn σ o w = some r) : lt_C l D gA s0 yX5_yearn cX5_yearn 3 none (lt_rm 2) [.ref (s0.heap.size + o)] σ w σ none r := by
  refine lt_enter rfl (Nat.le_of_ble_eq_true rfl) (fun X e1 e2 e3 e4 hF hE => ?_)
  subst e1 e2 e3 e4
  exact jb_X5_yearn_0 hT h0 hF hE _ hf

set_option maxRecDepth 100000 in
def fb_X5_passDay_0 (σ : lt_S) (o : Nat) (x1 : Int32) (w : lt_W) : Option lt_W := Option.bind (f_X5_cutBy σ o x1 w) (fun q1 => Option.bind (f_X5_eat σ o q1.2) (fun q2 => Option.bind (f_X5_yearn σ o q2) (fun q3 => lt_let (lt_si q3 o 6 ((lt_gi q3 o 6) + 1)) (fun w4 => some w4))))
set_option maxHeartbeats 4000000 in
set_option maxRecDepth 100000 in
theorem jb_X5_passDay_0 {X : lt_X} {σ : lt_S} (hT : lt_Wt σ) {o : Nat} (h0 : lt_c σ o = 5) {r : lt_W} (hF : lt_F X cX5_passDay RX5 2 (lt_rm 3)) (hE : lt_E X 0 0 σ none none r) : ∀ (x1 : Int32) (w : lt_W), fb_X5_passDay_0 σ o x1 w = some r → lt_J X 0 0 σ w 0 [(0, .ref (lt_z X + o)), (1, .int x1)] [] := by
  intro x1 w hf
  unfold fb_X5_passDay_0 at hf
  refine jr_aload_n hF dX5_passDay_0 0 rfl rfl ?_
  refine jr_iload_n hF dX5_passDay_1 1 rfl rfl ?_
  obtain ⟨q1, hq1, hf⟩ := Option.bind_eq_some_iff.mp hf
  refine jr_cV11 hF ml_X5_98 (c_X5_cutBy hT h0 hq1) h0 ⟨Nat.le_of_ble_eq_true rfl, Nat.le_of_ble_eq_true rfl⟩ (Nat.le_of_ble_eq_true rfl) dX5_passDay_2 ?_
  refine jr_pop hF dX5_passDay_5 rfl ?_
  refine jr_aload_n hF dX5_passDay_6 0 rfl rfl ?_
  obtain ⟨q2, hq2, hf⟩ := Option.bind_eq_some_iff.mp hf
  refine jr_cV0v hF ml_X5_101 (c_X5_eat hT h0 hq2) h0 ⟨Nat.le_of_ble_eq_true rfl, Nat.le_of_ble_eq_true rfl⟩ (Nat.le_of_ble_eq_true rfl) dX5_passDay_7 ?_
  refine jr_aload_n hF dX5_passDay_10 0 rfl rfl ?_
  obtain ⟨q3, hq3, hf⟩ := Option.bind_eq_some_iff.mp hf
  refine jr_cV0v hF ml_X5_104 (c_X5_yearn hT h0 hq3) h0 ⟨Nat.le_of_ble_eq_true rfl, Nat.le_of_ble_eq_true rfl⟩ (Nat.le_of_ble_eq_true rfl) dX5_passDay_11 ?_
  refine jr_aload_n hF dX5_passDay_14 0 rfl rfl ?_
  refine jr_dup hF dX5_passDay_15 rfl ?_
  refine jr_getI hF gf_X5_59 h0 dX5_passDay_16 ?_
  refine jr_iconst (v := 1) hF dX5_passDay_19 rfl ?_
  refine jr_iadd hF dX5_passDay_20 ?_
  refine jr_putI hF pf_X5_59 h0 dX5_passDay_21 ?_
  refine jr_letW hf (fun w4 hf => ?_)
  obtain rfl := Option.some.inj hf
  exact jr_return hF hE dX5_passDay_24
def f_X5_passDay (σ : lt_S) (o : Nat) (x1 : Int32) (w : lt_W) : Option lt_W := fb_X5_passDay_0 σ o x1 w
set_option maxRecDepth 100000 in
theorem c_X5_passDay {l : Launch} {D : va_G} {gA : Nat → ClassId} {s0 : State} {σ : lt_S} (hT : lt_Wt σ) {o : Nat} (h0 : lt_c σ o = 5) {x1 : Int32} {w : lt_W} {r : lt_W} (hf : f_X5_passDay σ o x1 w = some r) : lt_C l D gA s0 yX5_passDay cX5_passDay 2 none (lt_rm 3) [.ref (s0.heap.size + o), .int x1] σ w σ none r := by
  refine lt_enter rfl (Nat.le_of_ble_eq_true rfl) (fun X e1 e2 e3 e4 hF hE => ?_)
  subst e1 e2 e3 e4
  exact jb_X5_passDay_0 hT h0 hF hE _ _ hf

set_option maxRecDepth 100000 in
def fb_X5_passDays_2 (σ : lt_S) (o : Nat) : Nat → Int32 → Int32 → lt_W → Option lt_W
  | 0, _, _, _ => none
  | n + 1, x1, x2, w => if x1 ≤ x2 then some w else Option.bind (f_X5_firstCutter σ o w) (fun q1 => Option.bind (f_X5_passDay σ o q1 w) (fun q2 => fb_X5_passDays_2 σ o n x1 (x2 + 1) q2))
set_option maxHeartbeats 4000000 in
set_option maxRecDepth 100000 in
theorem jb_X5_passDays_2 {X : lt_X} {σ : lt_S} (hT : lt_Wt σ) {o : Nat} (h0 : lt_c σ o = 5) {r : lt_W} (hF : lt_F X cX5_passDays RX5 3 (lt_rm 4)) (hE : lt_E X 0 0 σ none none r) (n : Nat) : ∀ (x1 : Int32) (x2 : Int32) (w : lt_W), fb_X5_passDays_2 σ o n x1 x2 w = some r → lt_J X 0 0 σ w 2 [(0, .ref (lt_z X + o)), (1, .int x1), (2, .int x2)] [] := by
  induction n with
  | zero => intro x1 x2 w hf; rw [fb_X5_passDays_2] at hf; cases hf
  | succ n ih =>
    intro x1 x2 w hf
    rw [fb_X5_passDays_2] at hf
    refine jr_iload_n hF dX5_passDays_2 2 rfl rfl ?_
    refine jr_iload_n hF dX5_passDays_3 1 rfl rfl ?_
    refine jr_icmp_ge (tgt := 21) hF dX5_passDays_4 rfl hf (fun hf => ?_) (fun hf => ?_)
    · obtain rfl := Option.some.inj hf
      exact jr_return hF hE dX5_passDays_21
    · refine jr_aload_n hF dX5_passDays_7 0 rfl rfl ?_
      refine jr_aload_n hF dX5_passDays_8 0 rfl rfl ?_
      obtain ⟨q1, hq1, hf⟩ := Option.bind_eq_some_iff.mp hf
      refine jr_cV01 hF ml_X5_90 (c_X5_firstCutter hT h0 hq1) h0 ⟨Nat.le_of_ble_eq_true rfl, Nat.le_of_ble_eq_true rfl⟩ (Nat.le_of_ble_eq_true rfl) dX5_passDays_9 ?_
      obtain ⟨q2, hq2, hf⟩ := Option.bind_eq_some_iff.mp hf
      refine jr_cV1v hF ml_X5_94 (c_X5_passDay hT h0 hq2) h0 ⟨Nat.le_of_ble_eq_true rfl, Nat.le_of_ble_eq_true rfl⟩ (Nat.le_of_ble_eq_true rfl) dX5_passDays_12 ?_
      refine jr_iinc (v := x2 + 1) (lv' := [(0, .ref (lt_z X + o)), (1, .int x1), (2, .int (x2 + 1))]) hF dX5_passDays_15 2 rfl rfl (by decide) [1, 2, 0] rfl ?_
      refine jr_goto (tgt := 2) hF dX5_passDays_18 rfl ?_
      exact ih _ _ _ hf
set_option maxRecDepth 100000 in
def fb_X5_passDays_0 (σ : lt_S) (o : Nat) (x1 : Int32) (w : lt_W) : Option lt_W := fb_X5_passDays_2 σ o lt_fu x1 0 w
set_option maxHeartbeats 4000000 in
set_option maxRecDepth 100000 in
theorem jb_X5_passDays_0 {X : lt_X} {σ : lt_S} (hT : lt_Wt σ) {o : Nat} (h0 : lt_c σ o = 5) {r : lt_W} (hF : lt_F X cX5_passDays RX5 3 (lt_rm 4)) (hE : lt_E X 0 0 σ none none r) : ∀ (x1 : Int32) (w : lt_W), fb_X5_passDays_0 σ o x1 w = some r → lt_J X 0 0 σ w 0 [(0, .ref (lt_z X + o)), (1, .int x1)] [] := by
  intro x1 w hf
  unfold fb_X5_passDays_0 at hf
  refine jr_iconst (v := 0) hF dX5_passDays_0 rfl ?_
  refine jr_istore_n (lv' := [(0, .ref (lt_z X + o)), (1, .int x1), (2, .int 0)]) hF dX5_passDays_1 rfl (by decide) [1, 2, 0] rfl ?_
  exact jb_X5_passDays_2 hT h0 hF hE lt_fu _ _ _ hf
def f_X5_passDays (σ : lt_S) (o : Nat) (x1 : Int32) (w : lt_W) : Option lt_W := fb_X5_passDays_0 σ o x1 w
set_option maxRecDepth 100000 in
theorem c_X5_passDays {l : Launch} {D : va_G} {gA : Nat → ClassId} {s0 : State} {σ : lt_S} (hT : lt_Wt σ) {o : Nat} (h0 : lt_c σ o = 5) {x1 : Int32} {w : lt_W} {r : lt_W} (hf : f_X5_passDays σ o x1 w = some r) : lt_C l D gA s0 yX5_passDays cX5_passDays 3 none (lt_rm 4) [.ref (s0.heap.size + o), .int x1] σ w σ none r := by
  refine lt_enter rfl (Nat.le_of_ble_eq_true rfl) (fun X e1 e2 e3 e4 hF hE => ?_)
  subst e1 e2 e3 e4
  exact jb_X5_passDays_0 hT h0 hF hE _ _ hf

set_option maxRecDepth 100000 in
def fb_X5_guestNamed_2 (σ : lt_S) (o : Nat) (w : lt_W) : Nat → Int64 → Int32 → Option Int32
  | 0, _, _ => none
  | n + 1, x1, x3 => if (lt_gi w o 0) ≤ x3 then some (-1) else lt_ck x3 (lt_len σ (lt_r σ o 9)) (if (lg_cmp (lt_gl w (lt_r σ o 9) x3.toNatClampNeg) x1) = 0 then some x3 else fb_X5_guestNamed_2 σ o w n x1 (x3 + 1))
set_option maxHeartbeats 4000000 in
set_option maxRecDepth 100000 in
theorem jb_X5_guestNamed_2 {X : lt_X} {σ : lt_S} (hT : lt_Wt σ) {o : Nat} (h0 : lt_c σ o = 5) {r : Int32} {w : lt_W} (hF : lt_F X cX5_guestNamed RX5 4 (lt_rm 1)) (hE : lt_E X 0 0 σ (some .int) (some (.int r)) w) (n : Nat) : ∀ (x1 : Int64) (x3 : Int32), fb_X5_guestNamed_2 σ o w n x1 x3 = some r → lt_J X 0 0 σ w 2 [(0, .ref (lt_z X + o)), (1, .long x1), (3, .int x3)] [] := by
  induction n with
  | zero => intro x1 x3 hf; rw [fb_X5_guestNamed_2] at hf; cases hf
  | succ n ih =>
    intro x1 x3 hf
    rw [fb_X5_guestNamed_2] at hf
    refine jr_iload_n hF dX5_guestNamed_2 2 rfl rfl ?_
    refine jr_aload_n hF dX5_guestNamed_3 0 rfl rfl ?_
    refine jr_getI hF gf_X5_40 h0 dX5_guestNamed_4 ?_
    refine jr_icmp_ge (tgt := 29) hF dX5_guestNamed_7 rfl hf (fun hf => ?_) (fun hf => ?_)
    · refine jr_iconst (v := (-1)) hF dX5_guestNamed_29 rfl ?_
      obtain rfl := Option.some.inj hf
      exact jr_ireturn hF hE dX5_guestNamed_30
    · refine jr_aload_n hF dX5_guestNamed_10 0 rfl rfl ?_
      refine jr_getRT (cr := 51) hF gf_X5_9 hT h0 rfl rfl dX5_guestNamed_11 (fun t1 => ?_)
      refine jr_iload_n hF dX5_guestNamed_14 2 rfl rfl ?_
      refine jr_laload hF t1 dX5_guestNamed_15 hf (fun hf => ?_)
      refine jr_lload_n hF dX5_guestNamed_16 1 rfl rfl ?_
      refine jr_lcmp hF dX5_guestNamed_17 ?_
      refine jr_if_ne (tgt := 23) hF dX5_guestNamed_18 rfl hf (fun hf => ?_) (fun hf => ?_)
      · refine jr_iinc (v := x3 + 1) (lv' := [(0, .ref (lt_z X + o)), (1, .long x1), (3, .int (x3 + 1))]) hF dX5_guestNamed_23 2 rfl rfl (by decide) [1, 2, 0] rfl ?_
        refine jr_goto (tgt := 2) hF dX5_guestNamed_26 rfl ?_
        exact ih _ _ hf
      · refine jr_iload_n hF dX5_guestNamed_21 2 rfl rfl ?_
        obtain rfl := Option.some.inj hf
        exact jr_ireturn hF hE dX5_guestNamed_22
set_option maxRecDepth 100000 in
def fb_X5_guestNamed_0 (σ : lt_S) (o : Nat) (w : lt_W) (x1 : Int64) : Option Int32 := fb_X5_guestNamed_2 σ o w lt_fu x1 0
set_option maxHeartbeats 4000000 in
set_option maxRecDepth 100000 in
theorem jb_X5_guestNamed_0 {X : lt_X} {σ : lt_S} (hT : lt_Wt σ) {o : Nat} (h0 : lt_c σ o = 5) {r : Int32} {w : lt_W} (hF : lt_F X cX5_guestNamed RX5 4 (lt_rm 1)) (hE : lt_E X 0 0 σ (some .int) (some (.int r)) w) : ∀ (x1 : Int64), fb_X5_guestNamed_0 σ o w x1 = some r → lt_J X 0 0 σ w 0 [(0, .ref (lt_z X + o)), (1, .long x1)] [] := by
  intro x1 hf
  unfold fb_X5_guestNamed_0 at hf
  refine jr_iconst (v := 0) hF dX5_guestNamed_0 rfl ?_
  refine jr_istore_n (lv' := [(0, .ref (lt_z X + o)), (1, .long x1), (3, .int 0)]) hF dX5_guestNamed_1 rfl (by decide) [1, 2, 0] rfl ?_
  exact jb_X5_guestNamed_2 hT h0 hF hE lt_fu _ _ hf
def f_X5_guestNamed (σ : lt_S) (o : Nat) (x1 : Int64) (w : lt_W) : Option Int32 := fb_X5_guestNamed_0 σ o w x1
set_option maxRecDepth 100000 in
theorem c_X5_guestNamed {l : Launch} {D : va_G} {gA : Nat → ClassId} {s0 : State} {σ : lt_S} (hT : lt_Wt σ) {o : Nat} (h0 : lt_c σ o = 5) {x1 : Int64} {w : lt_W} {r : Int32} (hf : f_X5_guestNamed σ o x1 w = some r) : lt_C l D gA s0 yX5_guestNamed cX5_guestNamed 4 (some .int) (lt_rm 1) [.ref (s0.heap.size + o), .long x1] σ w σ (some (.int r)) w := by
  refine lt_enter rfl (Nat.le_of_ble_eq_true rfl) (fun X e1 e2 e3 e4 hF hE => ?_)
  subst e1 e2 e3 e4
  exact jb_X5_guestNamed_0 hT h0 hF hE _ hf

set_option maxRecDepth 100000 in
def fb_X5_countThere_0 (σ : lt_S) (o : Nat) (w : lt_W) : Option Int32 := Option.bind (f_J6_bitCount_0f7a4 (lt_gi w o 8)) (fun q1 => some q1)
set_option maxHeartbeats 4000000 in
set_option maxRecDepth 100000 in
theorem jb_X5_countThere_0 {X : lt_X} {σ : lt_S} {o : Nat} (h0 : lt_c σ o = 5) {r : Int32} {w : lt_W} (hF : lt_F X cX5_countThere RX5 1 (lt_rm 2)) (hE : lt_E X 0 0 σ (some .int) (some (.int r)) w) : fb_X5_countThere_0 σ o w = some r → lt_J X 0 0 σ w 0 [(0, .ref (lt_z X + o))] [] := by
  intro  hf
  unfold fb_X5_countThere_0 at hf
  refine jr_aload_n hF dX5_countThere_0 0 rfl rfl ?_
  refine jr_getI hF gf_X5_65 h0 dX5_countThere_1 ?_
  obtain ⟨q1, hq1, hf⟩ := Option.bind_eq_some_iff.mp hf
  refine jr_cS11 hF ml_X5_78 (c_J6_bitCount_0f7a4 hq1) ⟨Nat.le_of_ble_eq_true rfl, Nat.le_of_ble_eq_true rfl⟩ (Nat.le_of_ble_eq_true rfl) dX5_countThere_4 ?_
  obtain rfl := Option.some.inj hf
  exact jr_ireturn hF hE dX5_countThere_7
def f_X5_countThere (σ : lt_S) (o : Nat) (w : lt_W) : Option Int32 := fb_X5_countThere_0 σ o w
set_option maxRecDepth 100000 in
theorem c_X5_countThere {l : Launch} {D : va_G} {gA : Nat → ClassId} {s0 : State} {σ : lt_S} {o : Nat} (h0 : lt_c σ o = 5) {w : lt_W} {r : Int32} (hf : f_X5_countThere σ o w = some r) : lt_C l D gA s0 yX5_countThere cX5_countThere 1 (some .int) (lt_rm 2) [.ref (s0.heap.size + o)] σ w σ (some (.int r)) w := by
  refine lt_enter rfl (Nat.le_of_ble_eq_true rfl) (fun X e1 e2 e3 e4 hF hE => ?_)
  subst e1 e2 e3 e4
  exact jb_X5_countThere_0 h0 hF hE hf

set_option maxRecDepth 100000 in
def fb_X5_mayPass_0 (σ : lt_S) (o : Nat) (w : lt_W) (x1 : Int32) : Option Int32 := if 9999 < ((lt_gi w o 6) + x1) then some 0 else some 1
set_option maxHeartbeats 4000000 in
set_option maxRecDepth 100000 in
theorem jb_X5_mayPass_0 {X : lt_X} {σ : lt_S} {o : Nat} (h0 : lt_c σ o = 5) {r : Int32} {w : lt_W} (hF : lt_F X cX5_mayPass RX5 2 (lt_rm 1)) (hE : lt_E X 0 0 σ (some .boolean) (some (.int r)) w) : ∀ (x1 : Int32), fb_X5_mayPass_0 σ o w x1 = some r → lt_J X 0 0 σ w 0 [(0, .ref (lt_z X + o)), (1, .int x1)] [] := by
  intro x1 hf
  unfold fb_X5_mayPass_0 at hf
  refine jr_aload_n hF dX5_mayPass_0 0 rfl rfl ?_
  refine jr_getI hF gf_X5_59 h0 dX5_mayPass_1 ?_
  refine jr_iload_n hF dX5_mayPass_4 1 rfl rfl ?_
  refine jr_iadd hF dX5_mayPass_5 ?_
  refine jr_sipush (v := 9999) hF dX5_mayPass_6 rfl ?_
  refine jr_icmp_gt (tgt := 16) hF dX5_mayPass_9 rfl hf (fun hf => ?_) (fun hf => ?_)
  · refine jr_iconst (v := 0) hF dX5_mayPass_16 rfl ?_
    obtain rfl := Option.some.inj hf
    exact jr_zreturn hF hE (Or.inl rfl) dX5_mayPass_17
  · refine jr_iconst (v := 1) hF dX5_mayPass_12 rfl ?_
    refine jr_goto (tgt := 17) hF dX5_mayPass_13 rfl ?_
    obtain rfl := Option.some.inj hf
    exact jr_zreturn hF hE (Or.inr rfl) dX5_mayPass_17
def f_X5_mayPass (σ : lt_S) (o : Nat) (x1 : Int32) (w : lt_W) : Option Int32 := fb_X5_mayPass_0 σ o w x1
set_option maxRecDepth 100000 in
theorem c_X5_mayPass {l : Launch} {D : va_G} {gA : Nat → ClassId} {s0 : State} {σ : lt_S} {o : Nat} (h0 : lt_c σ o = 5) {x1 : Int32} {w : lt_W} {r : Int32} (hf : f_X5_mayPass σ o x1 w = some r) : lt_C l D gA s0 yX5_mayPass cX5_mayPass 2 (some .boolean) (lt_rm 1) [.ref (s0.heap.size + o), .int x1] σ w σ (some (.int r)) w := by
  refine lt_enter rfl (Nat.le_of_ble_eq_true rfl) (fun X e1 e2 e3 e4 hF hE => ?_)
  subst e1 e2 e3 e4
  exact jb_X5_mayPass_0 h0 hF hE _ hf

set_option maxRecDepth 100000 in
def fb_X5_passingSet_4 (σ : lt_S) (o : Nat) (w : lt_W) : Nat → Int32 → Int32 → Int32 → Option Int32
  | 0, _, _, _ => none
  | n + 1, x1, x2, x3 => if (lt_gi w o 0) ≤ x3 then some x2 else Option.bind (f_X5_isThere σ o x3 w) (fun q1 => if q1 = 0 then fb_X5_passingSet_4 σ o w n x1 x2 (x3 + 1) else lt_ck x3 (lt_len σ (lt_r σ o 15)) (if (lt_gi w (lt_r σ o 15) x3.toNatClampNeg) = x1 then lt_let (x2 ||| (1 <<< (x3 &&& 31))) (fun z3 => fb_X5_passingSet_4 σ o w n x1 z3 (x3 + 1)) else fb_X5_passingSet_4 σ o w n x1 x2 (x3 + 1)))
set_option maxHeartbeats 4000000 in
set_option maxRecDepth 100000 in
theorem jb_X5_passingSet_4 {X : lt_X} {σ : lt_S} (hT : lt_Wt σ) {o : Nat} (h0 : lt_c σ o = 5) {r : Int32} {w : lt_W} (hF : lt_F X cX5_passingSet RX5 4 (lt_rm 2)) (hE : lt_E X 0 0 σ (some .int) (some (.int r)) w) (n : Nat) : ∀ (x1 : Int32) (x2 : Int32) (x3 : Int32), fb_X5_passingSet_4 σ o w n x1 x2 x3 = some r → lt_J X 0 0 σ w 4 [(0, .ref (lt_z X + o)), (1, .int x1), (2, .int x2), (3, .int x3)] [] := by
  induction n with
  | zero => intro x1 x2 x3 hf; rw [fb_X5_passingSet_4] at hf; cases hf
  | succ n ih =>
    intro x1 x2 x3 hf
    rw [fb_X5_passingSet_4] at hf
    refine jr_iload_n hF dX5_passingSet_4 3 rfl rfl ?_
    refine jr_aload_n hF dX5_passingSet_5 0 rfl rfl ?_
    refine jr_getI hF gf_X5_40 h0 dX5_passingSet_6 ?_
    refine jr_icmp_ge (tgt := 42) hF dX5_passingSet_9 rfl hf (fun hf => ?_) (fun hf => ?_)
    · refine jr_iload_n hF dX5_passingSet_42 2 rfl rfl ?_
      obtain rfl := Option.some.inj hf
      exact jr_ireturn hF hE dX5_passingSet_43
    · refine jr_aload_n hF dX5_passingSet_12 0 rfl rfl ?_
      refine jr_iload_n hF dX5_passingSet_13 3 rfl rfl ?_
      obtain ⟨q1, hq1, hf⟩ := Option.bind_eq_some_iff.mp hf
      refine jr_cV11 hF ml_X5_74 (c_X5_isThere h0 hq1) h0 ⟨Nat.le_of_ble_eq_true rfl, Nat.le_of_ble_eq_true rfl⟩ (Nat.le_of_ble_eq_true rfl) dX5_passingSet_14 ?_
      refine jr_if_eq (tgt := 36) hF dX5_passingSet_17 rfl hf (fun hf => ?_) (fun hf => ?_)
      · refine jr_iinc (v := x3 + 1) (lv' := [(0, .ref (lt_z X + o)), (1, .int x1), (2, .int x2), (3, .int (x3 + 1))]) hF dX5_passingSet_36 3 rfl rfl (by decide) [1, 2, 3, 0] rfl ?_
        refine jr_goto (tgt := 4) hF dX5_passingSet_39 rfl ?_
        exact ih _ _ _ hf
      · refine jr_aload_n hF dX5_passingSet_20 0 rfl rfl ?_
        refine jr_getRT (cr := 50) hF gf_X5_31 hT h0 rfl rfl dX5_passingSet_21 (fun t2 => ?_)
        refine jr_iload_n hF dX5_passingSet_24 3 rfl rfl ?_
        refine jr_iaload hF t2 dX5_passingSet_25 hf (fun hf => ?_)
        refine jr_iload_n hF dX5_passingSet_26 1 rfl rfl ?_
        refine jr_icmp_ne (tgt := 36) hF dX5_passingSet_27 rfl hf (fun hf => ?_) (fun hf => ?_)
        · refine jr_iinc (v := x3 + 1) (lv' := [(0, .ref (lt_z X + o)), (1, .int x1), (2, .int x2), (3, .int (x3 + 1))]) hF dX5_passingSet_36 3 rfl rfl (by decide) [1, 2, 3, 0] rfl ?_
          refine jr_goto (tgt := 4) hF dX5_passingSet_39 rfl ?_
          exact ih _ _ _ hf
        · refine jr_iload_n hF dX5_passingSet_30 2 rfl rfl ?_
          refine jr_iconst (v := 1) hF dX5_passingSet_31 rfl ?_
          refine jr_iload_n hF dX5_passingSet_32 3 rfl rfl ?_
          refine jr_ishl hF dX5_passingSet_33 ?_
          refine jr_ior hF dX5_passingSet_34 ?_
          refine jr_letI hf (fun z3 hf => ?_)
          refine jr_istore_n (lv' := [(0, .ref (lt_z X + o)), (1, .int x1), (2, .int z3), (3, .int x3)]) hF dX5_passingSet_35 rfl (by decide) [1, 2, 0, 3] rfl ?_
          refine jr_iinc (v := x3 + 1) (lv' := [(0, .ref (lt_z X + o)), (1, .int x1), (2, .int z3), (3, .int (x3 + 1))]) hF dX5_passingSet_36 3 rfl rfl (by decide) [1, 2, 3, 0] rfl ?_
          refine jr_goto (tgt := 4) hF dX5_passingSet_39 rfl ?_
          exact ih _ _ _ hf
set_option maxRecDepth 100000 in
def fb_X5_passingSet_0 (σ : lt_S) (o : Nat) (w : lt_W) (x1 : Int32) : Option Int32 := fb_X5_passingSet_4 σ o w lt_fu x1 0 0
set_option maxHeartbeats 4000000 in
set_option maxRecDepth 100000 in
theorem jb_X5_passingSet_0 {X : lt_X} {σ : lt_S} (hT : lt_Wt σ) {o : Nat} (h0 : lt_c σ o = 5) {r : Int32} {w : lt_W} (hF : lt_F X cX5_passingSet RX5 4 (lt_rm 2)) (hE : lt_E X 0 0 σ (some .int) (some (.int r)) w) : ∀ (x1 : Int32), fb_X5_passingSet_0 σ o w x1 = some r → lt_J X 0 0 σ w 0 [(0, .ref (lt_z X + o)), (1, .int x1)] [] := by
  intro x1 hf
  unfold fb_X5_passingSet_0 at hf
  refine jr_iconst (v := 0) hF dX5_passingSet_0 rfl ?_
  refine jr_istore_n (lv' := [(0, .ref (lt_z X + o)), (1, .int x1), (2, .int 0)]) hF dX5_passingSet_1 rfl (by decide) [1, 2, 0] rfl ?_
  refine jr_iconst (v := 0) hF dX5_passingSet_2 rfl ?_
  refine jr_istore_n (lv' := [(0, .ref (lt_z X + o)), (1, .int x1), (2, .int 0), (3, .int 0)]) hF dX5_passingSet_3 rfl (by decide) [1, 2, 3, 0] rfl ?_
  exact jb_X5_passingSet_4 hT h0 hF hE lt_fu _ _ _ hf
def f_X5_passingSet (σ : lt_S) (o : Nat) (x1 : Int32) (w : lt_W) : Option Int32 := fb_X5_passingSet_0 σ o w x1
set_option maxRecDepth 100000 in
theorem c_X5_passingSet {l : Launch} {D : va_G} {gA : Nat → ClassId} {s0 : State} {σ : lt_S} (hT : lt_Wt σ) {o : Nat} (h0 : lt_c σ o = 5) {x1 : Int32} {w : lt_W} {r : Int32} (hf : f_X5_passingSet σ o x1 w = some r) : lt_C l D gA s0 yX5_passingSet cX5_passingSet 4 (some .int) (lt_rm 2) [.ref (s0.heap.size + o), .int x1] σ w σ (some (.int r)) w := by
  refine lt_enter rfl (Nat.le_of_ble_eq_true rfl) (fun X e1 e2 e3 e4 hF hE => ?_)
  subst e1 e2 e3 e4
  exact jb_X5_passingSet_0 hT h0 hF hE _ hf

set_option maxRecDepth 100000 in
def fb_X5_hungers_0 (σ : lt_S) (o : Nat) (w : lt_W) (x1 : Int32) : Option Int32 := Option.bind (f_X5_isThere σ o x1 w) (fun q1 => if q1 = 0 then some 0 else lt_ck x1 (lt_len σ (lt_r σ o 14)) (if (lt_gi w (lt_r σ o 14) x1.toNatClampNeg) ≤ 0 then some 0 else some 1))
set_option maxHeartbeats 4000000 in
set_option maxRecDepth 100000 in
theorem jb_X5_hungers_0 {X : lt_X} {σ : lt_S} (hT : lt_Wt σ) {o : Nat} (h0 : lt_c σ o = 5) {r : Int32} {w : lt_W} (hF : lt_F X cX5_hungers RX5 2 (lt_rm 2)) (hE : lt_E X 0 0 σ (some .boolean) (some (.int r)) w) : ∀ (x1 : Int32), fb_X5_hungers_0 σ o w x1 = some r → lt_J X 0 0 σ w 0 [(0, .ref (lt_z X + o)), (1, .int x1)] [] := by
  intro x1 hf
  unfold fb_X5_hungers_0 at hf
  refine jr_aload_n hF dX5_hungers_0 0 rfl rfl ?_
  refine jr_iload_n hF dX5_hungers_1 1 rfl rfl ?_
  obtain ⟨q1, hq1, hf⟩ := Option.bind_eq_some_iff.mp hf
  refine jr_cV11 hF ml_X5_74 (c_X5_isThere h0 hq1) h0 ⟨Nat.le_of_ble_eq_true rfl, Nat.le_of_ble_eq_true rfl⟩ (Nat.le_of_ble_eq_true rfl) dX5_hungers_2 ?_
  refine jr_if_eq (tgt := 21) hF dX5_hungers_5 rfl hf (fun hf => ?_) (fun hf => ?_)
  · refine jr_iconst (v := 0) hF dX5_hungers_21 rfl ?_
    obtain rfl := Option.some.inj hf
    exact jr_zreturn hF hE (Or.inl rfl) dX5_hungers_22
  · refine jr_aload_n hF dX5_hungers_8 0 rfl rfl ?_
    refine jr_getRT (cr := 50) hF gf_X5_28 hT h0 rfl rfl dX5_hungers_9 (fun t2 => ?_)
    refine jr_iload_n hF dX5_hungers_12 1 rfl rfl ?_
    refine jr_iaload hF t2 dX5_hungers_13 hf (fun hf => ?_)
    refine jr_if_le (tgt := 21) hF dX5_hungers_14 rfl hf (fun hf => ?_) (fun hf => ?_)
    · refine jr_iconst (v := 0) hF dX5_hungers_21 rfl ?_
      obtain rfl := Option.some.inj hf
      exact jr_zreturn hF hE (Or.inl rfl) dX5_hungers_22
    · refine jr_iconst (v := 1) hF dX5_hungers_17 rfl ?_
      refine jr_goto (tgt := 22) hF dX5_hungers_18 rfl ?_
      obtain rfl := Option.some.inj hf
      exact jr_zreturn hF hE (Or.inr rfl) dX5_hungers_22
def f_X5_hungers (σ : lt_S) (o : Nat) (x1 : Int32) (w : lt_W) : Option Int32 := fb_X5_hungers_0 σ o w x1
set_option maxRecDepth 100000 in
theorem c_X5_hungers {l : Launch} {D : va_G} {gA : Nat → ClassId} {s0 : State} {σ : lt_S} (hT : lt_Wt σ) {o : Nat} (h0 : lt_c σ o = 5) {x1 : Int32} {w : lt_W} {r : Int32} (hf : f_X5_hungers σ o x1 w = some r) : lt_C l D gA s0 yX5_hungers cX5_hungers 2 (some .boolean) (lt_rm 2) [.ref (s0.heap.size + o), .int x1] σ w σ (some (.int r)) w := by
  refine lt_enter rfl (Nat.le_of_ble_eq_true rfl) (fun X e1 e2 e3 e4 hF hE => ?_)
  subst e1 e2 e3 e4
  exact jb_X5_hungers_0 hT h0 hF hE _ hf

set_option maxRecDepth 100000 in
def fb_X5_dearThere_4 (σ : lt_S) (o : Nat) (w : lt_W) : Nat → Int32 → Int32 → Option Int32
  | 0, _, _ => none
  | n + 1, x1, x2 => if (lt_gi w o 0) ≤ x2 then some x1 else Option.bind (f_X5_isThere σ o x2 w) (fun q1 => if q1 = 0 then fb_X5_dearThere_4 σ o w n x1 (x2 + 1) else lt_ck x2 (lt_len σ (lt_r σ o 12)) (lt_let (x1 + (lt_gi w (lt_r σ o 12) x2.toNatClampNeg)) (fun z3 => fb_X5_dearThere_4 σ o w n z3 (x2 + 1))))
set_option maxHeartbeats 4000000 in
set_option maxRecDepth 100000 in
theorem jb_X5_dearThere_4 {X : lt_X} {σ : lt_S} (hT : lt_Wt σ) {o : Nat} (h0 : lt_c σ o = 5) {r : Int32} {w : lt_W} (hF : lt_F X cX5_dearThere RX5 3 (lt_rm 2)) (hE : lt_E X 0 0 σ (some .int) (some (.int r)) w) (n : Nat) : ∀ (x1 : Int32) (x2 : Int32), fb_X5_dearThere_4 σ o w n x1 x2 = some r → lt_J X 0 0 σ w 4 [(0, .ref (lt_z X + o)), (1, .int x1), (2, .int x2)] [] := by
  induction n with
  | zero => intro x1 x2 hf; rw [fb_X5_dearThere_4] at hf; cases hf
  | succ n ih =>
    intro x1 x2 hf
    rw [fb_X5_dearThere_4] at hf
    refine jr_iload_n hF dX5_dearThere_4 2 rfl rfl ?_
    refine jr_aload_n hF dX5_dearThere_5 0 rfl rfl ?_
    refine jr_getI hF gf_X5_40 h0 dX5_dearThere_6 ?_
    refine jr_icmp_ge (tgt := 35) hF dX5_dearThere_9 rfl hf (fun hf => ?_) (fun hf => ?_)
    · refine jr_iload_n hF dX5_dearThere_35 1 rfl rfl ?_
      obtain rfl := Option.some.inj hf
      exact jr_ireturn hF hE dX5_dearThere_36
    · refine jr_aload_n hF dX5_dearThere_12 0 rfl rfl ?_
      refine jr_iload_n hF dX5_dearThere_13 2 rfl rfl ?_
      obtain ⟨q1, hq1, hf⟩ := Option.bind_eq_some_iff.mp hf
      refine jr_cV11 hF ml_X5_74 (c_X5_isThere h0 hq1) h0 ⟨Nat.le_of_ble_eq_true rfl, Nat.le_of_ble_eq_true rfl⟩ (Nat.le_of_ble_eq_true rfl) dX5_dearThere_14 ?_
      refine jr_if_eq (tgt := 29) hF dX5_dearThere_17 rfl hf (fun hf => ?_) (fun hf => ?_)
      · refine jr_iinc (v := x2 + 1) (lv' := [(0, .ref (lt_z X + o)), (1, .int x1), (2, .int (x2 + 1))]) hF dX5_dearThere_29 2 rfl rfl (by decide) [1, 2, 0] rfl ?_
        refine jr_goto (tgt := 4) hF dX5_dearThere_32 rfl ?_
        exact ih _ _ hf
      · refine jr_iload_n hF dX5_dearThere_20 1 rfl rfl ?_
        refine jr_aload_n hF dX5_dearThere_21 0 rfl rfl ?_
        refine jr_getRT (cr := 50) hF gf_X5_22 hT h0 rfl rfl dX5_dearThere_22 (fun t2 => ?_)
        refine jr_iload_n hF dX5_dearThere_25 2 rfl rfl ?_
        refine jr_iaload hF t2 dX5_dearThere_26 hf (fun hf => ?_)
        refine jr_iadd hF dX5_dearThere_27 ?_
        refine jr_letI hf (fun z3 hf => ?_)
        refine jr_istore_n (lv' := [(0, .ref (lt_z X + o)), (1, .int z3), (2, .int x2)]) hF dX5_dearThere_28 rfl (by decide) [1, 0, 2] rfl ?_
        refine jr_iinc (v := x2 + 1) (lv' := [(0, .ref (lt_z X + o)), (1, .int z3), (2, .int (x2 + 1))]) hF dX5_dearThere_29 2 rfl rfl (by decide) [1, 2, 0] rfl ?_
        refine jr_goto (tgt := 4) hF dX5_dearThere_32 rfl ?_
        exact ih _ _ hf
set_option maxRecDepth 100000 in
def fb_X5_dearThere_0 (σ : lt_S) (o : Nat) (w : lt_W) : Option Int32 := fb_X5_dearThere_4 σ o w lt_fu 0 0
set_option maxHeartbeats 4000000 in
set_option maxRecDepth 100000 in
theorem jb_X5_dearThere_0 {X : lt_X} {σ : lt_S} (hT : lt_Wt σ) {o : Nat} (h0 : lt_c σ o = 5) {r : Int32} {w : lt_W} (hF : lt_F X cX5_dearThere RX5 3 (lt_rm 2)) (hE : lt_E X 0 0 σ (some .int) (some (.int r)) w) : fb_X5_dearThere_0 σ o w = some r → lt_J X 0 0 σ w 0 [(0, .ref (lt_z X + o))] [] := by
  intro  hf
  unfold fb_X5_dearThere_0 at hf
  refine jr_iconst (v := 0) hF dX5_dearThere_0 rfl ?_
  refine jr_istore_n (lv' := [(0, .ref (lt_z X + o)), (1, .int 0)]) hF dX5_dearThere_1 rfl (by decide) [1, 0] rfl ?_
  refine jr_iconst (v := 0) hF dX5_dearThere_2 rfl ?_
  refine jr_istore_n (lv' := [(0, .ref (lt_z X + o)), (1, .int 0), (2, .int 0)]) hF dX5_dearThere_3 rfl (by decide) [1, 2, 0] rfl ?_
  exact jb_X5_dearThere_4 hT h0 hF hE lt_fu _ _ hf
def f_X5_dearThere (σ : lt_S) (o : Nat) (w : lt_W) : Option Int32 := fb_X5_dearThere_0 σ o w
set_option maxRecDepth 100000 in
theorem c_X5_dearThere {l : Launch} {D : va_G} {gA : Nat → ClassId} {s0 : State} {σ : lt_S} (hT : lt_Wt σ) {o : Nat} (h0 : lt_c σ o = 5) {w : lt_W} {r : Int32} (hf : f_X5_dearThere σ o w = some r) : lt_C l D gA s0 yX5_dearThere cX5_dearThere 3 (some .int) (lt_rm 2) [.ref (s0.heap.size + o)] σ w σ (some (.int r)) w := by
  refine lt_enter rfl (Nat.le_of_ble_eq_true rfl) (fun X e1 e2 e3 e4 hF hE => ?_)
  subst e1 e2 e3 e4
  exact jb_X5_dearThere_0 hT h0 hF hE hf

set_option maxRecDepth 100000 in
def fb_X5_seat_0 (σ : lt_S) (o : Nat) (x1 : Int64) (w : lt_W) : Option lt_W := if (lt_gi w o 0) < 7 then lt_ck (lt_gi w o 0) (lt_len σ (lt_r σ o 9)) (lt_let (lt_sl w (lt_r σ o 9) (lt_gi w o 0).toNatClampNeg x1) (fun w2 => lt_ck (lt_gi w2 o 0) (lt_len σ (lt_r σ o 10)) (lt_let (lt_si w2 (lt_r σ o 10) (lt_gi w2 o 0).toNatClampNeg 0) (fun w4 => lt_ck (lt_gi w4 o 0) (lt_len σ (lt_r σ o 11)) (lt_let (lt_si w4 (lt_r σ o 11) (lt_gi w4 o 0).toNatClampNeg 0) (fun w6 => lt_ck (lt_gi w6 o 0) (lt_len σ (lt_r σ o 12)) (lt_let (lt_si w6 (lt_r σ o 12) (lt_gi w6 o 0).toNatClampNeg 0) (fun w8 => lt_ck (lt_gi w8 o 0) (lt_len σ (lt_r σ o 13)) (lt_let (lt_si w8 (lt_r σ o 13) (lt_gi w8 o 0).toNatClampNeg 0) (fun w10 => lt_ck (lt_gi w10 o 0) (lt_len σ (lt_r σ o 14)) (lt_let (lt_si w10 (lt_r σ o 14) (lt_gi w10 o 0).toNatClampNeg 0) (fun w12 => lt_ck (lt_gi w12 o 0) (lt_len σ (lt_r σ o 15)) (lt_let (lt_si w12 (lt_r σ o 15) (lt_gi w12 o 0).toNatClampNeg (-1)) (fun w14 => lt_let (lt_si w14 o 8 ((lt_gi w14 o 8) ||| (1 <<< ((lt_gi w14 o 0) &&& 31)))) (fun w15 => lt_let (lt_si w15 o 0 ((lt_gi w15 o 0) + 1)) (fun w16 => some w16)))))))))))))))) else some w
set_option maxHeartbeats 4000000 in
set_option maxRecDepth 100000 in
theorem jb_X5_seat_0 {X : lt_X} {σ : lt_S} (hT : lt_Wt σ) {o : Nat} (h0 : lt_c σ o = 5) {r : lt_W} (hF : lt_F X cX5_seat RX5 3 (lt_rm 1)) (hE : lt_E X 0 0 σ none none r) : ∀ (x1 : Int64) (w : lt_W), fb_X5_seat_0 σ o x1 w = some r → lt_J X 0 0 σ w 0 [(0, .ref (lt_z X + o)), (1, .long x1)] [] := by
  intro x1 w hf
  unfold fb_X5_seat_0 at hf
  refine jr_aload_n hF dX5_seat_0 0 rfl rfl ?_
  refine jr_getI hF gf_X5_40 h0 dX5_seat_1 ?_
  refine jr_bipush (v := 7) hF dX5_seat_4 rfl ?_
  refine jr_icmp_lt (tgt := 10) hF dX5_seat_6 rfl hf (fun hf => ?_) (fun hf => ?_)
  · refine jr_aload_n hF dX5_seat_10 0 rfl rfl ?_
    refine jr_getRT (cr := 51) hF gf_X5_9 hT h0 rfl rfl dX5_seat_11 (fun t1 => ?_)
    refine jr_aload_n hF dX5_seat_14 0 rfl rfl ?_
    refine jr_getI hF gf_X5_40 h0 dX5_seat_15 ?_
    refine jr_lload_n hF dX5_seat_18 1 rfl rfl ?_
    refine jr_lastore hF t1 dX5_seat_19 hf (fun hf => ?_)
    refine jr_letW hf (fun w2 hf => ?_)
    refine jr_aload_n hF dX5_seat_20 0 rfl rfl ?_
    refine jr_getRT (cr := 50) hF gf_X5_15 hT h0 rfl rfl dX5_seat_21 (fun t3 => ?_)
    refine jr_aload_n hF dX5_seat_24 0 rfl rfl ?_
    refine jr_getI hF gf_X5_40 h0 dX5_seat_25 ?_
    refine jr_iconst (v := 0) hF dX5_seat_28 rfl ?_
    refine jr_iastore hF t3 dX5_seat_29 hf (fun hf => ?_)
    refine jr_letW hf (fun w4 hf => ?_)
    refine jr_aload_n hF dX5_seat_30 0 rfl rfl ?_
    refine jr_getRT (cr := 50) hF gf_X5_19 hT h0 rfl rfl dX5_seat_31 (fun t5 => ?_)
    refine jr_aload_n hF dX5_seat_34 0 rfl rfl ?_
    refine jr_getI hF gf_X5_40 h0 dX5_seat_35 ?_
    refine jr_iconst (v := 0) hF dX5_seat_38 rfl ?_
    refine jr_iastore hF t5 dX5_seat_39 hf (fun hf => ?_)
    refine jr_letW hf (fun w6 hf => ?_)
    refine jr_aload_n hF dX5_seat_40 0 rfl rfl ?_
    refine jr_getRT (cr := 50) hF gf_X5_22 hT h0 rfl rfl dX5_seat_41 (fun t7 => ?_)
    refine jr_aload_n hF dX5_seat_44 0 rfl rfl ?_
    refine jr_getI hF gf_X5_40 h0 dX5_seat_45 ?_
    refine jr_iconst (v := 0) hF dX5_seat_48 rfl ?_
    refine jr_iastore hF t7 dX5_seat_49 hf (fun hf => ?_)
    refine jr_letW hf (fun w8 hf => ?_)
    refine jr_aload_n hF dX5_seat_50 0 rfl rfl ?_
    refine jr_getRT (cr := 50) hF gf_X5_25 hT h0 rfl rfl dX5_seat_51 (fun t9 => ?_)
    refine jr_aload_n hF dX5_seat_54 0 rfl rfl ?_
    refine jr_getI hF gf_X5_40 h0 dX5_seat_55 ?_
    refine jr_iconst (v := 0) hF dX5_seat_58 rfl ?_
    refine jr_iastore hF t9 dX5_seat_59 hf (fun hf => ?_)
    refine jr_letW hf (fun w10 hf => ?_)
    refine jr_aload_n hF dX5_seat_60 0 rfl rfl ?_
    refine jr_getRT (cr := 50) hF gf_X5_28 hT h0 rfl rfl dX5_seat_61 (fun t11 => ?_)
    refine jr_aload_n hF dX5_seat_64 0 rfl rfl ?_
    refine jr_getI hF gf_X5_40 h0 dX5_seat_65 ?_
    refine jr_iconst (v := 0) hF dX5_seat_68 rfl ?_
    refine jr_iastore hF t11 dX5_seat_69 hf (fun hf => ?_)
    refine jr_letW hf (fun w12 hf => ?_)
    refine jr_aload_n hF dX5_seat_70 0 rfl rfl ?_
    refine jr_getRT (cr := 50) hF gf_X5_31 hT h0 rfl rfl dX5_seat_71 (fun t13 => ?_)
    refine jr_aload_n hF dX5_seat_74 0 rfl rfl ?_
    refine jr_getI hF gf_X5_40 h0 dX5_seat_75 ?_
    refine jr_iconst (v := (-1)) hF dX5_seat_78 rfl ?_
    refine jr_iastore hF t13 dX5_seat_79 hf (fun hf => ?_)
    refine jr_letW hf (fun w14 hf => ?_)
    refine jr_aload_n hF dX5_seat_80 0 rfl rfl ?_
    refine jr_dup hF dX5_seat_81 rfl ?_
    refine jr_getI hF gf_X5_65 h0 dX5_seat_82 ?_
    refine jr_iconst (v := 1) hF dX5_seat_85 rfl ?_
    refine jr_aload_n hF dX5_seat_86 0 rfl rfl ?_
    refine jr_getI hF gf_X5_40 h0 dX5_seat_87 ?_
    refine jr_ishl hF dX5_seat_90 ?_
    refine jr_ior hF dX5_seat_91 ?_
    refine jr_putI hF pf_X5_65 h0 dX5_seat_92 ?_
    refine jr_letW hf (fun w15 hf => ?_)
    refine jr_aload_n hF dX5_seat_95 0 rfl rfl ?_
    refine jr_dup hF dX5_seat_96 rfl ?_
    refine jr_getI hF gf_X5_40 h0 dX5_seat_97 ?_
    refine jr_iconst (v := 1) hF dX5_seat_100 rfl ?_
    refine jr_iadd hF dX5_seat_101 ?_
    refine jr_putI hF pf_X5_40 h0 dX5_seat_102 ?_
    refine jr_letW hf (fun w16 hf => ?_)
    obtain rfl := Option.some.inj hf
    exact jr_return hF hE dX5_seat_105
  · obtain rfl := Option.some.inj hf
    exact jr_return hF hE dX5_seat_9
def f_X5_seat (σ : lt_S) (o : Nat) (x1 : Int64) (w : lt_W) : Option lt_W := fb_X5_seat_0 σ o x1 w
set_option maxRecDepth 100000 in
theorem c_X5_seat {l : Launch} {D : va_G} {gA : Nat → ClassId} {s0 : State} {σ : lt_S} (hT : lt_Wt σ) {o : Nat} (h0 : lt_c σ o = 5) {x1 : Int64} {w : lt_W} {r : lt_W} (hf : f_X5_seat σ o x1 w = some r) : lt_C l D gA s0 yX5_seat cX5_seat 3 none (lt_rm 1) [.ref (s0.heap.size + o), .long x1] σ w σ none r := by
  refine lt_enter rfl (Nat.le_of_ble_eq_true rfl) (fun X e1 e2 e3 e4 hF hE => ?_)
  subst e1 e2 e3 e4
  exact jb_X5_seat_0 hT h0 hF hE _ _ hf

set_option maxRecDepth 100000 in
def fb_X5_clear_0 (σ : lt_S) (o : Nat) (w : lt_W) : Option lt_W := lt_let (lt_si w o 0 0) (fun w1 => lt_let (lt_si w1 o 1 4) (fun w2 => lt_let (lt_si w2 o 2 5) (fun w3 => lt_let (lt_si w3 o 3 2) (fun w4 => lt_let (lt_si w4 o 4 8) (fun w5 => lt_let (lt_si w5 o 5 0) (fun w6 => lt_let (lt_si w6 o 6 0) (fun w7 => lt_let (lt_si w7 o 7 0) (fun w8 => lt_let (lt_si w8 o 8 0) (fun w9 => some w9)))))))))
set_option maxHeartbeats 4000000 in
set_option maxRecDepth 100000 in
theorem jb_X5_clear_0 {X : lt_X} {σ : lt_S} {o : Nat} (h0 : lt_c σ o = 5) {r : lt_W} (hF : lt_F X cX5_clear RX5 1 (lt_rm 1)) (hE : lt_E X 0 0 σ none none r) : ∀ (w : lt_W), fb_X5_clear_0 σ o w = some r → lt_J X 0 0 σ w 0 [(0, .ref (lt_z X + o))] [] := by
  intro w hf
  unfold fb_X5_clear_0 at hf
  refine jr_aload_n hF dX5_clear_0 0 rfl rfl ?_
  refine jr_iconst (v := 0) hF dX5_clear_1 rfl ?_
  refine jr_putI hF pf_X5_40 h0 dX5_clear_2 ?_
  refine jr_letW hf (fun w1 hf => ?_)
  refine jr_aload_n hF dX5_clear_5 0 rfl rfl ?_
  refine jr_iconst (v := 4) hF dX5_clear_6 rfl ?_
  refine jr_putI hF pf_X5_44 h0 dX5_clear_7 ?_
  refine jr_letW hf (fun w2 hf => ?_)
  refine jr_aload_n hF dX5_clear_10 0 rfl rfl ?_
  refine jr_iconst (v := 5) hF dX5_clear_11 rfl ?_
  refine jr_putI hF pf_X5_47 h0 dX5_clear_12 ?_
  refine jr_letW hf (fun w3 hf => ?_)
  refine jr_aload_n hF dX5_clear_15 0 rfl rfl ?_
  refine jr_iconst (v := 2) hF dX5_clear_16 rfl ?_
  refine jr_putI hF pf_X5_50 h0 dX5_clear_17 ?_
  refine jr_letW hf (fun w4 hf => ?_)
  refine jr_aload_n hF dX5_clear_20 0 rfl rfl ?_
  refine jr_bipush (v := 8) hF dX5_clear_21 rfl ?_
  refine jr_putI hF pf_X5_53 h0 dX5_clear_23 ?_
  refine jr_letW hf (fun w5 hf => ?_)
  refine jr_aload_n hF dX5_clear_26 0 rfl rfl ?_
  refine jr_iconst (v := 0) hF dX5_clear_27 rfl ?_
  refine jr_putI hF pf_X5_56 h0 dX5_clear_28 ?_
  refine jr_letW hf (fun w6 hf => ?_)
  refine jr_aload_n hF dX5_clear_31 0 rfl rfl ?_
  refine jr_iconst (v := 0) hF dX5_clear_32 rfl ?_
  refine jr_putI hF pf_X5_59 h0 dX5_clear_33 ?_
  refine jr_letW hf (fun w7 hf => ?_)
  refine jr_aload_n hF dX5_clear_36 0 rfl rfl ?_
  refine jr_iconst (v := 0) hF dX5_clear_37 rfl ?_
  refine jr_putI hF pf_X5_62 h0 dX5_clear_38 ?_
  refine jr_letW hf (fun w8 hf => ?_)
  refine jr_aload_n hF dX5_clear_41 0 rfl rfl ?_
  refine jr_iconst (v := 0) hF dX5_clear_42 rfl ?_
  refine jr_putI hF pf_X5_65 h0 dX5_clear_43 ?_
  refine jr_letW hf (fun w9 hf => ?_)
  obtain rfl := Option.some.inj hf
  exact jr_return hF hE dX5_clear_46
def f_X5_clear (σ : lt_S) (o : Nat) (w : lt_W) : Option lt_W := fb_X5_clear_0 σ o w
set_option maxRecDepth 100000 in
theorem c_X5_clear {l : Launch} {D : va_G} {gA : Nat → ClassId} {s0 : State} {σ : lt_S} {o : Nat} (h0 : lt_c σ o = 5) {w : lt_W} {r : lt_W} (hf : f_X5_clear σ o w = some r) : lt_C l D gA s0 yX5_clear cX5_clear 1 none (lt_rm 1) [.ref (s0.heap.size + o)] σ w σ none r := by
  refine lt_enter rfl (Nat.le_of_ble_eq_true rfl) (fun X e1 e2 e3 e4 hF hE => ?_)
  subst e1 e2 e3 e4
  exact jb_X5_clear_0 h0 hF hE _ hf

set_option maxRecDepth 100000 in
def fb_X5_hungrySet_4 (σ : lt_S) (o : Nat) (w : lt_W) : Nat → Int32 → Int32 → Option Int32
  | 0, _, _ => none
  | n + 1, x1, x2 => if (lt_gi w o 0) ≤ x2 then some x1 else Option.bind (f_X5_hungers σ o x2 w) (fun q1 => if q1 = 0 then fb_X5_hungrySet_4 σ o w n x1 (x2 + 1) else lt_let (x1 ||| (1 <<< (x2 &&& 31))) (fun z2 => fb_X5_hungrySet_4 σ o w n z2 (x2 + 1)))
set_option maxHeartbeats 4000000 in
set_option maxRecDepth 100000 in
theorem jb_X5_hungrySet_4 {X : lt_X} {σ : lt_S} (hT : lt_Wt σ) {o : Nat} (h0 : lt_c σ o = 5) {r : Int32} {w : lt_W} (hF : lt_F X cX5_hungrySet RX5 3 (lt_rm 3)) (hE : lt_E X 0 0 σ (some .int) (some (.int r)) w) (n : Nat) : ∀ (x1 : Int32) (x2 : Int32), fb_X5_hungrySet_4 σ o w n x1 x2 = some r → lt_J X 0 0 σ w 4 [(0, .ref (lt_z X + o)), (1, .int x1), (2, .int x2)] [] := by
  induction n with
  | zero => intro x1 x2 hf; rw [fb_X5_hungrySet_4] at hf; cases hf
  | succ n ih =>
    intro x1 x2 hf
    rw [fb_X5_hungrySet_4] at hf
    refine jr_iload_n hF dX5_hungrySet_4 2 rfl rfl ?_
    refine jr_aload_n hF dX5_hungrySet_5 0 rfl rfl ?_
    refine jr_getI hF gf_X5_40 h0 dX5_hungrySet_6 ?_
    refine jr_icmp_ge (tgt := 32) hF dX5_hungrySet_9 rfl hf (fun hf => ?_) (fun hf => ?_)
    · refine jr_iload_n hF dX5_hungrySet_32 1 rfl rfl ?_
      obtain rfl := Option.some.inj hf
      exact jr_ireturn hF hE dX5_hungrySet_33
    · refine jr_aload_n hF dX5_hungrySet_12 0 rfl rfl ?_
      refine jr_iload_n hF dX5_hungrySet_13 2 rfl rfl ?_
      obtain ⟨q1, hq1, hf⟩ := Option.bind_eq_some_iff.mp hf
      refine jr_cV11 hF ml_X5_84 (c_X5_hungers hT h0 hq1) h0 ⟨Nat.le_of_ble_eq_true rfl, Nat.le_of_ble_eq_true rfl⟩ (Nat.le_of_ble_eq_true rfl) dX5_hungrySet_14 ?_
      refine jr_if_eq (tgt := 26) hF dX5_hungrySet_17 rfl hf (fun hf => ?_) (fun hf => ?_)
      · refine jr_iinc (v := x2 + 1) (lv' := [(0, .ref (lt_z X + o)), (1, .int x1), (2, .int (x2 + 1))]) hF dX5_hungrySet_26 2 rfl rfl (by decide) [1, 2, 0] rfl ?_
        refine jr_goto (tgt := 4) hF dX5_hungrySet_29 rfl ?_
        exact ih _ _ hf
      · refine jr_iload_n hF dX5_hungrySet_20 1 rfl rfl ?_
        refine jr_iconst (v := 1) hF dX5_hungrySet_21 rfl ?_
        refine jr_iload_n hF dX5_hungrySet_22 2 rfl rfl ?_
        refine jr_ishl hF dX5_hungrySet_23 ?_
        refine jr_ior hF dX5_hungrySet_24 ?_
        refine jr_letI hf (fun z2 hf => ?_)
        refine jr_istore_n (lv' := [(0, .ref (lt_z X + o)), (1, .int z2), (2, .int x2)]) hF dX5_hungrySet_25 rfl (by decide) [1, 0, 2] rfl ?_
        refine jr_iinc (v := x2 + 1) (lv' := [(0, .ref (lt_z X + o)), (1, .int z2), (2, .int (x2 + 1))]) hF dX5_hungrySet_26 2 rfl rfl (by decide) [1, 2, 0] rfl ?_
        refine jr_goto (tgt := 4) hF dX5_hungrySet_29 rfl ?_
        exact ih _ _ hf
set_option maxRecDepth 100000 in
def fb_X5_hungrySet_0 (σ : lt_S) (o : Nat) (w : lt_W) : Option Int32 := fb_X5_hungrySet_4 σ o w lt_fu 0 0
set_option maxHeartbeats 4000000 in
set_option maxRecDepth 100000 in
theorem jb_X5_hungrySet_0 {X : lt_X} {σ : lt_S} (hT : lt_Wt σ) {o : Nat} (h0 : lt_c σ o = 5) {r : Int32} {w : lt_W} (hF : lt_F X cX5_hungrySet RX5 3 (lt_rm 3)) (hE : lt_E X 0 0 σ (some .int) (some (.int r)) w) : fb_X5_hungrySet_0 σ o w = some r → lt_J X 0 0 σ w 0 [(0, .ref (lt_z X + o))] [] := by
  intro  hf
  unfold fb_X5_hungrySet_0 at hf
  refine jr_iconst (v := 0) hF dX5_hungrySet_0 rfl ?_
  refine jr_istore_n (lv' := [(0, .ref (lt_z X + o)), (1, .int 0)]) hF dX5_hungrySet_1 rfl (by decide) [1, 0] rfl ?_
  refine jr_iconst (v := 0) hF dX5_hungrySet_2 rfl ?_
  refine jr_istore_n (lv' := [(0, .ref (lt_z X + o)), (1, .int 0), (2, .int 0)]) hF dX5_hungrySet_3 rfl (by decide) [1, 2, 0] rfl ?_
  exact jb_X5_hungrySet_4 hT h0 hF hE lt_fu _ _ hf
def f_X5_hungrySet (σ : lt_S) (o : Nat) (w : lt_W) : Option Int32 := fb_X5_hungrySet_0 σ o w
set_option maxRecDepth 100000 in
theorem c_X5_hungrySet {l : Launch} {D : va_G} {gA : Nat → ClassId} {s0 : State} {σ : lt_S} (hT : lt_Wt σ) {o : Nat} (h0 : lt_c σ o = 5) {w : lt_W} {r : Int32} (hf : f_X5_hungrySet σ o w = some r) : lt_C l D gA s0 yX5_hungrySet cX5_hungrySet 3 (some .int) (lt_rm 3) [.ref (s0.heap.size + o)] σ w σ (some (.int r)) w := by
  refine lt_enter rfl (Nat.le_of_ble_eq_true rfl) (fun X e1 e2 e3 e4 hF hE => ?_)
  subst e1 e2 e3 e4
  exact jb_X5_hungrySet_0 hT h0 hF hE hf

set_option maxRecDepth 100000 in
def fb_X5_mostPassed_6 (σ : lt_S) (o : Nat) (w : lt_W) : Nat → Int32 → Int32 → Int32 → Option Int32
  | 0, _, _, _ => none
  | n + 1, x1, x2, x3 => if (lt_gi w o 0) ≤ x3 then some x1 else Option.bind (f_X5_passingSet σ o x3 w) (fun q1 => Option.bind (f_J6_bitCount_0f7a4 q1) (fun q2 => Option.bind (f_X5_isThere σ o x3 w) (fun q3 => if q3 = 0 then fb_X5_mostPassed_6 σ o w n x1 x2 (x3 + 1) else if q2 ≤ x2 then fb_X5_mostPassed_6 σ o w n x1 x2 (x3 + 1) else fb_X5_mostPassed_6 σ o w n x3 q2 (x3 + 1))))
set_option maxHeartbeats 4000000 in
set_option maxRecDepth 100000 in
theorem jb_X5_mostPassed_6 {X : lt_X} {σ : lt_S} (hT : lt_Wt σ) {o : Nat} (h0 : lt_c σ o = 5) {r : Int32} {w : lt_W} (hF : lt_F X cX5_mostPassed RX5 5 (lt_rm 3)) (hE : lt_E X 0 0 σ (some .int) (some (.int r)) w) (n : Nat) : ∀ (x1 : Int32) (x2 : Int32) (x3 : Int32), fb_X5_mostPassed_6 σ o w n x1 x2 x3 = some r → lt_J X 0 0 σ w 6 [(0, .ref (lt_z X + o)), (1, .int x1), (2, .int x2), (3, .int x3)] [] := by
  induction n with
  | zero => intro x1 x2 x3 hf; rw [fb_X5_mostPassed_6] at hf; cases hf
  | succ n ih =>
    intro x1 x2 x3 hf
    rw [fb_X5_mostPassed_6] at hf
    refine jr_iload_n hF dX5_mostPassed_6 3 rfl rfl ?_
    refine jr_aload_n hF dX5_mostPassed_7 0 rfl rfl ?_
    refine jr_getI hF gf_X5_40 h0 dX5_mostPassed_8 ?_
    refine jr_icmp_ge (tgt := 49) hF dX5_mostPassed_11 rfl hf (fun hf => ?_) (fun hf => ?_)
    · refine jr_iload_n hF dX5_mostPassed_49 1 rfl rfl ?_
      obtain rfl := Option.some.inj hf
      exact jr_ireturn hF hE dX5_mostPassed_50
    · refine jr_aload_n hF dX5_mostPassed_14 0 rfl rfl ?_
      refine jr_iload_n hF dX5_mostPassed_15 3 rfl rfl ?_
      obtain ⟨q1, hq1, hf⟩ := Option.bind_eq_some_iff.mp hf
      refine jr_cV11 hF ml_X5_87 (c_X5_passingSet hT h0 hq1) h0 ⟨Nat.le_of_ble_eq_true rfl, Nat.le_of_ble_eq_true rfl⟩ (Nat.le_of_ble_eq_true rfl) dX5_mostPassed_16 ?_
      obtain ⟨q2, hq2, hf⟩ := Option.bind_eq_some_iff.mp hf
      refine jr_cS11 hF ml_X5_78 (c_J6_bitCount_0f7a4 hq2) ⟨Nat.le_of_ble_eq_true rfl, Nat.le_of_ble_eq_true rfl⟩ (Nat.le_of_ble_eq_true rfl) dX5_mostPassed_19 ?_
      refine jr_istore (lv' := [(0, .ref (lt_z X + o)), (1, .int x1), (2, .int x2), (3, .int x3), (4, .int q2)]) hF dX5_mostPassed_22 (by decide) [1, 2, 3, 4, 0] rfl ?_
      refine jr_aload_n hF dX5_mostPassed_24 0 rfl rfl ?_
      refine jr_iload_n hF dX5_mostPassed_25 3 rfl rfl ?_
      obtain ⟨q3, hq3, hf⟩ := Option.bind_eq_some_iff.mp hf
      refine jr_cV11 hF ml_X5_74 (c_X5_isThere h0 hq3) h0 ⟨Nat.le_of_ble_eq_true rfl, Nat.le_of_ble_eq_true rfl⟩ (Nat.le_of_ble_eq_true rfl) dX5_mostPassed_26 ?_
      refine jr_if_eq (tgt := 43) hF dX5_mostPassed_29 rfl hf (fun hf => ?_) (fun hf => ?_)
      · refine jr_iinc (v := x3 + 1) (lv' := [(0, .ref (lt_z X + o)), (1, .int x1), (2, .int x2), (3, .int (x3 + 1)), (4, .int q2)]) hF dX5_mostPassed_43 3 rfl rfl (by decide) [1, 2, 3, 0, 4] rfl ?_
        refine jr_goto (tgt := 6) hF dX5_mostPassed_46 rfl ?_
        refine jr_sub [0, 1, 2, 3] rfl ?_
        exact ih _ _ _ hf
      · refine jr_iload hF dX5_mostPassed_32 4 rfl ?_
        refine jr_iload_n hF dX5_mostPassed_34 2 rfl rfl ?_
        refine jr_icmp_le (tgt := 43) hF dX5_mostPassed_35 rfl hf (fun hf => ?_) (fun hf => ?_)
        · refine jr_iinc (v := x3 + 1) (lv' := [(0, .ref (lt_z X + o)), (1, .int x1), (2, .int x2), (3, .int (x3 + 1)), (4, .int q2)]) hF dX5_mostPassed_43 3 rfl rfl (by decide) [1, 2, 3, 0, 4] rfl ?_
          refine jr_goto (tgt := 6) hF dX5_mostPassed_46 rfl ?_
          refine jr_sub [0, 1, 2, 3] rfl ?_
          exact ih _ _ _ hf
        · refine jr_iload_n hF dX5_mostPassed_38 3 rfl rfl ?_
          refine jr_istore_n (lv' := [(0, .ref (lt_z X + o)), (1, .int x3), (3, .int x3), (4, .int q2)]) hF dX5_mostPassed_39 rfl (by decide) [1, 0, 3, 4] rfl ?_
          refine jr_iload hF dX5_mostPassed_40 3 rfl ?_
          refine jr_istore_n (lv' := [(0, .ref (lt_z X + o)), (1, .int x3), (2, .int q2), (3, .int x3)]) hF dX5_mostPassed_42 rfl (by decide) [1, 2, 0, 3] rfl ?_
          refine jr_iinc (v := x3 + 1) (lv' := [(0, .ref (lt_z X + o)), (1, .int x3), (2, .int q2), (3, .int (x3 + 1))]) hF dX5_mostPassed_43 3 rfl rfl (by decide) [1, 2, 3, 0] rfl ?_
          refine jr_goto (tgt := 6) hF dX5_mostPassed_46 rfl ?_
          exact ih _ _ _ hf
set_option maxRecDepth 100000 in
def fb_X5_mostPassed_0 (σ : lt_S) (o : Nat) (w : lt_W) : Option Int32 := fb_X5_mostPassed_6 σ o w lt_fu (-1) 0 0
set_option maxHeartbeats 4000000 in
set_option maxRecDepth 100000 in
theorem jb_X5_mostPassed_0 {X : lt_X} {σ : lt_S} (hT : lt_Wt σ) {o : Nat} (h0 : lt_c σ o = 5) {r : Int32} {w : lt_W} (hF : lt_F X cX5_mostPassed RX5 5 (lt_rm 3)) (hE : lt_E X 0 0 σ (some .int) (some (.int r)) w) : fb_X5_mostPassed_0 σ o w = some r → lt_J X 0 0 σ w 0 [(0, .ref (lt_z X + o))] [] := by
  intro  hf
  unfold fb_X5_mostPassed_0 at hf
  refine jr_iconst (v := (-1)) hF dX5_mostPassed_0 rfl ?_
  refine jr_istore_n (lv' := [(0, .ref (lt_z X + o)), (1, .int (-1))]) hF dX5_mostPassed_1 rfl (by decide) [1, 0] rfl ?_
  refine jr_iconst (v := 0) hF dX5_mostPassed_2 rfl ?_
  refine jr_istore_n (lv' := [(0, .ref (lt_z X + o)), (1, .int (-1)), (2, .int 0)]) hF dX5_mostPassed_3 rfl (by decide) [1, 2, 0] rfl ?_
  refine jr_iconst (v := 0) hF dX5_mostPassed_4 rfl ?_
  refine jr_istore_n (lv' := [(0, .ref (lt_z X + o)), (1, .int (-1)), (2, .int 0), (3, .int 0)]) hF dX5_mostPassed_5 rfl (by decide) [1, 2, 3, 0] rfl ?_
  exact jb_X5_mostPassed_6 hT h0 hF hE lt_fu _ _ _ hf
def f_X5_mostPassed (σ : lt_S) (o : Nat) (w : lt_W) : Option Int32 := fb_X5_mostPassed_0 σ o w
set_option maxRecDepth 100000 in
theorem c_X5_mostPassed {l : Launch} {D : va_G} {gA : Nat → ClassId} {s0 : State} {σ : lt_S} (hT : lt_Wt σ) {o : Nat} (h0 : lt_c σ o = 5) {w : lt_W} {r : Int32} (hf : f_X5_mostPassed σ o w = some r) : lt_C l D gA s0 yX5_mostPassed cX5_mostPassed 5 (some .int) (lt_rm 3) [.ref (s0.heap.size + o)] σ w σ (some (.int r)) w := by
  refine lt_enter rfl (Nat.le_of_ble_eq_true rfl) (fun X e1 e2 e3 e4 hF hE => ?_)
  subst e1 e2 e3 e4
  exact jb_X5_mostPassed_0 hT h0 hF hE hf
