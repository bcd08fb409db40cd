set_option maxRecDepth 100000 in
def fb_X10_beginStep_128 (σ : lt_S) (o : Nat) (x1 : Int32) (w : lt_W) : Option (Int32 × lt_W) := lt_ck (lt_gi w (lt_r σ o 2) 1) (lt_len σ (lt_r σ (lt_r σ o 2) 2)) (lt_let (lt_si w (lt_r σ (lt_r σ o 2) 2) (lt_gi w (lt_r σ o 2) 1).toNatClampNeg x1) (fun w4 => lt_let (lt_si w4 (lt_r σ o 2) 1 ((lt_gi w4 (lt_r σ o 2) 1) + 1)) (fun w6 => Option.bind (f_X7_advance σ (lt_r σ o 0) w6) (fun q8 => some (1, q8)))))
set_option maxHeartbeats 4000000 in
set_option maxRecDepth 100000 in
theorem jb_X10_beginStep_128 {X : lt_X} {σ : lt_S} (hT : lt_Wt σ) {o : Nat} (h0 : lt_c σ o = 10) {r : Int32 × lt_W} (hF : lt_F X cX10_beginStep RX10 3 (lt_rm 9)) (hE : lt_E X 0 0 σ (some .boolean) (some (.int r.1)) r.2) : ∀ (x1 : Int32) (w : lt_W), fb_X10_beginStep_128 σ o x1 w = some r → lt_J X 0 0 σ w 128 [(0, .ref (lt_z X + o)), (1, .int x1)] [] := by
  intro x1 w hf
  unfold fb_X10_beginStep_128 at hf
  refine jr_aload_n hF dX10_beginStep_128 0 rfl rfl ?_
  refine jr_getRT (cr := 9) hF gf_X10_12 hT h0 rfl rfl dX10_beginStep_129 (fun th1 => ?_)
  refine jr_getRT (cr := 50) hF gf_X10_76 hT th1 rfl rfl dX10_beginStep_132 (fun th2 => ?_)
  refine jr_aload_n hF dX10_beginStep_135 0 rfl rfl ?_
  refine jr_getRT (cr := 9) hF gf_X10_12 hT h0 rfl rfl dX10_beginStep_136 (fun th3 => ?_)
  refine jr_getI hF gf_X10_42 th3 dX10_beginStep_139 ?_
  refine jr_iload_n hF dX10_beginStep_142 1 rfl rfl ?_
  refine jr_iastore hF th2 dX10_beginStep_143 hf (fun hf => ?_)
  refine jr_letW hf (fun w4 hf => ?_)
  refine jr_aload_n hF dX10_beginStep_144 0 rfl rfl ?_
  refine jr_getRT (cr := 9) hF gf_X10_12 hT h0 rfl rfl dX10_beginStep_145 (fun th5 => ?_)
  refine jr_dup hF dX10_beginStep_148 rfl ?_
  refine jr_getI hF gf_X10_42 th5 dX10_beginStep_149 ?_
  refine jr_iconst (v := 1) hF dX10_beginStep_152 rfl ?_
  refine jr_iadd hF dX10_beginStep_153 ?_
  refine jr_putI hF pf_X10_42 th5 dX10_beginStep_154 ?_
  refine jr_letW hf (fun w6 hf => ?_)
  refine jr_aload_n hF dX10_beginStep_157 0 rfl rfl ?_
  refine jr_getRT (cr := 7) hF gf_X10_22 hT h0 rfl rfl dX10_beginStep_158 (fun th7 => ?_)
  obtain ⟨q8, hq8, hf⟩ := Option.bind_eq_some_iff.mp hf
  refine jr_cV0v hF ml_X10_69 (c_X7_advance hT th7 hq8) th7 ⟨Nat.le_of_ble_eq_true rfl, Nat.le_of_ble_eq_true rfl⟩ (Nat.le_of_ble_eq_true rfl) dX10_beginStep_161 ?_
  refine jr_iconst (v := 1) hF dX10_beginStep_164 rfl ?_
  obtain rfl := Option.some.inj hf
  exact jr_zreturn hF hE (Or.inr rfl) dX10_beginStep_165
set_option maxRecDepth 100000 in
def fb_X10_beginStep_98 (σ : lt_S) (o : Nat) (x1 : Int32) (x2 : Int32) (w : lt_W) : Option (Int32 × lt_W) := if x2 = 0 then fb_X10_beginStep_128 σ o x1 w else lt_ck (lt_gi w o 4) (lt_len σ (lt_r σ o 3)) (lt_let (lt_si w (lt_r σ o 3) (lt_gi w o 4).toNatClampNeg (lt_gi w (lt_r σ o 2) 1)) (fun w3 => lt_let (lt_si w3 o 4 ((lt_gi w3 o 4) + 1)) (fun w4 => fb_X10_beginStep_128 σ o x1 w4)))
set_option maxHeartbeats 4000000 in
set_option maxRecDepth 100000 in
theorem jb_X10_beginStep_98 {X : lt_X} {σ : lt_S} (hT : lt_Wt σ) {o : Nat} (h0 : lt_c σ o = 10) {r : Int32 × lt_W} (hF : lt_F X cX10_beginStep RX10 3 (lt_rm 9)) (hE : lt_E X 0 0 σ (some .boolean) (some (.int r.1)) r.2) : ∀ (x1 : Int32) (x2 : Int32) (w : lt_W), fb_X10_beginStep_98 σ o x1 x2 w = some r → lt_J X 0 0 σ w 98 [(0, .ref (lt_z X + o)), (1, .int x1), (2, .int x2)] [] := by
  intro x1 x2 w hf
  unfold fb_X10_beginStep_98 at hf
  refine jr_iload_n hF dX10_beginStep_98 2 rfl rfl ?_
  refine jr_if_eq (tgt := 128) hF dX10_beginStep_99 rfl hf (fun hf => ?_) (fun hf => ?_)
  · refine jr_sub [0, 1] rfl ?_
    exact jb_X10_beginStep_128 hT h0 hF hE _ _ hf
  · refine jr_aload_n hF dX10_beginStep_102 0 rfl rfl ?_
    refine jr_getRT (cr := 50) hF gf_X10_18 hT h0 rfl rfl dX10_beginStep_103 (fun th1 => ?_)
    refine jr_aload_n hF dX10_beginStep_106 0 rfl rfl ?_
    refine jr_getI hF gf_X10_33 h0 dX10_beginStep_107 ?_
    refine jr_aload_n hF dX10_beginStep_110 0 rfl rfl ?_
    refine jr_getRT (cr := 9) hF gf_X10_12 hT h0 rfl rfl dX10_beginStep_111 (fun th2 => ?_)
    refine jr_getI hF gf_X10_42 th2 dX10_beginStep_114 ?_
    refine jr_iastore hF th1 dX10_beginStep_117 hf (fun hf => ?_)
    refine jr_letW hf (fun w3 hf => ?_)
    refine jr_aload_n hF dX10_beginStep_118 0 rfl rfl ?_
    refine jr_dup hF dX10_beginStep_119 rfl ?_
    refine jr_getI hF gf_X10_33 h0 dX10_beginStep_120 ?_
    refine jr_iconst (v := 1) hF dX10_beginStep_123 rfl ?_
    refine jr_iadd hF dX10_beginStep_124 ?_
    refine jr_putI hF pf_X10_33 h0 dX10_beginStep_125 ?_
    refine jr_letW hf (fun w4 hf => ?_)
    refine jr_sub [0, 1] rfl ?_
    exact jb_X10_beginStep_128 hT h0 hF hE _ _ hf
set_option maxRecDepth 100000 in
def fb_X10_beginStep_54 (σ : lt_S) (o : Nat) (x1 : Int32) (x2 : Int32) (w : lt_W) : Option (Int32 × lt_W) := if (lt_gi w (lt_r σ o 2) 1) < 30 then if x2 = 0 then fb_X10_beginStep_98 σ o x1 x2 w else if (lt_gi w o 4) < 3 then fb_X10_beginStep_98 σ o x1 x2 w else Option.bind (f_X7_refuse σ (lt_r σ o 0) 7 w) (fun q3 => lt_bz q3.1 (some (q3.1, q3.2))) else Option.bind (f_X7_refuse σ (lt_r σ o 0) 6 w) (fun q6 => lt_bz q6.1 (some (q6.1, q6.2)))
set_option maxHeartbeats 4000000 in
set_option maxRecDepth 100000 in
theorem jb_X10_beginStep_54 {X : lt_X} {σ : lt_S} (hT : lt_Wt σ) {o : Nat} (h0 : lt_c σ o = 10) {r : Int32 × lt_W} (hF : lt_F X cX10_beginStep RX10 3 (lt_rm 9)) (hE : lt_E X 0 0 σ (some .boolean) (some (.int r.1)) r.2) : ∀ (x1 : Int32) (x2 : Int32) (w : lt_W), fb_X10_beginStep_54 σ o x1 x2 w = some r → lt_J X 0 0 σ w 54 [(0, .ref (lt_z X + o)), (1, .int x1), (2, .int x2)] [] := by
  intro x1 x2 w hf
  unfold fb_X10_beginStep_54 at hf
  refine jr_aload_n hF dX10_beginStep_54 0 rfl rfl ?_
  refine jr_getRT (cr := 9) hF gf_X10_12 hT h0 rfl rfl dX10_beginStep_55 (fun th1 => ?_)
  refine jr_getI hF gf_X10_42 th1 dX10_beginStep_58 ?_
  refine jr_bipush (v := 30) hF dX10_beginStep_61 rfl ?_
  refine jr_icmp_lt (tgt := 76) hF dX10_beginStep_63 rfl hf (fun hf => ?_) (fun hf => ?_)
  · refine jr_iload_n hF dX10_beginStep_76 2 rfl rfl ?_
    refine jr_if_eq (tgt := 98) hF dX10_beginStep_77 rfl hf (fun hf => ?_) (fun hf => ?_)
    · exact jb_X10_beginStep_98 hT h0 hF hE _ _ _ hf
    · refine jr_aload_n hF dX10_beginStep_80 0 rfl rfl ?_
      refine jr_getI hF gf_X10_33 h0 dX10_beginStep_81 ?_
      refine jr_iconst (v := 3) hF dX10_beginStep_84 rfl ?_
      refine jr_icmp_lt (tgt := 98) hF dX10_beginStep_85 rfl hf (fun hf => ?_) (fun hf => ?_)
      · exact jb_X10_beginStep_98 hT h0 hF hE _ _ _ hf
      · refine jr_aload_n hF dX10_beginStep_88 0 rfl rfl ?_
        refine jr_getRT (cr := 7) hF gf_X10_22 hT h0 rfl rfl dX10_beginStep_89 (fun th2 => ?_)
        refine jr_bipush (v := 7) hF dX10_beginStep_92 rfl ?_
        obtain ⟨q3, hq3, hf⟩ := Option.bind_eq_some_iff.mp hf
        refine jr_cV11 hF ml_X10_59 (c_X7_refuse th2 hq3) th2 ⟨Nat.le_of_ble_eq_true rfl, Nat.le_of_ble_eq_true rfl⟩ (Nat.le_of_ble_eq_true rfl) dX10_beginStep_94 ?_
        obtain ⟨b4, hf⟩ := lt_bzE hf
        obtain rfl := Option.some.inj hf
        exact jr_zreturn hF hE b4 dX10_beginStep_97
  · refine jr_aload_n hF dX10_beginStep_66 0 rfl rfl ?_
    refine jr_getRT (cr := 7) hF gf_X10_22 hT h0 rfl rfl dX10_beginStep_67 (fun th5 => ?_)
    refine jr_bipush (v := 6) hF dX10_beginStep_70 rfl ?_
    obtain ⟨q6, hq6, hf⟩ := Option.bind_eq_some_iff.mp hf
    refine jr_cV11 hF ml_X10_59 (c_X7_refuse th5 hq6) th5 ⟨Nat.le_of_ble_eq_true rfl, Nat.le_of_ble_eq_true rfl⟩ (Nat.le_of_ble_eq_true rfl) dX10_beginStep_72 ?_
    obtain ⟨b7, hf⟩ := lt_bzE hf
    obtain rfl := Option.some.inj hf
    exact jr_zreturn hF hE b7 dX10_beginStep_75
set_option maxRecDepth 100000 in
def fb_X10_beginStep_17 (σ : lt_S) (o : Nat) (x1 : Int32) (y0 : Int32) (w : lt_W) : Option (Int32 × lt_W) := if y0 = 0 then if x1 = 23 then fb_X10_beginStep_54 σ o x1 y0 w else if x1 = 12 then fb_X10_beginStep_54 σ o x1 y0 w else Option.bind (f_X11_within x1 13 17) (fun q1 => if q1 = 0 then Option.bind (f_X7_refuse σ (lt_r σ o 0) 2 w) (fun q3 => lt_bz q3.1 (some (q3.1, q3.2))) else fb_X10_beginStep_54 σ o x1 y0 w) else fb_X10_beginStep_54 σ o x1 y0 w
set_option maxHeartbeats 4000000 in
set_option maxRecDepth 100000 in
theorem jb_X10_beginStep_17 {X : lt_X} {σ : lt_S} (hT : lt_Wt σ) {o : Nat} (h0 : lt_c σ o = 10) {r : Int32 × lt_W} (hF : lt_F X cX10_beginStep RX10 3 (lt_rm 9)) (hE : lt_E X 0 0 σ (some .boolean) (some (.int r.1)) r.2) : ∀ (x1 : Int32) (y0 : Int32) (w : lt_W), fb_X10_beginStep_17 σ o x1 y0 w = some r → lt_J X 0 0 σ w 17 [(0, .ref (lt_z X + o)), (1, .int x1)] [.int y0] := by
  intro x1 y0 w hf
  unfold fb_X10_beginStep_17 at hf
  refine jr_istore_n (lv' := [(0, .ref (lt_z X + o)), (1, .int x1), (2, .int y0)]) hF dX10_beginStep_17 rfl (by decide) [1, 2, 0] rfl ?_
  refine jr_iload_n hF dX10_beginStep_18 2 rfl rfl ?_
  refine jr_if_ne (tgt := 54) hF dX10_beginStep_19 rfl hf (fun hf => ?_) (fun hf => ?_)
  · exact jb_X10_beginStep_54 hT h0 hF hE _ _ _ hf
  · refine jr_iload_n hF dX10_beginStep_22 1 rfl rfl ?_
    refine jr_bipush (v := 23) hF dX10_beginStep_23 rfl ?_
    refine jr_icmp_eq (tgt := 54) hF dX10_beginStep_25 rfl hf (fun hf => ?_) (fun hf => ?_)
    · exact jb_X10_beginStep_54 hT h0 hF hE _ _ _ hf
    · refine jr_iload_n hF dX10_beginStep_28 1 rfl rfl ?_
      refine jr_bipush (v := 12) hF dX10_beginStep_29 rfl ?_
      refine jr_icmp_eq (tgt := 54) hF dX10_beginStep_31 rfl hf (fun hf => ?_) (fun hf => ?_)
      · exact jb_X10_beginStep_54 hT h0 hF hE _ _ _ hf
      · refine jr_iload_n hF dX10_beginStep_34 1 rfl rfl ?_
        refine jr_bipush (v := 13) hF dX10_beginStep_35 rfl ?_
        refine jr_bipush (v := 17) hF dX10_beginStep_37 rfl ?_
        obtain ⟨q1, hq1, hf⟩ := Option.bind_eq_some_iff.mp hf
        refine jr_cN31 hF ml_X10_72 (c_X11_within hq1) ⟨Nat.le_of_ble_eq_true rfl, Nat.le_of_ble_eq_true rfl⟩ (Nat.le_of_ble_eq_true rfl) dX10_beginStep_39 ?_
        refine jr_if_ne (tgt := 54) hF dX10_beginStep_42 rfl hf (fun hf => ?_) (fun hf => ?_)
        · exact jb_X10_beginStep_54 hT h0 hF hE _ _ _ hf
        · refine jr_aload_n hF dX10_beginStep_45 0 rfl rfl ?_
          refine jr_getRT (cr := 7) hF gf_X10_22 hT h0 rfl rfl dX10_beginStep_46 (fun th2 => ?_)
          refine jr_iconst (v := 2) hF dX10_beginStep_49 rfl ?_
          obtain ⟨q3, hq3, hf⟩ := Option.bind_eq_some_iff.mp hf
          refine jr_cV11 hF ml_X10_59 (c_X7_refuse th2 hq3) th2 ⟨Nat.le_of_ble_eq_true rfl, Nat.le_of_ble_eq_true rfl⟩ (Nat.le_of_ble_eq_true rfl) dX10_beginStep_50 ?_
          obtain ⟨b4, hf⟩ := lt_bzE hf
          obtain rfl := Option.some.inj hf
          exact jr_zreturn hF hE b4 dX10_beginStep_53
set_option maxRecDepth 100000 in
def fb_X10_beginStep_0 (σ : lt_S) (o : Nat) (x1 : Int32) (w : lt_W) : Option (Int32 × lt_W) := if x1 = 18 then fb_X10_beginStep_17 σ o x1 1 w else if x1 = 22 then fb_X10_beginStep_17 σ o x1 1 w else fb_X10_beginStep_17 σ o x1 0 w
set_option maxHeartbeats 4000000 in
set_option maxRecDepth 100000 in
theorem jb_X10_beginStep_0 {X : lt_X} {σ : lt_S} (hT : lt_Wt σ) {o : Nat} (h0 : lt_c σ o = 10) {r : Int32 × lt_W} (hF : lt_F X cX10_beginStep RX10 3 (lt_rm 9)) (hE : lt_E X 0 0 σ (some .boolean) (some (.int r.1)) r.2) : ∀ (x1 : Int32) (w : lt_W), fb_X10_beginStep_0 σ o x1 w = some r → lt_J X 0 0 σ w 0 [(0, .ref (lt_z X + o)), (1, .int x1)] [] := by
  intro x1 w hf
  unfold fb_X10_beginStep_0 at hf
  refine jr_iload_n hF dX10_beginStep_0 1 rfl rfl ?_
  refine jr_bipush (v := 18) hF dX10_beginStep_1 rfl ?_
  refine jr_icmp_eq (tgt := 12) hF dX10_beginStep_3 rfl hf (fun hf => ?_) (fun hf => ?_)
  · refine jr_iconst (v := 1) hF dX10_beginStep_12 rfl ?_
    refine jr_goto (tgt := 17) hF dX10_beginStep_13 rfl ?_
    exact jb_X10_beginStep_17 hT h0 hF hE _ _ _ hf
  · refine jr_iload_n hF dX10_beginStep_6 1 rfl rfl ?_
    refine jr_bipush (v := 22) hF dX10_beginStep_7 rfl ?_
    refine jr_icmp_ne (tgt := 16) hF dX10_beginStep_9 rfl hf (fun hf => ?_) (fun hf => ?_)
    · refine jr_iconst (v := 0) hF dX10_beginStep_16 rfl ?_
      exact jb_X10_beginStep_17 hT h0 hF hE _ _ _ hf
    · refine jr_iconst (v := 1) hF dX10_beginStep_12 rfl ?_
      refine jr_goto (tgt := 17) hF dX10_beginStep_13 rfl ?_
      exact jb_X10_beginStep_17 hT h0 hF hE _ _ _ hf
def f_X10_beginStep (σ : lt_S) (o : Nat) (x1 : Int32) (w : lt_W) : Option (Int32 × lt_W) := fb_X10_beginStep_0 σ o x1 w
set_option maxRecDepth 100000 in
theorem c_X10_beginStep {l : Launch} {D : va_G} {gA : Nat → ClassId} {s0 : State} {σ : lt_S} (hT : lt_Wt σ) {o : Nat} (h0 : lt_c σ o = 10) {x1 : Int32} {w : lt_W} {r : Int32 × lt_W} (hf : f_X10_beginStep σ o x1 w = some r) : lt_C l D gA s0 yX10_beginStep cX10_beginStep 3 (some .boolean) (lt_rm 9) [.ref (s0.heap.size + o), .int x1] σ w σ (some (.int r.1)) r.2 := by
  refine lt_enter rfl (Nat.le_of_ble_eq_true rfl) (fun X e1 e2 e3 e4 hF hE => ?_)
  subst e1 e2 e3 e4
  exact jb_X10_beginStep_0 hT h0 hF hE _ _ hf

set_option maxRecDepth 100000 in
def fb_X10_takeEnd_0 (σ : lt_S) (o : Nat) (w : lt_W) : Option (Int32 × lt_W) := if 0 < (lt_gi w o 4) then lt_let (lt_si w o 4 ((lt_gi w o 4) - 1)) (fun w1 => lt_ck (lt_gi w1 o 4) (lt_len σ (lt_r σ o 3)) (lt_ck (lt_gi w1 (lt_r σ o 3) (lt_gi w1 o 4).toNatClampNeg) (lt_len σ (lt_r σ (lt_r σ o 2) 8)) (lt_let (lt_si w1 (lt_r σ (lt_r σ o 2) 8) (lt_gi w1 (lt_r σ o 3) (lt_gi w1 o 4).toNatClampNeg).toNatClampNeg (lt_gi w1 (lt_r σ o 2) 1)) (fun w6 => Option.bind (f_X7_advance σ (lt_r σ o 0) w6) (fun q8 => Option.bind (f_X7_take σ (lt_r σ o 0) 59 q8) (fun q10 => lt_bz q10.1 (some (q10.1, q10.2)))))))) else Option.bind (f_X7_refuse σ (lt_r σ o 0) 2 w) (fun q13 => lt_bz q13.1 (some (q13.1, q13.2)))
set_option maxHeartbeats 4000000 in
set_option maxRecDepth 100000 in
theorem jb_X10_takeEnd_0 {X : lt_X} {σ : lt_S} (hT : lt_Wt σ) {o : Nat} (h0 : lt_c σ o = 10) {r : Int32 × lt_W} (hF : lt_F X cX10_takeEnd RX10 1 (lt_rm 10)) (hE : lt_E X 0 0 σ (some .boolean) (some (.int r.1)) r.2) : ∀ (w : lt_W), fb_X10_takeEnd_0 σ o w = some r → lt_J X 0 0 σ w 0 [(0, .ref (lt_z X + o))] [] := by
  intro w hf
  unfold fb_X10_takeEnd_0 at hf
  refine jr_aload_n hF dX10_takeEnd_0 0 rfl rfl ?_
  refine jr_getI hF gf_X10_33 h0 dX10_takeEnd_1 ?_
  refine jr_if_gt (tgt := 16) hF dX10_takeEnd_4 rfl hf (fun hf => ?_) (fun hf => ?_)
  · refine jr_aload_n hF dX10_takeEnd_16 0 rfl rfl ?_
    refine jr_dup hF dX10_takeEnd_17 rfl ?_
    refine jr_getI hF gf_X10_33 h0 dX10_takeEnd_18 ?_
    refine jr_iconst (v := 1) hF dX10_takeEnd_21 rfl ?_
    refine jr_isub hF dX10_takeEnd_22 ?_
    refine jr_putI hF pf_X10_33 h0 dX10_takeEnd_23 ?_
    refine jr_letW hf (fun w1 hf => ?_)
    refine jr_aload_n hF dX10_takeEnd_26 0 rfl rfl ?_
    refine jr_getRT (cr := 9) hF gf_X10_12 hT h0 rfl rfl dX10_takeEnd_27 (fun th2 => ?_)
    refine jr_getRT (cr := 50) hF gf_X10_66 hT th2 rfl rfl dX10_takeEnd_30 (fun th3 => ?_)
    refine jr_aload_n hF dX10_takeEnd_33 0 rfl rfl ?_
    refine jr_getRT (cr := 50) hF gf_X10_18 hT h0 rfl rfl dX10_takeEnd_34 (fun th4 => ?_)
    refine jr_aload_n hF dX10_takeEnd_37 0 rfl rfl ?_
    refine jr_getI hF gf_X10_33 h0 dX10_takeEnd_38 ?_
    refine jr_iaload hF th4 dX10_takeEnd_41 hf (fun hf => ?_)
    refine jr_aload_n hF dX10_takeEnd_42 0 rfl rfl ?_
    refine jr_getRT (cr := 9) hF gf_X10_12 hT h0 rfl rfl dX10_takeEnd_43 (fun th5 => ?_)
    refine jr_getI hF gf_X10_42 th5 dX10_takeEnd_46 ?_
    refine jr_iastore hF th3 dX10_takeEnd_49 hf (fun hf => ?_)
    refine jr_letW hf (fun w6 hf => ?_)
    refine jr_aload_n hF dX10_takeEnd_50 0 rfl rfl ?_
    refine jr_getRT (cr := 7) hF gf_X10_22 hT h0 rfl rfl dX10_takeEnd_51 (fun th7 => ?_)
    obtain ⟨q8, hq8, hf⟩ := Option.bind_eq_some_iff.mp hf
    refine jr_cV0v hF ml_X10_69 (c_X7_advance hT th7 hq8) th7 ⟨Nat.le_of_ble_eq_true rfl, Nat.le_of_ble_eq_true rfl⟩ (Nat.le_of_ble_eq_true rfl) dX10_takeEnd_54 ?_
    refine jr_aload_n hF dX10_takeEnd_57 0 rfl rfl ?_
    refine jr_getRT (cr := 7) hF gf_X10_22 hT h0 rfl rfl dX10_takeEnd_58 (fun th9 => ?_)
    refine jr_bipush (v := 59) hF dX10_takeEnd_61 rfl ?_
    obtain ⟨q10, hq10, hf⟩ := Option.bind_eq_some_iff.mp hf
    refine jr_cV11 hF ml_X10_56 (c_X7_take hT th9 hq10) th9 ⟨Nat.le_of_ble_eq_true rfl, Nat.le_of_ble_eq_true rfl⟩ (Nat.le_of_ble_eq_true rfl) dX10_takeEnd_63 ?_
    obtain ⟨b11, hf⟩ := lt_bzE hf
    obtain rfl := Option.some.inj hf
    exact jr_zreturn hF hE b11 dX10_takeEnd_66
  · refine jr_aload_n hF dX10_takeEnd_7 0 rfl rfl ?_
    refine jr_getRT (cr := 7) hF gf_X10_22 hT h0 rfl rfl dX10_takeEnd_8 (fun th12 => ?_)
    refine jr_iconst (v := 2) hF dX10_takeEnd_11 rfl ?_
    obtain ⟨q13, hq13, hf⟩ := Option.bind_eq_some_iff.mp hf
    refine jr_cV11 hF ml_X10_59 (c_X7_refuse th12 hq13) th12 ⟨Nat.le_of_ble_eq_true rfl, Nat.le_of_ble_eq_true rfl⟩ (Nat.le_of_ble_eq_true rfl) dX10_takeEnd_12 ?_
    obtain ⟨b14, hf⟩ := lt_bzE hf
    obtain rfl := Option.some.inj hf
    exact jr_zreturn hF hE b14 dX10_takeEnd_15
def f_X10_takeEnd (σ : lt_S) (o : Nat) (w : lt_W) : Option (Int32 × lt_W) := fb_X10_takeEnd_0 σ o w
set_option maxRecDepth 100000 in
theorem c_X10_takeEnd {l : Launch} {D : va_G} {gA : Nat → ClassId} {s0 : State} {σ : lt_S} (hT : lt_Wt σ) {o : Nat} (h0 : lt_c σ o = 10) {w : lt_W} {r : Int32 × lt_W} (hf : f_X10_takeEnd σ o w = some r) : lt_C l D gA s0 yX10_takeEnd cX10_takeEnd 1 (some .boolean) (lt_rm 10) [.ref (s0.heap.size + o)] σ w σ (some (.int r.1)) r.2 := by
  refine lt_enter rfl (Nat.le_of_ble_eq_true rfl) (fun X e1 e2 e3 e4 hF hE => ?_)
  subst e1 e2 e3 e4
  exact jb_X10_takeEnd_0 hT h0 hF hE _ hf

set_option maxRecDepth 100000 in
def fb_X10_takeMuch_0 (σ : lt_S) (o : Nat) (x1 : Int32) (x2 : Int32) (x3 : Int32) (w : lt_W) : Option (Int32 × lt_W) := Option.bind (f_X7_takeNumber σ (lt_r σ o 0) x2 x3 w) (fun q2 => if q2.1 = 0 then some (0, q2.2) else lt_ck x1 (lt_len σ (lt_r σ (lt_r σ o 2) 7)) (lt_let (lt_si q2.2 (lt_r σ (lt_r σ o 2) 7) x1.toNatClampNeg (lt_gi q2.2 (lt_r σ o 0) 8)) (fun w6 => some (1, w6))))
set_option maxHeartbeats 4000000 in
set_option maxRecDepth 100000 in
theorem jb_X10_takeMuch_0 {X : lt_X} {σ : lt_S} (hT : lt_Wt σ) {o : Nat} (h0 : lt_c σ o = 10) {r : Int32 × lt_W} (hF : lt_F X cX10_takeMuch RX10 4 (lt_rm 10)) (hE : lt_E X 0 0 σ (some .boolean) (some (.int r.1)) r.2) : ∀ (x1 : Int32) (x2 : Int32) (x3 : Int32) (w : lt_W), fb_X10_takeMuch_0 σ o x1 x2 x3 w = some r → lt_J X 0 0 σ w 0 [(0, .ref (lt_z X + o)), (1, .int x1), (2, .int x2), (3, .int x3)] [] := by
  intro x1 x2 x3 w hf
  unfold fb_X10_takeMuch_0 at hf
  refine jr_aload_n hF dX10_takeMuch_0 0 rfl rfl ?_
  refine jr_getRT (cr := 7) hF gf_X10_22 hT h0 rfl rfl dX10_takeMuch_1 (fun th1 => ?_)
  refine jr_iload_n hF dX10_takeMuch_4 2 rfl rfl ?_
  refine jr_iload_n hF dX10_takeMuch_5 3 rfl rfl ?_
  obtain ⟨q2, hq2, hf⟩ := Option.bind_eq_some_iff.mp hf
  refine jr_cV21 hF ml_X10_101 (c_X7_takeNumber hT th1 hq2) th1 ⟨Nat.le_of_ble_eq_true rfl, Nat.le_of_ble_eq_true rfl⟩ (Nat.le_of_ble_eq_true rfl) dX10_takeMuch_6 ?_
  refine jr_if_ne (tgt := 14) hF dX10_takeMuch_9 rfl hf (fun hf => ?_) (fun hf => ?_)
  · refine jr_aload_n hF dX10_takeMuch_14 0 rfl rfl ?_
    refine jr_getRT (cr := 9) hF gf_X10_12 hT h0 rfl rfl dX10_takeMuch_15 (fun th3 => ?_)
    refine jr_getRT (cr := 50) hF gf_X10_105 hT th3 rfl rfl dX10_takeMuch_18 (fun th4 => ?_)
    refine jr_iload_n hF dX10_takeMuch_21 1 rfl rfl ?_
    refine jr_aload_n hF dX10_takeMuch_22 0 rfl rfl ?_
    refine jr_getRT (cr := 7) hF gf_X10_22 hT h0 rfl rfl dX10_takeMuch_23 (fun th5 => ?_)
    refine jr_getI hF gf_X10_108 th5 dX10_takeMuch_26 ?_
    refine jr_iastore hF th4 dX10_takeMuch_29 hf (fun hf => ?_)
    refine jr_letW hf (fun w6 hf => ?_)
    refine jr_iconst (v := 1) hF dX10_takeMuch_30 rfl ?_
    obtain rfl := Option.some.inj hf
    exact jr_zreturn hF hE (Or.inr rfl) dX10_takeMuch_31
  · refine jr_iconst (v := 0) hF dX10_takeMuch_12 rfl ?_
    obtain rfl := Option.some.inj hf
    exact jr_zreturn hF hE (Or.inl rfl) dX10_takeMuch_13
def f_X10_takeMuch (σ : lt_S) (o : Nat) (x1 : Int32) (x2 : Int32) (x3 : Int32) (w : lt_W) : Option (Int32 × lt_W) := fb_X10_takeMuch_0 σ o x1 x2 x3 w
set_option maxRecDepth 100000 in
theorem c_X10_takeMuch {l : Launch} {D : va_G} {gA : Nat → ClassId} {s0 : State} {σ : lt_S} (hT : lt_Wt σ) {o : Nat} (h0 : lt_c σ o = 10) {x1 : Int32} {x2 : Int32} {x3 : Int32} {w : lt_W} {r : Int32 × lt_W} (hf : f_X10_takeMuch σ o x1 x2 x3 w = some r) : lt_C l D gA s0 yX10_takeMuch cX10_takeMuch 4 (some .boolean) (lt_rm 10) [.ref (s0.heap.size + o), .int x1, .int x2, .int x3] σ w σ (some (.int r.1)) r.2 := by
  refine lt_enter rfl (Nat.le_of_ble_eq_true rfl) (fun X e1 e2 e3 e4 hF hE => ?_)
  subst e1 e2 e3 e4
  exact jb_X10_takeMuch_0 hT h0 hF hE _ _ _ _ hf

set_option maxRecDepth 100000 in
def fb_X10_takeGuest_0 (σ : lt_S) (o : Nat) (x1 : Nat) (x2 : Int32) (x3 : Int32) (w : lt_W) : Option (Int32 × lt_W) := Option.bind (f_X7_namedGuest σ (lt_r σ o 0) (lt_r σ o 1) w) (fun q3 => if q3.1 = (-1) then some (0, q3.2) else if q3.1 = x3 then Option.bind (f_X7_refuse σ (lt_r σ o 0) 5 q3.2) (fun q8 => lt_bz q8.1 (some (q8.1, q8.2))) else lt_ck x2 (lt_len σ x1) (lt_let (lt_si q3.2 x1 x2.toNatClampNeg q3.1) (fun w4 => Option.bind (f_X7_advance σ (lt_r σ o 0) w4) (fun q6 => some (1, q6)))))
set_option maxHeartbeats 4000000 in
set_option maxRecDepth 100000 in
theorem jb_X10_takeGuest_0 {X : lt_X} {σ : lt_S} (hT : lt_Wt σ) {o : Nat} (h0 : lt_c σ o = 10) {r : Int32 × lt_W} (hF : lt_F X cX10_takeGuest RX10 5 (lt_rm 9)) (hE : lt_E X 0 0 σ (some .boolean) (some (.int r.1)) r.2) : ∀ (x1 : Nat) (x2 : Int32) (x3 : Int32) (w : lt_W), lt_c σ x1 = 50 → fb_X10_takeGuest_0 σ o x1 x2 x3 w = some r → lt_J X 0 0 σ w 0 [(0, .ref (lt_z X + o)), (1, .ref (lt_z X + x1)), (2, .int x2), (3, .int x3)] [] := by
  intro x1 x2 x3 w t1 hf
  unfold fb_X10_takeGuest_0 at hf
  refine jr_aload_n hF dX10_takeGuest_0 0 rfl rfl ?_
  refine jr_getRT (cr := 7) hF gf_X10_22 hT h0 rfl rfl dX10_takeGuest_1 (fun th1 => ?_)
  refine jr_aload_n hF dX10_takeGuest_4 0 rfl rfl ?_
  refine jr_getRT (cr := 5) hF gf_X10_26 hT h0 rfl rfl dX10_takeGuest_5 (fun th2 => ?_)
  obtain ⟨q3, hq3, hf⟩ := Option.bind_eq_some_iff.mp hf
  refine jr_cV11 hF ml_X10_114 (c_X7_namedGuest hT th1 th2 hq3) th1 ⟨Nat.le_of_ble_eq_true rfl, Nat.le_of_ble_eq_true rfl⟩ (Nat.le_of_ble_eq_true rfl) dX10_takeGuest_8 ?_
  refine jr_istore (lv' := [(0, .ref (lt_z X + o)), (1, .ref (lt_z X + x1)), (2, .int x2), (3, .int x3), (4, .int q3.1)]) hF dX10_takeGuest_11 (by decide) [1, 2, 3, 4, 0] rfl ?_
  refine jr_iload hF dX10_takeGuest_13 4 rfl ?_
  refine jr_iconst (v := (-1)) hF dX10_takeGuest_15 rfl ?_
  refine jr_icmp_ne (tgt := 21) hF dX10_takeGuest_16 rfl hf (fun hf => ?_) (fun hf => ?_)
  · refine jr_iload hF dX10_takeGuest_21 4 rfl ?_
    refine jr_iload_n hF dX10_takeGuest_23 3 rfl rfl ?_
    refine jr_icmp_ne (tgt := 36) hF dX10_takeGuest_24 rfl hf (fun hf => ?_) (fun hf => ?_)
    · refine jr_aload_n hF dX10_takeGuest_36 1 rfl rfl ?_
      refine jr_iload_n hF dX10_takeGuest_37 2 rfl rfl ?_
      refine jr_iload hF dX10_takeGuest_38 4 rfl ?_
      refine jr_iastore hF t1 dX10_takeGuest_40 hf (fun hf => ?_)
      refine jr_letW hf (fun w4 hf => ?_)
      refine jr_aload_n hF dX10_takeGuest_41 0 rfl rfl ?_
      refine jr_getRT (cr := 7) hF gf_X10_22 hT h0 rfl rfl dX10_takeGuest_42 (fun th5 => ?_)
      obtain ⟨q6, hq6, hf⟩ := Option.bind_eq_some_iff.mp hf
      refine jr_cV0v hF ml_X10_69 (c_X7_advance hT th5 hq6) th5 ⟨Nat.le_of_ble_eq_true rfl, Nat.le_of_ble_eq_true rfl⟩ (Nat.le_of_ble_eq_true rfl) dX10_takeGuest_45 ?_
      refine jr_iconst (v := 1) hF dX10_takeGuest_48 rfl ?_
      obtain rfl := Option.some.inj hf
      exact jr_zreturn hF hE (Or.inr rfl) dX10_takeGuest_49
    · refine jr_aload_n hF dX10_takeGuest_27 0 rfl rfl ?_
      refine jr_getRT (cr := 7) hF gf_X10_22 hT h0 rfl rfl dX10_takeGuest_28 (fun th7 => ?_)
      refine jr_iconst (v := 5) hF dX10_takeGuest_31 rfl ?_
      obtain ⟨q8, hq8, hf⟩ := Option.bind_eq_some_iff.mp hf
      refine jr_cV11 hF ml_X10_59 (c_X7_refuse th7 hq8) th7 ⟨Nat.le_of_ble_eq_true rfl, Nat.le_of_ble_eq_true rfl⟩ (Nat.le_of_ble_eq_true rfl) dX10_takeGuest_32 ?_
      obtain ⟨b9, hf⟩ := lt_bzE hf
      obtain rfl := Option.some.inj hf
      exact jr_zreturn hF hE b9 dX10_takeGuest_35
  · refine jr_iconst (v := 0) hF dX10_takeGuest_19 rfl ?_
    obtain rfl := Option.some.inj hf
    exact jr_zreturn hF hE (Or.inl rfl) dX10_takeGuest_20
def f_X10_takeGuest (σ : lt_S) (o : Nat) (x1 : Nat) (x2 : Int32) (x3 : Int32) (w : lt_W) : Option (Int32 × lt_W) := fb_X10_takeGuest_0 σ o x1 x2 x3 w
set_option maxRecDepth 100000 in
theorem c_X10_takeGuest {l : Launch} {D : va_G} {gA : Nat → ClassId} {s0 : State} {σ : lt_S} (hT : lt_Wt σ) {o : Nat} (h0 : lt_c σ o = 10) {x1 : Nat} {x2 : Int32} {x3 : Int32} (t1 : lt_c σ x1 = 50) {w : lt_W} {r : Int32 × lt_W} (hf : f_X10_takeGuest σ o x1 x2 x3 w = some r) : lt_C l D gA s0 yX10_takeGuest cX10_takeGuest 5 (some .boolean) (lt_rm 9) [.ref (s0.heap.size + o), .ref (s0.heap.size + x1), .int x2, .int x3] σ w σ (some (.int r.1)) r.2 := by
  refine lt_enter rfl (Nat.le_of_ble_eq_true rfl) (fun X e1 e2 e3 e4 hF hE => ?_)
  subst e1 e2 e3 e4
  exact jb_X10_takeGuest_0 hT h0 hF hE _ _ _ _ t1 hf

set_option maxRecDepth 100000 in
def fb_X10_takeCompares_45 (σ : lt_S) (o : Nat) (x1 : Int32) (w : lt_W) : Option (Int32 × lt_W) := lt_ck x1 (lt_len σ (lt_r σ (lt_r σ o 2) 6)) (lt_let (lt_si w (lt_r σ (lt_r σ o 2) 6) x1.toNatClampNeg (lt_gi w (lt_r σ o 0) 5)) (fun w4 => Option.bind (f_X7_advance σ (lt_r σ o 0) w4) (fun q6 => some (1, q6))))
set_option maxHeartbeats 4000000 in
set_option maxRecDepth 100000 in
theorem jb_X10_takeCompares_45 {X : lt_X} {σ : lt_S} (hT : lt_Wt σ) {o : Nat} (h0 : lt_c σ o = 10) {r : Int32 × lt_W} (hF : lt_F X cX10_takeCompares RX10 2 (lt_rm 9)) (hE : lt_E X 0 0 σ (some .boolean) (some (.int r.1)) r.2) : ∀ (x1 : Int32) (w : lt_W), fb_X10_takeCompares_45 σ o x1 w = some r → lt_J X 0 0 σ w 45 [(0, .ref (lt_z X + o)), (1, .int x1)] [] := by
  intro x1 w hf
  unfold fb_X10_takeCompares_45 at hf
  refine jr_aload_n hF dX10_takeCompares_45 0 rfl rfl ?_
  refine jr_getRT (cr := 9) hF gf_X10_12 hT h0 rfl rfl dX10_takeCompares_46 (fun th1 => ?_)
  refine jr_getRT (cr := 50) hF gf_X10_111 hT th1 rfl rfl dX10_takeCompares_49 (fun th2 => ?_)
  refine jr_iload_n hF dX10_takeCompares_52 1 rfl rfl ?_
  refine jr_aload_n hF dX10_takeCompares_53 0 rfl rfl ?_
  refine jr_getRT (cr := 7) hF gf_X10_22 hT h0 rfl rfl dX10_takeCompares_54 (fun th3 => ?_)
  refine jr_getI hF gf_X10_37 th3 dX10_takeCompares_57 ?_
  refine jr_iastore hF th2 dX10_takeCompares_60 hf (fun hf => ?_)
  refine jr_letW hf (fun w4 hf => ?_)
  refine jr_aload_n hF dX10_takeCompares_61 0 rfl rfl ?_
  refine jr_getRT (cr := 7) hF gf_X10_22 hT h0 rfl rfl dX10_takeCompares_62 (fun th5 => ?_)
  obtain ⟨q6, hq6, hf⟩ := Option.bind_eq_some_iff.mp hf
  refine jr_cV0v hF ml_X10_69 (c_X7_advance hT th5 hq6) th5 ⟨Nat.le_of_ble_eq_true rfl, Nat.le_of_ble_eq_true rfl⟩ (Nat.le_of_ble_eq_true rfl) dX10_takeCompares_65 ?_
  refine jr_iconst (v := 1) hF dX10_takeCompares_68 rfl ?_
  obtain rfl := Option.some.inj hf
  exact jr_zreturn hF hE (Or.inr rfl) dX10_takeCompares_69
set_option maxRecDepth 100000 in
def fb_X10_takeCompares_0 (σ : lt_S) (o : Nat) (x1 : Int32) (w : lt_W) : Option (Int32 × lt_W) := if (lt_gi w (lt_r σ o 0) 5) = 60 then fb_X10_takeCompares_45 σ o x1 w else if (lt_gi w (lt_r σ o 0) 5) = 62 then fb_X10_takeCompares_45 σ o x1 w else if (lt_gi w (lt_r σ o 0) 5) = 61 then fb_X10_takeCompares_45 σ o x1 w else Option.bind (f_X7_refuse σ (lt_r σ o 0) 2 w) (fun q5 => lt_bz q5.1 (some (q5.1, q5.2)))
set_option maxHeartbeats 4000000 in
set_option maxRecDepth 100000 in
theorem jb_X10_takeCompares_0 {X : lt_X} {σ : lt_S} (hT : lt_Wt σ) {o : Nat} (h0 : lt_c σ o = 10) {r : Int32 × lt_W} (hF : lt_F X cX10_takeCompares RX10 2 (lt_rm 9)) (hE : lt_E X 0 0 σ (some .boolean) (some (.int r.1)) r.2) : ∀ (x1 : Int32) (w : lt_W), fb_X10_takeCompares_0 σ o x1 w = some r → lt_J X 0 0 σ w 0 [(0, .ref (lt_z X + o)), (1, .int x1)] [] := by
  intro x1 w hf
  unfold fb_X10_takeCompares_0 at hf
  refine jr_aload_n hF dX10_takeCompares_0 0 rfl rfl ?_
  refine jr_getRT (cr := 7) hF gf_X10_22 hT h0 rfl rfl dX10_takeCompares_1 (fun th1 => ?_)
  refine jr_getI hF gf_X10_37 th1 dX10_takeCompares_4 ?_
  refine jr_bipush (v := 60) hF dX10_takeCompares_7 rfl ?_
  refine jr_icmp_eq (tgt := 45) hF dX10_takeCompares_9 rfl hf (fun hf => ?_) (fun hf => ?_)
  · exact jb_X10_takeCompares_45 hT h0 hF hE _ _ hf
  · refine jr_aload_n hF dX10_takeCompares_12 0 rfl rfl ?_
    refine jr_getRT (cr := 7) hF gf_X10_22 hT h0 rfl rfl dX10_takeCompares_13 (fun th2 => ?_)
    refine jr_getI hF gf_X10_37 th2 dX10_takeCompares_16 ?_
    refine jr_bipush (v := 62) hF dX10_takeCompares_19 rfl ?_
    refine jr_icmp_eq (tgt := 45) hF dX10_takeCompares_21 rfl hf (fun hf => ?_) (fun hf => ?_)
    · exact jb_X10_takeCompares_45 hT h0 hF hE _ _ hf
    · refine jr_aload_n hF dX10_takeCompares_24 0 rfl rfl ?_
      refine jr_getRT (cr := 7) hF gf_X10_22 hT h0 rfl rfl dX10_takeCompares_25 (fun th3 => ?_)
      refine jr_getI hF gf_X10_37 th3 dX10_takeCompares_28 ?_
      refine jr_bipush (v := 61) hF dX10_takeCompares_31 rfl ?_
      refine jr_icmp_eq (tgt := 45) hF dX10_takeCompares_33 rfl hf (fun hf => ?_) (fun hf => ?_)
      · exact jb_X10_takeCompares_45 hT h0 hF hE _ _ hf
      · refine jr_aload_n hF dX10_takeCompares_36 0 rfl rfl ?_
        refine jr_getRT (cr := 7) hF gf_X10_22 hT h0 rfl rfl dX10_takeCompares_37 (fun th4 => ?_)
        refine jr_iconst (v := 2) hF dX10_takeCompares_40 rfl ?_
        obtain ⟨q5, hq5, hf⟩ := Option.bind_eq_some_iff.mp hf
        refine jr_cV11 hF ml_X10_59 (c_X7_refuse th4 hq5) th4 ⟨Nat.le_of_ble_eq_true rfl, Nat.le_of_ble_eq_true rfl⟩ (Nat.le_of_ble_eq_true rfl) dX10_takeCompares_41 ?_
        obtain ⟨b6, hf⟩ := lt_bzE hf
        obtain rfl := Option.some.inj hf
        exact jr_zreturn hF hE b6 dX10_takeCompares_44
def f_X10_takeCompares (σ : lt_S) (o : Nat) (x1 : Int32) (w : lt_W) : Option (Int32 × lt_W) := fb_X10_takeCompares_0 σ o x1 w
set_option maxRecDepth 100000 in
theorem c_X10_takeCompares {l : Launch} {D : va_G} {gA : Nat → ClassId} {s0 : State} {σ : lt_S} (hT : lt_Wt σ) {o : Nat} (h0 : lt_c σ o = 10) {x1 : Int32} {w : lt_W} {r : Int32 × lt_W} (hf : f_X10_takeCompares σ o x1 w = some r) : lt_C l D gA s0 yX10_takeCompares cX10_takeCompares 2 (some .boolean) (lt_rm 9) [.ref (s0.heap.size + o), .int x1] σ w σ (some (.int r.1)) r.2 := by
  refine lt_enter rfl (Nat.le_of_ble_eq_true rfl) (fun X e1 e2 e3 e4 hF hE => ?_)
  subst e1 e2 e3 e4
  exact jb_X10_takeCompares_0 hT h0 hF hE _ _ hf

set_option maxRecDepth 100000 in
def fb_X10_takeTest_122 (σ : lt_S) (o : Nat) (x1 : Int32) (y0 : Nat) (y1 : Int32) (y2 : Int32) (w : lt_W) : Option (Int32 × lt_W) := Option.bind (f_X7_takeNumber σ y0 y1 y2 w) (fun q1 => if q1.1 = 0 then some (0, q1.2) else lt_ck x1 (lt_len σ (lt_r σ (lt_r σ o 2) 7)) (lt_let (lt_si q1.2 (lt_r σ (lt_r σ o 2) 7) x1.toNatClampNeg (lt_gi q1.2 (lt_r σ o 0) 8)) (fun w5 => some (1, w5))))
set_option maxHeartbeats 4000000 in
set_option maxRecDepth 100000 in
theorem jb_X10_takeTest_122 {X : lt_X} {σ : lt_S} (hT : lt_Wt σ) {o : Nat} (h0 : lt_c σ o = 10) {r : Int32 × lt_W} (hF : lt_F X cX10_takeTest RX10 3 (lt_rm 10)) (hE : lt_E X 0 0 σ (some .boolean) (some (.int r.1)) r.2) : ∀ (x1 : Int32) (y0 : Nat) (y1 : Int32) (y2 : Int32) (w : lt_W), lt_c σ y0 = 7 → fb_X10_takeTest_122 σ o x1 y0 y1 y2 w = some r → lt_J X 0 0 σ w 122 [(0, .ref (lt_z X + o)), (1, .int x1)] [.int y2, .int y1, .ref (lt_z X + y0)] := by
  intro x1 y0 y1 y2 w u0 hf
  unfold fb_X10_takeTest_122 at hf
  obtain ⟨q1, hq1, hf⟩ := Option.bind_eq_some_iff.mp hf
  refine jr_cV21 hF ml_X10_101 (c_X7_takeNumber hT u0 hq1) u0 ⟨Nat.le_of_ble_eq_true rfl, Nat.le_of_ble_eq_true rfl⟩ (Nat.le_of_ble_eq_true rfl) dX10_takeTest_122 ?_
  refine jr_if_ne (tgt := 130) hF dX10_takeTest_125 rfl hf (fun hf => ?_) (fun hf => ?_)
  · refine jr_aload_n hF dX10_takeTest_130 0 rfl rfl ?_
    refine jr_getRT (cr := 9) hF gf_X10_12 hT h0 rfl rfl dX10_takeTest_131 (fun th2 => ?_)
    refine jr_getRT (cr := 50) hF gf_X10_105 hT th2 rfl rfl dX10_takeTest_134 (fun th3 => ?_)
    refine jr_iload_n hF dX10_takeTest_137 1 rfl rfl ?_
    refine jr_aload_n hF dX10_takeTest_138 0 rfl rfl ?_
    refine jr_getRT (cr := 7) hF gf_X10_22 hT h0 rfl rfl dX10_takeTest_139 (fun th4 => ?_)
    refine jr_getI hF gf_X10_108 th4 dX10_takeTest_142 ?_
    refine jr_iastore hF th3 dX10_takeTest_145 hf (fun hf => ?_)
    refine jr_letW hf (fun w5 hf => ?_)
    refine jr_iconst (v := 1) hF dX10_takeTest_146 rfl ?_
    obtain rfl := Option.some.inj hf
    exact jr_zreturn hF hE (Or.inr rfl) dX10_takeTest_147
  · refine jr_iconst (v := 0) hF dX10_takeTest_128 rfl ?_
    obtain rfl := Option.some.inj hf
    exact jr_zreturn hF hE (Or.inl rfl) dX10_takeTest_129
set_option maxRecDepth 100000 in
def fb_X10_takeTest_82 (σ : lt_S) (o : Nat) (x1 : Int32) (x2 : Int32) (w : lt_W) : Option (Int32 × lt_W) := if x2 = 19 then some (1, w) else if x2 = 20 then some (1, w) else Option.bind (f_X10_takeCompares σ o x1 w) (fun q1 => if q1.1 = 0 then some (0, q1.2) else if x2 = 21 then fb_X10_takeTest_122 σ o x1 (lt_r σ o 0) 0 60 q1.2 else fb_X10_takeTest_122 σ o x1 (lt_r σ o 0) 0 20 q1.2)
set_option maxHeartbeats 4000000 in
set_option maxRecDepth 100000 in
theorem jb_X10_takeTest_82 {X : lt_X} {σ : lt_S} (hT : lt_Wt σ) {o : Nat} (h0 : lt_c σ o = 10) {r : Int32 × lt_W} (hF : lt_F X cX10_takeTest RX10 3 (lt_rm 10)) (hE : lt_E X 0 0 σ (some .boolean) (some (.int r.1)) r.2) : ∀ (x1 : Int32) (x2 : Int32) (w : lt_W), fb_X10_takeTest_82 σ o x1 x2 w = some r → lt_J X 0 0 σ w 82 [(0, .ref (lt_z X + o)), (1, .int x1), (2, .int x2)] [] := by
  intro x1 x2 w hf
  unfold fb_X10_takeTest_82 at hf
  refine jr_iload_n hF dX10_takeTest_82 2 rfl rfl ?_
  refine jr_bipush (v := 19) hF dX10_takeTest_83 rfl ?_
  refine jr_icmp_eq (tgt := 94) hF dX10_takeTest_85 rfl hf (fun hf => ?_) (fun hf => ?_)
  · refine jr_iconst (v := 1) hF dX10_takeTest_94 rfl ?_
    obtain rfl := Option.some.inj hf
    exact jr_zreturn hF hE (Or.inr rfl) dX10_takeTest_95
  · refine jr_iload_n hF dX10_takeTest_88 2 rfl rfl ?_
    refine jr_bipush (v := 20) hF dX10_takeTest_89 rfl ?_
    refine jr_icmp_ne (tgt := 96) hF dX10_takeTest_91 rfl hf (fun hf => ?_) (fun hf => ?_)
    · refine jr_aload_n hF dX10_takeTest_96 0 rfl rfl ?_
      refine jr_iload_n hF dX10_takeTest_97 1 rfl rfl ?_
      obtain ⟨q1, hq1, hf⟩ := Option.bind_eq_some_iff.mp hf
      refine jr_cV11 hF ml_X10_98 (c_X10_takeCompares hT h0 hq1) h0 ⟨Nat.le_of_ble_eq_true rfl, Nat.le_of_ble_eq_true rfl⟩ (Nat.le_of_ble_eq_true rfl) dX10_takeTest_98 ?_
      refine jr_if_eq (tgt := 128) hF dX10_takeTest_101 rfl hf (fun hf => ?_) (fun hf => ?_)
      · refine jr_iconst (v := 0) hF dX10_takeTest_128 rfl ?_
        obtain rfl := Option.some.inj hf
        exact jr_zreturn hF hE (Or.inl rfl) dX10_takeTest_129
      · refine jr_aload_n hF dX10_takeTest_104 0 rfl rfl ?_
        refine jr_getRT (cr := 7) hF gf_X10_22 hT h0 rfl rfl dX10_takeTest_105 (fun th2 => ?_)
        refine jr_iconst (v := 0) hF dX10_takeTest_108 rfl ?_
        refine jr_iload_n hF dX10_takeTest_109 2 rfl rfl ?_
        refine jr_bipush (v := 21) hF dX10_takeTest_110 rfl ?_
        refine jr_icmp_ne (tgt := 120) hF dX10_takeTest_112 rfl hf (fun hf => ?_) (fun hf => ?_)
        · refine jr_bipush (v := 20) hF dX10_takeTest_120 rfl ?_
          refine jr_sub [0, 1] rfl ?_
          exact jb_X10_takeTest_122 hT h0 hF hE _ _ _ _ _ th2 hf
        · refine jr_bipush (v := 60) hF dX10_takeTest_115 rfl ?_
          refine jr_goto (tgt := 122) hF dX10_takeTest_117 rfl ?_
          refine jr_sub [0, 1] rfl ?_
          exact jb_X10_takeTest_122 hT h0 hF hE _ _ _ _ _ th2 hf
    · refine jr_iconst (v := 1) hF dX10_takeTest_94 rfl ?_
      obtain rfl := Option.some.inj hf
      exact jr_zreturn hF hE (Or.inr rfl) dX10_takeTest_95
set_option maxRecDepth 100000 in
def fb_X10_takeTest_41 (σ : lt_S) (o : Nat) (x1 : Int32) (x2 : Int32) (w : lt_W) : Option (Int32 × lt_W) := lt_ck x1 (lt_len σ (lt_r σ (lt_r σ o 2) 3)) (lt_let (lt_si w (lt_r σ (lt_r σ o 2) 3) x1.toNatClampNeg x2) (fun w3 => Option.bind (f_X7_advance σ (lt_r σ o 0) w3) (fun q5 => if x2 = 21 then fb_X10_takeTest_82 σ o x1 x2 q5 else Option.bind (f_X10_takeGuest σ o (lt_r σ (lt_r σ o 2) 4) x1 (-1) q5) (fun q8 => if q8.1 = 0 then some (0, q8.2) else fb_X10_takeTest_82 σ o x1 x2 q8.2))))
set_option maxHeartbeats 4000000 in
set_option maxRecDepth 100000 in
theorem jb_X10_takeTest_41 {X : lt_X} {σ : lt_S} (hT : lt_Wt σ) {o : Nat} (h0 : lt_c σ o = 10) {r : Int32 × lt_W} (hF : lt_F X cX10_takeTest RX10 3 (lt_rm 10)) (hE : lt_E X 0 0 σ (some .boolean) (some (.int r.1)) r.2) : ∀ (x1 : Int32) (x2 : Int32) (w : lt_W), fb_X10_takeTest_41 σ o x1 x2 w = some r → lt_J X 0 0 σ w 41 [(0, .ref (lt_z X + o)), (1, .int x1), (2, .int x2)] [] := by
  intro x1 x2 w hf
  unfold fb_X10_takeTest_41 at hf
  refine jr_aload_n hF dX10_takeTest_41 0 rfl rfl ?_
  refine jr_getRT (cr := 9) hF gf_X10_12 hT h0 rfl rfl dX10_takeTest_42 (fun th1 => ?_)
  refine jr_getRT (cr := 50) hF gf_X10_95 hT th1 rfl rfl dX10_takeTest_45 (fun th2 => ?_)
  refine jr_iload_n hF dX10_takeTest_48 1 rfl rfl ?_
  refine jr_iload_n hF dX10_takeTest_49 2 rfl rfl ?_
  refine jr_iastore hF th2 dX10_takeTest_50 hf (fun hf => ?_)
  refine jr_letW hf (fun w3 hf => ?_)
  refine jr_aload_n hF dX10_takeTest_51 0 rfl rfl ?_
  refine jr_getRT (cr := 7) hF gf_X10_22 hT h0 rfl rfl dX10_takeTest_52 (fun th4 => ?_)
  obtain ⟨q5, hq5, hf⟩ := Option.bind_eq_some_iff.mp hf
  refine jr_cV0v hF ml_X10_69 (c_X7_advance hT th4 hq5) th4 ⟨Nat.le_of_ble_eq_true rfl, Nat.le_of_ble_eq_true rfl⟩ (Nat.le_of_ble_eq_true rfl) dX10_takeTest_55 ?_
  refine jr_iload_n hF dX10_takeTest_58 2 rfl rfl ?_
  refine jr_bipush (v := 21) hF dX10_takeTest_59 rfl ?_
  refine jr_icmp_eq (tgt := 82) hF dX10_takeTest_61 rfl hf (fun hf => ?_) (fun hf => ?_)
  · exact jb_X10_takeTest_82 hT h0 hF hE _ _ _ hf
  · refine jr_aload_n hF dX10_takeTest_64 0 rfl rfl ?_
    refine jr_aload_n hF dX10_takeTest_65 0 rfl rfl ?_
    refine jr_getRT (cr := 9) hF gf_X10_12 hT h0 rfl rfl dX10_takeTest_66 (fun th6 => ?_)
    refine jr_getRT (cr := 50) hF gf_X10_82 hT th6 rfl rfl dX10_takeTest_69 (fun th7 => ?_)
    refine jr_iload_n hF dX10_takeTest_72 1 rfl rfl ?_
    refine jr_iconst (v := (-1)) hF dX10_takeTest_73 rfl ?_
    obtain ⟨q8, hq8, hf⟩ := Option.bind_eq_some_iff.mp hf
    refine jr_cV31 hF ml_X10_85 (c_X10_takeGuest hT h0 th7 hq8) h0 ⟨Nat.le_of_ble_eq_true rfl, Nat.le_of_ble_eq_true rfl⟩ (Nat.le_of_ble_eq_true rfl) dX10_takeTest_74 ?_
    refine jr_if_ne (tgt := 82) hF dX10_takeTest_77 rfl hf (fun hf => ?_) (fun hf => ?_)
    · exact jb_X10_takeTest_82 hT h0 hF hE _ _ _ hf
    · refine jr_iconst (v := 0) hF dX10_takeTest_80 rfl ?_
      obtain rfl := Option.some.inj hf
      exact jr_zreturn hF hE (Or.inl rfl) dX10_takeTest_81
set_option maxRecDepth 100000 in
def fb_X10_takeTest_0 (σ : lt_S) (o : Nat) (x1 : Int32) (w : lt_W) : Option (Int32 × lt_W) := if (lt_gi w (lt_r σ o 0) 5) = 19 then fb_X10_takeTest_41 σ o x1 (lt_gi w (lt_r σ o 0) 5) w else if (lt_gi w (lt_r σ o 0) 5) = 20 then fb_X10_takeTest_41 σ o x1 (lt_gi w (lt_r σ o 0) 5) w else if (lt_gi w (lt_r σ o 0) 5) = 21 then fb_X10_takeTest_41 σ o x1 (lt_gi w (lt_r σ o 0) 5) w else if (lt_gi w (lt_r σ o 0) 5) = 7 then fb_X10_takeTest_41 σ o x1 (lt_gi w (lt_r σ o 0) 5) w else Option.bind (f_X7_refuse σ (lt_r σ o 0) 2 w) (fun q3 => lt_bz q3.1 (some (q3.1, q3.2)))
set_option maxHeartbeats 4000000 in
set_option maxRecDepth 100000 in
theorem jb_X10_takeTest_0 {X : lt_X} {σ : lt_S} (hT : lt_Wt σ) {o : Nat} (h0 : lt_c σ o = 10) {r : Int32 × lt_W} (hF : lt_F X cX10_takeTest RX10 3 (lt_rm 10)) (hE : lt_E X 0 0 σ (some .boolean) (some (.int r.1)) r.2) : ∀ (x1 : Int32) (w : lt_W), fb_X10_takeTest_0 σ o x1 w = some r → lt_J X 0 0 σ w 0 [(0, .ref (lt_z X + o)), (1, .int x1)] [] := by
  intro x1 w hf
  unfold fb_X10_takeTest_0 at hf
  refine jr_aload_n hF dX10_takeTest_0 0 rfl rfl ?_
  refine jr_getRT (cr := 7) hF gf_X10_22 hT h0 rfl rfl dX10_takeTest_1 (fun th1 => ?_)
  refine jr_getI hF gf_X10_37 th1 dX10_takeTest_4 ?_
  refine jr_istore_n (lv' := [(0, .ref (lt_z X + o)), (1, .int x1), (2, .int (lt_gi w (lt_r σ o 0) 5))]) hF dX10_takeTest_7 rfl (by decide) [1, 2, 0] rfl ?_
  refine jr_iload_n hF dX10_takeTest_8 2 rfl rfl ?_
  refine jr_bipush (v := 19) hF dX10_takeTest_9 rfl ?_
  refine jr_icmp_eq (tgt := 41) hF dX10_takeTest_11 rfl hf (fun hf => ?_) (fun hf => ?_)
  · exact jb_X10_takeTest_41 hT h0 hF hE _ _ _ hf
  · refine jr_iload_n hF dX10_takeTest_14 2 rfl rfl ?_
    refine jr_bipush (v := 20) hF dX10_takeTest_15 rfl ?_
    refine jr_icmp_eq (tgt := 41) hF dX10_takeTest_17 rfl hf (fun hf => ?_) (fun hf => ?_)
    · exact jb_X10_takeTest_41 hT h0 hF hE _ _ _ hf
    · refine jr_iload_n hF dX10_takeTest_20 2 rfl rfl ?_
      refine jr_bipush (v := 21) hF dX10_takeTest_21 rfl ?_
      refine jr_icmp_eq (tgt := 41) hF dX10_takeTest_23 rfl hf (fun hf => ?_) (fun hf => ?_)
      · exact jb_X10_takeTest_41 hT h0 hF hE _ _ _ hf
      · refine jr_iload_n hF dX10_takeTest_26 2 rfl rfl ?_
        refine jr_bipush (v := 7) hF dX10_takeTest_27 rfl ?_
        refine jr_icmp_eq (tgt := 41) hF dX10_takeTest_29 rfl hf (fun hf => ?_) (fun hf => ?_)
        · exact jb_X10_takeTest_41 hT h0 hF hE _ _ _ hf
        · refine jr_aload_n hF dX10_takeTest_32 0 rfl rfl ?_
          refine jr_getRT (cr := 7) hF gf_X10_22 hT h0 rfl rfl dX10_takeTest_33 (fun th2 => ?_)
          refine jr_iconst (v := 2) hF dX10_takeTest_36 rfl ?_
          obtain ⟨q3, hq3, hf⟩ := Option.bind_eq_some_iff.mp hf
          refine jr_cV11 hF ml_X10_59 (c_X7_refuse th2 hq3) th2 ⟨Nat.le_of_ble_eq_true rfl, Nat.le_of_ble_eq_true rfl⟩ (Nat.le_of_ble_eq_true rfl) dX10_takeTest_37 ?_
          obtain ⟨b4, hf⟩ := lt_bzE hf
          obtain rfl := Option.some.inj hf
          exact jr_zreturn hF hE b4 dX10_takeTest_40
def f_X10_takeTest (σ : lt_S) (o : Nat) (x1 : Int32) (w : lt_W) : Option (Int32 × lt_W) := fb_X10_takeTest_0 σ o x1 w
set_option maxRecDepth 100000 in
theorem c_X10_takeTest {l : Launch} {D : va_G} {gA : Nat → ClassId} {s0 : State} {σ : lt_S} (hT : lt_Wt σ) {o : Nat} (h0 : lt_c σ o = 10) {x1 : Int32} {w : lt_W} {r : Int32 × lt_W} (hf : f_X10_takeTest σ o x1 w = some r) : lt_C l D gA s0 yX10_takeTest cX10_takeTest 3 (some .boolean) (lt_rm 10) [.ref (s0.heap.size + o), .int x1] σ w σ (some (.int r.1)) r.2 := by
  refine lt_enter rfl (Nat.le_of_ble_eq_true rfl) (fun X e1 e2 e3 e4 hF hE => ?_)
  subst e1 e2 e3 e4
  exact jb_X10_takeTest_0 hT h0 hF hE _ _ hf

set_option maxRecDepth 100000 in
def fb_X10_takeRest_77 (σ : lt_S) (o : Nat) (x1 : Int32) (w : lt_W) : Option (Int32 × lt_W) := Option.bind (f_X10_takeGuest σ o (lt_r σ (lt_r σ o 2) 4) x1 (-1) w) (fun q3 => lt_bz q3.1 (some (q3.1, q3.2)))
set_option maxHeartbeats 4000000 in
set_option maxRecDepth 100000 in
theorem jb_X10_takeRest_77 {X : lt_X} {σ : lt_S} (hT : lt_Wt σ) {o : Nat} (h0 : lt_c σ o = 10) {r : Int32 × lt_W} (hF : lt_F X cX10_takeRest RX10 2 (lt_rm 11)) (hE : lt_E X 0 0 σ (some .boolean) (some (.int r.1)) r.2) : ∀ (x1 : Int32) (w : lt_W), fb_X10_takeRest_77 σ o x1 w = some r → lt_J X 0 0 σ w 77 [(0, .ref (lt_z X + o)), (1, .int x1)] [] := by
  intro x1 w hf
  unfold fb_X10_takeRest_77 at hf
  refine jr_aload_n hF dX10_takeRest_77 0 rfl rfl ?_
  refine jr_aload_n hF dX10_takeRest_78 0 rfl rfl ?_
  refine jr_getRT (cr := 9) hF gf_X10_12 hT h0 rfl rfl dX10_takeRest_79 (fun th1 => ?_)
  refine jr_getRT (cr := 50) hF gf_X10_82 hT th1 rfl rfl dX10_takeRest_82 (fun th2 => ?_)
  refine jr_iload_n hF dX10_takeRest_85 1 rfl rfl ?_
  refine jr_iconst (v := (-1)) hF dX10_takeRest_86 rfl ?_
  obtain ⟨q3, hq3, hf⟩ := Option.bind_eq_some_iff.mp hf
  refine jr_cV31 hF ml_X10_85 (c_X10_takeGuest hT h0 th2 hq3) h0 ⟨Nat.le_of_ble_eq_true rfl, Nat.le_of_ble_eq_true rfl⟩ (Nat.le_of_ble_eq_true rfl) dX10_takeRest_87 ?_
  obtain ⟨b4, hf⟩ := lt_bzE hf
  obtain rfl := Option.some.inj hf
  exact jr_zreturn hF hE b4 dX10_takeRest_90
set_option maxRecDepth 100000 in
def fb_X10_takeRest_0 (σ : lt_S) (o : Nat) (x1 : Int32) (w : lt_W) : Option (Int32 × lt_W) := lt_ck x1 (lt_len σ (lt_r σ (lt_r σ o 2) 2)) (if (lt_gi w (lt_r σ (lt_r σ o 2) 2) x1.toNatClampNeg) = 12 then Option.bind (f_X10_takeGuest σ o (lt_r σ (lt_r σ o 2) 4) x1 (-1) w) (fun q5 => if q5.1 = 0 then some (0, q5.2) else lt_ck x1 (lt_len σ (lt_r σ (lt_r σ o 2) 4)) (Option.bind (f_X10_takeGuest σ o (lt_r σ (lt_r σ o 2) 5) x1 (lt_gi q5.2 (lt_r σ (lt_r σ o 2) 4) x1.toNatClampNeg) q5.2) (fun q10 => if q10.1 = 0 then some (0, q10.2) else some (1, q10.2)))) else if (lt_gi w (lt_r σ (lt_r σ o 2) 2) x1.toNatClampNeg) = 13 then Option.bind (f_X10_takeMuch σ o x1 1 20 w) (fun q12 => lt_bz q12.1 (some (q12.1, q12.2))) else if (lt_gi w (lt_r σ (lt_r σ o 2) 2) x1.toNatClampNeg) = 14 then fb_X10_takeRest_77 σ o x1 w else if (lt_gi w (lt_r σ (lt_r σ o 2) 2) x1.toNatClampNeg) = 15 then fb_X10_takeRest_77 σ o x1 w else if (lt_gi w (lt_r σ (lt_r σ o 2) 2) x1.toNatClampNeg) = 16 then Option.bind (f_X10_takeMuch σ o x1 1 60 w) (fun q17 => lt_bz q17.1 (some (q17.1, q17.2))) else if (lt_gi w (lt_r σ (lt_r σ o 2) 2) x1.toNatClampNeg) = 18 then Option.bind (f_X10_takeTest σ o x1 w) (fun q20 => lt_bz q20.1 (some (q20.1, q20.2))) else if (lt_gi w (lt_r σ (lt_r σ o 2) 2) x1.toNatClampNeg) = 22 then Option.bind (f_X10_takeMuch σ o x1 1 99 w) (fun q23 => lt_bz q23.1 (some (q23.1, q23.2))) else some (1, w))
set_option maxHeartbeats 4000000 in
set_option maxRecDepth 100000 in
theorem jb_X10_takeRest_0 {X : lt_X} {σ : lt_S} (hT : lt_Wt σ) {o : Nat} (h0 : lt_c σ o = 10) {r : Int32 × lt_W} (hF : lt_F X cX10_takeRest RX10 2 (lt_rm 11)) (hE : lt_E X 0 0 σ (some .boolean) (some (.int r.1)) r.2) : ∀ (x1 : Int32) (w : lt_W), fb_X10_takeRest_0 σ o x1 w = some r → lt_J X 0 0 σ w 0 [(0, .ref (lt_z X + o)), (1, .int x1)] [] := by
  intro x1 w hf
  unfold fb_X10_takeRest_0 at hf
  refine jr_aload_n hF dX10_takeRest_0 0 rfl rfl ?_
  refine jr_getRT (cr := 9) hF gf_X10_12 hT h0 rfl rfl dX10_takeRest_1 (fun th1 => ?_)
  refine jr_getRT (cr := 50) hF gf_X10_76 hT th1 rfl rfl dX10_takeRest_4 (fun th2 => ?_)
  refine jr_iload_n hF dX10_takeRest_7 1 rfl rfl ?_
  refine jr_iaload hF th2 dX10_takeRest_8 hf (fun hf => ?_)
  by_cases c11 : (lt_gi w (lt_r σ (lt_r σ o 2) 2) x1.toNatClampNeg) = 12
  · rw [if_pos c11] at hf
    refine jr_tableIn (off := 82) (tgt := 91) hF dX10_takeRest_9 (by rw [c11]; decide) (by rw [c11]; decide) (by rw [c11]; rfl) rfl ?_
    refine jr_aload_n hF dX10_takeRest_91 0 rfl rfl ?_
    refine jr_aload_n hF dX10_takeRest_92 0 rfl rfl ?_
    refine jr_getRT (cr := 9) hF gf_X10_12 hT h0 rfl rfl dX10_takeRest_93 (fun th3 => ?_)
    refine jr_getRT (cr := 50) hF gf_X10_82 hT th3 rfl rfl dX10_takeRest_96 (fun th4 => ?_)
    refine jr_iload_n hF dX10_takeRest_99 1 rfl rfl ?_
    refine jr_iconst (v := (-1)) hF dX10_takeRest_100 rfl ?_
    obtain ⟨q5, hq5, hf⟩ := Option.bind_eq_some_iff.mp hf
    refine jr_cV31 hF ml_X10_85 (c_X10_takeGuest hT h0 th4 hq5) h0 ⟨Nat.le_of_ble_eq_true rfl, Nat.le_of_ble_eq_true rfl⟩ (Nat.le_of_ble_eq_true rfl) dX10_takeRest_101 ?_
    refine jr_if_eq (tgt := 135) hF dX10_takeRest_104 rfl hf (fun hf => ?_) (fun hf => ?_)
    · refine jr_iconst (v := 0) hF dX10_takeRest_135 rfl ?_
      obtain rfl := Option.some.inj hf
      exact jr_zreturn hF hE (Or.inl rfl) dX10_takeRest_136
    · refine jr_aload_n hF dX10_takeRest_107 0 rfl rfl ?_
      refine jr_aload_n hF dX10_takeRest_108 0 rfl rfl ?_
      refine jr_getRT (cr := 9) hF gf_X10_12 hT h0 rfl rfl dX10_takeRest_109 (fun th6 => ?_)
      refine jr_getRT (cr := 50) hF gf_X10_89 hT th6 rfl rfl dX10_takeRest_112 (fun th7 => ?_)
      refine jr_iload_n hF dX10_takeRest_115 1 rfl rfl ?_
      refine jr_aload_n hF dX10_takeRest_116 0 rfl rfl ?_
      refine jr_getRT (cr := 9) hF gf_X10_12 hT h0 rfl rfl dX10_takeRest_117 (fun th8 => ?_)
      refine jr_getRT (cr := 50) hF gf_X10_82 hT th8 rfl rfl dX10_takeRest_120 (fun th9 => ?_)
      refine jr_iload_n hF dX10_takeRest_123 1 rfl rfl ?_
      refine jr_iaload hF th9 dX10_takeRest_124 hf (fun hf => ?_)
      obtain ⟨q10, hq10, hf⟩ := Option.bind_eq_some_iff.mp hf
      refine jr_cV31 hF ml_X10_85 (c_X10_takeGuest hT h0 th7 hq10) h0 ⟨Nat.le_of_ble_eq_true rfl, Nat.le_of_ble_eq_true rfl⟩ (Nat.le_of_ble_eq_true rfl) dX10_takeRest_125 ?_
      refine jr_if_eq (tgt := 135) hF dX10_takeRest_128 rfl hf (fun hf => ?_) (fun hf => ?_)
      · refine jr_iconst (v := 0) hF dX10_takeRest_135 rfl ?_
        obtain rfl := Option.some.inj hf
        exact jr_zreturn hF hE (Or.inl rfl) dX10_takeRest_136
      · refine jr_iconst (v := 1) hF dX10_takeRest_131 rfl ?_
        refine jr_goto (tgt := 136) hF dX10_takeRest_132 rfl ?_
        obtain rfl := Option.some.inj hf
        exact jr_zreturn hF hE (Or.inr rfl) dX10_takeRest_136
  rw [if_neg c11] at hf
  by_cases c14 : (lt_gi w (lt_r σ (lt_r σ o 2) 2) x1.toNatClampNeg) = 13
  · rw [if_pos c14] at hf
    refine jr_tableIn (off := 59) (tgt := 68) hF dX10_takeRest_9 (by rw [c14]; decide) (by rw [c14]; decide) (by rw [c14]; rfl) rfl ?_
    refine jr_aload_n hF dX10_takeRest_68 0 rfl rfl ?_
    refine jr_iload_n hF dX10_takeRest_69 1 rfl rfl ?_
    refine jr_iconst (v := 1) hF dX10_takeRest_70 rfl ?_
    refine jr_bipush (v := 20) hF dX10_takeRest_71 rfl ?_
    obtain ⟨q12, hq12, hf⟩ := Option.bind_eq_some_iff.mp hf
    refine jr_cV31 hF ml_X10_79 (c_X10_takeMuch hT h0 hq12) h0 ⟨Nat.le_of_ble_eq_true rfl, Nat.le_of_ble_eq_true rfl⟩ (Nat.le_of_ble_eq_true rfl) dX10_takeRest_73 ?_
    obtain ⟨b13, hf⟩ := lt_bzE hf
    obtain rfl := Option.some.inj hf
    exact jr_zreturn hF hE b13 dX10_takeRest_76
  rw [if_neg c14] at hf
  by_cases c15 : (lt_gi w (lt_r σ (lt_r σ o 2) 2) x1.toNatClampNeg) = 14
  · rw [if_pos c15] at hf
    refine jr_tableIn (off := 68) (tgt := 77) hF dX10_takeRest_9 (by rw [c15]; decide) (by rw [c15]; decide) (by rw [c15]; rfl) rfl ?_
    exact jb_X10_takeRest_77 hT h0 hF hE _ _ hf
  rw [if_neg c15] at hf
  by_cases c16 : (lt_gi w (lt_r σ (lt_r σ o 2) 2) x1.toNatClampNeg) = 15
  · rw [if_pos c16] at hf
    refine jr_tableIn (off := 68) (tgt := 77) hF dX10_takeRest_9 (by rw [c16]; decide) (by rw [c16]; decide) (by rw [c16]; rfl) rfl ?_
    exact jb_X10_takeRest_77 hT h0 hF hE _ _ hf
  rw [if_neg c16] at hf
  by_cases c19 : (lt_gi w (lt_r σ (lt_r σ o 2) 2) x1.toNatClampNeg) = 16
  · rw [if_pos c19] at hf
    refine jr_tableIn (off := 128) (tgt := 137) hF dX10_takeRest_9 (by rw [c19]; decide) (by rw [c19]; decide) (by rw [c19]; rfl) rfl ?_
    refine jr_aload_n hF dX10_takeRest_137 0 rfl rfl ?_
    refine jr_iload_n hF dX10_takeRest_138 1 rfl rfl ?_
    refine jr_iconst (v := 1) hF dX10_takeRest_139 rfl ?_
    refine jr_bipush (v := 60) hF dX10_takeRest_140 rfl ?_
    obtain ⟨q17, hq17, hf⟩ := Option.bind_eq_some_iff.mp hf
    refine jr_cV31 hF ml_X10_79 (c_X10_takeMuch hT h0 hq17) h0 ⟨Nat.le_of_ble_eq_true rfl, Nat.le_of_ble_eq_true rfl⟩ (Nat.le_of_ble_eq_true rfl) dX10_takeRest_142 ?_
    obtain ⟨b18, hf⟩ := lt_bzE hf
    obtain rfl := Option.some.inj hf
    exact jr_zreturn hF hE b18 dX10_takeRest_145
  rw [if_neg c19] at hf
  by_cases c22 : (lt_gi w (lt_r σ (lt_r σ o 2) 2) x1.toNatClampNeg) = 18
  · rw [if_pos c22] at hf
    refine jr_tableIn (off := 137) (tgt := 146) hF dX10_takeRest_9 (by rw [c22]; decide) (by rw [c22]; decide) (by rw [c22]; rfl) rfl ?_
    refine jr_aload_n hF dX10_takeRest_146 0 rfl rfl ?_
    refine jr_iload_n hF dX10_takeRest_147 1 rfl rfl ?_
    obtain ⟨q20, hq20, hf⟩ := Option.bind_eq_some_iff.mp hf
    refine jr_cV11 hF ml_X10_92 (c_X10_takeTest hT h0 hq20) h0 ⟨Nat.le_of_ble_eq_true rfl, Nat.le_of_ble_eq_true rfl⟩ (Nat.le_of_ble_eq_true rfl) dX10_takeRest_148 ?_
    obtain ⟨b21, hf⟩ := lt_bzE hf
    obtain rfl := Option.some.inj hf
    exact jr_zreturn hF hE b21 dX10_takeRest_151
  rw [if_neg c22] at hf
  by_cases c25 : (lt_gi w (lt_r σ (lt_r σ o 2) 2) x1.toNatClampNeg) = 22
  · rw [if_pos c25] at hf
    refine jr_tableIn (off := 143) (tgt := 152) hF dX10_takeRest_9 (by rw [c25]; decide) (by rw [c25]; decide) (by rw [c25]; rfl) rfl ?_
    refine jr_aload_n hF dX10_takeRest_152 0 rfl rfl ?_
    refine jr_iload_n hF dX10_takeRest_153 1 rfl rfl ?_
    refine jr_iconst (v := 1) hF dX10_takeRest_154 rfl ?_
    refine jr_bipush (v := 99) hF dX10_takeRest_155 rfl ?_
    obtain ⟨q23, hq23, hf⟩ := Option.bind_eq_some_iff.mp hf
    refine jr_cV31 hF ml_X10_79 (c_X10_takeMuch hT h0 hq23) h0 ⟨Nat.le_of_ble_eq_true rfl, Nat.le_of_ble_eq_true rfl⟩ (Nat.le_of_ble_eq_true rfl) dX10_takeRest_157 ?_
    obtain ⟨b24, hf⟩ := lt_bzE hf
    obtain rfl := Option.some.inj hf
    exact jr_zreturn hF hE b24 dX10_takeRest_160
  rw [if_neg c25] at hf
  by_cases c26 : (lt_gi w (lt_r σ (lt_r σ o 2) 2) x1.toNatClampNeg) = 17
  · refine jr_tableIn (off := 152) (tgt := 161) hF dX10_takeRest_9 (by rw [c26]; decide) (by rw [c26]; decide) (by rw [c26]; rfl) rfl ?_
    refine jr_iconst (v := 1) hF dX10_takeRest_161 rfl ?_
    obtain rfl := Option.some.inj hf
    exact jr_zreturn hF hE (Or.inr rfl) dX10_takeRest_162
  by_cases c27 : (lt_gi w (lt_r σ (lt_r σ o 2) 2) x1.toNatClampNeg) = 19
  · refine jr_tableIn (off := 152) (tgt := 161) hF dX10_takeRest_9 (by rw [c27]; decide) (by rw [c27]; decide) (by rw [c27]; rfl) rfl ?_
    refine jr_iconst (v := 1) hF dX10_takeRest_161 rfl ?_
    obtain rfl := Option.some.inj hf
    exact jr_zreturn hF hE (Or.inr rfl) dX10_takeRest_162
  by_cases c28 : (lt_gi w (lt_r σ (lt_r σ o 2) 2) x1.toNatClampNeg) = 20
  · refine jr_tableIn (off := 152) (tgt := 161) hF dX10_takeRest_9 (by rw [c28]; decide) (by rw [c28]; decide) (by rw [c28]; rfl) rfl ?_
    refine jr_iconst (v := 1) hF dX10_takeRest_161 rfl ?_
    obtain rfl := Option.some.inj hf
    exact jr_zreturn hF hE (Or.inr rfl) dX10_takeRest_162
  by_cases c29 : (lt_gi w (lt_r σ (lt_r σ o 2) 2) x1.toNatClampNeg) = 21
  · refine jr_tableIn (off := 152) (tgt := 161) hF dX10_takeRest_9 (by rw [c29]; decide) (by rw [c29]; decide) (by rw [c29]; rfl) rfl ?_
    refine jr_iconst (v := 1) hF dX10_takeRest_161 rfl ?_
    obtain rfl := Option.some.inj hf
    exact jr_zreturn hF hE (Or.inr rfl) dX10_takeRest_162
  refine jr_tableOut (tgt := 161) hF dX10_takeRest_9 (lt_swd fun kk h1 h2 => by rcases (show kk = 12 ∨ kk = 13 ∨ kk = 14 ∨ kk = 15 ∨ kk = 16 ∨ kk = 18 ∨ kk = 22 ∨ kk = 17 ∨ kk = 19 ∨ kk = 20 ∨ kk = 21 by omega) with rfl | rfl | rfl | rfl | rfl | rfl | rfl | rfl | rfl | rfl | rfl <;> first | exact c11 | exact c14 | exact c15 | exact c16 | exact c19 | exact c22 | exact c25 | exact c26 | exact c27 | exact c28 | exact c29) rfl ?_
  refine jr_iconst (v := 1) hF dX10_takeRest_161 rfl ?_
  obtain rfl := Option.some.inj hf
  exact jr_zreturn hF hE (Or.inr rfl) dX10_takeRest_162
def f_X10_takeRest (σ : lt_S) (o : Nat) (x1 : Int32) (w : lt_W) : Option (Int32 × lt_W) := fb_X10_takeRest_0 σ o x1 w
set_option maxRecDepth 100000 in
theorem c_X10_takeRest {l : Launch} {D : va_G} {gA : Nat → ClassId} {s0 : State} {σ : lt_S} (hT : lt_Wt σ) {o : Nat} (h0 : lt_c σ o = 10) {x1 : Int32} {w : lt_W} {r : Int32 × lt_W} (hf : f_X10_takeRest σ o x1 w = some r) : lt_C l D gA s0 yX10_takeRest cX10_takeRest 2 (some .boolean) (lt_rm 11) [.ref (s0.heap.size + o), .int x1] σ w σ (some (.int r.1)) r.2 := by
  refine lt_enter rfl (Nat.le_of_ble_eq_true rfl) (fun X e1 e2 e3 e4 hF hE => ?_)
  subst e1 e2 e3 e4
  exact jb_X10_takeRest_0 hT h0 hF hE _ _ hf

set_option maxRecDepth 100000 in
def fb_X10_isWeeks_131 (σ : lt_S) (o : Nat) (x1 : Int32) (w : lt_W) : Option (Int32 × lt_W) := lt_bz x1 (lt_let (lt_si w (lt_r σ o 2) 0 x1) (fun w3 => lt_bz x1 (some (x1, w3))))
set_option maxHeartbeats 4000000 in
set_option maxRecDepth 100000 in
theorem jb_X10_isWeeks_131 {X : lt_X} {σ : lt_S} (hT : lt_Wt σ) {o : Nat} (h0 : lt_c σ o = 10) {r : Int32 × lt_W} (hF : lt_F X cX10_isWeeks RX10 4 (lt_rm 12)) (hE : lt_E X 0 0 σ (some .boolean) (some (.int r.1)) r.2) : ∀ (x1 : Int32) (w : lt_W), fb_X10_isWeeks_131 σ o x1 w = some r → lt_J X 0 0 σ w 131 [(0, .ref (lt_z X + o)), (1, .int x1)] [] := by
  intro x1 w hf
  unfold fb_X10_isWeeks_131 at hf
  refine jr_aload_n hF dX10_isWeeks_131 0 rfl rfl ?_
  refine jr_getRT (cr := 9) hF gf_X10_12 hT h0 rfl rfl dX10_isWeeks_132 (fun th1 => ?_)
  refine jr_iload_n hF dX10_isWeeks_135 1 rfl rfl ?_
  obtain ⟨b2, hf⟩ := lt_bzE hf
  refine jr_putZ hF pf_X10_62 th1 b2 dX10_isWeeks_136 ?_
  refine jr_letW hf (fun w3 hf => ?_)
  refine jr_iload_n hF dX10_isWeeks_139 1 rfl rfl ?_
  obtain ⟨b4, hf⟩ := lt_bzE hf
  obtain rfl := Option.some.inj hf
  exact jr_zreturn hF hE b4 dX10_isWeeks_140
set_option maxRecDepth 100000 in
def fb_X10_isWeeks_111 (σ : lt_S) (o : Nat) (x1 : Int32) (w : lt_W) : Option (Int32 × lt_W) := if x1 = 0 then fb_X10_isWeeks_131 σ o x1 w else if (lt_gi w o 4) ≤ 0 then fb_X10_isWeeks_131 σ o x1 w else Option.bind (f_X7_refuse σ (lt_r σ o 0) 2 w) (fun q2 => fb_X10_isWeeks_131 σ o q2.1 q2.2)
set_option maxHeartbeats 4000000 in
set_option maxRecDepth 100000 in
theorem jb_X10_isWeeks_111 {X : lt_X} {σ : lt_S} (hT : lt_Wt σ) {o : Nat} (h0 : lt_c σ o = 10) {r : Int32 × lt_W} (hF : lt_F X cX10_isWeeks RX10 4 (lt_rm 12)) (hE : lt_E X 0 0 σ (some .boolean) (some (.int r.1)) r.2) : ∀ (x1 : Int32) (w : lt_W), fb_X10_isWeeks_111 σ o x1 w = some r → lt_J X 0 0 σ w 111 [(0, .ref (lt_z X + o)), (1, .int x1)] [] := by
  intro x1 w hf
  unfold fb_X10_isWeeks_111 at hf
  refine jr_iload_n hF dX10_isWeeks_111 1 rfl rfl ?_
  refine jr_if_eq (tgt := 131) hF dX10_isWeeks_112 rfl hf (fun hf => ?_) (fun hf => ?_)
  · exact jb_X10_isWeeks_131 hT h0 hF hE _ _ hf
  · refine jr_aload_n hF dX10_isWeeks_115 0 rfl rfl ?_
    refine jr_getI hF gf_X10_33 h0 dX10_isWeeks_116 ?_
    refine jr_if_le (tgt := 131) hF dX10_isWeeks_119 rfl hf (fun hf => ?_) (fun hf => ?_)
    · exact jb_X10_isWeeks_131 hT h0 hF hE _ _ hf
    · refine jr_aload_n hF dX10_isWeeks_122 0 rfl rfl ?_
      refine jr_getRT (cr := 7) hF gf_X10_22 hT h0 rfl rfl dX10_isWeeks_123 (fun th1 => ?_)
      refine jr_iconst (v := 2) hF dX10_isWeeks_126 rfl ?_
      obtain ⟨q2, hq2, hf⟩ := Option.bind_eq_some_iff.mp hf
      refine jr_cV11 hF ml_X10_59 (c_X7_refuse th1 hq2) th1 ⟨Nat.le_of_ble_eq_true rfl, Nat.le_of_ble_eq_true rfl⟩ (Nat.le_of_ble_eq_true rfl) dX10_isWeeks_127 ?_
      refine jr_istore_n (lv' := [(0, .ref (lt_z X + o)), (1, .int q2.1)]) hF dX10_isWeeks_130 rfl (by decide) [1, 0] rfl ?_
      exact jb_X10_isWeeks_131 hT h0 hF hE _ _ hf
set_option maxRecDepth 100000 in
def fb_X10_isWeeks_16 (σ : lt_S) (o : Nat) : Nat → Int32 → Int32 → lt_W → Option (Int32 × lt_W)
  | 0, _, _, _ => none
  | n + 1, x1, x2, w => if 300 < x2 then fb_X10_isWeeks_111 σ o x1 w else if x1 = 0 then fb_X10_isWeeks_111 σ o x1 w else if (lt_gi w (lt_r σ o 0) 5) = 0 then fb_X10_isWeeks_111 σ o x1 w else if (lt_gi w (lt_r σ o 0) 5) = 11 then Option.bind (f_X10_takeEnd σ o w) (fun q9 => fb_X10_isWeeks_16 σ o n q9.1 (x2 + 1) q9.2) else Option.bind (f_X10_beginStep σ o (lt_gi w (lt_r σ o 0) 5) w) (fun q5 => if q5.1 = 0 then fb_X10_isWeeks_16 σ o n 0 (x2 + 1) q5.2 else Option.bind (f_X10_takeRest σ o (lt_gi w (lt_r σ o 2) 1) q5.2) (fun q6 => if q6.1 = 0 then fb_X10_isWeeks_16 σ o n 0 (x2 + 1) q6.2 else Option.bind (f_X7_take σ (lt_r σ o 0) 59 q6.2) (fun q8 => if q8.1 = 0 then fb_X10_isWeeks_16 σ o n 0 (x2 + 1) q8.2 else fb_X10_isWeeks_16 σ o n 1 (x2 + 1) q8.2)))
set_option maxHeartbeats 4000000 in
set_option maxRecDepth 100000 in
theorem jb_X10_isWeeks_16 {X : lt_X} {σ : lt_S} (hT : lt_Wt σ) {o : Nat} (h0 : lt_c σ o = 10) {r : Int32 × lt_W} (hF : lt_F X cX10_isWeeks RX10 4 (lt_rm 12)) (hE : lt_E X 0 0 σ (some .boolean) (some (.int r.1)) r.2) (n : Nat) : ∀ (x1 : Int32) (x2 : Int32) (w : lt_W), fb_X10_isWeeks_16 σ o n x1 x2 w = some r → lt_J X 0 0 σ w 16 [(0, .ref (lt_z X + o)), (1, .int x1), (2, .int x2)] [] := by
  induction n with
  | zero => intro x1 x2 w hf; rw [fb_X10_isWeeks_16] at hf; cases hf
  | succ n ih =>
    intro x1 x2 w hf
    rw [fb_X10_isWeeks_16] at hf
    refine jr_iload_n hF dX10_isWeeks_16 2 rfl rfl ?_
    refine jr_sipush (v := 300) hF dX10_isWeeks_17 rfl ?_
    refine jr_icmp_gt (tgt := 111) hF dX10_isWeeks_20 rfl hf (fun hf => ?_) (fun hf => ?_)
    · refine jr_sub [0, 1] rfl ?_
      exact jb_X10_isWeeks_111 hT h0 hF hE _ _ hf
    · refine jr_iload_n hF dX10_isWeeks_23 1 rfl rfl ?_
      refine jr_if_eq (tgt := 111) hF dX10_isWeeks_24 rfl hf (fun hf => ?_) (fun hf => ?_)
      · refine jr_sub [0, 1] rfl ?_
        exact jb_X10_isWeeks_111 hT h0 hF hE _ _ hf
      · refine jr_aload_n hF dX10_isWeeks_27 0 rfl rfl ?_
        refine jr_getRT (cr := 7) hF gf_X10_22 hT h0 rfl rfl dX10_isWeeks_28 (fun th1 => ?_)
        refine jr_getI hF gf_X10_37 th1 dX10_isWeeks_31 ?_
        refine jr_if_eq (tgt := 111) hF dX10_isWeeks_34 rfl hf (fun hf => ?_) (fun hf => ?_)
        · refine jr_sub [0, 1] rfl ?_
          exact jb_X10_isWeeks_111 hT h0 hF hE _ _ hf
        · refine jr_aload_n hF dX10_isWeeks_37 0 rfl rfl ?_
          refine jr_getRT (cr := 9) hF gf_X10_12 hT h0 rfl rfl dX10_isWeeks_38 (fun th2 => ?_)
          refine jr_getI hF gf_X10_42 th2 dX10_isWeeks_41 ?_
          refine jr_istore_n (lv' := [(0, .ref (lt_z X + o)), (2, .int x2), (3, .int (lt_gi w (lt_r σ o 2) 1))]) hF dX10_isWeeks_44 rfl (by decide) [1, 3, 0] rfl ?_
          refine jr_aload_n hF dX10_isWeeks_45 0 rfl rfl ?_
          refine jr_getRT (cr := 7) hF gf_X10_22 hT h0 rfl rfl dX10_isWeeks_46 (fun th3 => ?_)
          refine jr_getI hF gf_X10_37 th3 dX10_isWeeks_49 ?_
          refine jr_bipush (v := 11) hF dX10_isWeeks_52 rfl ?_
          refine jr_icmp_ne (tgt := 65) hF dX10_isWeeks_54 rfl hf (fun hf => ?_) (fun hf => ?_)
          · refine jr_aload_n hF dX10_isWeeks_65 0 rfl rfl ?_
            refine jr_aload_n hF dX10_isWeeks_66 0 rfl rfl ?_
            refine jr_getRT (cr := 7) hF gf_X10_22 hT h0 rfl rfl dX10_isWeeks_67 (fun th4 => ?_)
            refine jr_getI hF gf_X10_37 th4 dX10_isWeeks_70 ?_
            obtain ⟨q5, hq5, hf⟩ := Option.bind_eq_some_iff.mp hf
            refine jr_cV11 hF ml_X10_49 (c_X10_beginStep hT h0 hq5) h0 ⟨Nat.le_of_ble_eq_true rfl, Nat.le_of_ble_eq_true rfl⟩ (Nat.le_of_ble_eq_true rfl) dX10_isWeeks_73 ?_
            refine jr_if_eq (tgt := 103) hF dX10_isWeeks_76 rfl hf (fun hf => ?_) (fun hf => ?_)
            · refine jr_iconst (v := 0) hF dX10_isWeeks_103 rfl ?_
              refine jr_istore_n (lv' := [(0, .ref (lt_z X + o)), (1, .int 0), (2, .int x2)]) hF dX10_isWeeks_104 rfl (by decide) [1, 0, 2] rfl ?_
              refine jr_iinc (v := x2 + 1) (lv' := [(0, .ref (lt_z X + o)), (1, .int 0), (2, .int (x2 + 1))]) hF dX10_isWeeks_105 2 rfl rfl (by decide) [1, 2, 0] rfl ?_
              refine jr_goto (tgt := 16) hF dX10_isWeeks_108 rfl ?_
              exact ih _ _ _ hf
            · refine jr_aload_n hF dX10_isWeeks_79 0 rfl rfl ?_
              refine jr_iload_n hF dX10_isWeeks_80 2 rfl rfl ?_
              obtain ⟨q6, hq6, hf⟩ := Option.bind_eq_some_iff.mp hf
              refine jr_cV11 hF ml_X10_53 (c_X10_takeRest hT h0 hq6) h0 ⟨Nat.le_of_ble_eq_true rfl, Nat.le_of_ble_eq_true rfl⟩ (Nat.le_of_ble_eq_true rfl) dX10_isWeeks_81 ?_
              refine jr_if_eq (tgt := 103) hF dX10_isWeeks_84 rfl hf (fun hf => ?_) (fun hf => ?_)
              · refine jr_iconst (v := 0) hF dX10_isWeeks_103 rfl ?_
                refine jr_istore_n (lv' := [(0, .ref (lt_z X + o)), (1, .int 0), (2, .int x2)]) hF dX10_isWeeks_104 rfl (by decide) [1, 0, 2] rfl ?_
                refine jr_iinc (v := x2 + 1) (lv' := [(0, .ref (lt_z X + o)), (1, .int 0), (2, .int (x2 + 1))]) hF dX10_isWeeks_105 2 rfl rfl (by decide) [1, 2, 0] rfl ?_
                refine jr_goto (tgt := 16) hF dX10_isWeeks_108 rfl ?_
                exact ih _ _ _ hf
              · refine jr_aload_n hF dX10_isWeeks_87 0 rfl rfl ?_
                refine jr_getRT (cr := 7) hF gf_X10_22 hT h0 rfl rfl dX10_isWeeks_88 (fun th7 => ?_)
                refine jr_bipush (v := 59) hF dX10_isWeeks_91 rfl ?_
                obtain ⟨q8, hq8, hf⟩ := Option.bind_eq_some_iff.mp hf
                refine jr_cV11 hF ml_X10_56 (c_X7_take hT th7 hq8) th7 ⟨Nat.le_of_ble_eq_true rfl, Nat.le_of_ble_eq_true rfl⟩ (Nat.le_of_ble_eq_true rfl) dX10_isWeeks_93 ?_
                refine jr_if_eq (tgt := 103) hF dX10_isWeeks_96 rfl hf (fun hf => ?_) (fun hf => ?_)
                · refine jr_iconst (v := 0) hF dX10_isWeeks_103 rfl ?_
                  refine jr_istore_n (lv' := [(0, .ref (lt_z X + o)), (1, .int 0), (2, .int x2)]) hF dX10_isWeeks_104 rfl (by decide) [1, 0, 2] rfl ?_
                  refine jr_iinc (v := x2 + 1) (lv' := [(0, .ref (lt_z X + o)), (1, .int 0), (2, .int (x2 + 1))]) hF dX10_isWeeks_105 2 rfl rfl (by decide) [1, 2, 0] rfl ?_
                  refine jr_goto (tgt := 16) hF dX10_isWeeks_108 rfl ?_
                  exact ih _ _ _ hf
                · refine jr_iconst (v := 1) hF dX10_isWeeks_99 rfl ?_
                  refine jr_goto (tgt := 104) hF dX10_isWeeks_100 rfl ?_
                  refine jr_istore_n (lv' := [(0, .ref (lt_z X + o)), (1, .int 1), (2, .int x2)]) hF dX10_isWeeks_104 rfl (by decide) [1, 0, 2] rfl ?_
                  refine jr_iinc (v := x2 + 1) (lv' := [(0, .ref (lt_z X + o)), (1, .int 1), (2, .int (x2 + 1))]) hF dX10_isWeeks_105 2 rfl rfl (by decide) [1, 2, 0] rfl ?_
                  refine jr_goto (tgt := 16) hF dX10_isWeeks_108 rfl ?_
                  exact ih _ _ _ hf
          · refine jr_aload_n hF dX10_isWeeks_57 0 rfl rfl ?_
            obtain ⟨q9, hq9, hf⟩ := Option.bind_eq_some_iff.mp hf
            refine jr_cV01 hF ml_X10_45 (c_X10_takeEnd hT h0 hq9) h0 ⟨Nat.le_of_ble_eq_true rfl, Nat.le_of_ble_eq_true rfl⟩ (Nat.le_of_ble_eq_true rfl) dX10_isWeeks_58 ?_
            refine jr_istore_n (lv' := [(0, .ref (lt_z X + o)), (1, .int q9.1), (2, .int x2)]) hF dX10_isWeeks_61 rfl (by decide) [1, 0, 2] rfl ?_
            refine jr_goto (tgt := 105) hF dX10_isWeeks_62 rfl ?_
            refine jr_iinc (v := x2 + 1) (lv' := [(0, .ref (lt_z X + o)), (1, .int q9.1), (2, .int (x2 + 1))]) hF dX10_isWeeks_105 2 rfl rfl (by decide) [1, 2, 0] rfl ?_
            refine jr_goto (tgt := 16) hF dX10_isWeeks_108 rfl ?_
            exact ih _ _ _ hf
set_option maxRecDepth 100000 in
def fb_X10_isWeeks_0 (σ : lt_S) (o : Nat) (w : lt_W) : Option (Int32 × lt_W) := Option.bind (f_X9_forget σ (lt_r σ o 2) w) (fun q2 => lt_let (lt_si q2 o 4 0) (fun w3 => fb_X10_isWeeks_16 σ o lt_fu 1 0 w3))
set_option maxHeartbeats 4000000 in
set_option maxRecDepth 100000 in
theorem jb_X10_isWeeks_0 {X : lt_X} {σ : lt_S} (hT : lt_Wt σ) {o : Nat} (h0 : lt_c σ o = 10) {r : Int32 × lt_W} (hF : lt_F X cX10_isWeeks RX10 4 (lt_rm 12)) (hE : lt_E X 0 0 σ (some .boolean) (some (.int r.1)) r.2) : ∀ (w : lt_W), fb_X10_isWeeks_0 σ o w = some r → lt_J X 0 0 σ w 0 [(0, .ref (lt_z X + o))] [] := by
  intro w hf
  unfold fb_X10_isWeeks_0 at hf
  refine jr_aload_n hF dX10_isWeeks_0 0 rfl rfl ?_
  refine jr_getRT (cr := 9) hF gf_X10_12 hT h0 rfl rfl dX10_isWeeks_1 (fun th1 => ?_)
  obtain ⟨q2, hq2, hf⟩ := Option.bind_eq_some_iff.mp hf
  refine jr_cV0v hF ml_X10_30 (c_X9_forget th1 hq2) th1 ⟨Nat.le_of_ble_eq_true rfl, Nat.le_of_ble_eq_true rfl⟩ (Nat.le_of_ble_eq_true rfl) dX10_isWeeks_4 ?_
  refine jr_aload_n hF dX10_isWeeks_7 0 rfl rfl ?_
  refine jr_iconst (v := 0) hF dX10_isWeeks_8 rfl ?_
  refine jr_putI hF pf_X10_33 h0 dX10_isWeeks_9 ?_
  refine jr_letW hf (fun w3 hf => ?_)
  refine jr_iconst (v := 1) hF dX10_isWeeks_12 rfl ?_
  refine jr_istore_n (lv' := [(0, .ref (lt_z X + o)), (1, .int 1)]) hF dX10_isWeeks_13 rfl (by decide) [1, 0] rfl ?_
  refine jr_iconst (v := 0) hF dX10_isWeeks_14 rfl ?_
  refine jr_istore_n (lv' := [(0, .ref (lt_z X + o)), (1, .int 1), (2, .int 0)]) hF dX10_isWeeks_15 rfl (by decide) [1, 2, 0] rfl ?_
  exact jb_X10_isWeeks_16 hT h0 hF hE lt_fu _ _ _ hf
def f_X10_isWeeks (σ : lt_S) (o : Nat) (w : lt_W) : Option (Int32 × lt_W) := fb_X10_isWeeks_0 σ o w
set_option maxRecDepth 100000 in
theorem c_X10_isWeeks {l : Launch} {D : va_G} {gA : Nat → ClassId} {s0 : State} {σ : lt_S} (hT : lt_Wt σ) {o : Nat} (h0 : lt_c σ o = 10) {w : lt_W} {r : Int32 × lt_W} (hf : f_X10_isWeeks σ o w = some r) : lt_C l D gA s0 yX10_isWeeks cX10_isWeeks 4 (some .boolean) (lt_rm 12) [.ref (s0.heap.size + o)] σ w σ (some (.int r.1)) r.2 := by
  refine lt_enter rfl (Nat.le_of_ble_eq_true rfl) (fun X e1 e2 e3 e4 hF hE => ?_)
  subst e1 e2 e3 e4
  exact jb_X10_isWeeks_0 hT h0 hF hE _ hf

set_option maxRecDepth 100000 in
def fb_X6_takeGuest_286 (σ : lt_S) (o : Nat) (w : lt_W) : Option (Int32 × lt_W) := Option.bind (f_X7_take σ (lt_r σ o 0) 59 w) (fun q2 => lt_bz q2.1 (some (q2.1, q2.2)))
set_option maxHeartbeats 4000000 in
set_option maxRecDepth 100000 in
theorem jb_X6_takeGuest_286 {X : lt_X} {σ : lt_S} (hT : lt_Wt σ) {o : Nat} (h0 : lt_c σ o = 6) {r : Int32 × lt_W} (hF : lt_F X cX6_takeGuest RX6 2 (lt_rm 10)) (hE : lt_E X 0 0 σ (some .boolean) (some (.int r.1)) r.2) : ∀ (w : lt_W), fb_X6_takeGuest_286 σ o w = some r → lt_J X 0 0 σ w 286 [(0, .ref (lt_z X + o))] [] := by
  intro w hf
  unfold fb_X6_takeGuest_286 at hf
  refine jr_aload_n hF dX6_takeGuest_286 0 rfl rfl ?_
  refine jr_getRT (cr := 7) hF gf_X6_18 hT h0 rfl rfl dX6_takeGuest_287 (fun th1 => ?_)
  refine jr_bipush (v := 59) hF dX6_takeGuest_290 rfl ?_
  obtain ⟨q2, hq2, hf⟩ := Option.bind_eq_some_iff.mp hf
  refine jr_cV11 hF ml_X6_58 (c_X7_take hT th1 hq2) th1 ⟨Nat.le_of_ble_eq_true rfl, Nat.le_of_ble_eq_true rfl⟩ (Nat.le_of_ble_eq_true rfl) dX6_takeGuest_292 ?_
  obtain ⟨b3, hf⟩ := lt_bzE hf
  obtain rfl := Option.some.inj hf
  exact jr_zreturn hF hE b3 dX6_takeGuest_295
set_option maxRecDepth 100000 in
def fb_X6_takeGuest_278 (σ : lt_S) (o : Nat) (y0 : Nat) (y1 : Int32) (y2 : Int32) (w : lt_W) : Option (Int32 × lt_W) := lt_ck y1 (lt_len σ y0) (lt_let (lt_si w y0 y1.toNatClampNeg y2) (fun w1 => Option.bind (f_X7_advance σ (lt_r σ o 0) w1) (fun q3 => fb_X6_takeGuest_286 σ o q3)))
set_option maxHeartbeats 4000000 in
set_option maxRecDepth 100000 in
theorem jb_X6_takeGuest_278 {X : lt_X} {σ : lt_S} (hT : lt_Wt σ) {o : Nat} (h0 : lt_c σ o = 6) {r : Int32 × lt_W} (hF : lt_F X cX6_takeGuest RX6 2 (lt_rm 10)) (hE : lt_E X 0 0 σ (some .boolean) (some (.int r.1)) r.2) : ∀ (y0 : Nat) (y1 : Int32) (y2 : Int32) (w : lt_W), lt_c σ y0 = 50 → fb_X6_takeGuest_278 σ o y0 y1 y2 w = some r → lt_J X 0 0 σ w 278 [(0, .ref (lt_z X + o))] [.int y2, .int y1, .ref (lt_z X + y0)] := by
  intro y0 y1 y2 w u0 hf
  unfold fb_X6_takeGuest_278 at hf
  refine jr_iastore hF u0 dX6_takeGuest_278 hf (fun hf => ?_)
  refine jr_letW hf (fun w1 hf => ?_)
  refine jr_aload_n hF dX6_takeGuest_279 0 rfl rfl ?_
  refine jr_getRT (cr := 7) hF gf_X6_18 hT h0 rfl rfl dX6_takeGuest_280 (fun th2 => ?_)
  obtain ⟨q3, hq3, hf⟩ := Option.bind_eq_some_iff.mp hf
  refine jr_cV0v hF ml_X6_52 (c_X7_advance hT th2 hq3) th2 ⟨Nat.le_of_ble_eq_true rfl, Nat.le_of_ble_eq_true rfl⟩ (Nat.le_of_ble_eq_true rfl) dX6_takeGuest_283 ?_
  exact jb_X6_takeGuest_286 hT h0 hF hE _ hf
set_option maxRecDepth 100000 in
def fb_X6_takeGuest_253 (σ : lt_S) (o : Nat) (x1 : Int32) (w : lt_W) : Option (Int32 × lt_W) := if (lt_gi w (lt_r σ o 0) 5) = 10 then fb_X6_takeGuest_278 σ o (lt_r σ (lt_r σ o 1) 13) x1 1 w else fb_X6_takeGuest_278 σ o (lt_r σ (lt_r σ o 1) 13) x1 2 w
set_option maxHeartbeats 4000000 in
set_option maxRecDepth 100000 in
theorem jb_X6_takeGuest_253 {X : lt_X} {σ : lt_S} (hT : lt_Wt σ) {o : Nat} (h0 : lt_c σ o = 6) {r : Int32 × lt_W} (hF : lt_F X cX6_takeGuest RX6 2 (lt_rm 10)) (hE : lt_E X 0 0 σ (some .boolean) (some (.int r.1)) r.2) : ∀ (x1 : Int32) (w : lt_W), fb_X6_takeGuest_253 σ o x1 w = some r → lt_J X 0 0 σ w 253 [(0, .ref (lt_z X + o)), (1, .int x1)] [] := by
  intro x1 w hf
  unfold fb_X6_takeGuest_253 at hf
  refine jr_aload_n hF dX6_takeGuest_253 0 rfl rfl ?_
  refine jr_getRT (cr := 5) hF gf_X6_12 hT h0 rfl rfl dX6_takeGuest_254 (fun th1 => ?_)
  refine jr_getRT (cr := 50) hF gf_X6_108 hT th1 rfl rfl dX6_takeGuest_257 (fun th2 => ?_)
  refine jr_iload_n hF dX6_takeGuest_260 1 rfl rfl ?_
  refine jr_aload_n hF dX6_takeGuest_261 0 rfl rfl ?_
  refine jr_getRT (cr := 7) hF gf_X6_18 hT h0 rfl rfl dX6_takeGuest_262 (fun th3 => ?_)
  refine jr_getI hF gf_X6_29 th3 dX6_takeGuest_265 ?_
  refine jr_bipush (v := 10) hF dX6_takeGuest_268 rfl ?_
  refine jr_icmp_ne (tgt := 277) hF dX6_takeGuest_270 rfl hf (fun hf => ?_) (fun hf => ?_)
  · refine jr_iconst (v := 2) hF dX6_takeGuest_277 rfl ?_
    refine jr_sub [0] rfl ?_
    exact jb_X6_takeGuest_278 hT h0 hF hE _ _ _ _ th2 hf
  · refine jr_iconst (v := 1) hF dX6_takeGuest_273 rfl ?_
    refine jr_goto (tgt := 278) hF dX6_takeGuest_274 rfl ?_
    refine jr_sub [0] rfl ?_
    exact jb_X6_takeGuest_278 hT h0 hF hE _ _ _ _ th2 hf
set_option maxRecDepth 100000 in
def fb_X6_takeGuest_0 (σ : lt_S) (o : Nat) (w : lt_W) : Option (Int32 × lt_W) := if (lt_gi w (lt_r σ o 1) 0) < 7 then Option.bind (f_X7_advance σ (lt_r σ o 0) w) (fun q3 => if (lt_gi q3 (lt_r σ o 0) 5) = 24 then Option.bind (f_X5_guestNamed σ (lt_r σ o 1) (lt_gl q3 (lt_r σ o 0) 6) q3) (fun q7 => if q7 = (-1) then Option.bind (f_X5_seat σ (lt_r σ o 1) (lt_gl q3 (lt_r σ o 0) 6) q3) (fun q10 => Option.bind (f_X7_advance σ (lt_r σ o 0) q10) (fun q12 => Option.bind (f_X7_take σ (lt_r σ o 0) 7 q12) (fun q14 => if q14.1 = 0 then some (0, q14.2) else Option.bind (f_X7_takeNumber σ (lt_r σ o 0) 0 20 q14.2) (fun q16 => if q16.1 = 0 then some (0, q16.2) else lt_ck (lt_gi w (lt_r σ o 1) 0) (lt_len σ (lt_r σ (lt_r σ o 1) 10)) (lt_let (lt_si q16.2 (lt_r σ (lt_r σ o 1) 10) (lt_gi w (lt_r σ o 1) 0).toNatClampNeg (lt_gi q16.2 (lt_r σ o 0) 8)) (fun w20 => Option.bind (f_X7_take σ (lt_r σ o 0) 8 w20) (fun q22 => if q22.1 = 0 then some (0, q22.2) else Option.bind (f_X7_takeNumber σ (lt_r σ o 0) 0 20 q22.2) (fun q24 => if q24.1 = 0 then some (0, q24.2) else lt_ck (lt_gi w (lt_r σ o 1) 0) (lt_len σ (lt_r σ (lt_r σ o 1) 11)) (lt_let (lt_si q24.2 (lt_r σ (lt_r σ o 1) 11) (lt_gi w (lt_r σ o 1) 0).toNatClampNeg (lt_gi q24.2 (lt_r σ o 0) 8)) (fun w28 => Option.bind (f_X7_take σ (lt_r σ o 0) 9 w28) (fun q30 => if q30.1 = 0 then some (0, q30.2) else Option.bind (f_X7_takeNumber σ (lt_r σ o 0) 0 20 q30.2) (fun q32 => if q32.1 = 0 then some (0, q32.2) else lt_ck (lt_gi w (lt_r σ o 1) 0) (lt_len σ (lt_r σ (lt_r σ o 1) 12)) (lt_let (lt_si q32.2 (lt_r σ (lt_r σ o 1) 12) (lt_gi w (lt_r σ o 1) 0).toNatClampNeg (lt_gi q32.2 (lt_r σ o 0) 8)) (fun w36 => if (lt_gi w36 (lt_r σ o 0) 5) = 10 then fb_X6_takeGuest_253 σ o (lt_gi w (lt_r σ o 1) 0) w36 else if (lt_gi w36 (lt_r σ o 0) 5) = 11 then fb_X6_takeGuest_253 σ o (lt_gi w (lt_r σ o 1) 0) w36 else fb_X6_takeGuest_286 σ o w36)))))))))))))) else Option.bind (f_X7_refuse σ (lt_r σ o 0) 3 q3) (fun q40 => lt_bz q40.1 (some (q40.1, q40.2)))) else Option.bind (f_X7_refuse σ (lt_r σ o 0) 2 q3) (fun q43 => lt_bz q43.1 (some (q43.1, q43.2)))) else Option.bind (f_X7_refuse σ (lt_r σ o 0) 6 w) (fun q46 => lt_bz q46.1 (some (q46.1, q46.2)))
set_option maxHeartbeats 4000000 in
set_option maxRecDepth 100000 in
theorem jb_X6_takeGuest_0 {X : lt_X} {σ : lt_S} (hT : lt_Wt σ) {o : Nat} (h0 : lt_c σ o = 6) {r : Int32 × lt_W} (hF : lt_F X cX6_takeGuest RX6 2 (lt_rm 10)) (hE : lt_E X 0 0 σ (some .boolean) (some (.int r.1)) r.2) : ∀ (w : lt_W), fb_X6_takeGuest_0 σ o w = some r → lt_J X 0 0 σ w 0 [(0, .ref (lt_z X + o))] [] := by
  intro w hf
  unfold fb_X6_takeGuest_0 at hf
  refine jr_aload_n hF dX6_takeGuest_0 0 rfl rfl ?_
  refine jr_getRT (cr := 5) hF gf_X6_12 hT h0 rfl rfl dX6_takeGuest_1 (fun th1 => ?_)
  refine jr_getI hF gf_X6_83 th1 dX6_takeGuest_4 ?_
  refine jr_istore_n (lv' := [(0, .ref (lt_z X + o)), (1, .int (lt_gi w (lt_r σ o 1) 0))]) hF dX6_takeGuest_7 rfl (by decide) [1, 0] rfl ?_
  refine jr_iload_n hF dX6_takeGuest_8 1 rfl rfl ?_
  refine jr_bipush (v := 7) hF dX6_takeGuest_9 rfl ?_
  refine jr_icmp_lt (tgt := 24) hF dX6_takeGuest_11 rfl hf (fun hf => ?_) (fun hf => ?_)
  · refine jr_aload_n hF dX6_takeGuest_24 0 rfl rfl ?_
    refine jr_getRT (cr := 7) hF gf_X6_18 hT h0 rfl rfl dX6_takeGuest_25 (fun th2 => ?_)
    obtain ⟨q3, hq3, hf⟩ := Option.bind_eq_some_iff.mp hf
    refine jr_cV0v hF ml_X6_52 (c_X7_advance hT th2 hq3) th2 ⟨Nat.le_of_ble_eq_true rfl, Nat.le_of_ble_eq_true rfl⟩ (Nat.le_of_ble_eq_true rfl) dX6_takeGuest_28 ?_
    refine jr_aload_n hF dX6_takeGuest_31 0 rfl rfl ?_
    refine jr_getRT (cr := 7) hF gf_X6_18 hT h0 rfl rfl dX6_takeGuest_32 (fun th4 => ?_)
    refine jr_getI hF gf_X6_29 th4 dX6_takeGuest_35 ?_
    refine jr_bipush (v := 24) hF dX6_takeGuest_38 rfl ?_
    refine jr_icmp_eq (tgt := 52) hF dX6_takeGuest_40 rfl hf (fun hf => ?_) (fun hf => ?_)
    · refine jr_aload_n hF dX6_takeGuest_52 0 rfl rfl ?_
      refine jr_getRT (cr := 5) hF gf_X6_12 hT h0 rfl rfl dX6_takeGuest_53 (fun th5 => ?_)
      refine jr_aload_n hF dX6_takeGuest_56 0 rfl rfl ?_
      refine jr_getRT (cr := 7) hF gf_X6_18 hT h0 rfl rfl dX6_takeGuest_57 (fun th6 => ?_)
      refine jr_getL hF gf_X6_86 th6 dX6_takeGuest_60 ?_
      obtain ⟨q7, hq7, hf⟩ := Option.bind_eq_some_iff.mp hf
      refine jr_cV11 hF ml_X6_90 (c_X5_guestNamed hT th5 hq7) th5 ⟨Nat.le_of_ble_eq_true rfl, Nat.le_of_ble_eq_true rfl⟩ (Nat.le_of_ble_eq_true rfl) dX6_takeGuest_63 ?_
      refine jr_iconst (v := (-1)) hF dX6_takeGuest_66 rfl ?_
      refine jr_icmp_eq (tgt := 79) hF dX6_takeGuest_67 rfl hf (fun hf => ?_) (fun hf => ?_)
      · refine jr_aload_n hF dX6_takeGuest_79 0 rfl rfl ?_
        refine jr_getRT (cr := 5) hF gf_X6_12 hT h0 rfl rfl dX6_takeGuest_80 (fun th8 => ?_)
        refine jr_aload_n hF dX6_takeGuest_83 0 rfl rfl ?_
        refine jr_getRT (cr := 7) hF gf_X6_18 hT h0 rfl rfl dX6_takeGuest_84 (fun th9 => ?_)
        refine jr_getL hF gf_X6_86 th9 dX6_takeGuest_87 ?_
        obtain ⟨q10, hq10, hf⟩ := Option.bind_eq_some_iff.mp hf
        refine jr_cV1v hF ml_X6_94 (c_X5_seat hT th8 hq10) th8 ⟨Nat.le_of_ble_eq_true rfl, Nat.le_of_ble_eq_true rfl⟩ (Nat.le_of_ble_eq_true rfl) dX6_takeGuest_90 ?_
        refine jr_aload_n hF dX6_takeGuest_93 0 rfl rfl ?_
        refine jr_getRT (cr := 7) hF gf_X6_18 hT h0 rfl rfl dX6_takeGuest_94 (fun th11 => ?_)
        obtain ⟨q12, hq12, hf⟩ := Option.bind_eq_some_iff.mp hf
        refine jr_cV0v hF ml_X6_52 (c_X7_advance hT th11 hq12) th11 ⟨Nat.le_of_ble_eq_true rfl, Nat.le_of_ble_eq_true rfl⟩ (Nat.le_of_ble_eq_true rfl) dX6_takeGuest_97 ?_
        refine jr_aload_n hF dX6_takeGuest_100 0 rfl rfl ?_
        refine jr_getRT (cr := 7) hF gf_X6_18 hT h0 rfl rfl dX6_takeGuest_101 (fun th13 => ?_)
        refine jr_bipush (v := 7) hF dX6_takeGuest_104 rfl ?_
        obtain ⟨q14, hq14, hf⟩ := Option.bind_eq_some_iff.mp hf
        refine jr_cV11 hF ml_X6_58 (c_X7_take hT th13 hq14) th13 ⟨Nat.le_of_ble_eq_true rfl, Nat.le_of_ble_eq_true rfl⟩ (Nat.le_of_ble_eq_true rfl) dX6_takeGuest_106 ?_
        refine jr_if_eq (tgt := 125) hF dX6_takeGuest_109 rfl hf (fun hf => ?_) (fun hf => ?_)
        · refine jr_iconst (v := 0) hF dX6_takeGuest_125 rfl ?_
          obtain rfl := Option.some.inj hf
          exact jr_zreturn hF hE (Or.inl rfl) dX6_takeGuest_126
        · refine jr_aload_n hF dX6_takeGuest_112 0 rfl rfl ?_
          refine jr_getRT (cr := 7) hF gf_X6_18 hT h0 rfl rfl dX6_takeGuest_113 (fun th15 => ?_)
          refine jr_iconst (v := 0) hF dX6_takeGuest_116 rfl ?_
          refine jr_bipush (v := 20) hF dX6_takeGuest_117 rfl ?_
          obtain ⟨q16, hq16, hf⟩ := Option.bind_eq_some_iff.mp hf
          refine jr_cV21 hF ml_X6_61 (c_X7_takeNumber hT th15 hq16) th15 ⟨Nat.le_of_ble_eq_true rfl, Nat.le_of_ble_eq_true rfl⟩ (Nat.le_of_ble_eq_true rfl) dX6_takeGuest_119 ?_
          refine jr_if_ne (tgt := 127) hF dX6_takeGuest_122 rfl hf (fun hf => ?_) (fun hf => ?_)
          · refine jr_aload_n hF dX6_takeGuest_127 0 rfl rfl ?_
            refine jr_getRT (cr := 5) hF gf_X6_12 hT h0 rfl rfl dX6_takeGuest_128 (fun th17 => ?_)
            refine jr_getRT (cr := 50) hF gf_X6_98 hT th17 rfl rfl dX6_takeGuest_131 (fun th18 => ?_)
            refine jr_iload_n hF dX6_takeGuest_134 1 rfl rfl ?_
            refine jr_aload_n hF dX6_takeGuest_135 0 rfl rfl ?_
            refine jr_getRT (cr := 7) hF gf_X6_18 hT h0 rfl rfl dX6_takeGuest_136 (fun th19 => ?_)
            refine jr_getI hF gf_X6_65 th19 dX6_takeGuest_139 ?_
            refine jr_iastore hF th18 dX6_takeGuest_142 hf (fun hf => ?_)
            refine jr_letW hf (fun w20 hf => ?_)
            refine jr_aload_n hF dX6_takeGuest_143 0 rfl rfl ?_
            refine jr_getRT (cr := 7) hF gf_X6_18 hT h0 rfl rfl dX6_takeGuest_144 (fun th21 => ?_)
            refine jr_bipush (v := 8) hF dX6_takeGuest_147 rfl ?_
            obtain ⟨q22, hq22, hf⟩ := Option.bind_eq_some_iff.mp hf
            refine jr_cV11 hF ml_X6_58 (c_X7_take hT th21 hq22) th21 ⟨Nat.le_of_ble_eq_true rfl, Nat.le_of_ble_eq_true rfl⟩ (Nat.le_of_ble_eq_true rfl) dX6_takeGuest_149 ?_
            refine jr_if_eq (tgt := 168) hF dX6_takeGuest_152 rfl hf (fun hf => ?_) (fun hf => ?_)
            · refine jr_iconst (v := 0) hF dX6_takeGuest_168 rfl ?_
              obtain rfl := Option.some.inj hf
              exact jr_zreturn hF hE (Or.inl rfl) dX6_takeGuest_169
            · refine jr_aload_n hF dX6_takeGuest_155 0 rfl rfl ?_
              refine jr_getRT (cr := 7) hF gf_X6_18 hT h0 rfl rfl dX6_takeGuest_156 (fun th23 => ?_)
              refine jr_iconst (v := 0) hF dX6_takeGuest_159 rfl ?_
              refine jr_bipush (v := 20) hF dX6_takeGuest_160 rfl ?_
              obtain ⟨q24, hq24, hf⟩ := Option.bind_eq_some_iff.mp hf
              refine jr_cV21 hF ml_X6_61 (c_X7_takeNumber hT th23 hq24) th23 ⟨Nat.le_of_ble_eq_true rfl, Nat.le_of_ble_eq_true rfl⟩ (Nat.le_of_ble_eq_true rfl) dX6_takeGuest_162 ?_
              refine jr_if_ne (tgt := 170) hF dX6_takeGuest_165 rfl hf (fun hf => ?_) (fun hf => ?_)
              · refine jr_aload_n hF dX6_takeGuest_170 0 rfl rfl ?_
                refine jr_getRT (cr := 5) hF gf_X6_12 hT h0 rfl rfl dX6_takeGuest_171 (fun th25 => ?_)
                refine jr_getRT (cr := 50) hF gf_X6_102 hT th25 rfl rfl dX6_takeGuest_174 (fun th26 => ?_)
                refine jr_iload_n hF dX6_takeGuest_177 1 rfl rfl ?_
                refine jr_aload_n hF dX6_takeGuest_178 0 rfl rfl ?_
                refine jr_getRT (cr := 7) hF gf_X6_18 hT h0 rfl rfl dX6_takeGuest_179 (fun th27 => ?_)
                refine jr_getI hF gf_X6_65 th27 dX6_takeGuest_182 ?_
                refine jr_iastore hF th26 dX6_takeGuest_185 hf (fun hf => ?_)
                refine jr_letW hf (fun w28 hf => ?_)
                refine jr_aload_n hF dX6_takeGuest_186 0 rfl rfl ?_
                refine jr_getRT (cr := 7) hF gf_X6_18 hT h0 rfl rfl dX6_takeGuest_187 (fun th29 => ?_)
                refine jr_bipush (v := 9) hF dX6_takeGuest_190 rfl ?_
                obtain ⟨q30, hq30, hf⟩ := Option.bind_eq_some_iff.mp hf
                refine jr_cV11 hF ml_X6_58 (c_X7_take hT th29 hq30) th29 ⟨Nat.le_of_ble_eq_true rfl, Nat.le_of_ble_eq_true rfl⟩ (Nat.le_of_ble_eq_true rfl) dX6_takeGuest_192 ?_
                refine jr_if_eq (tgt := 211) hF dX6_takeGuest_195 rfl hf (fun hf => ?_) (fun hf => ?_)
                · refine jr_iconst (v := 0) hF dX6_takeGuest_211 rfl ?_
                  obtain rfl := Option.some.inj hf
                  exact jr_zreturn hF hE (Or.inl rfl) dX6_takeGuest_212
                · refine jr_aload_n hF dX6_takeGuest_198 0 rfl rfl ?_
                  refine jr_getRT (cr := 7) hF gf_X6_18 hT h0 rfl rfl dX6_takeGuest_199 (fun th31 => ?_)
                  refine jr_iconst (v := 0) hF dX6_takeGuest_202 rfl ?_
                  refine jr_bipush (v := 20) hF dX6_takeGuest_203 rfl ?_
                  obtain ⟨q32, hq32, hf⟩ := Option.bind_eq_some_iff.mp hf
                  refine jr_cV21 hF ml_X6_61 (c_X7_takeNumber hT th31 hq32) th31 ⟨Nat.le_of_ble_eq_true rfl, Nat.le_of_ble_eq_true rfl⟩ (Nat.le_of_ble_eq_true rfl) dX6_takeGuest_205 ?_
                  refine jr_if_ne (tgt := 213) hF dX6_takeGuest_208 rfl hf (fun hf => ?_) (fun hf => ?_)
                  · refine jr_aload_n hF dX6_takeGuest_213 0 rfl rfl ?_
                    refine jr_getRT (cr := 5) hF gf_X6_12 hT h0 rfl rfl dX6_takeGuest_214 (fun th33 => ?_)
                    refine jr_getRT (cr := 50) hF gf_X6_105 hT th33 rfl rfl dX6_takeGuest_217 (fun th34 => ?_)
                    refine jr_iload_n hF dX6_takeGuest_220 1 rfl rfl ?_
                    refine jr_aload_n hF dX6_takeGuest_221 0 rfl rfl ?_
                    refine jr_getRT (cr := 7) hF gf_X6_18 hT h0 rfl rfl dX6_takeGuest_222 (fun th35 => ?_)
                    refine jr_getI hF gf_X6_65 th35 dX6_takeGuest_225 ?_
                    refine jr_iastore hF th34 dX6_takeGuest_228 hf (fun hf => ?_)
                    refine jr_letW hf (fun w36 hf => ?_)
                    refine jr_aload_n hF dX6_takeGuest_229 0 rfl rfl ?_
                    refine jr_getRT (cr := 7) hF gf_X6_18 hT h0 rfl rfl dX6_takeGuest_230 (fun th37 => ?_)
                    refine jr_getI hF gf_X6_29 th37 dX6_takeGuest_233 ?_
                    refine jr_bipush (v := 10) hF dX6_takeGuest_236 rfl ?_
                    refine jr_icmp_eq (tgt := 253) hF dX6_takeGuest_238 rfl hf (fun hf => ?_) (fun hf => ?_)
                    · exact jb_X6_takeGuest_253 hT h0 hF hE _ _ hf
                    · refine jr_aload_n hF dX6_takeGuest_241 0 rfl rfl ?_
                      refine jr_getRT (cr := 7) hF gf_X6_18 hT h0 rfl rfl dX6_takeGuest_242 (fun th38 => ?_)
                      refine jr_getI hF gf_X6_29 th38 dX6_takeGuest_245 ?_
                      refine jr_bipush (v := 11) hF dX6_takeGuest_248 rfl ?_
                      refine jr_icmp_ne (tgt := 286) hF dX6_takeGuest_250 rfl hf (fun hf => ?_) (fun hf => ?_)
                      · refine jr_sub [0] rfl ?_
                        exact jb_X6_takeGuest_286 hT h0 hF hE _ hf
                      · exact jb_X6_takeGuest_253 hT h0 hF hE _ _ hf
                  · refine jr_iconst (v := 0) hF dX6_takeGuest_211 rfl ?_
                    obtain rfl := Option.some.inj hf
                    exact jr_zreturn hF hE (Or.inl rfl) dX6_takeGuest_212
              · refine jr_iconst (v := 0) hF dX6_takeGuest_168 rfl ?_
                obtain rfl := Option.some.inj hf
                exact jr_zreturn hF hE (Or.inl rfl) dX6_takeGuest_169
          · refine jr_iconst (v := 0) hF dX6_takeGuest_125 rfl ?_
            obtain rfl := Option.some.inj hf
            exact jr_zreturn hF hE (Or.inl rfl) dX6_takeGuest_126
      · refine jr_aload_n hF dX6_takeGuest_70 0 rfl rfl ?_
        refine jr_getRT (cr := 7) hF gf_X6_18 hT h0 rfl rfl dX6_takeGuest_71 (fun th39 => ?_)
        refine jr_iconst (v := 3) hF dX6_takeGuest_74 rfl ?_
        obtain ⟨q40, hq40, hf⟩ := Option.bind_eq_some_iff.mp hf
        refine jr_cV11 hF ml_X6_49 (c_X7_refuse th39 hq40) th39 ⟨Nat.le_of_ble_eq_true rfl, Nat.le_of_ble_eq_true rfl⟩ (Nat.le_of_ble_eq_true rfl) dX6_takeGuest_75 ?_
        obtain ⟨b41, hf⟩ := lt_bzE hf
        obtain rfl := Option.some.inj hf
        exact jr_zreturn hF hE b41 dX6_takeGuest_78
    · refine jr_aload_n hF dX6_takeGuest_43 0 rfl rfl ?_
      refine jr_getRT (cr := 7) hF gf_X6_18 hT h0 rfl rfl dX6_takeGuest_44 (fun th42 => ?_)
      refine jr_iconst (v := 2) hF dX6_takeGuest_47 rfl ?_
      obtain ⟨q43, hq43, hf⟩ := Option.bind_eq_some_iff.mp hf
      refine jr_cV11 hF ml_X6_49 (c_X7_refuse th42 hq43) th42 ⟨Nat.le_of_ble_eq_true rfl, Nat.le_of_ble_eq_true rfl⟩ (Nat.le_of_ble_eq_true rfl) dX6_takeGuest_48 ?_
      obtain ⟨b44, hf⟩ := lt_bzE hf
      obtain rfl := Option.some.inj hf
      exact jr_zreturn hF hE b44 dX6_takeGuest_51
  · refine jr_aload_n hF dX6_takeGuest_14 0 rfl rfl ?_
    refine jr_getRT (cr := 7) hF gf_X6_18 hT h0 rfl rfl dX6_takeGuest_15 (fun th45 => ?_)
    refine jr_bipush (v := 6) hF dX6_takeGuest_18 rfl ?_
    obtain ⟨q46, hq46, hf⟩ := Option.bind_eq_some_iff.mp hf
    refine jr_cV11 hF ml_X6_49 (c_X7_refuse th45 hq46) th45 ⟨Nat.le_of_ble_eq_true rfl, Nat.le_of_ble_eq_true rfl⟩ (Nat.le_of_ble_eq_true rfl) dX6_takeGuest_20 ?_
    obtain ⟨b47, hf⟩ := lt_bzE hf
    obtain rfl := Option.some.inj hf
    exact jr_zreturn hF hE b47 dX6_takeGuest_23
def f_X6_takeGuest (σ : lt_S) (o : Nat) (w : lt_W) : Option (Int32 × lt_W) := fb_X6_takeGuest_0 σ o w
set_option maxRecDepth 100000 in
theorem c_X6_takeGuest {l : Launch} {D : va_G} {gA : Nat → ClassId} {s0 : State} {σ : lt_S} (hT : lt_Wt σ) {o : Nat} (h0 : lt_c σ o = 6) {w : lt_W} {r : Int32 × lt_W} (hf : f_X6_takeGuest σ o w = some r) : lt_C l D gA s0 yX6_takeGuest cX6_takeGuest 2 (some .boolean) (lt_rm 10) [.ref (s0.heap.size + o)] σ w σ (some (.int r.1)) r.2 := by
  refine lt_enter rfl (Nat.le_of_ble_eq_true rfl) (fun X e1 e2 e3 e4 hF hE => ?_)
  subst e1 e2 e3 e4
  exact jb_X6_takeGuest_0 hT h0 hF hE _ hf

set_option maxRecDepth 100000 in
def fb_X6_takeButter_0 (σ : lt_S) (o : Nat) (w : lt_W) : Option (Int32 × lt_W) := Option.bind (f_X7_advance σ (lt_r σ o 0) w) (fun q2 => Option.bind (f_X7_namedGuest σ (lt_r σ o 0) (lt_r σ o 1) q2) (fun q5 => if q5.1 = (-1) then some (0, q5.2) else lt_ck q5.1 (lt_len σ (lt_r σ (lt_r σ o 1) 15)) (if (lt_gi q5.2 (lt_r σ (lt_r σ o 1) 15) q5.1.toNatClampNeg) = (-1) then Option.bind (f_X7_advance σ (lt_r σ o 0) q5.2) (fun q9 => Option.bind (f_X7_namedGuest σ (lt_r σ o 0) (lt_r σ o 1) q9) (fun q12 => if q12.1 = (-1) then some (0, q12.2) else if q12.1 = q5.1 then Option.bind (f_X7_refuse σ (lt_r σ o 0) 5 q12.2) (fun q22 => lt_bz q22.1 (some (q22.1, q22.2))) else lt_ck q5.1 (lt_len σ (lt_r σ (lt_r σ o 1) 15)) (lt_let (lt_si q12.2 (lt_r σ (lt_r σ o 1) 15) q5.1.toNatClampNeg q12.1) (fun w15 => Option.bind (f_X7_advance σ (lt_r σ o 0) w15) (fun q17 => Option.bind (f_X7_take σ (lt_r σ o 0) 59 q17) (fun q19 => lt_bz q19.1 (some (q19.1, q19.2)))))))) else Option.bind (f_X7_refuse σ (lt_r σ o 0) 5 q5.2) (fun q25 => lt_bz q25.1 (some (q25.1, q25.2))))))
set_option maxHeartbeats 4000000 in
set_option maxRecDepth 100000 in
theorem jb_X6_takeButter_0 {X : lt_X} {σ : lt_S} (hT : lt_Wt σ) {o : Nat} (h0 : lt_c σ o = 6) {r : Int32 × lt_W} (hF : lt_F X cX6_takeButter RX6 3 (lt_rm 10)) (hE : lt_E X 0 0 σ (some .boolean) (some (.int r.1)) r.2) : ∀ (w : lt_W), fb_X6_takeButter_0 σ o w = some r → lt_J X 0 0 σ w 0 [(0, .ref (lt_z X + o))] [] := by
  intro w hf
  unfold fb_X6_takeButter_0 at hf
  refine jr_aload_n hF dX6_takeButter_0 0 rfl rfl ?_
  refine jr_getRT (cr := 7) hF gf_X6_18 hT h0 rfl rfl dX6_takeButter_1 (fun th1 => ?_)
  obtain ⟨q2, hq2, hf⟩ := Option.bind_eq_some_iff.mp hf
  refine jr_cV0v hF ml_X6_52 (c_X7_advance hT th1 hq2) th1 ⟨Nat.le_of_ble_eq_true rfl, Nat.le_of_ble_eq_true rfl⟩ (Nat.le_of_ble_eq_true rfl) dX6_takeButter_4 ?_
  refine jr_aload_n hF dX6_takeButter_7 0 rfl rfl ?_
  refine jr_getRT (cr := 7) hF gf_X6_18 hT h0 rfl rfl dX6_takeButter_8 (fun th3 => ?_)
  refine jr_aload_n hF dX6_takeButter_11 0 rfl rfl ?_
  refine jr_getRT (cr := 5) hF gf_X6_12 hT h0 rfl rfl dX6_takeButter_12 (fun th4 => ?_)
  obtain ⟨q5, hq5, hf⟩ := Option.bind_eq_some_iff.mp hf
  refine jr_cV11 hF ml_X6_110 (c_X7_namedGuest hT th3 th4 hq5) th3 ⟨Nat.le_of_ble_eq_true rfl, Nat.le_of_ble_eq_true rfl⟩ (Nat.le_of_ble_eq_true rfl) dX6_takeButter_15 ?_
  refine jr_istore_n (lv' := [(0, .ref (lt_z X + o)), (1, .int q5.1)]) hF dX6_takeButter_18 rfl (by decide) [1, 0] rfl ?_
  refine jr_iload_n hF dX6_takeButter_19 1 rfl rfl ?_
  refine jr_iconst (v := (-1)) hF dX6_takeButter_20 rfl ?_
  refine jr_icmp_ne (tgt := 26) hF dX6_takeButter_21 rfl hf (fun hf => ?_) (fun hf => ?_)
  · refine jr_aload_n hF dX6_takeButter_26 0 rfl rfl ?_
    refine jr_getRT (cr := 5) hF gf_X6_12 hT h0 rfl rfl dX6_takeButter_27 (fun th6 => ?_)
    refine jr_getRT (cr := 50) hF gf_X6_114 hT th6 rfl rfl dX6_takeButter_30 (fun th7 => ?_)
    refine jr_iload_n hF dX6_takeButter_33 1 rfl rfl ?_
    refine jr_iaload hF th7 dX6_takeButter_34 hf (fun hf => ?_)
    refine jr_iconst (v := (-1)) hF dX6_takeButter_35 rfl ?_
    refine jr_icmp_eq (tgt := 48) hF dX6_takeButter_36 rfl hf (fun hf => ?_) (fun hf => ?_)
    · refine jr_aload_n hF dX6_takeButter_48 0 rfl rfl ?_
      refine jr_getRT (cr := 7) hF gf_X6_18 hT h0 rfl rfl dX6_takeButter_49 (fun th8 => ?_)
      obtain ⟨q9, hq9, hf⟩ := Option.bind_eq_some_iff.mp hf
      refine jr_cV0v hF ml_X6_52 (c_X7_advance hT th8 hq9) th8 ⟨Nat.le_of_ble_eq_true rfl, Nat.le_of_ble_eq_true rfl⟩ (Nat.le_of_ble_eq_true rfl) dX6_takeButter_52 ?_
      refine jr_aload_n hF dX6_takeButter_55 0 rfl rfl ?_
      refine jr_getRT (cr := 7) hF gf_X6_18 hT h0 rfl rfl dX6_takeButter_56 (fun th10 => ?_)
      refine jr_aload_n hF dX6_takeButter_59 0 rfl rfl ?_
      refine jr_getRT (cr := 5) hF gf_X6_12 hT h0 rfl rfl dX6_takeButter_60 (fun th11 => ?_)
      obtain ⟨q12, hq12, hf⟩ := Option.bind_eq_some_iff.mp hf
      refine jr_cV11 hF ml_X6_110 (c_X7_namedGuest hT th10 th11 hq12) th10 ⟨Nat.le_of_ble_eq_true rfl, Nat.le_of_ble_eq_true rfl⟩ (Nat.le_of_ble_eq_true rfl) dX6_takeButter_63 ?_
      refine jr_istore_n (lv' := [(0, .ref (lt_z X + o)), (1, .int q5.1), (2, .int q12.1)]) hF dX6_takeButter_66 rfl (by decide) [1, 2, 0] rfl ?_
      refine jr_iload_n hF dX6_takeButter_67 2 rfl rfl ?_
      refine jr_iconst (v := (-1)) hF dX6_takeButter_68 rfl ?_
      refine jr_icmp_ne (tgt := 74) hF dX6_takeButter_69 rfl hf (fun hf => ?_) (fun hf => ?_)
      · refine jr_iload_n hF dX6_takeButter_74 2 rfl rfl ?_
        refine jr_iload_n hF dX6_takeButter_75 1 rfl rfl ?_
        refine jr_icmp_ne (tgt := 88) hF dX6_takeButter_76 rfl hf (fun hf => ?_) (fun hf => ?_)
        · refine jr_aload_n hF dX6_takeButter_88 0 rfl rfl ?_
          refine jr_getRT (cr := 5) hF gf_X6_12 hT h0 rfl rfl dX6_takeButter_89 (fun th13 => ?_)
          refine jr_getRT (cr := 50) hF gf_X6_114 hT th13 rfl rfl dX6_takeButter_92 (fun th14 => ?_)
          refine jr_iload_n hF dX6_takeButter_95 1 rfl rfl ?_
          refine jr_iload_n hF dX6_takeButter_96 2 rfl rfl ?_
          refine jr_iastore hF th14 dX6_takeButter_97 hf (fun hf => ?_)
          refine jr_letW hf (fun w15 hf => ?_)
          refine jr_aload_n hF dX6_takeButter_98 0 rfl rfl ?_
          refine jr_getRT (cr := 7) hF gf_X6_18 hT h0 rfl rfl dX6_takeButter_99 (fun th16 => ?_)
          obtain ⟨q17, hq17, hf⟩ := Option.bind_eq_some_iff.mp hf
          refine jr_cV0v hF ml_X6_52 (c_X7_advance hT th16 hq17) th16 ⟨Nat.le_of_ble_eq_true rfl, Nat.le_of_ble_eq_true rfl⟩ (Nat.le_of_ble_eq_true rfl) dX6_takeButter_102 ?_
          refine jr_aload_n hF dX6_takeButter_105 0 rfl rfl ?_
          refine jr_getRT (cr := 7) hF gf_X6_18 hT h0 rfl rfl dX6_takeButter_106 (fun th18 => ?_)
          refine jr_bipush (v := 59) hF dX6_takeButter_109 rfl ?_
          obtain ⟨q19, hq19, hf⟩ := Option.bind_eq_some_iff.mp hf
          refine jr_cV11 hF ml_X6_58 (c_X7_take hT th18 hq19) th18 ⟨Nat.le_of_ble_eq_true rfl, Nat.le_of_ble_eq_true rfl⟩ (Nat.le_of_ble_eq_true rfl) dX6_takeButter_111 ?_
          obtain ⟨b20, hf⟩ := lt_bzE hf
          obtain rfl := Option.some.inj hf
          exact jr_zreturn hF hE b20 dX6_takeButter_114
        · refine jr_aload_n hF dX6_takeButter_79 0 rfl rfl ?_
          refine jr_getRT (cr := 7) hF gf_X6_18 hT h0 rfl rfl dX6_takeButter_80 (fun th21 => ?_)
          refine jr_iconst (v := 5) hF dX6_takeButter_83 rfl ?_
          obtain ⟨q22, hq22, hf⟩ := Option.bind_eq_some_iff.mp hf
          refine jr_cV11 hF ml_X6_49 (c_X7_refuse th21 hq22) th21 ⟨Nat.le_of_ble_eq_true rfl, Nat.le_of_ble_eq_true rfl⟩ (Nat.le_of_ble_eq_true rfl) dX6_takeButter_84 ?_
          obtain ⟨b23, hf⟩ := lt_bzE hf
          obtain rfl := Option.some.inj hf
          exact jr_zreturn hF hE b23 dX6_takeButter_87
      · refine jr_iconst (v := 0) hF dX6_takeButter_72 rfl ?_
        obtain rfl := Option.some.inj hf
        exact jr_zreturn hF hE (Or.inl rfl) dX6_takeButter_73
    · refine jr_aload_n hF dX6_takeButter_39 0 rfl rfl ?_
      refine jr_getRT (cr := 7) hF gf_X6_18 hT h0 rfl rfl dX6_takeButter_40 (fun th24 => ?_)
      refine jr_iconst (v := 5) hF dX6_takeButter_43 rfl ?_
      obtain ⟨q25, hq25, hf⟩ := Option.bind_eq_some_iff.mp hf
      refine jr_cV11 hF ml_X6_49 (c_X7_refuse th24 hq25) th24 ⟨Nat.le_of_ble_eq_true rfl, Nat.le_of_ble_eq_true rfl⟩ (Nat.le_of_ble_eq_true rfl) dX6_takeButter_44 ?_
      obtain ⟨b26, hf⟩ := lt_bzE hf
      obtain rfl := Option.some.inj hf
      exact jr_zreturn hF hE b26 dX6_takeButter_47
  · refine jr_iconst (v := 0) hF dX6_takeButter_24 rfl ?_
    obtain rfl := Option.some.inj hf
    exact jr_zreturn hF hE (Or.inl rfl) dX6_takeButter_25
def f_X6_takeButter (σ : lt_S) (o : Nat) (w : lt_W) : Option (Int32 × lt_W) := fb_X6_takeButter_0 σ o w
set_option maxRecDepth 100000 in
theorem c_X6_takeButter {l : Launch} {D : va_G} {gA : Nat → ClassId} {s0 : State} {σ : lt_S} (hT : lt_Wt σ) {o : Nat} (h0 : lt_c σ o = 6) {w : lt_W} {r : Int32 × lt_W} (hf : f_X6_takeButter σ o w = some r) : lt_C l D gA s0 yX6_takeButter cX6_takeButter 3 (some .boolean) (lt_rm 10) [.ref (s0.heap.size + o)] σ w σ (some (.int r.1)) r.2 := by
  refine lt_enter rfl (Nat.le_of_ble_eq_true rfl) (fun X e1 e2 e3 e4 hF hE => ?_)
  subst e1 e2 e3 e4
  exact jb_X6_takeButter_0 hT h0 hF hE _ hf

set_option maxRecDepth 100000 in
def fb_X6_takeSettingsNumber_0 (σ : lt_S) (o : Nat) (x1 : Int32) (w : lt_W) : Option (Int32 × lt_W) := if x1 = 1 then Option.bind (f_X7_takeNumber σ (lt_r σ o 0) 0 16 w) (fun q2 => lt_let (lt_si q2.2 (lt_r σ o 1) 1 (lt_gi q2.2 (lt_r σ o 0) 8)) (fun w5 => lt_bz q2.1 (some (q2.1, w5)))) else if x1 = 2 then Option.bind (f_X7_takeNumber σ (lt_r σ o 0) 1 20 w) (fun q9 => lt_let (lt_si q9.2 (lt_r σ o 1) 2 (lt_gi q9.2 (lt_r σ o 0) 8)) (fun w12 => lt_bz q9.1 (some (q9.1, w12)))) else if x1 = 3 then Option.bind (f_X7_takeNumber σ (lt_r σ o 0) 1 6 w) (fun q16 => lt_let (lt_si q16.2 (lt_r σ o 1) 3 (lt_gi q16.2 (lt_r σ o 0) 8)) (fun w19 => lt_bz q16.1 (some (q16.1, w19)))) else if x1 = 4 then Option.bind (f_X7_takeNumber σ (lt_r σ o 0) 1 60 w) (fun q23 => lt_let (lt_si q23.2 (lt_r σ o 1) 4 (lt_gi q23.2 (lt_r σ o 0) 8)) (fun w26 => lt_bz q23.1 (some (q23.1, w26)))) else Option.bind (f_X7_takeNumber σ (lt_r σ o 0) 0 60 w) (fun q30 => lt_let (lt_si q30.2 (lt_r σ o 1) 5 (lt_gi q30.2 (lt_r σ o 0) 8)) (fun w33 => lt_bz q30.1 (some (q30.1, w33))))
set_option maxHeartbeats 4000000 in
set_option maxRecDepth 100000 in
theorem jb_X6_takeSettingsNumber_0 {X : lt_X} {σ : lt_S} (hT : lt_Wt σ) {o : Nat} (h0 : lt_c σ o = 6) {r : Int32 × lt_W} (hF : lt_F X cX6_takeSettingsNumber RX6 3 (lt_rm 10)) (hE : lt_E X 0 0 σ (some .boolean) (some (.int r.1)) r.2) : ∀ (x1 : Int32) (w : lt_W), fb_X6_takeSettingsNumber_0 σ o x1 w = some r → lt_J X 0 0 σ w 0 [(0, .ref (lt_z X + o)), (1, .int x1)] [] := by
  intro x1 w hf
  unfold fb_X6_takeSettingsNumber_0 at hf
  refine jr_iload_n hF dX6_takeSettingsNumber_0 1 rfl rfl ?_
  by_cases c7 : x1 = 1
  · rw [if_pos c7] at hf
    refine jr_tableIn (off := 31) (tgt := 32) hF dX6_takeSettingsNumber_1 (by rw [c7]; decide) (by rw [c7]; decide) (by rw [c7]; rfl) rfl ?_
    refine jr_aload_n hF dX6_takeSettingsNumber_32 0 rfl rfl ?_
    refine jr_getRT (cr := 7) hF gf_X6_18 hT h0 rfl rfl dX6_takeSettingsNumber_33 (fun th1 => ?_)
    refine jr_iconst (v := 0) hF dX6_takeSettingsNumber_36 rfl ?_
    refine jr_bipush (v := 16) hF dX6_takeSettingsNumber_37 rfl ?_
    obtain ⟨q2, hq2, hf⟩ := Option.bind_eq_some_iff.mp hf
    refine jr_cV21 hF ml_X6_61 (c_X7_takeNumber hT th1 hq2) th1 ⟨Nat.le_of_ble_eq_true rfl, Nat.le_of_ble_eq_true rfl⟩ (Nat.le_of_ble_eq_true rfl) dX6_takeSettingsNumber_39 ?_
    refine jr_istore_n (lv' := [(0, .ref (lt_z X + o)), (2, .int q2.1)]) hF dX6_takeSettingsNumber_42 rfl (by decide) [1, 0] rfl ?_
    refine jr_aload_n hF dX6_takeSettingsNumber_43 0 rfl rfl ?_
    refine jr_getRT (cr := 5) hF gf_X6_12 hT h0 rfl rfl dX6_takeSettingsNumber_44 (fun th3 => ?_)
    refine jr_aload_n hF dX6_takeSettingsNumber_47 0 rfl rfl ?_
    refine jr_getRT (cr := 7) hF gf_X6_18 hT h0 rfl rfl dX6_takeSettingsNumber_48 (fun th4 => ?_)
    refine jr_getI hF gf_X6_65 th4 dX6_takeSettingsNumber_51 ?_
    refine jr_putI hF pf_X6_68 th3 dX6_takeSettingsNumber_54 ?_
    refine jr_letW hf (fun w5 hf => ?_)
    refine jr_goto (tgt := 169) hF dX6_takeSettingsNumber_57 rfl ?_
    refine jr_iload_n hF dX6_takeSettingsNumber_169 1 rfl rfl ?_
    obtain ⟨b6, hf⟩ := lt_bzE hf
    obtain rfl := Option.some.inj hf
    exact jr_zreturn hF hE b6 dX6_takeSettingsNumber_170
  rw [if_neg c7] at hf
  by_cases c14 : x1 = 2
  · rw [if_pos c14] at hf
    refine jr_tableIn (off := 59) (tgt := 60) hF dX6_takeSettingsNumber_1 (by rw [c14]; decide) (by rw [c14]; decide) (by rw [c14]; rfl) rfl ?_
    refine jr_aload_n hF dX6_takeSettingsNumber_60 0 rfl rfl ?_
    refine jr_getRT (cr := 7) hF gf_X6_18 hT h0 rfl rfl dX6_takeSettingsNumber_61 (fun th8 => ?_)
    refine jr_iconst (v := 1) hF dX6_takeSettingsNumber_64 rfl ?_
    refine jr_bipush (v := 20) hF dX6_takeSettingsNumber_65 rfl ?_
    obtain ⟨q9, hq9, hf⟩ := Option.bind_eq_some_iff.mp hf
    refine jr_cV21 hF ml_X6_61 (c_X7_takeNumber hT th8 hq9) th8 ⟨Nat.le_of_ble_eq_true rfl, Nat.le_of_ble_eq_true rfl⟩ (Nat.le_of_ble_eq_true rfl) dX6_takeSettingsNumber_67 ?_
    refine jr_istore_n (lv' := [(0, .ref (lt_z X + o)), (2, .int q9.1)]) hF dX6_takeSettingsNumber_70 rfl (by decide) [1, 0] rfl ?_
    refine jr_aload_n hF dX6_takeSettingsNumber_71 0 rfl rfl ?_
    refine jr_getRT (cr := 5) hF gf_X6_12 hT h0 rfl rfl dX6_takeSettingsNumber_72 (fun th10 => ?_)
    refine jr_aload_n hF dX6_takeSettingsNumber_75 0 rfl rfl ?_
    refine jr_getRT (cr := 7) hF gf_X6_18 hT h0 rfl rfl dX6_takeSettingsNumber_76 (fun th11 => ?_)
    refine jr_getI hF gf_X6_65 th11 dX6_takeSettingsNumber_79 ?_
    refine jr_putI hF pf_X6_71 th10 dX6_takeSettingsNumber_82 ?_
    refine jr_letW hf (fun w12 hf => ?_)
    refine jr_goto (tgt := 169) hF dX6_takeSettingsNumber_85 rfl ?_
    refine jr_iload_n hF dX6_takeSettingsNumber_169 1 rfl rfl ?_
    obtain ⟨b13, hf⟩ := lt_bzE hf
    obtain rfl := Option.some.inj hf
    exact jr_zreturn hF hE b13 dX6_takeSettingsNumber_170
  rw [if_neg c14] at hf
  by_cases c21 : x1 = 3
  · rw [if_pos c21] at hf
    refine jr_tableIn (off := 87) (tgt := 88) hF dX6_takeSettingsNumber_1 (by rw [c21]; decide) (by rw [c21]; decide) (by rw [c21]; rfl) rfl ?_
    refine jr_aload_n hF dX6_takeSettingsNumber_88 0 rfl rfl ?_
    refine jr_getRT (cr := 7) hF gf_X6_18 hT h0 rfl rfl dX6_takeSettingsNumber_89 (fun th15 => ?_)
    refine jr_iconst (v := 1) hF dX6_takeSettingsNumber_92 rfl ?_
    refine jr_bipush (v := 6) hF dX6_takeSettingsNumber_93 rfl ?_
    obtain ⟨q16, hq16, hf⟩ := Option.bind_eq_some_iff.mp hf
    refine jr_cV21 hF ml_X6_61 (c_X7_takeNumber hT th15 hq16) th15 ⟨Nat.le_of_ble_eq_true rfl, Nat.le_of_ble_eq_true rfl⟩ (Nat.le_of_ble_eq_true rfl) dX6_takeSettingsNumber_95 ?_
    refine jr_istore_n (lv' := [(0, .ref (lt_z X + o)), (2, .int q16.1)]) hF dX6_takeSettingsNumber_98 rfl (by decide) [1, 0] rfl ?_
    refine jr_aload_n hF dX6_takeSettingsNumber_99 0 rfl rfl ?_
    refine jr_getRT (cr := 5) hF gf_X6_12 hT h0 rfl rfl dX6_takeSettingsNumber_100 (fun th17 => ?_)
    refine jr_aload_n hF dX6_takeSettingsNumber_103 0 rfl rfl ?_
    refine jr_getRT (cr := 7) hF gf_X6_18 hT h0 rfl rfl dX6_takeSettingsNumber_104 (fun th18 => ?_)
    refine jr_getI hF gf_X6_65 th18 dX6_takeSettingsNumber_107 ?_
    refine jr_putI hF pf_X6_74 th17 dX6_takeSettingsNumber_110 ?_
    refine jr_letW hf (fun w19 hf => ?_)
    refine jr_goto (tgt := 169) hF dX6_takeSettingsNumber_113 rfl ?_
    refine jr_iload_n hF dX6_takeSettingsNumber_169 1 rfl rfl ?_
    obtain ⟨b20, hf⟩ := lt_bzE hf
    obtain rfl := Option.some.inj hf
    exact jr_zreturn hF hE b20 dX6_takeSettingsNumber_170
  rw [if_neg c21] at hf
  by_cases c28 : x1 = 4
  · rw [if_pos c28] at hf
    refine jr_tableIn (off := 115) (tgt := 116) hF dX6_takeSettingsNumber_1 (by rw [c28]; decide) (by rw [c28]; decide) (by rw [c28]; rfl) rfl ?_
    refine jr_aload_n hF dX6_takeSettingsNumber_116 0 rfl rfl ?_
    refine jr_getRT (cr := 7) hF gf_X6_18 hT h0 rfl rfl dX6_takeSettingsNumber_117 (fun th22 => ?_)
    refine jr_iconst (v := 1) hF dX6_takeSettingsNumber_120 rfl ?_
    refine jr_bipush (v := 60) hF dX6_takeSettingsNumber_121 rfl ?_
    obtain ⟨q23, hq23, hf⟩ := Option.bind_eq_some_iff.mp hf
    refine jr_cV21 hF ml_X6_61 (c_X7_takeNumber hT th22 hq23) th22 ⟨Nat.le_of_ble_eq_true rfl, Nat.le_of_ble_eq_true rfl⟩ (Nat.le_of_ble_eq_true rfl) dX6_takeSettingsNumber_123 ?_
    refine jr_istore_n (lv' := [(0, .ref (lt_z X + o)), (2, .int q23.1)]) hF dX6_takeSettingsNumber_126 rfl (by decide) [1, 0] rfl ?_
    refine jr_aload_n hF dX6_takeSettingsNumber_127 0 rfl rfl ?_
    refine jr_getRT (cr := 5) hF gf_X6_12 hT h0 rfl rfl dX6_takeSettingsNumber_128 (fun th24 => ?_)
    refine jr_aload_n hF dX6_takeSettingsNumber_131 0 rfl rfl ?_
    refine jr_getRT (cr := 7) hF gf_X6_18 hT h0 rfl rfl dX6_takeSettingsNumber_132 (fun th25 => ?_)
    refine jr_getI hF gf_X6_65 th25 dX6_takeSettingsNumber_135 ?_
    refine jr_putI hF pf_X6_77 th24 dX6_takeSettingsNumber_138 ?_
    refine jr_letW hf (fun w26 hf => ?_)
    refine jr_goto (tgt := 169) hF dX6_takeSettingsNumber_141 rfl ?_
    refine jr_iload_n hF dX6_takeSettingsNumber_169 1 rfl rfl ?_
    obtain ⟨b27, hf⟩ := lt_bzE hf
    obtain rfl := Option.some.inj hf
    exact jr_zreturn hF hE b27 dX6_takeSettingsNumber_170
  rw [if_neg c28] at hf
  refine jr_tableOut (tgt := 144) hF dX6_takeSettingsNumber_1 (lt_swd fun kk h1 h2 => by rcases (show kk = 1 ∨ kk = 2 ∨ kk = 3 ∨ kk = 4 by omega) with rfl | rfl | rfl | rfl <;> first | exact c7 | exact c14 | exact c21 | exact c28) rfl ?_
  refine jr_aload_n hF dX6_takeSettingsNumber_144 0 rfl rfl ?_
  refine jr_getRT (cr := 7) hF gf_X6_18 hT h0 rfl rfl dX6_takeSettingsNumber_145 (fun th29 => ?_)
  refine jr_iconst (v := 0) hF dX6_takeSettingsNumber_148 rfl ?_
  refine jr_bipush (v := 60) hF dX6_takeSettingsNumber_149 rfl ?_
  obtain ⟨q30, hq30, hf⟩ := Option.bind_eq_some_iff.mp hf
  refine jr_cV21 hF ml_X6_61 (c_X7_takeNumber hT th29 hq30) th29 ⟨Nat.le_of_ble_eq_true rfl, Nat.le_of_ble_eq_true rfl⟩ (Nat.le_of_ble_eq_true rfl) dX6_takeSettingsNumber_151 ?_
  refine jr_istore_n (lv' := [(0, .ref (lt_z X + o)), (2, .int q30.1)]) hF dX6_takeSettingsNumber_154 rfl (by decide) [1, 0] rfl ?_
  refine jr_aload_n hF dX6_takeSettingsNumber_155 0 rfl rfl ?_
  refine jr_getRT (cr := 5) hF gf_X6_12 hT h0 rfl rfl dX6_takeSettingsNumber_156 (fun th31 => ?_)
  refine jr_aload_n hF dX6_takeSettingsNumber_159 0 rfl rfl ?_
  refine jr_getRT (cr := 7) hF gf_X6_18 hT h0 rfl rfl dX6_takeSettingsNumber_160 (fun th32 => ?_)
  refine jr_getI hF gf_X6_65 th32 dX6_takeSettingsNumber_163 ?_
  refine jr_putI hF pf_X6_80 th31 dX6_takeSettingsNumber_166 ?_
  refine jr_letW hf (fun w33 hf => ?_)
  refine jr_iload_n hF dX6_takeSettingsNumber_169 1 rfl rfl ?_
  obtain ⟨b34, hf⟩ := lt_bzE hf
  obtain rfl := Option.some.inj hf
  exact jr_zreturn hF hE b34 dX6_takeSettingsNumber_170
def f_X6_takeSettingsNumber (σ : lt_S) (o : Nat) (x1 : Int32) (w : lt_W) : Option (Int32 × lt_W) := fb_X6_takeSettingsNumber_0 σ o x1 w
set_option maxRecDepth 100000 in
theorem c_X6_takeSettingsNumber {l : Launch} {D : va_G} {gA : Nat → ClassId} {s0 : State} {σ : lt_S} (hT : lt_Wt σ) {o : Nat} (h0 : lt_c σ o = 6) {x1 : Int32} {w : lt_W} {r : Int32 × lt_W} (hf : f_X6_takeSettingsNumber σ o x1 w = some r) : lt_C l D gA s0 yX6_takeSettingsNumber cX6_takeSettingsNumber 3 (some .boolean) (lt_rm 10) [.ref (s0.heap.size + o), .int x1] σ w σ (some (.int r.1)) r.2 := by
  refine lt_enter rfl (Nat.le_of_ble_eq_true rfl) (fun X e1 e2 e3 e4 hF hE => ?_)
  subst e1 e2 e3 e4
  exact jb_X6_takeSettingsNumber_0 hT h0 hF hE _ _ hf

set_option maxRecDepth 100000 in
def fb_X6_takeSetting_0 (σ : lt_S) (o : Nat) (x1 : Int32) (w : lt_W) : Option (Int32 × lt_W) := Option.bind (f_X11_within x1 1 5) (fun q1 => if q1 = 0 then Option.bind (f_X7_refuse σ (lt_r σ o 0) 2 w) (fun q12 => lt_bz q12.1 (some (q12.1, q12.2))) else if ((lt_gi w o 2) &&& (1 <<< (x1 &&& 31))) = 0 then lt_let (lt_si w o 2 ((lt_gi w o 2) ||| (1 <<< (x1 &&& 31)))) (fun w2 => Option.bind (f_X7_advance σ (lt_r σ o 0) w2) (fun q4 => Option.bind (f_X6_takeSettingsNumber σ o x1 q4) (fun q5 => if q5.1 = 0 then some (0, q5.2) else Option.bind (f_X7_take σ (lt_r σ o 0) 59 q5.2) (fun q7 => if q7.1 = 0 then some (0, q7.2) else some (1, q7.2))))) else Option.bind (f_X7_refuse σ (lt_r σ o 0) 5 w) (fun q9 => lt_bz q9.1 (some (q9.1, q9.2))))
set_option maxHeartbeats 4000000 in
set_option maxRecDepth 100000 in
theorem jb_X6_takeSetting_0 {X : lt_X} {σ : lt_S} (hT : lt_Wt σ) {o : Nat} (h0 : lt_c σ o = 6) {r : Int32 × lt_W} (hF : lt_F X cX6_takeSetting RX6 2 (lt_rm 11)) (hE : lt_E X 0 0 σ (some .boolean) (some (.int r.1)) r.2) : ∀ (x1 : Int32) (w : lt_W), fb_X6_takeSetting_0 σ o x1 w = some r → lt_J X 0 0 σ w 0 [(0, .ref (lt_z X + o)), (1, .int x1)] [] := by
  intro x1 w hf
  unfold fb_X6_takeSetting_0 at hf
  refine jr_iload_n hF dX6_takeSetting_0 1 rfl rfl ?_
  refine jr_iconst (v := 1) hF dX6_takeSetting_1 rfl ?_
  refine jr_iconst (v := 5) hF dX6_takeSetting_2 rfl ?_
  obtain ⟨q1, hq1, hf⟩ := Option.bind_eq_some_iff.mp hf
  refine jr_cN31 hF ml_X6_45 (c_X11_within hq1) ⟨Nat.le_of_ble_eq_true rfl, Nat.le_of_ble_eq_true rfl⟩ (Nat.le_of_ble_eq_true rfl) dX6_takeSetting_3 ?_
  refine jr_if_ne (tgt := 18) hF dX6_takeSetting_6 rfl hf (fun hf => ?_) (fun hf => ?_)
  · refine jr_aload_n hF dX6_takeSetting_18 0 rfl rfl ?_
    refine jr_getI hF gf_X6_25 h0 dX6_takeSetting_19 ?_
    refine jr_iconst (v := 1) hF dX6_takeSetting_22 rfl ?_
    refine jr_iload_n hF dX6_takeSetting_23 1 rfl rfl ?_
    refine jr_ishl hF dX6_takeSetting_24 ?_
    refine jr_iand hF dX6_takeSetting_25 ?_
    refine jr_if_eq (tgt := 38) hF dX6_takeSetting_26 rfl hf (fun hf => ?_) (fun hf => ?_)
    · refine jr_aload_n hF dX6_takeSetting_38 0 rfl rfl ?_
      refine jr_dup hF dX6_takeSetting_39 rfl ?_
      refine jr_getI hF gf_X6_25 h0 dX6_takeSetting_40 ?_
      refine jr_iconst (v := 1) hF dX6_takeSetting_43 rfl ?_
      refine jr_iload_n hF dX6_takeSetting_44 1 rfl rfl ?_
      refine jr_ishl hF dX6_takeSetting_45 ?_
      refine jr_ior hF dX6_takeSetting_46 ?_
      refine jr_putI hF pf_X6_25 h0 dX6_takeSetting_47 ?_
      refine jr_letW hf (fun w2 hf => ?_)
      refine jr_aload_n hF dX6_takeSetting_50 0 rfl rfl ?_
      refine jr_getRT (cr := 7) hF gf_X6_18 hT h0 rfl rfl dX6_takeSetting_51 (fun th3 => ?_)
      obtain ⟨q4, hq4, hf⟩ := Option.bind_eq_some_iff.mp hf
      refine jr_cV0v hF ml_X6_52 (c_X7_advance hT th3 hq4) th3 ⟨Nat.le_of_ble_eq_true rfl, Nat.le_of_ble_eq_true rfl⟩ (Nat.le_of_ble_eq_true rfl) dX6_takeSetting_54 ?_
      refine jr_aload_n hF dX6_takeSetting_57 0 rfl rfl ?_
      refine jr_iload_n hF dX6_takeSetting_58 1 rfl rfl ?_
      obtain ⟨q5, hq5, hf⟩ := Option.bind_eq_some_iff.mp hf
      refine jr_cV11 hF ml_X6_55 (c_X6_takeSettingsNumber hT h0 hq5) h0 ⟨Nat.le_of_ble_eq_true rfl, Nat.le_of_ble_eq_true rfl⟩ (Nat.le_of_ble_eq_true rfl) dX6_takeSetting_59 ?_
      refine jr_if_eq (tgt := 81) hF dX6_takeSetting_62 rfl hf (fun hf => ?_) (fun hf => ?_)
      · refine jr_iconst (v := 0) hF dX6_takeSetting_81 rfl ?_
        obtain rfl := Option.some.inj hf
        exact jr_zreturn hF hE (Or.inl rfl) dX6_takeSetting_82
      · refine jr_aload_n hF dX6_takeSetting_65 0 rfl rfl ?_
        refine jr_getRT (cr := 7) hF gf_X6_18 hT h0 rfl rfl dX6_takeSetting_66 (fun th6 => ?_)
        refine jr_bipush (v := 59) hF dX6_takeSetting_69 rfl ?_
        obtain ⟨q7, hq7, hf⟩ := Option.bind_eq_some_iff.mp hf
        refine jr_cV11 hF ml_X6_58 (c_X7_take hT th6 hq7) th6 ⟨Nat.le_of_ble_eq_true rfl, Nat.le_of_ble_eq_true rfl⟩ (Nat.le_of_ble_eq_true rfl) dX6_takeSetting_71 ?_
        refine jr_if_eq (tgt := 81) hF dX6_takeSetting_74 rfl hf (fun hf => ?_) (fun hf => ?_)
        · refine jr_iconst (v := 0) hF dX6_takeSetting_81 rfl ?_
          obtain rfl := Option.some.inj hf
          exact jr_zreturn hF hE (Or.inl rfl) dX6_takeSetting_82
        · refine jr_iconst (v := 1) hF dX6_takeSetting_77 rfl ?_
          refine jr_goto (tgt := 82) hF dX6_takeSetting_78 rfl ?_
          obtain rfl := Option.some.inj hf
          exact jr_zreturn hF hE (Or.inr rfl) dX6_takeSetting_82
    · refine jr_aload_n hF dX6_takeSetting_29 0 rfl rfl ?_
      refine jr_getRT (cr := 7) hF gf_X6_18 hT h0 rfl rfl dX6_takeSetting_30 (fun th8 => ?_)
      refine jr_iconst (v := 5) hF dX6_takeSetting_33 rfl ?_
      obtain ⟨q9, hq9, hf⟩ := Option.bind_eq_some_iff.mp hf
      refine jr_cV11 hF ml_X6_49 (c_X7_refuse th8 hq9) th8 ⟨Nat.le_of_ble_eq_true rfl, Nat.le_of_ble_eq_true rfl⟩ (Nat.le_of_ble_eq_true rfl) dX6_takeSetting_34 ?_
      obtain ⟨b10, hf⟩ := lt_bzE hf
      obtain rfl := Option.some.inj hf
      exact jr_zreturn hF hE b10 dX6_takeSetting_37
  · refine jr_aload_n hF dX6_takeSetting_9 0 rfl rfl ?_
    refine jr_getRT (cr := 7) hF gf_X6_18 hT h0 rfl rfl dX6_takeSetting_10 (fun th11 => ?_)
    refine jr_iconst (v := 2) hF dX6_takeSetting_13 rfl ?_
    obtain ⟨q12, hq12, hf⟩ := Option.bind_eq_some_iff.mp hf
    refine jr_cV11 hF ml_X6_49 (c_X7_refuse th11 hq12) th11 ⟨Nat.le_of_ble_eq_true rfl, Nat.le_of_ble_eq_true rfl⟩ (Nat.le_of_ble_eq_true rfl) dX6_takeSetting_14 ?_
    obtain ⟨b13, hf⟩ := lt_bzE hf
    obtain rfl := Option.some.inj hf
    exact jr_zreturn hF hE b13 dX6_takeSetting_17
def f_X6_takeSetting (σ : lt_S) (o : Nat) (x1 : Int32) (w : lt_W) : Option (Int32 × lt_W) := fb_X6_takeSetting_0 σ o x1 w
set_option maxRecDepth 100000 in
theorem c_X6_takeSetting {l : Launch} {D : va_G} {gA : Nat → ClassId} {s0 : State} {σ : lt_S} (hT : lt_Wt σ) {o : Nat} (h0 : lt_c σ o = 6) {x1 : Int32} {w : lt_W} {r : Int32 × lt_W} (hf : f_X6_takeSetting σ o x1 w = some r) : lt_C l D gA s0 yX6_takeSetting cX6_takeSetting 2 (some .boolean) (lt_rm 11) [.ref (s0.heap.size + o), .int x1] σ w σ (some (.int r.1)) r.2 := by
  refine lt_enter rfl (Nat.le_of_ble_eq_true rfl) (fun X e1 e2 e3 e4 hF hE => ?_)
  subst e1 e2 e3 e4
  exact jb_X6_takeSetting_0 hT h0 hF hE _ _ hf

set_option maxRecDepth 100000 in
def fb_X6_isTable_16 (σ : lt_S) (o : Nat) : Nat → Int32 → Int32 → lt_W → Option (Int32 × lt_W)
  | 0, _, _, _ => none
  | n + 1, x1, x2, w => if 900 < x2 then lt_bz x1 (some (x1, w)) else if x1 = 0 then lt_bz x1 (some (x1, w)) else if (lt_gi w (lt_r σ o 0) 5) = 0 then lt_bz x1 (some (x1, w)) else if (lt_gi w (lt_r σ o 0) 5) = 6 then Option.bind (f_X6_takeGuest σ o w) (fun q6 => fb_X6_isTable_16 σ o n q6.1 (x2 + 1) q6.2) else if (lt_gi w (lt_r σ o 0) 5) = 12 then Option.bind (f_X6_takeButter σ o w) (fun q8 => fb_X6_isTable_16 σ o n q8.1 (x2 + 1) q8.2) else Option.bind (f_X6_takeSetting σ o (lt_gi w (lt_r σ o 0) 5) w) (fun q11 => fb_X6_isTable_16 σ o n q11.1 (x2 + 1) q11.2)
set_option maxHeartbeats 4000000 in
set_option maxRecDepth 100000 in
theorem jb_X6_isTable_16 {X : lt_X} {σ : lt_S} (hT : lt_Wt σ) {o : Nat} (h0 : lt_c σ o = 6) {r : Int32 × lt_W} (hF : lt_F X cX6_isTable RX6 3 (lt_rm 12)) (hE : lt_E X 0 0 σ (some .boolean) (some (.int r.1)) r.2) (n : Nat) : ∀ (x1 : Int32) (x2 : Int32) (w : lt_W), fb_X6_isTable_16 σ o n x1 x2 w = some r → lt_J X 0 0 σ w 16 [(0, .ref (lt_z X + o)), (1, .int x1), (2, .int x2)] [] := by
  induction n with
  | zero => intro x1 x2 w hf; rw [fb_X6_isTable_16] at hf; cases hf
  | succ n ih =>
    intro x1 x2 w hf
    rw [fb_X6_isTable_16] at hf
    refine jr_iload_n hF dX6_isTable_16 2 rfl rfl ?_
    refine jr_sipush (v := 900) hF dX6_isTable_17 rfl ?_
    refine jr_icmp_gt (tgt := 106) hF dX6_isTable_20 rfl hf (fun hf => ?_) (fun hf => ?_)
    · refine jr_iload_n hF dX6_isTable_106 1 rfl rfl ?_
      obtain ⟨b1, hf⟩ := lt_bzE hf
      obtain rfl := Option.some.inj hf
      exact jr_zreturn hF hE b1 dX6_isTable_107
    · refine jr_iload_n hF dX6_isTable_23 1 rfl rfl ?_
      refine jr_if_eq (tgt := 106) hF dX6_isTable_24 rfl hf (fun hf => ?_) (fun hf => ?_)
      · refine jr_iload_n hF dX6_isTable_106 1 rfl rfl ?_
        obtain ⟨b2, hf⟩ := lt_bzE hf
        obtain rfl := Option.some.inj hf
        exact jr_zreturn hF hE b2 dX6_isTable_107
      · refine jr_aload_n hF dX6_isTable_27 0 rfl rfl ?_
        refine jr_getRT (cr := 7) hF gf_X6_18 hT h0 rfl rfl dX6_isTable_28 (fun th3 => ?_)
        refine jr_getI hF gf_X6_29 th3 dX6_isTable_31 ?_
        refine jr_if_eq (tgt := 106) hF dX6_isTable_34 rfl hf (fun hf => ?_) (fun hf => ?_)
        · refine jr_iload_n hF dX6_isTable_106 1 rfl rfl ?_
          obtain ⟨b4, hf⟩ := lt_bzE hf
          obtain rfl := Option.some.inj hf
          exact jr_zreturn hF hE b4 dX6_isTable_107
        · refine jr_aload_n hF dX6_isTable_37 0 rfl rfl ?_
          refine jr_getRT (cr := 7) hF gf_X6_18 hT h0 rfl rfl dX6_isTable_38 (fun th5 => ?_)
          refine jr_getI hF gf_X6_29 th5 dX6_isTable_41 ?_
          by_cases c7 : (lt_gi w (lt_r σ o 0) 5) = 6
          · rw [if_pos c7] at hf
            refine jr_lookup (off := 28) (tgt := 72) hF dX6_isTable_44 rfl (by rw [c7]; rfl) rfl ?_
            refine jr_aload_n hF dX6_isTable_72 0 rfl rfl ?_
            obtain ⟨q6, hq6, hf⟩ := Option.bind_eq_some_iff.mp hf
            refine jr_cV01 hF ml_X6_34 (c_X6_takeGuest hT h0 hq6) h0 ⟨Nat.le_of_ble_eq_true rfl, Nat.le_of_ble_eq_true rfl⟩ (Nat.le_of_ble_eq_true rfl) dX6_isTable_73 ?_
            refine jr_istore_n (lv' := [(0, .ref (lt_z X + o)), (1, .int q6.1), (2, .int x2)]) hF dX6_isTable_76 rfl (by decide) [1, 0, 2] rfl ?_
            refine jr_goto (tgt := 100) hF dX6_isTable_77 rfl ?_
            refine jr_iinc (v := x2 + 1) (lv' := [(0, .ref (lt_z X + o)), (1, .int q6.1), (2, .int (x2 + 1))]) hF dX6_isTable_100 2 rfl rfl (by decide) [1, 2, 0] rfl ?_
            refine jr_goto (tgt := 16) hF dX6_isTable_103 rfl ?_
            exact ih _ _ _ hf
          rw [if_neg c7] at hf
          by_cases c9 : (lt_gi w (lt_r σ o 0) 5) = 12
          · rw [if_pos c9] at hf
            refine jr_lookup (off := 36) (tgt := 80) hF dX6_isTable_44 rfl (by rw [c9]; rfl) rfl ?_
            refine jr_aload_n hF dX6_isTable_80 0 rfl rfl ?_
            obtain ⟨q8, hq8, hf⟩ := Option.bind_eq_some_iff.mp hf
            refine jr_cV01 hF ml_X6_38 (c_X6_takeButter hT h0 hq8) h0 ⟨Nat.le_of_ble_eq_true rfl, Nat.le_of_ble_eq_true rfl⟩ (Nat.le_of_ble_eq_true rfl) dX6_isTable_81 ?_
            refine jr_istore_n (lv' := [(0, .ref (lt_z X + o)), (1, .int q8.1), (2, .int x2)]) hF dX6_isTable_84 rfl (by decide) [1, 0, 2] rfl ?_
            refine jr_goto (tgt := 100) hF dX6_isTable_85 rfl ?_
            refine jr_iinc (v := x2 + 1) (lv' := [(0, .ref (lt_z X + o)), (1, .int q8.1), (2, .int (x2 + 1))]) hF dX6_isTable_100 2 rfl rfl (by decide) [1, 2, 0] rfl ?_
            refine jr_goto (tgt := 16) hF dX6_isTable_103 rfl ?_
            exact ih _ _ _ hf
          rw [if_neg c9] at hf
          refine jr_lookup (off := 44) (tgt := 88) hF dX6_isTable_44 rfl (lt_lkd (lt_i32k c7 rfl) (lt_i32k c9 rfl)) rfl ?_
          refine jr_aload_n hF dX6_isTable_88 0 rfl rfl ?_
          refine jr_aload_n hF dX6_isTable_89 0 rfl rfl ?_
          refine jr_getRT (cr := 7) hF gf_X6_18 hT h0 rfl rfl dX6_isTable_90 (fun th10 => ?_)
          refine jr_getI hF gf_X6_29 th10 dX6_isTable_93 ?_
          obtain ⟨q11, hq11, hf⟩ := Option.bind_eq_some_iff.mp hf
          refine jr_cV11 hF ml_X6_41 (c_X6_takeSetting hT h0 hq11) h0 ⟨Nat.le_of_ble_eq_true rfl, Nat.le_of_ble_eq_true rfl⟩ (Nat.le_of_ble_eq_true rfl) dX6_isTable_96 ?_
          refine jr_istore_n (lv' := [(0, .ref (lt_z X + o)), (1, .int q11.1), (2, .int x2)]) hF dX6_isTable_99 rfl (by decide) [1, 0, 2] rfl ?_
          refine jr_iinc (v := x2 + 1) (lv' := [(0, .ref (lt_z X + o)), (1, .int q11.1), (2, .int (x2 + 1))]) hF dX6_isTable_100 2 rfl rfl (by decide) [1, 2, 0] rfl ?_
          refine jr_goto (tgt := 16) hF dX6_isTable_103 rfl ?_
          exact ih _ _ _ hf
set_option maxRecDepth 100000 in
def fb_X6_isTable_0 (σ : lt_S) (o : Nat) (w : lt_W) : Option (Int32 × lt_W) := Option.bind (f_X5_clear σ (lt_r σ o 1) w) (fun q2 => lt_let (lt_si q2 o 2 0) (fun w3 => fb_X6_isTable_16 σ o lt_fu 1 0 w3))
set_option maxHeartbeats 4000000 in
set_option maxRecDepth 100000 in
theorem jb_X6_isTable_0 {X : lt_X} {σ : lt_S} (hT : lt_Wt σ) {o : Nat} (h0 : lt_c σ o = 6) {r : Int32 × lt_W} (hF : lt_F X cX6_isTable RX6 3 (lt_rm 12)) (hE : lt_E X 0 0 σ (some .boolean) (some (.int r.1)) r.2) : ∀ (w : lt_W), fb_X6_isTable_0 σ o w = some r → lt_J X 0 0 σ w 0 [(0, .ref (lt_z X + o))] [] := by
  intro w hf
  unfold fb_X6_isTable_0 at hf
  refine jr_aload_n hF dX6_isTable_0 0 rfl rfl ?_
  refine jr_getRT (cr := 5) hF gf_X6_12 hT h0 rfl rfl dX6_isTable_1 (fun th1 => ?_)
  obtain ⟨q2, hq2, hf⟩ := Option.bind_eq_some_iff.mp hf
  refine jr_cV0v hF ml_X6_22 (c_X5_clear th1 hq2) th1 ⟨Nat.le_of_ble_eq_true rfl, Nat.le_of_ble_eq_true rfl⟩ (Nat.le_of_ble_eq_true rfl) dX6_isTable_4 ?_
  refine jr_aload_n hF dX6_isTable_7 0 rfl rfl ?_
  refine jr_iconst (v := 0) hF dX6_isTable_8 rfl ?_
  refine jr_putI hF pf_X6_25 h0 dX6_isTable_9 ?_
  refine jr_letW hf (fun w3 hf => ?_)
  refine jr_iconst (v := 1) hF dX6_isTable_12 rfl ?_
  refine jr_istore_n (lv' := [(0, .ref (lt_z X + o)), (1, .int 1)]) hF dX6_isTable_13 rfl (by decide) [1, 0] rfl ?_
  refine jr_iconst (v := 0) hF dX6_isTable_14 rfl ?_
  refine jr_istore_n (lv' := [(0, .ref (lt_z X + o)), (1, .int 1), (2, .int 0)]) hF dX6_isTable_15 rfl (by decide) [1, 2, 0] rfl ?_
  exact jb_X6_isTable_16 hT h0 hF hE lt_fu _ _ _ hf
def f_X6_isTable (σ : lt_S) (o : Nat) (w : lt_W) : Option (Int32 × lt_W) := fb_X6_isTable_0 σ o w
set_option maxRecDepth 100000 in
theorem c_X6_isTable {l : Launch} {D : va_G} {gA : Nat → ClassId} {s0 : State} {σ : lt_S} (hT : lt_Wt σ) {o : Nat} (h0 : lt_c σ o = 6) {w : lt_W} {r : Int32 × lt_W} (hf : f_X6_isTable σ o w = some r) : lt_C l D gA s0 yX6_isTable cX6_isTable 3 (some .boolean) (lt_rm 12) [.ref (s0.heap.size + o)] σ w σ (some (.int r.1)) r.2 := by
  refine lt_enter rfl (Nat.le_of_ble_eq_true rfl) (fun X e1 e2 e3 e4 hF hE => ?_)
  subst e1 e2 e3 e4
  exact jb_X6_isTable_0 hT h0 hF hE _ hf
