set_option maxRecDepth 100000 in
def fb_X11_mark_0 (σ : lt_S) (o : Nat) (w : lt_W) : Option (Int32 × lt_W) := if (lt_gi w o 18) < 3 then lt_ck (lt_gi w o 18) (lt_len σ (lt_r σ o 16)) (Option.bind (f_X5_copyFrom σ (lt_r σ (lt_r σ o 16) (lt_gi w o 18).toNatClampNeg) (lt_r σ o 5) w) (fun q4 => lt_ck (lt_gi q4 o 18) (lt_len σ (lt_r σ o 17)) (Option.bind (f_X9_copyFrom σ (lt_r σ (lt_r σ o 17) (lt_gi q4 o 18).toNatClampNeg) (lt_r σ o 6) q4) (fun q8 => lt_let (lt_si q8 o 18 ((lt_gi q8 o 18) + 1)) (fun w9 => Option.bind (f_X11_given σ o (lt_gi w9 o 18) w9) (fun q10 => some (q10.1, q10.2))))))) else Option.bind (f_X11_none σ o 4 w) (fun q11 => some (q11.1, q11.2))
set_option maxHeartbeats 4000000 in
set_option maxRecDepth 100000 in
theorem jb_X11_mark_0 {X : lt_X} {σ : lt_S} (hT : lt_Wt σ) {o : Nat} (h0 : lt_c σ o = 11) {r : Int32 × lt_W} (hF : lt_F X cX11_mark RX11 1 (lt_rm 3)) (hE : lt_E X 0 0 σ (some .int) (some (.int r.1)) r.2) : ∀ (w : lt_W), fb_X11_mark_0 σ o w = some r → lt_J X 0 0 σ w 0 [(0, .ref (lt_z X + o))] [] := by
  intro w hf
  unfold fb_X11_mark_0 at hf
  refine jr_aload_n hF dX11_mark_0 0 rfl rfl ?_
  refine jr_getI hF gf_X11_398 h0 dX11_mark_1 ?_
  refine jr_iconst (v := 3) hF dX11_mark_4 rfl ?_
  refine jr_icmp_lt (tgt := 14) hF dX11_mark_5 rfl hf (fun hf => ?_) (fun hf => ?_)
  · refine jr_aload_n hF dX11_mark_14 0 rfl rfl ?_
    refine jr_getRT (cr := 55) hF gf_X11_102 hT h0 rfl rfl dX11_mark_15 (fun th1 => ?_)
    refine jr_aload_n hF dX11_mark_18 0 rfl rfl ?_
    refine jr_getI hF gf_X11_398 h0 dX11_mark_19 ?_
    refine jr_aaload (c := 55) hF hT th1 5 rfl rfl rfl dX11_mark_22 hf (fun th2 hf => ?_)
    have th2 : lt_c σ (lt_r σ (lt_r σ o 16) (lt_gi w o 18).toNatClampNeg) = 5 := th2
    refine jr_aload_n hF dX11_mark_23 0 rfl rfl ?_
    refine jr_getRT (cr := 5) hF gf_X11_30 hT h0 rfl rfl dX11_mark_24 (fun th3 => ?_)
    obtain ⟨q4, hq4, hf⟩ := Option.bind_eq_some_iff.mp hf
    refine jr_cV1v hF ml_X11_185 (c_X5_copyFrom hT th2 th3 hq4) th2 ⟨Nat.le_of_ble_eq_true rfl, Nat.le_of_ble_eq_true rfl⟩ (Nat.le_of_ble_eq_true rfl) dX11_mark_27 ?_
    refine jr_aload_n hF dX11_mark_30 0 rfl rfl ?_
    refine jr_getRT (cr := 56) hF gf_X11_106 hT h0 rfl rfl dX11_mark_31 (fun th5 => ?_)
    refine jr_aload_n hF dX11_mark_34 0 rfl rfl ?_
    refine jr_getI hF gf_X11_398 h0 dX11_mark_35 ?_
    refine jr_aaload (c := 56) hF hT th5 6 rfl rfl rfl dX11_mark_38 hf (fun th6 hf => ?_)
    have th6 : lt_c σ (lt_r σ (lt_r σ o 17) (lt_gi q4 o 18).toNatClampNeg) = 9 := th6
    refine jr_aload_n hF dX11_mark_39 0 rfl rfl ?_
    refine jr_getRT (cr := 9) hF gf_X11_37 hT h0 rfl rfl dX11_mark_40 (fun th7 => ?_)
    obtain ⟨q8, hq8, hf⟩ := Option.bind_eq_some_iff.mp hf
    refine jr_cV1v hF ml_X11_208 (c_X9_copyFrom hT th6 th7 hq8) th6 ⟨Nat.le_of_ble_eq_true rfl, Nat.le_of_ble_eq_true rfl⟩ (Nat.le_of_ble_eq_true rfl) dX11_mark_43 ?_
    refine jr_aload_n hF dX11_mark_46 0 rfl rfl ?_
    refine jr_dup hF dX11_mark_47 rfl ?_
    refine jr_getI hF gf_X11_398 h0 dX11_mark_48 ?_
    refine jr_iconst (v := 1) hF dX11_mark_51 rfl ?_
    refine jr_iadd hF dX11_mark_52 ?_
    refine jr_putI hF pf_X11_398 h0 dX11_mark_53 ?_
    refine jr_letW hf (fun w9 hf => ?_)
    refine jr_aload_n hF dX11_mark_56 0 rfl rfl ?_
    refine jr_aload_n hF dX11_mark_57 0 rfl rfl ?_
    refine jr_getI hF gf_X11_398 h0 dX11_mark_58 ?_
    obtain ⟨q10, hq10, hf⟩ := Option.bind_eq_some_iff.mp hf
    refine jr_cV11 hF ml_X11_194 (c_X11_given h0 hq10) h0 ⟨Nat.le_of_ble_eq_true rfl, Nat.le_of_ble_eq_true rfl⟩ (Nat.le_of_ble_eq_true rfl) dX11_mark_61 ?_
    obtain rfl := Option.some.inj hf
    exact jr_ireturn hF hE dX11_mark_64
  · refine jr_aload_n hF dX11_mark_8 0 rfl rfl ?_
    refine jr_iconst (v := 4) hF dX11_mark_9 rfl ?_
    obtain ⟨q11, hq11, hf⟩ := Option.bind_eq_some_iff.mp hf
    refine jr_cV11 hF ml_X11_144 (c_X11_none h0 hq11) h0 ⟨Nat.le_of_ble_eq_true rfl, Nat.le_of_ble_eq_true rfl⟩ (Nat.le_of_ble_eq_true rfl) dX11_mark_10 ?_
    obtain rfl := Option.some.inj hf
    exact jr_ireturn hF hE dX11_mark_13
def f_X11_mark (σ : lt_S) (o : Nat) (w : lt_W) : Option (Int32 × lt_W) := fb_X11_mark_0 σ o w
set_option maxRecDepth 100000 in
theorem c_X11_mark {l : Launch} {D : va_G} {gA : Nat → ClassId} {s0 : State} {σ : lt_S} (hT : lt_Wt σ) {o : Nat} (h0 : lt_c σ o = 11) {w : lt_W} {r : Int32 × lt_W} (hf : f_X11_mark σ o w = some r) : lt_C l D gA s0 yX11_mark cX11_mark 1 (some .int) (lt_rm 3) [.ref (s0.heap.size + o)] σ w σ (some (.int r.1)) r.2 := by
  refine lt_enter rfl (Nat.le_of_ble_eq_true rfl) (fun X e1 e2 e3 e4 hF hE => ?_)
  subst e1 e2 e3 e4
  exact jb_X11_mark_0 hT h0 hF hE _ hf

set_option maxRecDepth 100000 in
def fb_X11_mean_32 (σ : lt_S) (o : Nat) (w : lt_W) : Option (Int32 × lt_W) := Option.bind (f_X11_refused σ o 1 w) (fun q1 => lt_bz q1.1 (some (q1.1, q1.2)))
set_option maxHeartbeats 4000000 in
set_option maxRecDepth 100000 in
theorem jb_X11_mean_32 {X : lt_X} {σ : lt_S} (hT : lt_Wt σ) {o : Nat} (h0 : lt_c σ o = 11) {r : Int32 × lt_W} (hF : lt_F X cX11_mean RX11 5 (lt_rm 16)) (hE : lt_E X 0 0 σ (some .boolean) (some (.int r.1)) r.2) : ∀ (w : lt_W), fb_X11_mean_32 σ o w = some r → lt_J X 0 0 σ w 32 [(0, .ref (lt_z X + o))] [] := by
  intro w hf
  unfold fb_X11_mean_32 at hf
  refine jr_aload_n hF dX11_mean_32 0 rfl rfl ?_
  refine jr_iconst (v := 1) hF dX11_mean_33 rfl ?_
  obtain ⟨q1, hq1, hf⟩ := Option.bind_eq_some_iff.mp hf
  refine jr_cV11 hF ml_X11_125 (c_X11_refused h0 hq1) h0 ⟨Nat.le_of_ble_eq_true rfl, Nat.le_of_ble_eq_true rfl⟩ (Nat.le_of_ble_eq_true rfl) dX11_mean_34 ?_
  obtain ⟨b2, hf⟩ := lt_bzE hf
  obtain rfl := Option.some.inj hf
  exact jr_zreturn hF hE b2 dX11_mean_37
set_option maxRecDepth 100000 in
def fb_X11_mean_74 (σ : lt_S) (o : Nat) : Nat → Int32 → Int32 → Int32 → Int32 → lt_W → Option (Int32 × lt_W)
  | 0, _, _, _, _, _ => none
  | n + 1, x1, x2, x3, x4, w => if x2 ≤ x4 then Option.bind (f_X11_fraction σ o x3.toInt64 x2.toInt64 w) (fun q1 => lt_bz q1.1 (some (q1.1, q1.2))) else Option.bind (f_X2_pass σ (lt_r σ o 13) (x1 + x4) w) (fun q4 => Option.bind (f_X5_countThere σ (lt_r σ o 5) q4) (fun q6 => Option.bind (f_X5_copyFrom σ (lt_r σ o 5) (lt_r σ (lt_r σ o 13) 2) q4) (fun q10 => fb_X11_mean_74 σ o n x1 x2 (x3 + q6) (x4 + 1) q10)))
set_option maxHeartbeats 4000000 in
set_option maxRecDepth 100000 in
theorem jb_X11_mean_74 {X : lt_X} {σ : lt_S} (hT : lt_Wt σ) {o : Nat} (h0 : lt_c σ o = 11) {r : Int32 × lt_W} (hF : lt_F X cX11_mean RX11 5 (lt_rm 16)) (hE : lt_E X 0 0 σ (some .boolean) (some (.int r.1)) r.2) (n : Nat) : ∀ (x1 : Int32) (x2 : Int32) (x3 : Int32) (x4 : Int32) (w : lt_W), fb_X11_mean_74 σ o n x1 x2 x3 x4 w = some r → lt_J X 0 0 σ w 74 [(0, .ref (lt_z X + o)), (1, .int x1), (2, .int x2), (3, .int x3), (4, .int x4)] [] := by
  induction n with
  | zero => intro x1 x2 x3 x4 w hf; rw [fb_X11_mean_74] at hf; cases hf
  | succ n ih =>
    intro x1 x2 x3 x4 w hf
    rw [fb_X11_mean_74] at hf
    refine jr_iload hF dX11_mean_74 4 rfl ?_
    refine jr_iload_n hF dX11_mean_76 2 rfl rfl ?_
    refine jr_icmp_ge (tgt := 121) hF dX11_mean_77 rfl hf (fun hf => ?_) (fun hf => ?_)
    · refine jr_aload_n hF dX11_mean_121 0 rfl rfl ?_
      refine jr_iload_n hF dX11_mean_122 3 rfl rfl ?_
      refine jr_i2l hF dX11_mean_123 ?_
      refine jr_iload_n hF dX11_mean_124 2 rfl rfl ?_
      refine jr_i2l hF dX11_mean_125 ?_
      obtain ⟨q1, hq1, hf⟩ := Option.bind_eq_some_iff.mp hf
      refine jr_cV21 hF ml_X11_356 (c_X11_fraction h0 hq1) h0 ⟨Nat.le_of_ble_eq_true rfl, Nat.le_of_ble_eq_true rfl⟩ (Nat.le_of_ble_eq_true rfl) dX11_mean_126 ?_
      obtain ⟨b2, hf⟩ := lt_bzE hf
      obtain rfl := Option.some.inj hf
      exact jr_zreturn hF hE b2 dX11_mean_129
    · refine jr_aload_n hF dX11_mean_80 0 rfl rfl ?_
      refine jr_getRT (cr := 2) hF gf_X11_94 hT h0 rfl rfl dX11_mean_81 (fun th3 => ?_)
      refine jr_iload_n hF dX11_mean_84 1 rfl rfl ?_
      refine jr_iload hF dX11_mean_85 4 rfl ?_
      refine jr_iadd hF dX11_mean_87 ?_
      obtain ⟨q4, hq4, hf⟩ := Option.bind_eq_some_iff.mp hf
      refine jr_cV1v hF ml_X11_382 (c_X2_pass hT th3 hq4) th3 ⟨Nat.le_of_ble_eq_true rfl, Nat.le_of_ble_eq_true rfl⟩ (Nat.le_of_ble_eq_true rfl) dX11_mean_88 ?_
      refine jr_iload_n hF dX11_mean_91 3 rfl rfl ?_
      refine jr_aload_n hF dX11_mean_92 0 rfl rfl ?_
      refine jr_getRT (cr := 5) hF gf_X11_30 hT h0 rfl rfl dX11_mean_93 (fun th5 => ?_)
      obtain ⟨q6, hq6, hf⟩ := Option.bind_eq_some_iff.mp hf
      refine jr_cV01 hF ml_X11_293 (c_X5_countThere th5 hq6) th5 ⟨Nat.le_of_ble_eq_true rfl, Nat.le_of_ble_eq_true rfl⟩ (Nat.le_of_ble_eq_true rfl) dX11_mean_96 ?_
      refine jr_iadd hF dX11_mean_99 ?_
      refine jr_istore_n (lv' := [(0, .ref (lt_z X + o)), (1, .int x1), (2, .int x2), (3, .int (x3 + q6)), (4, .int x4)]) hF dX11_mean_100 rfl (by decide) [1, 2, 3, 0, 4] rfl ?_
      refine jr_aload_n hF dX11_mean_101 0 rfl rfl ?_
      refine jr_getRT (cr := 5) hF gf_X11_30 hT h0 rfl rfl dX11_mean_102 (fun th7 => ?_)
      refine jr_aload_n hF dX11_mean_105 0 rfl rfl ?_
      refine jr_getRT (cr := 2) hF gf_X11_94 hT h0 rfl rfl dX11_mean_106 (fun th8 => ?_)
      refine jr_getRT (cr := 5) hF gf_X11_395 hT th8 rfl rfl dX11_mean_109 (fun th9 => ?_)
      obtain ⟨q10, hq10, hf⟩ := Option.bind_eq_some_iff.mp hf
      refine jr_cV1v hF ml_X11_185 (c_X5_copyFrom hT th7 th9 hq10) th7 ⟨Nat.le_of_ble_eq_true rfl, Nat.le_of_ble_eq_true rfl⟩ (Nat.le_of_ble_eq_true rfl) dX11_mean_112 ?_
      refine jr_iinc (v := x4 + 1) (lv' := [(0, .ref (lt_z X + o)), (1, .int x1), (2, .int x2), (3, .int (x3 + q6)), (4, .int (x4 + 1))]) hF dX11_mean_115 4 rfl rfl (by decide) [1, 2, 3, 4, 0] rfl ?_
      refine jr_goto (tgt := 74) hF dX11_mean_118 rfl ?_
      exact ih _ _ _ _ _ hf
set_option maxRecDepth 100000 in
def fb_X11_mean_0 (σ : lt_S) (o : Nat) (x1 : Int32) (x2 : Int32) (w : lt_W) : Option (Int32 × lt_W) := Option.bind (f_X11_within x1 0 9999) (fun q1 => if q1 = 0 then fb_X11_mean_32 σ o w else Option.bind (f_X11_within x2 1 20) (fun q2 => if q2 = 0 then fb_X11_mean_32 σ o w else if ((x1 + x2) - 1) ≤ 9999 then if (lt_gi w (lt_r σ o 6) 0) = 0 then Option.bind (f_X11_refused σ o 6 w) (fun q8 => lt_bz q8.1 (some (q8.1, q8.2))) else Option.bind (f_X5_copyFrom σ (lt_r σ (lt_r σ o 13) 2) (lt_r σ o 5) w) (fun q7 => fb_X11_mean_74 σ o lt_fu x1 x2 0 0 q7) else fb_X11_mean_32 σ o w))
set_option maxHeartbeats 4000000 in
set_option maxRecDepth 100000 in
theorem jb_X11_mean_0 {X : lt_X} {σ : lt_S} (hT : lt_Wt σ) {o : Nat} (h0 : lt_c σ o = 11) {r : Int32 × lt_W} (hF : lt_F X cX11_mean RX11 5 (lt_rm 16)) (hE : lt_E X 0 0 σ (some .boolean) (some (.int r.1)) r.2) : ∀ (x1 : Int32) (x2 : Int32) (w : lt_W), fb_X11_mean_0 σ o x1 x2 w = some r → lt_J X 0 0 σ w 0 [(0, .ref (lt_z X + o)), (1, .int x1), (2, .int x2)] [] := by
  intro x1 x2 w hf
  unfold fb_X11_mean_0 at hf
  refine jr_iload_n hF dX11_mean_0 1 rfl rfl ?_
  refine jr_iconst (v := 0) hF dX11_mean_1 rfl ?_
  refine jr_sipush (v := 9999) hF dX11_mean_2 rfl ?_
  obtain ⟨q1, hq1, hf⟩ := Option.bind_eq_some_iff.mp hf
  refine jr_cS31 hF ml_X11_121 (c_X11_within hq1) ⟨Nat.le_of_ble_eq_true rfl, Nat.le_of_ble_eq_true rfl⟩ (Nat.le_of_ble_eq_true rfl) dX11_mean_5 ?_
  refine jr_if_eq (tgt := 32) hF dX11_mean_8 rfl hf (fun hf => ?_) (fun hf => ?_)
  · refine jr_sub [0] rfl ?_
    exact jb_X11_mean_32 hT h0 hF hE _ hf
  · refine jr_iload_n hF dX11_mean_11 2 rfl rfl ?_
    refine jr_iconst (v := 1) hF dX11_mean_12 rfl ?_
    refine jr_bipush (v := 20) hF dX11_mean_13 rfl ?_
    obtain ⟨q2, hq2, hf⟩ := Option.bind_eq_some_iff.mp hf
    refine jr_cS31 hF ml_X11_121 (c_X11_within hq2) ⟨Nat.le_of_ble_eq_true rfl, Nat.le_of_ble_eq_true rfl⟩ (Nat.le_of_ble_eq_true rfl) dX11_mean_15 ?_
    refine jr_if_eq (tgt := 32) hF dX11_mean_18 rfl hf (fun hf => ?_) (fun hf => ?_)
    · refine jr_sub [0] rfl ?_
      exact jb_X11_mean_32 hT h0 hF hE _ hf
    · refine jr_iload_n hF dX11_mean_21 1 rfl rfl ?_
      refine jr_iload_n hF dX11_mean_22 2 rfl rfl ?_
      refine jr_iadd hF dX11_mean_23 ?_
      refine jr_iconst (v := 1) hF dX11_mean_24 rfl ?_
      refine jr_isub hF dX11_mean_25 ?_
      refine jr_sipush (v := 9999) hF dX11_mean_26 rfl ?_
      refine jr_icmp_le (tgt := 38) hF dX11_mean_29 rfl hf (fun hf => ?_) (fun hf => ?_)
      · refine jr_aload_n hF dX11_mean_38 0 rfl rfl ?_
        refine jr_getRT (cr := 9) hF gf_X11_37 hT h0 rfl rfl dX11_mean_39 (fun th3 => ?_)
        refine jr_getI hF gf_X11_379 th3 dX11_mean_42 ?_
        refine jr_if_ne (tgt := 55) hF dX11_mean_45 rfl hf (fun hf => ?_) (fun hf => ?_)
        · refine jr_iconst (v := 0) hF dX11_mean_55 rfl ?_
          refine jr_istore_n (lv' := [(0, .ref (lt_z X + o)), (1, .int x1), (2, .int x2), (3, .int 0)]) hF dX11_mean_56 rfl (by decide) [1, 2, 3, 0] rfl ?_
          refine jr_aload_n hF dX11_mean_57 0 rfl rfl ?_
          refine jr_getRT (cr := 2) hF gf_X11_94 hT h0 rfl rfl dX11_mean_58 (fun th4 => ?_)
          refine jr_getRT (cr := 5) hF gf_X11_395 hT th4 rfl rfl dX11_mean_61 (fun th5 => ?_)
          refine jr_aload_n hF dX11_mean_64 0 rfl rfl ?_
          refine jr_getRT (cr := 5) hF gf_X11_30 hT h0 rfl rfl dX11_mean_65 (fun th6 => ?_)
          obtain ⟨q7, hq7, hf⟩ := Option.bind_eq_some_iff.mp hf
          refine jr_cV1v hF ml_X11_185 (c_X5_copyFrom hT th5 th6 hq7) th5 ⟨Nat.le_of_ble_eq_true rfl, Nat.le_of_ble_eq_true rfl⟩ (Nat.le_of_ble_eq_true rfl) dX11_mean_68 ?_
          refine jr_iconst (v := 0) hF dX11_mean_71 rfl ?_
          refine jr_istore (lv' := [(0, .ref (lt_z X + o)), (1, .int x1), (2, .int x2), (3, .int 0), (4, .int 0)]) hF dX11_mean_72 (by decide) [1, 2, 3, 4, 0] rfl ?_
          exact jb_X11_mean_74 hT h0 hF hE lt_fu _ _ _ _ _ hf
        · refine jr_aload_n hF dX11_mean_48 0 rfl rfl ?_
          refine jr_bipush (v := 6) hF dX11_mean_49 rfl ?_
          obtain ⟨q8, hq8, hf⟩ := Option.bind_eq_some_iff.mp hf
          refine jr_cV11 hF ml_X11_125 (c_X11_refused h0 hq8) h0 ⟨Nat.le_of_ble_eq_true rfl, Nat.le_of_ble_eq_true rfl⟩ (Nat.le_of_ble_eq_true rfl) dX11_mean_51 ?_
          obtain ⟨b9, hf⟩ := lt_bzE hf
          obtain rfl := Option.some.inj hf
          exact jr_zreturn hF hE b9 dX11_mean_54
      · refine jr_sub [0] rfl ?_
        exact jb_X11_mean_32 hT h0 hF hE _ hf
def f_X11_mean (σ : lt_S) (o : Nat) (x1 : Int32) (x2 : Int32) (w : lt_W) : Option (Int32 × lt_W) := fb_X11_mean_0 σ o x1 x2 w
set_option maxRecDepth 100000 in
theorem c_X11_mean {l : Launch} {D : va_G} {gA : Nat → ClassId} {s0 : State} {σ : lt_S} (hT : lt_Wt σ) {o : Nat} (h0 : lt_c σ o = 11) {x1 : Int32} {x2 : Int32} {w : lt_W} {r : Int32 × lt_W} (hf : f_X11_mean σ o x1 x2 w = some r) : lt_C l D gA s0 yX11_mean cX11_mean 5 (some .boolean) (lt_rm 16) [.ref (s0.heap.size + o), .int x1, .int x2] σ w σ (some (.int r.1)) r.2 := by
  refine lt_enter rfl (Nat.le_of_ble_eq_true rfl) (fun X e1 e2 e3 e4 hF hE => ?_)
  subst e1 e2 e3 e4
  exact jb_X11_mean_0 hT h0 hF hE _ _ _ hf

set_option maxRecDepth 100000 in
def fb_X11_moveOf_18 (σ : lt_S) (o : Nat) (w : lt_W) : Option (Int32 × lt_W) := Option.bind (f_X11_none σ o 1 w) (fun q1 => some (q1.1, q1.2))
set_option maxHeartbeats 4000000 in
set_option maxRecDepth 100000 in
theorem jb_X11_moveOf_18 {X : lt_X} {σ : lt_S} (hT : lt_Wt σ) {o : Nat} (h0 : lt_c σ o = 11) {r : Int32 × lt_W} (hF : lt_F X cX11_moveOf RX11 4 (lt_rm 16)) (hE : lt_E X 0 0 σ (some .int) (some (.int r.1)) r.2) : ∀ (w : lt_W), fb_X11_moveOf_18 σ o w = some r → lt_J X 0 0 σ w 18 [(0, .ref (lt_z X + o))] [] := by
  intro w hf
  unfold fb_X11_moveOf_18 at hf
  refine jr_aload_n hF dX11_moveOf_18 0 rfl rfl ?_
  refine jr_iconst (v := 1) hF dX11_moveOf_19 rfl ?_
  obtain ⟨q1, hq1, hf⟩ := Option.bind_eq_some_iff.mp hf
  refine jr_cV11 hF ml_X11_144 (c_X11_none h0 hq1) h0 ⟨Nat.le_of_ble_eq_true rfl, Nat.le_of_ble_eq_true rfl⟩ (Nat.le_of_ble_eq_true rfl) dX11_moveOf_20 ?_
  obtain rfl := Option.some.inj hf
  exact jr_ireturn hF hE dX11_moveOf_23
set_option maxRecDepth 100000 in
def fb_X11_moveOf_0 (σ : lt_S) (o : Nat) (x1 : Int32) (x2 : Int32) (x3 : Int32) (w : lt_W) : Option (Int32 × lt_W) := Option.bind (f_X11_areTwo σ o x1 x2 w) (fun q1 => if q1 = 0 then fb_X11_moveOf_18 σ o w else Option.bind (f_X11_within x3 1 3) (fun q2 => if q2 = 0 then fb_X11_moveOf_18 σ o w else Option.bind (f_X1_outcomeOf σ (lt_r σ o 12) x1 x2 x3 w) (fun q4 => Option.bind (f_X11_givenIfAny σ o (lt_gi q4.2 (lt_r σ o 12) 6) q4.2) (fun q6 => some (q6.1, q6.2)))))
set_option maxHeartbeats 4000000 in
set_option maxRecDepth 100000 in
theorem jb_X11_moveOf_0 {X : lt_X} {σ : lt_S} (hT : lt_Wt σ) {o : Nat} (h0 : lt_c σ o = 11) {r : Int32 × lt_W} (hF : lt_F X cX11_moveOf RX11 4 (lt_rm 16)) (hE : lt_E X 0 0 σ (some .int) (some (.int r.1)) r.2) : ∀ (x1 : Int32) (x2 : Int32) (x3 : Int32) (w : lt_W), fb_X11_moveOf_0 σ o x1 x2 x3 w = some r → lt_J X 0 0 σ w 0 [(0, .ref (lt_z X + o)), (1, .int x1), (2, .int x2), (3, .int x3)] [] := by
  intro x1 x2 x3 w hf
  unfold fb_X11_moveOf_0 at hf
  refine jr_aload_n hF dX11_moveOf_0 0 rfl rfl ?_
  refine jr_iload_n hF dX11_moveOf_1 1 rfl rfl ?_
  refine jr_iload_n hF dX11_moveOf_2 2 rfl rfl ?_
  obtain ⟨q1, hq1, hf⟩ := Option.bind_eq_some_iff.mp hf
  refine jr_cV21 hF ml_X11_299 (c_X11_areTwo hT h0 hq1) h0 ⟨Nat.le_of_ble_eq_true rfl, Nat.le_of_ble_eq_true rfl⟩ (Nat.le_of_ble_eq_true rfl) dX11_moveOf_3 ?_
  refine jr_if_eq (tgt := 18) hF dX11_moveOf_6 rfl hf (fun hf => ?_) (fun hf => ?_)
  · refine jr_sub [0] rfl ?_
    exact jb_X11_moveOf_18 hT h0 hF hE _ hf
  · refine jr_iload_n hF dX11_moveOf_9 3 rfl rfl ?_
    refine jr_iconst (v := 1) hF dX11_moveOf_10 rfl ?_
    refine jr_iconst (v := 3) hF dX11_moveOf_11 rfl ?_
    obtain ⟨q2, hq2, hf⟩ := Option.bind_eq_some_iff.mp hf
    refine jr_cS31 hF ml_X11_121 (c_X11_within hq2) ⟨Nat.le_of_ble_eq_true rfl, Nat.le_of_ble_eq_true rfl⟩ (Nat.le_of_ble_eq_true rfl) dX11_moveOf_12 ?_
    refine jr_if_ne (tgt := 24) hF dX11_moveOf_15 rfl hf (fun hf => ?_) (fun hf => ?_)
    · refine jr_aload_n hF dX11_moveOf_24 0 rfl rfl ?_
      refine jr_getRT (cr := 1) hF gf_X11_85 hT h0 rfl rfl dX11_moveOf_25 (fun th3 => ?_)
      refine jr_iload_n hF dX11_moveOf_28 1 rfl rfl ?_
      refine jr_iload_n hF dX11_moveOf_29 2 rfl rfl ?_
      refine jr_iload_n hF dX11_moveOf_30 3 rfl rfl ?_
      obtain ⟨q4, hq4, hf⟩ := Option.bind_eq_some_iff.mp hf
      refine jr_cV31 hF ml_X11_373 (c_X1_outcomeOf hT th3 hq4) th3 ⟨Nat.le_of_ble_eq_true rfl, Nat.le_of_ble_eq_true rfl⟩ (Nat.le_of_ble_eq_true rfl) dX11_moveOf_31 ?_
      refine jr_pop hF dX11_moveOf_34 rfl ?_
      refine jr_aload_n hF dX11_moveOf_35 0 rfl rfl ?_
      refine jr_aload_n hF dX11_moveOf_36 0 rfl rfl ?_
      refine jr_getRT (cr := 1) hF gf_X11_85 hT h0 rfl rfl dX11_moveOf_37 (fun th5 => ?_)
      refine jr_getI hF gf_X11_376 th5 dX11_moveOf_40 ?_
      obtain ⟨q6, hq6, hf⟩ := Option.bind_eq_some_iff.mp hf
      refine jr_cV11 hF ml_X11_275 (c_X11_givenIfAny h0 hq6) h0 ⟨Nat.le_of_ble_eq_true rfl, Nat.le_of_ble_eq_true rfl⟩ (Nat.le_of_ble_eq_true rfl) dX11_moveOf_43 ?_
      obtain rfl := Option.some.inj hf
      exact jr_ireturn hF hE dX11_moveOf_46
    · refine jr_sub [0] rfl ?_
      exact jb_X11_moveOf_18 hT h0 hF hE _ hf
def f_X11_moveOf (σ : lt_S) (o : Nat) (x1 : Int32) (x2 : Int32) (x3 : Int32) (w : lt_W) : Option (Int32 × lt_W) := fb_X11_moveOf_0 σ o x1 x2 x3 w
set_option maxRecDepth 100000 in
theorem c_X11_moveOf {l : Launch} {D : va_G} {gA : Nat → ClassId} {s0 : State} {σ : lt_S} (hT : lt_Wt σ) {o : Nat} (h0 : lt_c σ o = 11) {x1 : Int32} {x2 : Int32} {x3 : Int32} {w : lt_W} {r : Int32 × lt_W} (hf : f_X11_moveOf σ o x1 x2 x3 w = some r) : lt_C l D gA s0 yX11_moveOf cX11_moveOf 4 (some .int) (lt_rm 16) [.ref (s0.heap.size + o), .int x1, .int x2, .int x3] σ w σ (some (.int r.1)) r.2 := by
  refine lt_enter rfl (Nat.le_of_ble_eq_true rfl) (fun X e1 e2 e3 e4 hF hE => ?_)
  subst e1 e2 e3 e4
  exact jb_X11_moveOf_0 hT h0 hF hE _ _ _ _ hf

set_option maxRecDepth 100000 in
def fb_X11_next_0 (σ : lt_S) (o : Nat) (w : lt_W) : Option (Int32 × lt_W) := Option.bind (f_X0_findNext σ (lt_r σ o 9) w) (fun q2 => Option.bind (f_X11_givenIfAny σ o (lt_gi q2 (lt_r σ o 9) 2) q2) (fun q4 => some (q4.1, q4.2)))
set_option maxHeartbeats 4000000 in
set_option maxRecDepth 100000 in
theorem jb_X11_next_0 {X : lt_X} {σ : lt_S} (hT : lt_Wt σ) {o : Nat} (h0 : lt_c σ o = 11) {r : Int32 × lt_W} (hF : lt_F X cX11_next RX11 1 (lt_rm 6)) (hE : lt_E X 0 0 σ (some .int) (some (.int r.1)) r.2) : ∀ (w : lt_W), fb_X11_next_0 σ o w = some r → lt_J X 0 0 σ w 0 [(0, .ref (lt_z X + o))] [] := by
  intro w hf
  unfold fb_X11_next_0 at hf
  refine jr_aload_n hF dX11_next_0 0 rfl rfl ?_
  refine jr_getRT (cr := 0) hF gf_X11_64 hT h0 rfl rfl dX11_next_1 (fun th1 => ?_)
  obtain ⟨q2, hq2, hf⟩ := Option.bind_eq_some_iff.mp hf
  refine jr_cV0v hF ml_X11_313 (c_X0_findNext hT th1 hq2) th1 ⟨Nat.le_of_ble_eq_true rfl, Nat.le_of_ble_eq_true rfl⟩ (Nat.le_of_ble_eq_true rfl) dX11_next_4 ?_
  refine jr_aload_n hF dX11_next_7 0 rfl rfl ?_
  refine jr_aload_n hF dX11_next_8 0 rfl rfl ?_
  refine jr_getRT (cr := 0) hF gf_X11_64 hT h0 rfl rfl dX11_next_9 (fun th3 => ?_)
  refine jr_getI hF gf_X11_316 th3 dX11_next_12 ?_
  obtain ⟨q4, hq4, hf⟩ := Option.bind_eq_some_iff.mp hf
  refine jr_cV11 hF ml_X11_275 (c_X11_givenIfAny h0 hq4) h0 ⟨Nat.le_of_ble_eq_true rfl, Nat.le_of_ble_eq_true rfl⟩ (Nat.le_of_ble_eq_true rfl) dX11_next_15 ?_
  obtain rfl := Option.some.inj hf
  exact jr_ireturn hF hE dX11_next_18
def f_X11_next (σ : lt_S) (o : Nat) (w : lt_W) : Option (Int32 × lt_W) := fb_X11_next_0 σ o w
set_option maxRecDepth 100000 in
theorem c_X11_next {l : Launch} {D : va_G} {gA : Nat → ClassId} {s0 : State} {σ : lt_S} (hT : lt_Wt σ) {o : Nat} (h0 : lt_c σ o = 11) {w : lt_W} {r : Int32 × lt_W} (hf : f_X11_next σ o w = some r) : lt_C l D gA s0 yX11_next cX11_next 1 (some .int) (lt_rm 6) [.ref (s0.heap.size + o)] σ w σ (some (.int r.1)) r.2 := by
  refine lt_enter rfl (Nat.le_of_ble_eq_true rfl) (fun X e1 e2 e3 e4 hF hE => ?_)
  subst e1 e2 e3 e4
  exact jb_X11_next_0 hT h0 hF hE _ hf

set_option maxRecDepth 100000 in
def fb_X11_nextBy_0 (σ : lt_S) (o : Nat) (w : lt_W) : Option (Int32 × lt_W) := Option.bind (f_X0_findNext σ (lt_r σ o 9) w) (fun q2 => Option.bind (f_X11_givenIfAny σ o (lt_gi q2 (lt_r σ o 9) 3) q2) (fun q4 => some (q4.1, q4.2)))
set_option maxHeartbeats 4000000 in
set_option maxRecDepth 100000 in
theorem jb_X11_nextBy_0 {X : lt_X} {σ : lt_S} (hT : lt_Wt σ) {o : Nat} (h0 : lt_c σ o = 11) {r : Int32 × lt_W} (hF : lt_F X cX11_nextBy RX11 1 (lt_rm 6)) (hE : lt_E X 0 0 σ (some .int) (some (.int r.1)) r.2) : ∀ (w : lt_W), fb_X11_nextBy_0 σ o w = some r → lt_J X 0 0 σ w 0 [(0, .ref (lt_z X + o))] [] := by
  intro w hf
  unfold fb_X11_nextBy_0 at hf
  refine jr_aload_n hF dX11_nextBy_0 0 rfl rfl ?_
  refine jr_getRT (cr := 0) hF gf_X11_64 hT h0 rfl rfl dX11_nextBy_1 (fun th1 => ?_)
  obtain ⟨q2, hq2, hf⟩ := Option.bind_eq_some_iff.mp hf
  refine jr_cV0v hF ml_X11_313 (c_X0_findNext hT th1 hq2) th1 ⟨Nat.le_of_ble_eq_true rfl, Nat.le_of_ble_eq_true rfl⟩ (Nat.le_of_ble_eq_true rfl) dX11_nextBy_4 ?_
  refine jr_aload_n hF dX11_nextBy_7 0 rfl rfl ?_
  refine jr_aload_n hF dX11_nextBy_8 0 rfl rfl ?_
  refine jr_getRT (cr := 0) hF gf_X11_64 hT h0 rfl rfl dX11_nextBy_9 (fun th3 => ?_)
  refine jr_getI hF gf_X11_319 th3 dX11_nextBy_12 ?_
  obtain ⟨q4, hq4, hf⟩ := Option.bind_eq_some_iff.mp hf
  refine jr_cV11 hF ml_X11_275 (c_X11_givenIfAny h0 hq4) h0 ⟨Nat.le_of_ble_eq_true rfl, Nat.le_of_ble_eq_true rfl⟩ (Nat.le_of_ble_eq_true rfl) dX11_nextBy_15 ?_
  obtain rfl := Option.some.inj hf
  exact jr_ireturn hF hE dX11_nextBy_18
def f_X11_nextBy (σ : lt_S) (o : Nat) (w : lt_W) : Option (Int32 × lt_W) := fb_X11_nextBy_0 σ o w
set_option maxRecDepth 100000 in
theorem c_X11_nextBy {l : Launch} {D : va_G} {gA : Nat → ClassId} {s0 : State} {σ : lt_S} (hT : lt_Wt σ) {o : Nat} (h0 : lt_c σ o = 11) {w : lt_W} {r : Int32 × lt_W} (hf : f_X11_nextBy σ o w = some r) : lt_C l D gA s0 yX11_nextBy cX11_nextBy 1 (some .int) (lt_rm 6) [.ref (s0.heap.size + o)] σ w σ (some (.int r.1)) r.2 := by
  refine lt_enter rfl (Nat.le_of_ble_eq_true rfl) (fun X e1 e2 e3 e4 hF hE => ?_)
  subst e1 e2 e3 e4
  exact jb_X11_nextBy_0 hT h0 hF hE _ hf

set_option maxRecDepth 100000 in
def fb_X11_plan_0 (σ : lt_S) (o : Nat) (x1 : Int32) (w : lt_W) : Option (Int32 × lt_W) := Option.bind (f_X11_within x1 1 5) (fun q1 => if q1 = 0 then Option.bind (f_X11_none σ o 1 w) (fun q5 => some (q5.1, q5.2)) else Option.bind (f_X3_leastDear σ (lt_r σ o 10) x1 w) (fun q3 => Option.bind (f_X11_givenIfAny σ o q3.1 q3.2) (fun q4 => some (q4.1, q4.2))))
set_option maxHeartbeats 4000000 in
set_option maxRecDepth 100000 in
theorem jb_X11_plan_0 {X : lt_X} {σ : lt_S} (hT : lt_Wt σ) {o : Nat} (h0 : lt_c σ o = 11) {r : Int32 × lt_W} (hF : lt_F X cX11_plan RX11 2 (lt_rm 22)) (hE : lt_E X 0 0 σ (some .int) (some (.int r.1)) r.2) : ∀ (x1 : Int32) (w : lt_W), fb_X11_plan_0 σ o x1 w = some r → lt_J X 0 0 σ w 0 [(0, .ref (lt_z X + o)), (1, .int x1)] [] := by
  intro x1 w hf
  unfold fb_X11_plan_0 at hf
  refine jr_iload_n hF dX11_plan_0 1 rfl rfl ?_
  refine jr_iconst (v := 1) hF dX11_plan_1 rfl ?_
  refine jr_iconst (v := 5) hF dX11_plan_2 rfl ?_
  obtain ⟨q1, hq1, hf⟩ := Option.bind_eq_some_iff.mp hf
  refine jr_cS31 hF ml_X11_121 (c_X11_within hq1) ⟨Nat.le_of_ble_eq_true rfl, Nat.le_of_ble_eq_true rfl⟩ (Nat.le_of_ble_eq_true rfl) dX11_plan_3 ?_
  refine jr_if_ne (tgt := 15) hF dX11_plan_6 rfl hf (fun hf => ?_) (fun hf => ?_)
  · refine jr_aload_n hF dX11_plan_15 0 rfl rfl ?_
    refine jr_aload_n hF dX11_plan_16 0 rfl rfl ?_
    refine jr_getRT (cr := 3) hF gf_X11_71 hT h0 rfl rfl dX11_plan_17 (fun th2 => ?_)
    refine jr_iload_n hF dX11_plan_20 1 rfl rfl ?_
    obtain ⟨q3, hq3, hf⟩ := Option.bind_eq_some_iff.mp hf
    refine jr_cV11 hF ml_X11_331 (c_X3_leastDear hT th2 hq3) th2 ⟨Nat.le_of_ble_eq_true rfl, Nat.le_of_ble_eq_true rfl⟩ (Nat.le_of_ble_eq_true rfl) dX11_plan_21 ?_
    obtain ⟨q4, hq4, hf⟩ := Option.bind_eq_some_iff.mp hf
    refine jr_cV11 hF ml_X11_275 (c_X11_givenIfAny h0 hq4) h0 ⟨Nat.le_of_ble_eq_true rfl, Nat.le_of_ble_eq_true rfl⟩ (Nat.le_of_ble_eq_true rfl) dX11_plan_24 ?_
    obtain rfl := Option.some.inj hf
    exact jr_ireturn hF hE dX11_plan_27
  · refine jr_aload_n hF dX11_plan_9 0 rfl rfl ?_
    refine jr_iconst (v := 1) hF dX11_plan_10 rfl ?_
    obtain ⟨q5, hq5, hf⟩ := Option.bind_eq_some_iff.mp hf
    refine jr_cV11 hF ml_X11_144 (c_X11_none h0 hq5) h0 ⟨Nat.le_of_ble_eq_true rfl, Nat.le_of_ble_eq_true rfl⟩ (Nat.le_of_ble_eq_true rfl) dX11_plan_11 ?_
    obtain rfl := Option.some.inj hf
    exact jr_ireturn hF hE dX11_plan_14
def f_X11_plan (σ : lt_S) (o : Nat) (x1 : Int32) (w : lt_W) : Option (Int32 × lt_W) := fb_X11_plan_0 σ o x1 w
set_option maxRecDepth 100000 in
theorem c_X11_plan {l : Launch} {D : va_G} {gA : Nat → ClassId} {s0 : State} {σ : lt_S} (hT : lt_Wt σ) {o : Nat} (h0 : lt_c σ o = 11) {x1 : Int32} {w : lt_W} {r : Int32 × lt_W} (hf : f_X11_plan σ o x1 w = some r) : lt_C l D gA s0 yX11_plan cX11_plan 2 (some .int) (lt_rm 22) [.ref (s0.heap.size + o), .int x1] σ w σ (some (.int r.1)) r.2 := by
  refine lt_enter rfl (Nat.le_of_ble_eq_true rfl) (fun X e1 e2 e3 e4 hF hE => ?_)
  subst e1 e2 e3 e4
  exact jb_X11_plan_0 hT h0 hF hE _ _ hf

set_option maxRecDepth 100000 in
def fb_X11_planAt_20 (σ : lt_S) (o : Nat) (w : lt_W) : Option (Int32 × lt_W) := Option.bind (f_X11_none σ o 1 w) (fun q1 => some (q1.1, q1.2))
set_option maxHeartbeats 4000000 in
set_option maxRecDepth 100000 in
theorem jb_X11_planAt_20 {X : lt_X} {σ : lt_S} (hT : lt_Wt σ) {o : Nat} (h0 : lt_c σ o = 11) {r : Int32 × lt_W} (hF : lt_F X cX11_planAt RX11 4 (lt_rm 22)) (hE : lt_E X 0 0 σ (some .int) (some (.int r.1)) r.2) : ∀ (w : lt_W), fb_X11_planAt_20 σ o w = some r → lt_J X 0 0 σ w 20 [(0, .ref (lt_z X + o))] [] := by
  intro w hf
  unfold fb_X11_planAt_20 at hf
  refine jr_aload_n hF dX11_planAt_20 0 rfl rfl ?_
  refine jr_iconst (v := 1) hF dX11_planAt_21 rfl ?_
  obtain ⟨q1, hq1, hf⟩ := Option.bind_eq_some_iff.mp hf
  refine jr_cV11 hF ml_X11_144 (c_X11_none h0 hq1) h0 ⟨Nat.le_of_ble_eq_true rfl, Nat.le_of_ble_eq_true rfl⟩ (Nat.le_of_ble_eq_true rfl) dX11_planAt_22 ?_
  obtain rfl := Option.some.inj hf
  exact jr_ireturn hF hE dX11_planAt_25
set_option maxRecDepth 100000 in
def fb_X11_planAt_72 (σ : lt_S) (o : Nat) (y1 : Int32) (w : lt_W) : Option (Int32 × lt_W) := Option.bind (f_X11_given σ o y1 w) (fun q1 => some (q1.1, q1.2))
set_option maxHeartbeats 4000000 in
set_option maxRecDepth 100000 in
theorem jb_X11_planAt_72 {X : lt_X} {σ : lt_S} (hT : lt_Wt σ) {o : Nat} (h0 : lt_c σ o = 11) {r : Int32 × lt_W} (hF : lt_F X cX11_planAt RX11 4 (lt_rm 22)) (hE : lt_E X 0 0 σ (some .int) (some (.int r.1)) r.2) : ∀ (y1 : Int32) (w : lt_W), fb_X11_planAt_72 σ o y1 w = some r → lt_J X 0 0 σ w 72 [(0, .ref (lt_z X + o))] [.int y1, .ref (lt_z X + o)] := by
  intro y1 w hf
  unfold fb_X11_planAt_72 at hf
  obtain ⟨q1, hq1, hf⟩ := Option.bind_eq_some_iff.mp hf
  refine jr_cV11 hF ml_X11_194 (c_X11_given h0 hq1) h0 ⟨Nat.le_of_ble_eq_true rfl, Nat.le_of_ble_eq_true rfl⟩ (Nat.le_of_ble_eq_true rfl) dX11_planAt_72 ?_
  obtain rfl := Option.some.inj hf
  exact jr_ireturn hF hE dX11_planAt_75
set_option maxRecDepth 100000 in
def fb_X11_planAt_0 (σ : lt_S) (o : Nat) (x1 : Int32) (x2 : Int32) (w : lt_W) : Option (Int32 × lt_W) := Option.bind (f_X11_within x1 1 5) (fun q1 => if q1 = 0 then fb_X11_planAt_20 σ o w else Option.bind (f_X11_within x2 0 (x1 - 1)) (fun q2 => if q2 = 0 then fb_X11_planAt_20 σ o w else Option.bind (f_X3_leastDear σ (lt_r σ o 10) x1 w) (fun q4 => if q4.1 = (-1) then Option.bind (f_X11_none σ o 6 q4.2) (fun q9 => some (q9.1, q9.2)) else lt_ck x2 (lt_len σ (lt_r σ (lt_r σ o 10) 3)) (lt_let (lt_gi q4.2 (lt_r σ (lt_r σ o 10) 3) x2.toNatClampNeg) (fun z7 => if z7 = (-1) then fb_X11_planAt_72 σ o (lt_gi q4.2 (lt_r σ o 5) 0) q4.2 else fb_X11_planAt_72 σ o z7 q4.2)))))
set_option maxHeartbeats 4000000 in
set_option maxRecDepth 100000 in
theorem jb_X11_planAt_0 {X : lt_X} {σ : lt_S} (hT : lt_Wt σ) {o : Nat} (h0 : lt_c σ o = 11) {r : Int32 × lt_W} (hF : lt_F X cX11_planAt RX11 4 (lt_rm 22)) (hE : lt_E X 0 0 σ (some .int) (some (.int r.1)) r.2) : ∀ (x1 : Int32) (x2 : Int32) (w : lt_W), fb_X11_planAt_0 σ o x1 x2 w = some r → lt_J X 0 0 σ w 0 [(0, .ref (lt_z X + o)), (1, .int x1), (2, .int x2)] [] := by
  intro x1 x2 w hf
  unfold fb_X11_planAt_0 at hf
  refine jr_iload_n hF dX11_planAt_0 1 rfl rfl ?_
  refine jr_iconst (v := 1) hF dX11_planAt_1 rfl ?_
  refine jr_iconst (v := 5) hF dX11_planAt_2 rfl ?_
  obtain ⟨q1, hq1, hf⟩ := Option.bind_eq_some_iff.mp hf
  refine jr_cS31 hF ml_X11_121 (c_X11_within hq1) ⟨Nat.le_of_ble_eq_true rfl, Nat.le_of_ble_eq_true rfl⟩ (Nat.le_of_ble_eq_true rfl) dX11_planAt_3 ?_
  refine jr_if_eq (tgt := 20) hF dX11_planAt_6 rfl hf (fun hf => ?_) (fun hf => ?_)
  · refine jr_sub [0] rfl ?_
    exact jb_X11_planAt_20 hT h0 hF hE _ hf
  · refine jr_iload_n hF dX11_planAt_9 2 rfl rfl ?_
    refine jr_iconst (v := 0) hF dX11_planAt_10 rfl ?_
    refine jr_iload_n hF dX11_planAt_11 1 rfl rfl ?_
    refine jr_iconst (v := 1) hF dX11_planAt_12 rfl ?_
    refine jr_isub hF dX11_planAt_13 ?_
    obtain ⟨q2, hq2, hf⟩ := Option.bind_eq_some_iff.mp hf
    refine jr_cS31 hF ml_X11_121 (c_X11_within hq2) ⟨Nat.le_of_ble_eq_true rfl, Nat.le_of_ble_eq_true rfl⟩ (Nat.le_of_ble_eq_true rfl) dX11_planAt_14 ?_
    refine jr_if_ne (tgt := 26) hF dX11_planAt_17 rfl hf (fun hf => ?_) (fun hf => ?_)
    · refine jr_aload_n hF dX11_planAt_26 0 rfl rfl ?_
      refine jr_getRT (cr := 3) hF gf_X11_71 hT h0 rfl rfl dX11_planAt_27 (fun th3 => ?_)
      refine jr_iload_n hF dX11_planAt_30 1 rfl rfl ?_
      obtain ⟨q4, hq4, hf⟩ := Option.bind_eq_some_iff.mp hf
      refine jr_cV11 hF ml_X11_331 (c_X3_leastDear hT th3 hq4) th3 ⟨Nat.le_of_ble_eq_true rfl, Nat.le_of_ble_eq_true rfl⟩ (Nat.le_of_ble_eq_true rfl) dX11_planAt_31 ?_
      refine jr_iconst (v := (-1)) hF dX11_planAt_34 rfl ?_
      refine jr_icmp_ne (tgt := 45) hF dX11_planAt_35 rfl hf (fun hf => ?_) (fun hf => ?_)
      · refine jr_aload_n hF dX11_planAt_45 0 rfl rfl ?_
        refine jr_getRT (cr := 3) hF gf_X11_71 hT h0 rfl rfl dX11_planAt_46 (fun th5 => ?_)
        refine jr_getRT (cr := 50) hF gf_X11_334 hT th5 rfl rfl dX11_planAt_49 (fun th6 => ?_)
        refine jr_iload_n hF dX11_planAt_52 2 rfl rfl ?_
        refine jr_iaload hF th6 dX11_planAt_53 hf (fun hf => ?_)
        refine jr_letI hf (fun z7 hf => ?_)
        refine jr_istore_n (lv' := [(0, .ref (lt_z X + o)), (3, .int z7)]) hF dX11_planAt_54 rfl (by decide) [1, 0] rfl ?_
        refine jr_aload_n hF dX11_planAt_55 0 rfl rfl ?_
        refine jr_iload_n hF dX11_planAt_56 1 rfl rfl ?_
        refine jr_iconst (v := (-1)) hF dX11_planAt_57 rfl ?_
        refine jr_icmp_ne (tgt := 71) hF dX11_planAt_58 rfl hf (fun hf => ?_) (fun hf => ?_)
        · refine jr_iload_n hF dX11_planAt_71 1 rfl rfl ?_
          refine jr_sub [0] rfl ?_
          exact jb_X11_planAt_72 hT h0 hF hE _ _ hf
        · refine jr_aload_n hF dX11_planAt_61 0 rfl rfl ?_
          refine jr_getRT (cr := 5) hF gf_X11_30 hT h0 rfl rfl dX11_planAt_62 (fun th8 => ?_)
          refine jr_getI hF gf_X11_191 th8 dX11_planAt_65 ?_
          refine jr_goto (tgt := 72) hF dX11_planAt_68 rfl ?_
          refine jr_sub [0] rfl ?_
          exact jb_X11_planAt_72 hT h0 hF hE _ _ hf
      · refine jr_aload_n hF dX11_planAt_38 0 rfl rfl ?_
        refine jr_bipush (v := 6) hF dX11_planAt_39 rfl ?_
        obtain ⟨q9, hq9, hf⟩ := Option.bind_eq_some_iff.mp hf
        refine jr_cV11 hF ml_X11_144 (c_X11_none h0 hq9) h0 ⟨Nat.le_of_ble_eq_true rfl, Nat.le_of_ble_eq_true rfl⟩ (Nat.le_of_ble_eq_true rfl) dX11_planAt_41 ?_
        obtain rfl := Option.some.inj hf
        exact jr_ireturn hF hE dX11_planAt_44
    · refine jr_sub [0] rfl ?_
      exact jb_X11_planAt_20 hT h0 hF hE _ hf
def f_X11_planAt (σ : lt_S) (o : Nat) (x1 : Int32) (x2 : Int32) (w : lt_W) : Option (Int32 × lt_W) := fb_X11_planAt_0 σ o x1 x2 w
set_option maxRecDepth 100000 in
theorem c_X11_planAt {l : Launch} {D : va_G} {gA : Nat → ClassId} {s0 : State} {σ : lt_S} (hT : lt_Wt σ) {o : Nat} (h0 : lt_c σ o = 11) {x1 : Int32} {x2 : Int32} {w : lt_W} {r : Int32 × lt_W} (hf : f_X11_planAt σ o x1 x2 w = some r) : lt_C l D gA s0 yX11_planAt cX11_planAt 4 (some .int) (lt_rm 22) [.ref (s0.heap.size + o), .int x1, .int x2] σ w σ (some (.int r.1)) r.2 := by
  refine lt_enter rfl (Nat.le_of_ble_eq_true rfl) (fun X e1 e2 e3 e4 hF hE => ?_)
  subst e1 e2 e3 e4
  exact jb_X11_planAt_0 hT h0 hF hE _ _ _ hf

set_option maxRecDepth 100000 in
def fb_X11_pour_28 (σ : lt_S) (o : Nat) (w : lt_W) : Option (Int32 × lt_W) := Option.bind (f_X11_refused σ o 1 w) (fun q1 => lt_bz q1.1 (some (q1.1, q1.2)))
set_option maxHeartbeats 4000000 in
set_option maxRecDepth 100000 in
theorem jb_X11_pour_28 {X : lt_X} {σ : lt_S} (hT : lt_Wt σ) {o : Nat} (h0 : lt_c σ o = 11) {r : Int32 × lt_W} (hF : lt_F X cX11_pour RX11 8 (lt_rm 3)) (hE : lt_E X 0 0 σ (some .boolean) (some (.int r.1)) r.2) : ∀ (w : lt_W), fb_X11_pour_28 σ o w = some r → lt_J X 0 0 σ w 28 [(0, .ref (lt_z X + o))] [] := by
  intro w hf
  unfold fb_X11_pour_28 at hf
  refine jr_aload_n hF dX11_pour_28 0 rfl rfl ?_
  refine jr_iconst (v := 1) hF dX11_pour_29 rfl ?_
  obtain ⟨q1, hq1, hf⟩ := Option.bind_eq_some_iff.mp hf
  refine jr_cV11 hF ml_X11_125 (c_X11_refused h0 hq1) h0 ⟨Nat.le_of_ble_eq_true rfl, Nat.le_of_ble_eq_true rfl⟩ (Nat.le_of_ble_eq_true rfl) dX11_pour_30 ?_
  obtain ⟨b2, hf⟩ := lt_bzE hf
  obtain rfl := Option.some.inj hf
  exact jr_zreturn hF hE b2 dX11_pour_33
set_option maxRecDepth 100000 in
def fb_X11_pour_66 (σ : lt_S) (o : Nat) (w : lt_W) : Option (Int32 × lt_W) := Option.bind (f_X11_refused σ o 2 w) (fun q1 => lt_bz q1.1 (some (q1.1, q1.2)))
set_option maxHeartbeats 4000000 in
set_option maxRecDepth 100000 in
theorem jb_X11_pour_66 {X : lt_X} {σ : lt_S} (hT : lt_Wt σ) {o : Nat} (h0 : lt_c σ o = 11) {r : Int32 × lt_W} (hF : lt_F X cX11_pour RX11 8 (lt_rm 3)) (hE : lt_E X 0 0 σ (some .boolean) (some (.int r.1)) r.2) : ∀ (w : lt_W), fb_X11_pour_66 σ o w = some r → lt_J X 0 0 σ w 66 [(0, .ref (lt_z X + o))] [] := by
  intro w hf
  unfold fb_X11_pour_66 at hf
  refine jr_aload_n hF dX11_pour_66 0 rfl rfl ?_
  refine jr_iconst (v := 2) hF dX11_pour_67 rfl ?_
  obtain ⟨q1, hq1, hf⟩ := Option.bind_eq_some_iff.mp hf
  refine jr_cV11 hF ml_X11_125 (c_X11_refused h0 hq1) h0 ⟨Nat.le_of_ble_eq_true rfl, Nat.le_of_ble_eq_true rfl⟩ (Nat.le_of_ble_eq_true rfl) dX11_pour_68 ?_
  obtain ⟨b2, hf⟩ := lt_bzE hf
  obtain rfl := Option.some.inj hf
  exact jr_zreturn hF hE b2 dX11_pour_71
set_option maxRecDepth 100000 in
def fb_X11_pour_115 (σ : lt_S) (o : Nat) (w : lt_W) : Option (Int32 × lt_W) := Option.bind (f_X11_refused σ o 3 w) (fun q1 => lt_bz q1.1 (some (q1.1, q1.2)))
set_option maxHeartbeats 4000000 in
set_option maxRecDepth 100000 in
theorem jb_X11_pour_115 {X : lt_X} {σ : lt_S} (hT : lt_Wt σ) {o : Nat} (h0 : lt_c σ o = 11) {r : Int32 × lt_W} (hF : lt_F X cX11_pour RX11 8 (lt_rm 3)) (hE : lt_E X 0 0 σ (some .boolean) (some (.int r.1)) r.2) : ∀ (w : lt_W), fb_X11_pour_115 σ o w = some r → lt_J X 0 0 σ w 115 [(0, .ref (lt_z X + o))] [] := by
  intro w hf
  unfold fb_X11_pour_115 at hf
  refine jr_aload_n hF dX11_pour_115 0 rfl rfl ?_
  refine jr_iconst (v := 3) hF dX11_pour_116 rfl ?_
  obtain ⟨q1, hq1, hf⟩ := Option.bind_eq_some_iff.mp hf
  refine jr_cV11 hF ml_X11_125 (c_X11_refused h0 hq1) h0 ⟨Nat.le_of_ble_eq_true rfl, Nat.le_of_ble_eq_true rfl⟩ (Nat.le_of_ble_eq_true rfl) dX11_pour_117 ?_
  obtain ⟨b2, hf⟩ := lt_bzE hf
  obtain rfl := Option.some.inj hf
  exact jr_zreturn hF hE b2 dX11_pour_120
set_option maxRecDepth 100000 in
def fb_X11_pour_0 (σ : lt_S) (o : Nat) (x1 : Int32) (x2 : Int32) (x3 : Int32) (x4 : Int32) (x5 : Int32) (w : lt_W) : Option (Int32 × lt_W) := Option.bind (f_X11_isTray x1) (fun q1 => if q1 = 0 then fb_X11_pour_28 σ o w else Option.bind (f_X11_isTray x3) (fun q2 => if q2 = 0 then fb_X11_pour_28 σ o w else if x2 < 0 then fb_X11_pour_28 σ o w else if x4 < 0 then fb_X11_pour_28 σ o w else if 0 ≤ x5 then lt_ck x1 (lt_len σ (lt_r σ o 3)) (lt_ck x3 (lt_len σ (lt_r σ o 3)) (if (lt_gi w (lt_r σ (lt_r σ o 3) x1.toNatClampNeg) 0) = 0 then fb_X11_pour_66 σ o w else if (lt_gi w (lt_r σ (lt_r σ o 3) x3.toNatClampNeg) 0) = 0 then fb_X11_pour_66 σ o w else if (lt_gi w (lt_r σ (lt_r σ o 3) x1.toNatClampNeg) 1) = (lt_gi w (lt_r σ (lt_r σ o 3) x3.toNatClampNeg) 1) then Option.bind (f_X8_has σ (lt_r σ (lt_r σ o 3) x1.toNatClampNeg) x2 x5 w) (fun q7 => if q7 = 0 then fb_X11_pour_115 σ o w else Option.bind (f_X8_has σ (lt_r σ (lt_r σ o 3) x3.toNatClampNeg) x4 x5 w) (fun q8 => if q8 = 0 then fb_X11_pour_115 σ o w else lt_cc (lt_len σ (lt_r σ (lt_r σ (lt_r σ o 3) x1.toNatClampNeg) 3)) (lt_len σ (lt_r σ (lt_r σ (lt_r σ o 3) x3.toNatClampNeg) 3)) x2 x4 x5 (lt_let (lt_cl w (lt_r σ (lt_r σ (lt_r σ o 3) x1.toNatClampNeg) 3) (lt_r σ (lt_r σ (lt_r σ o 3) x3.toNatClampNeg) 3) x2.toNatClampNeg x4.toNatClampNeg x5.toNatClampNeg) (fun w11 => Option.bind (f_X11_agreed σ o w11) (fun q12 => lt_bz q12.1 (some (q12.1, q12.2))))))) else Option.bind (f_X11_refused σ o 8 w) (fun q14 => lt_bz q14.1 (some (q14.1, q14.2))))) else fb_X11_pour_28 σ o w))
set_option maxHeartbeats 4000000 in
set_option maxRecDepth 100000 in
theorem jb_X11_pour_0 {X : lt_X} {σ : lt_S} (hT : lt_Wt σ) {o : Nat} (h0 : lt_c σ o = 11) {r : Int32 × lt_W} (hF : lt_F X cX11_pour RX11 8 (lt_rm 3)) (hE : lt_E X 0 0 σ (some .boolean) (some (.int r.1)) r.2) : ∀ (x1 : Int32) (x2 : Int32) (x3 : Int32) (x4 : Int32) (x5 : Int32) (w : lt_W), fb_X11_pour_0 σ o x1 x2 x3 x4 x5 w = some r → lt_J X 0 0 σ w 0 [(0, .ref (lt_z X + o)), (1, .int x1), (2, .int x2), (3, .int x3), (4, .int x4), (5, .int x5)] [] := by
  intro x1 x2 x3 x4 x5 w hf
  unfold fb_X11_pour_0 at hf
  refine jr_iload_n hF dX11_pour_0 1 rfl rfl ?_
  obtain ⟨q1, hq1, hf⟩ := Option.bind_eq_some_iff.mp hf
  refine jr_cS11 hF ml_X11_117 (c_X11_isTray hq1) ⟨Nat.le_of_ble_eq_true rfl, Nat.le_of_ble_eq_true rfl⟩ (Nat.le_of_ble_eq_true rfl) dX11_pour_1 ?_
  refine jr_if_eq (tgt := 28) hF dX11_pour_4 rfl hf (fun hf => ?_) (fun hf => ?_)
  · refine jr_sub [0] rfl ?_
    exact jb_X11_pour_28 hT h0 hF hE _ hf
  · refine jr_iload_n hF dX11_pour_7 3 rfl rfl ?_
    obtain ⟨q2, hq2, hf⟩ := Option.bind_eq_some_iff.mp hf
    refine jr_cS11 hF ml_X11_117 (c_X11_isTray hq2) ⟨Nat.le_of_ble_eq_true rfl, Nat.le_of_ble_eq_true rfl⟩ (Nat.le_of_ble_eq_true rfl) dX11_pour_8 ?_
    refine jr_if_eq (tgt := 28) hF dX11_pour_11 rfl hf (fun hf => ?_) (fun hf => ?_)
    · refine jr_sub [0] rfl ?_
      exact jb_X11_pour_28 hT h0 hF hE _ hf
    · refine jr_iload_n hF dX11_pour_14 2 rfl rfl ?_
      refine jr_if_lt (tgt := 28) hF dX11_pour_15 rfl hf (fun hf => ?_) (fun hf => ?_)
      · refine jr_sub [0] rfl ?_
        exact jb_X11_pour_28 hT h0 hF hE _ hf
      · refine jr_iload hF dX11_pour_18 4 rfl ?_
        refine jr_if_lt (tgt := 28) hF dX11_pour_20 rfl hf (fun hf => ?_) (fun hf => ?_)
        · refine jr_sub [0] rfl ?_
          exact jb_X11_pour_28 hT h0 hF hE _ hf
        · refine jr_iload hF dX11_pour_23 5 rfl ?_
          refine jr_if_ge (tgt := 34) hF dX11_pour_25 rfl hf (fun hf => ?_) (fun hf => ?_)
          · refine jr_aload_n hF dX11_pour_34 0 rfl rfl ?_
            refine jr_getRT (cr := 54) hF gf_X11_15 hT h0 rfl rfl dX11_pour_35 (fun th3 => ?_)
            refine jr_iload_n hF dX11_pour_38 1 rfl rfl ?_
            refine jr_aaload (c := 54) hF hT th3 4 rfl rfl rfl dX11_pour_39 hf (fun th4 hf => ?_)
            have th4 : lt_c σ (lt_r σ (lt_r σ o 3) x1.toNatClampNeg) = 8 := th4
            refine jr_astore (lv' := [(0, .ref (lt_z X + o)), (2, .int x2), (3, .int x3), (4, .int x4), (5, .int x5), (6, .ref (lt_z X + (lt_r σ (lt_r σ o 3) x1.toNatClampNeg)))]) hF dX11_pour_40 (by decide) [1, 3, 4, 5, 6, 0] rfl ?_
            refine jr_aload_n hF dX11_pour_42 0 rfl rfl ?_
            refine jr_getRT (cr := 54) hF gf_X11_15 hT h0 rfl rfl dX11_pour_43 (fun th5 => ?_)
            refine jr_iload_n hF dX11_pour_46 2 rfl rfl ?_
            refine jr_aaload (c := 54) hF hT th5 4 rfl rfl rfl dX11_pour_47 hf (fun th6 hf => ?_)
            have th6 : lt_c σ (lt_r σ (lt_r σ o 3) x3.toNatClampNeg) = 8 := th6
            refine jr_astore (lv' := [(0, .ref (lt_z X + o)), (2, .int x2), (4, .int x4), (5, .int x5), (6, .ref (lt_z X + (lt_r σ (lt_r σ o 3) x1.toNatClampNeg))), (7, .ref (lt_z X + (lt_r σ (lt_r σ o 3) x3.toNatClampNeg)))]) hF dX11_pour_48 (by decide) [1, 2, 4, 5, 6, 0] rfl ?_
            refine jr_aload hF dX11_pour_50 4 rfl ?_
            refine jr_getI hF gf_X11_152 th4 dX11_pour_52 ?_
            refine jr_if_eq (tgt := 66) hF dX11_pour_55 rfl hf (fun hf => ?_) (fun hf => ?_)
            · refine jr_sub [0] rfl ?_
              exact jb_X11_pour_66 hT h0 hF hE _ hf
            · refine jr_aload hF dX11_pour_58 5 rfl ?_
              refine jr_getI hF gf_X11_152 th6 dX11_pour_60 ?_
              refine jr_if_ne (tgt := 72) hF dX11_pour_63 rfl hf (fun hf => ?_) (fun hf => ?_)
              · refine jr_aload hF dX11_pour_72 4 rfl ?_
                refine jr_getI hF gf_X11_156 th4 dX11_pour_74 ?_
                refine jr_aload hF dX11_pour_77 5 rfl ?_
                refine jr_getI hF gf_X11_156 th6 dX11_pour_79 ?_
                refine jr_icmp_eq (tgt := 92) hF dX11_pour_82 rfl hf (fun hf => ?_) (fun hf => ?_)
                · refine jr_aload hF dX11_pour_92 4 rfl ?_
                  refine jr_iload_n hF dX11_pour_94 1 rfl rfl ?_
                  refine jr_iload hF dX11_pour_95 3 rfl ?_
                  obtain ⟨q7, hq7, hf⟩ := Option.bind_eq_some_iff.mp hf
                  refine jr_cV21 hF ml_X11_159 (c_X8_has th4 hq7) th4 ⟨Nat.le_of_ble_eq_true rfl, Nat.le_of_ble_eq_true rfl⟩ (Nat.le_of_ble_eq_true rfl) dX11_pour_97 ?_
                  refine jr_if_eq (tgt := 115) hF dX11_pour_100 rfl hf (fun hf => ?_) (fun hf => ?_)
                  · refine jr_sub [0] rfl ?_
                    exact jb_X11_pour_115 hT h0 hF hE _ hf
                  · refine jr_aload hF dX11_pour_103 5 rfl ?_
                    refine jr_iload hF dX11_pour_105 2 rfl ?_
                    refine jr_iload hF dX11_pour_107 3 rfl ?_
                    obtain ⟨q8, hq8, hf⟩ := Option.bind_eq_some_iff.mp hf
                    refine jr_cV21 hF ml_X11_159 (c_X8_has th6 hq8) th6 ⟨Nat.le_of_ble_eq_true rfl, Nat.le_of_ble_eq_true rfl⟩ (Nat.le_of_ble_eq_true rfl) dX11_pour_109 ?_
                    refine jr_if_ne (tgt := 121) hF dX11_pour_112 rfl hf (fun hf => ?_) (fun hf => ?_)
                    · refine jr_aload hF dX11_pour_121 4 rfl ?_
                      refine jr_getRT (cr := 51) hF gf_X11_148 hT th4 rfl rfl dX11_pour_123 (fun th9 => ?_)
                      refine jr_iload_n hF dX11_pour_126 1 rfl rfl ?_
                      refine jr_aload hF dX11_pour_127 5 rfl ?_
                      refine jr_getRT (cr := 51) hF gf_X11_148 hT th6 rfl rfl dX11_pour_129 (fun th10 => ?_)
                      refine jr_iload hF dX11_pour_132 2 rfl ?_
                      refine jr_iload hF dX11_pour_134 3 rfl ?_
                      refine jr_copyL hF ac_X11_163 th9 th10 ⟨Nat.le_of_ble_eq_true rfl, Nat.le_of_ble_eq_true rfl⟩ dX11_pour_136 hf (fun hf => ?_)
                      refine jr_letW hf (fun w11 hf => ?_)
                      refine jr_aload_n hF dX11_pour_139 0 rfl rfl ?_
                      obtain ⟨q12, hq12, hf⟩ := Option.bind_eq_some_iff.mp hf
                      refine jr_cV01 hF ml_X11_132 (c_X11_agreed h0 hq12) h0 ⟨Nat.le_of_ble_eq_true rfl, Nat.le_of_ble_eq_true rfl⟩ (Nat.le_of_ble_eq_true rfl) dX11_pour_140 ?_
                      obtain ⟨b13, hf⟩ := lt_bzE hf
                      obtain rfl := Option.some.inj hf
                      exact jr_zreturn hF hE b13 dX11_pour_143
                    · refine jr_sub [0] rfl ?_
                      exact jb_X11_pour_115 hT h0 hF hE _ hf
                · refine jr_aload_n hF dX11_pour_85 0 rfl rfl ?_
                  refine jr_bipush (v := 8) hF dX11_pour_86 rfl ?_
                  obtain ⟨q14, hq14, hf⟩ := Option.bind_eq_some_iff.mp hf
                  refine jr_cV11 hF ml_X11_125 (c_X11_refused h0 hq14) h0 ⟨Nat.le_of_ble_eq_true rfl, Nat.le_of_ble_eq_true rfl⟩ (Nat.le_of_ble_eq_true rfl) dX11_pour_88 ?_
                  obtain ⟨b15, hf⟩ := lt_bzE hf
                  obtain rfl := Option.some.inj hf
                  exact jr_zreturn hF hE b15 dX11_pour_91
              · refine jr_sub [0] rfl ?_
                exact jb_X11_pour_66 hT h0 hF hE _ hf
          · refine jr_sub [0] rfl ?_
            exact jb_X11_pour_28 hT h0 hF hE _ hf
def f_X11_pour (σ : lt_S) (o : Nat) (x1 : Int32) (x2 : Int32) (x3 : Int32) (x4 : Int32) (x5 : Int32) (w : lt_W) : Option (Int32 × lt_W) := fb_X11_pour_0 σ o x1 x2 x3 x4 x5 w
set_option maxRecDepth 100000 in
theorem c_X11_pour {l : Launch} {D : va_G} {gA : Nat → ClassId} {s0 : State} {σ : lt_S} (hT : lt_Wt σ) {o : Nat} (h0 : lt_c σ o = 11) {x1 : Int32} {x2 : Int32} {x3 : Int32} {x4 : Int32} {x5 : Int32} {w : lt_W} {r : Int32 × lt_W} (hf : f_X11_pour σ o x1 x2 x3 x4 x5 w = some r) : lt_C l D gA s0 yX11_pour cX11_pour 8 (some .boolean) (lt_rm 3) [.ref (s0.heap.size + o), .int x1, .int x2, .int x3, .int x4, .int x5] σ w σ (some (.int r.1)) r.2 := by
  refine lt_enter rfl (Nat.le_of_ble_eq_true rfl) (fun X e1 e2 e3 e4 hF hE => ?_)
  subst e1 e2 e3 e4
  exact jb_X11_pour_0 hT h0 hF hE _ _ _ _ _ _ hf

set_option maxRecDepth 100000 in
def fb_X11_read_0 (σ : lt_S) (o : Nat) (x1 : Int32) (x2 : Int32) (w : lt_W) : Option (Int64 × lt_W) := Option.bind (f_X11_trayFails σ o x1 x2 1 w) (fun q1 => if q1 = 0 then lt_let (lt_si w o 0 0) (fun w2 => lt_ck x1 (lt_len σ (lt_r σ o 3)) (lt_ck x2 (lt_len σ (lt_r σ (lt_r σ (lt_r σ o 3) x1.toNatClampNeg) 3)) (some (lt_gl w2 (lt_r σ (lt_r σ (lt_r σ o 3) x1.toNatClampNeg) 3) x2.toNatClampNeg, w2)))) else Option.bind (f_X11_none σ o q1 w) (fun q6 => some (q6.1.toInt64, q6.2)))
set_option maxHeartbeats 4000000 in
set_option maxRecDepth 100000 in
theorem jb_X11_read_0 {X : lt_X} {σ : lt_S} (hT : lt_Wt σ) {o : Nat} (h0 : lt_c σ o = 11) {r : Int64 × lt_W} (hF : lt_F X cX11_read RX11 4 (lt_rm 4)) (hE : lt_E X 0 0 σ (some .long) (some (.long r.1)) r.2) : ∀ (x1 : Int32) (x2 : Int32) (w : lt_W), fb_X11_read_0 σ o x1 x2 w = some r → lt_J X 0 0 σ w 0 [(0, .ref (lt_z X + o)), (1, .int x1), (2, .int x2)] [] := by
  intro x1 x2 w hf
  unfold fb_X11_read_0 at hf
  refine jr_aload_n hF dX11_read_0 0 rfl rfl ?_
  refine jr_iload_n hF dX11_read_1 1 rfl rfl ?_
  refine jr_iload_n hF dX11_read_2 2 rfl rfl ?_
  refine jr_iconst (v := 1) hF dX11_read_3 rfl ?_
  obtain ⟨q1, hq1, hf⟩ := Option.bind_eq_some_iff.mp hf
  refine jr_cV31 hF ml_X11_136 (c_X11_trayFails hT h0 hq1) h0 ⟨Nat.le_of_ble_eq_true rfl, Nat.le_of_ble_eq_true rfl⟩ (Nat.le_of_ble_eq_true rfl) dX11_read_4 ?_
  refine jr_istore_n (lv' := [(0, .ref (lt_z X + o)), (1, .int x1), (2, .int x2), (3, .int q1)]) hF dX11_read_7 rfl (by decide) [1, 2, 3, 0] rfl ?_
  refine jr_iload_n hF dX11_read_8 3 rfl rfl ?_
  refine jr_if_eq (tgt := 19) hF dX11_read_9 rfl hf (fun hf => ?_) (fun hf => ?_)
  · refine jr_aload_n hF dX11_read_19 0 rfl rfl ?_
    refine jr_iconst (v := 0) hF dX11_read_20 rfl ?_
    refine jr_putI hF pf_X11_110 h0 dX11_read_21 ?_
    refine jr_letW hf (fun w2 hf => ?_)
    refine jr_aload_n hF dX11_read_24 0 rfl rfl ?_
    refine jr_getRT (cr := 54) hF gf_X11_15 hT h0 rfl rfl dX11_read_25 (fun th3 => ?_)
    refine jr_iload_n hF dX11_read_28 1 rfl rfl ?_
    refine jr_aaload (c := 54) hF hT th3 4 rfl rfl rfl dX11_read_29 hf (fun th4 hf => ?_)
    have th4 : lt_c σ (lt_r σ (lt_r σ o 3) x1.toNatClampNeg) = 8 := th4
    refine jr_getRT (cr := 51) hF gf_X11_148 hT th4 rfl rfl dX11_read_30 (fun th5 => ?_)
    refine jr_iload_n hF dX11_read_33 2 rfl rfl ?_
    refine jr_laload hF th5 dX11_read_34 hf (fun hf => ?_)
    obtain rfl := Option.some.inj hf
    exact jr_lreturn hF hE dX11_read_35
  · refine jr_aload_n hF dX11_read_12 0 rfl rfl ?_
    refine jr_iload_n hF dX11_read_13 3 rfl rfl ?_
    obtain ⟨q6, hq6, hf⟩ := Option.bind_eq_some_iff.mp hf
    refine jr_cV11 hF ml_X11_144 (c_X11_none h0 hq6) h0 ⟨Nat.le_of_ble_eq_true rfl, Nat.le_of_ble_eq_true rfl⟩ (Nat.le_of_ble_eq_true rfl) dX11_read_14 ?_
    refine jr_i2l hF dX11_read_17 ?_
    obtain rfl := Option.some.inj hf
    exact jr_lreturn hF hE dX11_read_18
def f_X11_read (σ : lt_S) (o : Nat) (x1 : Int32) (x2 : Int32) (w : lt_W) : Option (Int64 × lt_W) := fb_X11_read_0 σ o x1 x2 w
set_option maxRecDepth 100000 in
theorem c_X11_read {l : Launch} {D : va_G} {gA : Nat → ClassId} {s0 : State} {σ : lt_S} (hT : lt_Wt σ) {o : Nat} (h0 : lt_c σ o = 11) {x1 : Int32} {x2 : Int32} {w : lt_W} {r : Int64 × lt_W} (hf : f_X11_read σ o x1 x2 w = some r) : lt_C l D gA s0 yX11_read cX11_read 4 (some .long) (lt_rm 4) [.ref (s0.heap.size + o), .int x1, .int x2] σ w σ (some (.long r.1)) r.2 := by
  refine lt_enter rfl (Nat.le_of_ble_eq_true rfl) (fun X e1 e2 e3 e4 hF hE => ?_)
  subst e1 e2 e3 e4
  exact jb_X11_read_0 hT h0 hF hE _ _ _ hf

set_option maxRecDepth 100000 in
def fb_X11_rule_84 (σ : lt_S) (o : Nat) (w : lt_W) : Option (Int32 × lt_W) := Option.bind (f_X11_agreed σ o w) (fun q1 => lt_bz q1.1 (some (q1.1, q1.2)))
set_option maxHeartbeats 4000000 in
set_option maxRecDepth 100000 in
theorem jb_X11_rule_84 {X : lt_X} {σ : lt_S} (hT : lt_Wt σ) {o : Nat} (h0 : lt_c σ o = 11) {r : Int32 × lt_W} (hF : lt_F X cX11_rule RX11 3 (lt_rm 2)) (hE : lt_E X 0 0 σ (some .boolean) (some (.int r.1)) r.2) : ∀ (w : lt_W), fb_X11_rule_84 σ o w = some r → lt_J X 0 0 σ w 84 [(0, .ref (lt_z X + o))] [] := by
  intro w hf
  unfold fb_X11_rule_84 at hf
  refine jr_aload_n hF dX11_rule_84 0 rfl rfl ?_
  obtain ⟨q1, hq1, hf⟩ := Option.bind_eq_some_iff.mp hf
  refine jr_cV01 hF ml_X11_132 (c_X11_agreed h0 hq1) h0 ⟨Nat.le_of_ble_eq_true rfl, Nat.le_of_ble_eq_true rfl⟩ (Nat.le_of_ble_eq_true rfl) dX11_rule_85 ?_
  obtain ⟨b2, hf⟩ := lt_bzE hf
  obtain rfl := Option.some.inj hf
  exact jr_zreturn hF hE b2 dX11_rule_88
set_option maxRecDepth 100000 in
def fb_X11_rule_78 (σ : lt_S) (o : Nat) (w : lt_W) : Option (Int32 × lt_W) := Option.bind (f_X11_refused σ o 1 w) (fun q1 => lt_bz q1.1 (some (q1.1, q1.2)))
set_option maxHeartbeats 4000000 in
set_option maxRecDepth 100000 in
theorem jb_X11_rule_78 {X : lt_X} {σ : lt_S} (hT : lt_Wt σ) {o : Nat} (h0 : lt_c σ o = 11) {r : Int32 × lt_W} (hF : lt_F X cX11_rule RX11 3 (lt_rm 2)) (hE : lt_E X 0 0 σ (some .boolean) (some (.int r.1)) r.2) : ∀ (w : lt_W), fb_X11_rule_78 σ o w = some r → lt_J X 0 0 σ w 78 [(0, .ref (lt_z X + o))] [] := by
  intro w hf
  unfold fb_X11_rule_78 at hf
  refine jr_aload_n hF dX11_rule_78 0 rfl rfl ?_
  refine jr_iconst (v := 1) hF dX11_rule_79 rfl ?_
  obtain ⟨q1, hq1, hf⟩ := Option.bind_eq_some_iff.mp hf
  refine jr_cV11 hF ml_X11_125 (c_X11_refused h0 hq1) h0 ⟨Nat.le_of_ble_eq_true rfl, Nat.le_of_ble_eq_true rfl⟩ (Nat.le_of_ble_eq_true rfl) dX11_rule_80 ?_
  obtain ⟨b2, hf⟩ := lt_bzE hf
  obtain rfl := Option.some.inj hf
  exact jr_zreturn hF hE b2 dX11_rule_83
set_option maxRecDepth 100000 in
def fb_X11_rule_52 (σ : lt_S) (o : Nat) (x1 : Int32) (x2 : Int32) (w : lt_W) : Option (Int32 × lt_W) := if x1 = 3 then Option.bind (f_X11_within x2 1 6) (fun q1 => if q1 = 0 then fb_X11_rule_78 σ o w else lt_let (lt_si w (lt_r σ o 5) 3 x2) (fun w3 => fb_X11_rule_84 σ o w3)) else fb_X11_rule_78 σ o w
set_option maxHeartbeats 4000000 in
set_option maxRecDepth 100000 in
theorem jb_X11_rule_52 {X : lt_X} {σ : lt_S} (hT : lt_Wt σ) {o : Nat} (h0 : lt_c σ o = 11) {r : Int32 × lt_W} (hF : lt_F X cX11_rule RX11 3 (lt_rm 2)) (hE : lt_E X 0 0 σ (some .boolean) (some (.int r.1)) r.2) : ∀ (x1 : Int32) (x2 : Int32) (w : lt_W), fb_X11_rule_52 σ o x1 x2 w = some r → lt_J X 0 0 σ w 52 [(0, .ref (lt_z X + o)), (1, .int x1), (2, .int x2)] [] := by
  intro x1 x2 w hf
  unfold fb_X11_rule_52 at hf
  refine jr_iload_n hF dX11_rule_52 1 rfl rfl ?_
  refine jr_iconst (v := 3) hF dX11_rule_53 rfl ?_
  refine jr_icmp_ne (tgt := 78) hF dX11_rule_54 rfl hf (fun hf => ?_) (fun hf => ?_)
  · refine jr_sub [0] rfl ?_
    exact jb_X11_rule_78 hT h0 hF hE _ hf
  · refine jr_iload_n hF dX11_rule_57 2 rfl rfl ?_
    refine jr_iconst (v := 1) hF dX11_rule_58 rfl ?_
    refine jr_bipush (v := 6) hF dX11_rule_59 rfl ?_
    obtain ⟨q1, hq1, hf⟩ := Option.bind_eq_some_iff.mp hf
    refine jr_cS31 hF ml_X11_121 (c_X11_within hq1) ⟨Nat.le_of_ble_eq_true rfl, Nat.le_of_ble_eq_true rfl⟩ (Nat.le_of_ble_eq_true rfl) dX11_rule_61 ?_
    refine jr_if_eq (tgt := 78) hF dX11_rule_64 rfl hf (fun hf => ?_) (fun hf => ?_)
    · refine jr_sub [0] rfl ?_
      exact jb_X11_rule_78 hT h0 hF hE _ hf
    · refine jr_aload_n hF dX11_rule_67 0 rfl rfl ?_
      refine jr_getRT (cr := 5) hF gf_X11_30 hT h0 rfl rfl dX11_rule_68 (fun th2 => ?_)
      refine jr_iload_n hF dX11_rule_71 2 rfl rfl ?_
      refine jr_putI hF pf_X11_226 th2 dX11_rule_72 ?_
      refine jr_letW hf (fun w3 hf => ?_)
      refine jr_goto (tgt := 84) hF dX11_rule_75 rfl ?_
      refine jr_sub [0] rfl ?_
      exact jb_X11_rule_84 hT h0 hF hE _ hf
set_option maxRecDepth 100000 in
def fb_X11_rule_26 (σ : lt_S) (o : Nat) (x1 : Int32) (x2 : Int32) (w : lt_W) : Option (Int32 × lt_W) := if x1 = 2 then Option.bind (f_X11_within x2 1 20) (fun q1 => if q1 = 0 then fb_X11_rule_52 σ o x1 x2 w else lt_let (lt_si w (lt_r σ o 5) 2 x2) (fun w3 => fb_X11_rule_84 σ o w3)) else fb_X11_rule_52 σ o x1 x2 w
set_option maxHeartbeats 4000000 in
set_option maxRecDepth 100000 in
theorem jb_X11_rule_26 {X : lt_X} {σ : lt_S} (hT : lt_Wt σ) {o : Nat} (h0 : lt_c σ o = 11) {r : Int32 × lt_W} (hF : lt_F X cX11_rule RX11 3 (lt_rm 2)) (hE : lt_E X 0 0 σ (some .boolean) (some (.int r.1)) r.2) : ∀ (x1 : Int32) (x2 : Int32) (w : lt_W), fb_X11_rule_26 σ o x1 x2 w = some r → lt_J X 0 0 σ w 26 [(0, .ref (lt_z X + o)), (1, .int x1), (2, .int x2)] [] := by
  intro x1 x2 w hf
  unfold fb_X11_rule_26 at hf
  refine jr_iload_n hF dX11_rule_26 1 rfl rfl ?_
  refine jr_iconst (v := 2) hF dX11_rule_27 rfl ?_
  refine jr_icmp_ne (tgt := 52) hF dX11_rule_28 rfl hf (fun hf => ?_) (fun hf => ?_)
  · exact jb_X11_rule_52 hT h0 hF hE _ _ _ hf
  · refine jr_iload_n hF dX11_rule_31 2 rfl rfl ?_
    refine jr_iconst (v := 1) hF dX11_rule_32 rfl ?_
    refine jr_bipush (v := 20) hF dX11_rule_33 rfl ?_
    obtain ⟨q1, hq1, hf⟩ := Option.bind_eq_some_iff.mp hf
    refine jr_cS31 hF ml_X11_121 (c_X11_within hq1) ⟨Nat.le_of_ble_eq_true rfl, Nat.le_of_ble_eq_true rfl⟩ (Nat.le_of_ble_eq_true rfl) dX11_rule_35 ?_
    refine jr_if_eq (tgt := 52) hF dX11_rule_38 rfl hf (fun hf => ?_) (fun hf => ?_)
    · exact jb_X11_rule_52 hT h0 hF hE _ _ _ hf
    · refine jr_aload_n hF dX11_rule_41 0 rfl rfl ?_
      refine jr_getRT (cr := 5) hF gf_X11_30 hT h0 rfl rfl dX11_rule_42 (fun th2 => ?_)
      refine jr_iload_n hF dX11_rule_45 2 rfl rfl ?_
      refine jr_putI hF pf_X11_223 th2 dX11_rule_46 ?_
      refine jr_letW hf (fun w3 hf => ?_)
      refine jr_goto (tgt := 84) hF dX11_rule_49 rfl ?_
      refine jr_sub [0] rfl ?_
      exact jb_X11_rule_84 hT h0 hF hE _ hf
set_option maxRecDepth 100000 in
def fb_X11_rule_0 (σ : lt_S) (o : Nat) (x1 : Int32) (x2 : Int32) (w : lt_W) : Option (Int32 × lt_W) := if x1 = 1 then Option.bind (f_X11_within x2 0 16) (fun q1 => if q1 = 0 then fb_X11_rule_26 σ o x1 x2 w else lt_let (lt_si w (lt_r σ o 5) 1 x2) (fun w3 => fb_X11_rule_84 σ o w3)) else fb_X11_rule_26 σ o x1 x2 w
set_option maxHeartbeats 4000000 in
set_option maxRecDepth 100000 in
theorem jb_X11_rule_0 {X : lt_X} {σ : lt_S} (hT : lt_Wt σ) {o : Nat} (h0 : lt_c σ o = 11) {r : Int32 × lt_W} (hF : lt_F X cX11_rule RX11 3 (lt_rm 2)) (hE : lt_E X 0 0 σ (some .boolean) (some (.int r.1)) r.2) : ∀ (x1 : Int32) (x2 : Int32) (w : lt_W), fb_X11_rule_0 σ o x1 x2 w = some r → lt_J X 0 0 σ w 0 [(0, .ref (lt_z X + o)), (1, .int x1), (2, .int x2)] [] := by
  intro x1 x2 w hf
  unfold fb_X11_rule_0 at hf
  refine jr_iload_n hF dX11_rule_0 1 rfl rfl ?_
  refine jr_iconst (v := 1) hF dX11_rule_1 rfl ?_
  refine jr_icmp_ne (tgt := 26) hF dX11_rule_2 rfl hf (fun hf => ?_) (fun hf => ?_)
  · exact jb_X11_rule_26 hT h0 hF hE _ _ _ hf
  · refine jr_iload_n hF dX11_rule_5 2 rfl rfl ?_
    refine jr_iconst (v := 0) hF dX11_rule_6 rfl ?_
    refine jr_bipush (v := 16) hF dX11_rule_7 rfl ?_
    obtain ⟨q1, hq1, hf⟩ := Option.bind_eq_some_iff.mp hf
    refine jr_cS31 hF ml_X11_121 (c_X11_within hq1) ⟨Nat.le_of_ble_eq_true rfl, Nat.le_of_ble_eq_true rfl⟩ (Nat.le_of_ble_eq_true rfl) dX11_rule_9 ?_
    refine jr_if_eq (tgt := 26) hF dX11_rule_12 rfl hf (fun hf => ?_) (fun hf => ?_)
    · exact jb_X11_rule_26 hT h0 hF hE _ _ _ hf
    · refine jr_aload_n hF dX11_rule_15 0 rfl rfl ?_
      refine jr_getRT (cr := 5) hF gf_X11_30 hT h0 rfl rfl dX11_rule_16 (fun th2 => ?_)
      refine jr_iload_n hF dX11_rule_19 2 rfl rfl ?_
      refine jr_putI hF pf_X11_220 th2 dX11_rule_20 ?_
      refine jr_letW hf (fun w3 hf => ?_)
      refine jr_goto (tgt := 84) hF dX11_rule_23 rfl ?_
      refine jr_sub [0] rfl ?_
      exact jb_X11_rule_84 hT h0 hF hE _ hf
def f_X11_rule (σ : lt_S) (o : Nat) (x1 : Int32) (x2 : Int32) (w : lt_W) : Option (Int32 × lt_W) := fb_X11_rule_0 σ o x1 x2 w
set_option maxRecDepth 100000 in
theorem c_X11_rule {l : Launch} {D : va_G} {gA : Nat → ClassId} {s0 : State} {σ : lt_S} (hT : lt_Wt σ) {o : Nat} (h0 : lt_c σ o = 11) {x1 : Int32} {x2 : Int32} {w : lt_W} {r : Int32 × lt_W} (hf : f_X11_rule σ o x1 x2 w = some r) : lt_C l D gA s0 yX11_rule cX11_rule 3 (some .boolean) (lt_rm 2) [.ref (s0.heap.size + o), .int x1, .int x2] σ w σ (some (.int r.1)) r.2 := by
  refine lt_enter rfl (Nat.le_of_ble_eq_true rfl) (fun X e1 e2 e3 e4 hF hE => ?_)
  subst e1 e2 e3 e4
  exact jb_X11_rule_0 hT h0 hF hE _ _ _ hf

set_option maxRecDepth 100000 in
def fb_X11_seen_0 (σ : lt_S) (o : Nat) (x1 : Int32) (x2 : Int32) (x3 : Int32) (w : lt_W) : Option (Int32 × lt_W) := Option.bind (f_X11_seenFails σ o x1 x2 x3 w) (fun q1 => if q1 = 0 then lt_ck x2 (lt_len σ (lt_r σ o 3)) (Option.bind (f_X4_look σ (lt_r σ o 11) x1 (lt_r σ (lt_r σ o 3) x2.toNatClampNeg) x3 w) (fun q5 => Option.bind (f_X11_given σ o (lt_gi q5 (lt_r σ o 11) 4) q5) (fun q7 => some (q7.1, q7.2)))) else Option.bind (f_X11_none σ o q1 w) (fun q8 => some (q8.1, q8.2)))
set_option maxHeartbeats 4000000 in
set_option maxRecDepth 100000 in
theorem jb_X11_seen_0 {X : lt_X} {σ : lt_S} (hT : lt_Wt σ) {o : Nat} (h0 : lt_c σ o = 11) {r : Int32 × lt_W} (hF : lt_F X cX11_seen RX11 5 (lt_rm 7)) (hE : lt_E X 0 0 σ (some .int) (some (.int r.1)) r.2) : ∀ (x1 : Int32) (x2 : Int32) (x3 : Int32) (w : lt_W), fb_X11_seen_0 σ o x1 x2 x3 w = some r → lt_J X 0 0 σ w 0 [(0, .ref (lt_z X + o)), (1, .int x1), (2, .int x2), (3, .int x3)] [] := by
  intro x1 x2 x3 w hf
  unfold fb_X11_seen_0 at hf
  refine jr_aload_n hF dX11_seen_0 0 rfl rfl ?_
  refine jr_iload_n hF dX11_seen_1 1 rfl rfl ?_
  refine jr_iload_n hF dX11_seen_2 2 rfl rfl ?_
  refine jr_iload_n hF dX11_seen_3 3 rfl rfl ?_
  obtain ⟨q1, hq1, hf⟩ := Option.bind_eq_some_iff.mp hf
  refine jr_cV31 hF ml_X11_337 (c_X11_seenFails hT h0 hq1) h0 ⟨Nat.le_of_ble_eq_true rfl, Nat.le_of_ble_eq_true rfl⟩ (Nat.le_of_ble_eq_true rfl) dX11_seen_4 ?_
  refine jr_istore (lv' := [(0, .ref (lt_z X + o)), (1, .int x1), (2, .int x2), (3, .int x3), (4, .int q1)]) hF dX11_seen_7 (by decide) [1, 2, 3, 4, 0] rfl ?_
  refine jr_iload hF dX11_seen_9 4 rfl ?_
  refine jr_if_eq (tgt := 21) hF dX11_seen_11 rfl hf (fun hf => ?_) (fun hf => ?_)
  · refine jr_aload_n hF dX11_seen_21 0 rfl rfl ?_
    refine jr_getRT (cr := 4) hF gf_X11_78 hT h0 rfl rfl dX11_seen_22 (fun th2 => ?_)
    refine jr_iload_n hF dX11_seen_25 1 rfl rfl ?_
    refine jr_aload_n hF dX11_seen_26 0 rfl rfl ?_
    refine jr_getRT (cr := 54) hF gf_X11_15 hT h0 rfl rfl dX11_seen_27 (fun th3 => ?_)
    refine jr_iload_n hF dX11_seen_30 2 rfl rfl ?_
    refine jr_aaload (c := 54) hF hT th3 4 rfl rfl rfl dX11_seen_31 hf (fun th4 hf => ?_)
    have th4 : lt_c σ (lt_r σ (lt_r σ o 3) x2.toNatClampNeg) = 8 := th4
    refine jr_iload_n hF dX11_seen_32 3 rfl rfl ?_
    obtain ⟨q5, hq5, hf⟩ := Option.bind_eq_some_iff.mp hf
    refine jr_cV3v hF ml_X11_340 (c_X4_look hT th2 th4 hq5) th2 ⟨Nat.le_of_ble_eq_true rfl, Nat.le_of_ble_eq_true rfl⟩ (Nat.le_of_ble_eq_true rfl) dX11_seen_33 ?_
    refine jr_aload_n hF dX11_seen_36 0 rfl rfl ?_
    refine jr_aload_n hF dX11_seen_37 0 rfl rfl ?_
    refine jr_getRT (cr := 4) hF gf_X11_78 hT h0 rfl rfl dX11_seen_38 (fun th6 => ?_)
    refine jr_getI hF gf_X11_344 th6 dX11_seen_41 ?_
    obtain ⟨q7, hq7, hf⟩ := Option.bind_eq_some_iff.mp hf
    refine jr_cV11 hF ml_X11_194 (c_X11_given h0 hq7) h0 ⟨Nat.le_of_ble_eq_true rfl, Nat.le_of_ble_eq_true rfl⟩ (Nat.le_of_ble_eq_true rfl) dX11_seen_44 ?_
    obtain rfl := Option.some.inj hf
    exact jr_ireturn hF hE dX11_seen_47
  · refine jr_aload_n hF dX11_seen_14 0 rfl rfl ?_
    refine jr_iload hF dX11_seen_15 4 rfl ?_
    obtain ⟨q8, hq8, hf⟩ := Option.bind_eq_some_iff.mp hf
    refine jr_cV11 hF ml_X11_144 (c_X11_none h0 hq8) h0 ⟨Nat.le_of_ble_eq_true rfl, Nat.le_of_ble_eq_true rfl⟩ (Nat.le_of_ble_eq_true rfl) dX11_seen_17 ?_
    obtain rfl := Option.some.inj hf
    exact jr_ireturn hF hE dX11_seen_20
def f_X11_seen (σ : lt_S) (o : Nat) (x1 : Int32) (x2 : Int32) (x3 : Int32) (w : lt_W) : Option (Int32 × lt_W) := fb_X11_seen_0 σ o x1 x2 x3 w
set_option maxRecDepth 100000 in
theorem c_X11_seen {l : Launch} {D : va_G} {gA : Nat → ClassId} {s0 : State} {σ : lt_S} (hT : lt_Wt σ) {o : Nat} (h0 : lt_c σ o = 11) {x1 : Int32} {x2 : Int32} {x3 : Int32} {w : lt_W} {r : Int32 × lt_W} (hf : f_X11_seen σ o x1 x2 x3 w = some r) : lt_C l D gA s0 yX11_seen cX11_seen 5 (some .int) (lt_rm 7) [.ref (s0.heap.size + o), .int x1, .int x2, .int x3] σ w σ (some (.int r.1)) r.2 := by
  refine lt_enter rfl (Nat.le_of_ble_eq_true rfl) (fun X e1 e2 e3 e4 hF hE => ?_)
  subst e1 e2 e3 e4
  exact jb_X11_seen_0 hT h0 hF hE _ _ _ _ hf

set_option maxRecDepth 100000 in
def fb_X11_seenAs_90 (σ : lt_S) (o : Nat) (y1 : Int32) (w : lt_W) : Option (Int32 × lt_W) := Option.bind (f_X11_given σ o y1 w) (fun q1 => some (q1.1, q1.2))
set_option maxHeartbeats 4000000 in
set_option maxRecDepth 100000 in
theorem jb_X11_seenAs_90 {X : lt_X} {σ : lt_S} (hT : lt_Wt σ) {o : Nat} (h0 : lt_c σ o = 11) {r : Int32 × lt_W} (hF : lt_F X cX11_seenAs RX11 6 (lt_rm 7)) (hE : lt_E X 0 0 σ (some .int) (some (.int r.1)) r.2) : ∀ (y1 : Int32) (w : lt_W), fb_X11_seenAs_90 σ o y1 w = some r → lt_J X 0 0 σ w 90 [(0, .ref (lt_z X + o))] [.int y1, .ref (lt_z X + o)] := by
  intro y1 w hf
  unfold fb_X11_seenAs_90 at hf
  obtain ⟨q1, hq1, hf⟩ := Option.bind_eq_some_iff.mp hf
  refine jr_cV11 hF ml_X11_194 (c_X11_given h0 hq1) h0 ⟨Nat.le_of_ble_eq_true rfl, Nat.le_of_ble_eq_true rfl⟩ (Nat.le_of_ble_eq_true rfl) dX11_seenAs_90 ?_
  obtain rfl := Option.some.inj hf
  exact jr_ireturn hF hE dX11_seenAs_93
set_option maxRecDepth 100000 in
def fb_X11_seenAs_21 (σ : lt_S) (o : Nat) (x1 : Int32) (x2 : Int32) (x3 : Int32) (x4 : Int32) (y0 : Int32) (w : lt_W) : Option (Int32 × lt_W) := if y0 = 0 then lt_ck x2 (lt_len σ (lt_r σ o 3)) (Option.bind (f_X4_look σ (lt_r σ o 11) x1 (lt_r σ (lt_r σ o 3) x2.toNatClampNeg) x3 w) (fun q4 => if (lt_gi q4 (lt_r σ o 11) 4) = 0 then Option.bind (f_X11_none σ o 6 q4) (fun q8 => some (q8.1, q8.2)) else if x4 = 0 then fb_X11_seenAs_90 σ o (lt_gi q4 (lt_r σ o 11) 5) q4 else fb_X11_seenAs_90 σ o (lt_gi q4 (lt_r σ o 11) 6) q4)) else Option.bind (f_X11_none σ o y0 w) (fun q9 => some (q9.1, q9.2))
set_option maxHeartbeats 4000000 in
set_option maxRecDepth 100000 in
theorem jb_X11_seenAs_21 {X : lt_X} {σ : lt_S} (hT : lt_Wt σ) {o : Nat} (h0 : lt_c σ o = 11) {r : Int32 × lt_W} (hF : lt_F X cX11_seenAs RX11 6 (lt_rm 7)) (hE : lt_E X 0 0 σ (some .int) (some (.int r.1)) r.2) : ∀ (x1 : Int32) (x2 : Int32) (x3 : Int32) (x4 : Int32) (y0 : Int32) (w : lt_W), fb_X11_seenAs_21 σ o x1 x2 x3 x4 y0 w = some r → lt_J X 0 0 σ w 21 [(0, .ref (lt_z X + o)), (1, .int x1), (2, .int x2), (3, .int x3), (4, .int x4)] [.int y0] := by
  intro x1 x2 x3 x4 y0 w hf
  unfold fb_X11_seenAs_21 at hf
  refine jr_istore (lv' := [(0, .ref (lt_z X + o)), (1, .int x1), (2, .int x2), (3, .int x3), (4, .int x4), (5, .int y0)]) hF dX11_seenAs_21 (by decide) [1, 2, 3, 4, 5, 0] rfl ?_
  refine jr_iload hF dX11_seenAs_23 5 rfl ?_
  refine jr_if_eq (tgt := 35) hF dX11_seenAs_25 rfl hf (fun hf => ?_) (fun hf => ?_)
  · refine jr_aload_n hF dX11_seenAs_35 0 rfl rfl ?_
    refine jr_getRT (cr := 4) hF gf_X11_78 hT h0 rfl rfl dX11_seenAs_36 (fun th1 => ?_)
    refine jr_iload_n hF dX11_seenAs_39 1 rfl rfl ?_
    refine jr_aload_n hF dX11_seenAs_40 0 rfl rfl ?_
    refine jr_getRT (cr := 54) hF gf_X11_15 hT h0 rfl rfl dX11_seenAs_41 (fun th2 => ?_)
    refine jr_iload_n hF dX11_seenAs_44 2 rfl rfl ?_
    refine jr_aaload (c := 54) hF hT th2 4 rfl rfl rfl dX11_seenAs_45 hf (fun th3 hf => ?_)
    have th3 : lt_c σ (lt_r σ (lt_r σ o 3) x2.toNatClampNeg) = 8 := th3
    refine jr_iload_n hF dX11_seenAs_46 3 rfl rfl ?_
    obtain ⟨q4, hq4, hf⟩ := Option.bind_eq_some_iff.mp hf
    refine jr_cV3v hF ml_X11_340 (c_X4_look hT th1 th3 hq4) th1 ⟨Nat.le_of_ble_eq_true rfl, Nat.le_of_ble_eq_true rfl⟩ (Nat.le_of_ble_eq_true rfl) dX11_seenAs_47 ?_
    refine jr_aload_n hF dX11_seenAs_50 0 rfl rfl ?_
    refine jr_getRT (cr := 4) hF gf_X11_78 hT h0 rfl rfl dX11_seenAs_51 (fun th5 => ?_)
    refine jr_getI hF gf_X11_344 th5 dX11_seenAs_54 ?_
    refine jr_if_ne (tgt := 67) hF dX11_seenAs_57 rfl hf (fun hf => ?_) (fun hf => ?_)
    · refine jr_aload_n hF dX11_seenAs_67 0 rfl rfl ?_
      refine jr_iload hF dX11_seenAs_68 4 rfl ?_
      refine jr_if_ne (tgt := 83) hF dX11_seenAs_70 rfl hf (fun hf => ?_) (fun hf => ?_)
      · refine jr_aload_n hF dX11_seenAs_83 0 rfl rfl ?_
        refine jr_getRT (cr := 4) hF gf_X11_78 hT h0 rfl rfl dX11_seenAs_84 (fun th6 => ?_)
        refine jr_getI hF gf_X11_350 th6 dX11_seenAs_87 ?_
        refine jr_sub [0] rfl ?_
        exact jb_X11_seenAs_90 hT h0 hF hE _ _ hf
      · refine jr_aload_n hF dX11_seenAs_73 0 rfl rfl ?_
        refine jr_getRT (cr := 4) hF gf_X11_78 hT h0 rfl rfl dX11_seenAs_74 (fun th7 => ?_)
        refine jr_getI hF gf_X11_347 th7 dX11_seenAs_77 ?_
        refine jr_goto (tgt := 90) hF dX11_seenAs_80 rfl ?_
        refine jr_sub [0] rfl ?_
        exact jb_X11_seenAs_90 hT h0 hF hE _ _ hf
    · refine jr_aload_n hF dX11_seenAs_60 0 rfl rfl ?_
      refine jr_bipush (v := 6) hF dX11_seenAs_61 rfl ?_
      obtain ⟨q8, hq8, hf⟩ := Option.bind_eq_some_iff.mp hf
      refine jr_cV11 hF ml_X11_144 (c_X11_none h0 hq8) h0 ⟨Nat.le_of_ble_eq_true rfl, Nat.le_of_ble_eq_true rfl⟩ (Nat.le_of_ble_eq_true rfl) dX11_seenAs_63 ?_
      obtain rfl := Option.some.inj hf
      exact jr_ireturn hF hE dX11_seenAs_66
  · refine jr_aload_n hF dX11_seenAs_28 0 rfl rfl ?_
    refine jr_iload hF dX11_seenAs_29 5 rfl ?_
    obtain ⟨q9, hq9, hf⟩ := Option.bind_eq_some_iff.mp hf
    refine jr_cV11 hF ml_X11_144 (c_X11_none h0 hq9) h0 ⟨Nat.le_of_ble_eq_true rfl, Nat.le_of_ble_eq_true rfl⟩ (Nat.le_of_ble_eq_true rfl) dX11_seenAs_31 ?_
    obtain rfl := Option.some.inj hf
    exact jr_ireturn hF hE dX11_seenAs_34
set_option maxRecDepth 100000 in
def fb_X11_seenAs_0 (σ : lt_S) (o : Nat) (x1 : Int32) (x2 : Int32) (x3 : Int32) (x4 : Int32) (w : lt_W) : Option (Int32 × lt_W) := Option.bind (f_X11_within x4 0 1) (fun q1 => if q1 = 0 then fb_X11_seenAs_21 σ o x1 x2 x3 x4 1 w else Option.bind (f_X11_seenFails σ o x1 x2 x3 w) (fun q2 => fb_X11_seenAs_21 σ o x1 x2 x3 x4 q2 w))
set_option maxHeartbeats 4000000 in
set_option maxRecDepth 100000 in
theorem jb_X11_seenAs_0 {X : lt_X} {σ : lt_S} (hT : lt_Wt σ) {o : Nat} (h0 : lt_c σ o = 11) {r : Int32 × lt_W} (hF : lt_F X cX11_seenAs RX11 6 (lt_rm 7)) (hE : lt_E X 0 0 σ (some .int) (some (.int r.1)) r.2) : ∀ (x1 : Int32) (x2 : Int32) (x3 : Int32) (x4 : Int32) (w : lt_W), fb_X11_seenAs_0 σ o x1 x2 x3 x4 w = some r → lt_J X 0 0 σ w 0 [(0, .ref (lt_z X + o)), (1, .int x1), (2, .int x2), (3, .int x3), (4, .int x4)] [] := by
  intro x1 x2 x3 x4 w hf
  unfold fb_X11_seenAs_0 at hf
  refine jr_iload hF dX11_seenAs_0 4 rfl ?_
  refine jr_iconst (v := 0) hF dX11_seenAs_2 rfl ?_
  refine jr_iconst (v := 1) hF dX11_seenAs_3 rfl ?_
  obtain ⟨q1, hq1, hf⟩ := Option.bind_eq_some_iff.mp hf
  refine jr_cS31 hF ml_X11_121 (c_X11_within hq1) ⟨Nat.le_of_ble_eq_true rfl, Nat.le_of_ble_eq_true rfl⟩ (Nat.le_of_ble_eq_true rfl) dX11_seenAs_4 ?_
  refine jr_if_eq (tgt := 20) hF dX11_seenAs_7 rfl hf (fun hf => ?_) (fun hf => ?_)
  · refine jr_iconst (v := 1) hF dX11_seenAs_20 rfl ?_
    exact jb_X11_seenAs_21 hT h0 hF hE _ _ _ _ _ _ hf
  · refine jr_aload_n hF dX11_seenAs_10 0 rfl rfl ?_
    refine jr_iload_n hF dX11_seenAs_11 1 rfl rfl ?_
    refine jr_iload_n hF dX11_seenAs_12 2 rfl rfl ?_
    refine jr_iload_n hF dX11_seenAs_13 3 rfl rfl ?_
    obtain ⟨q2, hq2, hf⟩ := Option.bind_eq_some_iff.mp hf
    refine jr_cV31 hF ml_X11_337 (c_X11_seenFails hT h0 hq2) h0 ⟨Nat.le_of_ble_eq_true rfl, Nat.le_of_ble_eq_true rfl⟩ (Nat.le_of_ble_eq_true rfl) dX11_seenAs_14 ?_
    refine jr_goto (tgt := 21) hF dX11_seenAs_17 rfl ?_
    exact jb_X11_seenAs_21 hT h0 hF hE _ _ _ _ _ _ hf
def f_X11_seenAs (σ : lt_S) (o : Nat) (x1 : Int32) (x2 : Int32) (x3 : Int32) (x4 : Int32) (w : lt_W) : Option (Int32 × lt_W) := fb_X11_seenAs_0 σ o x1 x2 x3 x4 w
set_option maxRecDepth 100000 in
theorem c_X11_seenAs {l : Launch} {D : va_G} {gA : Nat → ClassId} {s0 : State} {σ : lt_S} (hT : lt_Wt σ) {o : Nat} (h0 : lt_c σ o = 11) {x1 : Int32} {x2 : Int32} {x3 : Int32} {x4 : Int32} {w : lt_W} {r : Int32 × lt_W} (hf : f_X11_seenAs σ o x1 x2 x3 x4 w = some r) : lt_C l D gA s0 yX11_seenAs cX11_seenAs 6 (some .int) (lt_rm 7) [.ref (s0.heap.size + o), .int x1, .int x2, .int x3, .int x4] σ w σ (some (.int r.1)) r.2 := by
  refine lt_enter rfl (Nat.le_of_ble_eq_true rfl) (fun X e1 e2 e3 e4 hF hE => ?_)
  subst e1 e2 e3 e4
  exact jb_X11_seenAs_0 hT h0 hF hE _ _ _ _ _ hf

set_option maxRecDepth 100000 in
def fb_X11_share_0 (σ : lt_S) (o : Nat) (x1 : Int32) (w : lt_W) : Option (Int32 × lt_W) := Option.bind (f_X5_hasGuest σ (lt_r σ o 5) x1 w) (fun q2 => if q2 = 0 then Option.bind (f_X11_refused σ o 1 w) (fun q15 => lt_bz q15.1 (some (q15.1, q15.2))) else Option.bind (f_X5_dearThere σ (lt_r σ o 5) w) (fun q4 => if q4 = 0 then Option.bind (f_X11_refused σ o 6 w) (fun q13 => lt_bz q13.1 (some (q13.1, q13.2))) else Option.bind (f_X5_isThere σ (lt_r σ o 5) x1 w) (fun q6 => if q6 = 0 then Option.bind (f_X11_refused σ o 7 w) (fun q11 => lt_bz q11.1 (some (q11.1, q11.2))) else lt_ck x1 (lt_len σ (lt_r σ (lt_r σ o 5) 12)) (Option.bind (f_X11_fraction σ o ((lt_gi w (lt_r σ (lt_r σ o 5) 12) x1.toNatClampNeg).toInt64) q4.toInt64 w) (fun q9 => lt_bz q9.1 (some (q9.1, q9.2)))))))
set_option maxHeartbeats 4000000 in
set_option maxRecDepth 100000 in
theorem jb_X11_share_0 {X : lt_X} {σ : lt_S} (hT : lt_Wt σ) {o : Nat} (h0 : lt_c σ o = 11) {r : Int32 × lt_W} (hF : lt_F X cX11_share RX11 3 (lt_rm 3)) (hE : lt_E X 0 0 σ (some .boolean) (some (.int r.1)) r.2) : ∀ (x1 : Int32) (w : lt_W), fb_X11_share_0 σ o x1 w = some r → lt_J X 0 0 σ w 0 [(0, .ref (lt_z X + o)), (1, .int x1)] [] := by
  intro x1 w hf
  unfold fb_X11_share_0 at hf
  refine jr_aload_n hF dX11_share_0 0 rfl rfl ?_
  refine jr_getRT (cr := 5) hF gf_X11_30 hT h0 rfl rfl dX11_share_1 (fun th1 => ?_)
  refine jr_iload_n hF dX11_share_4 1 rfl rfl ?_
  obtain ⟨q2, hq2, hf⟩ := Option.bind_eq_some_iff.mp hf
  refine jr_cV11 hF ml_X11_251 (c_X5_hasGuest th1 hq2) th1 ⟨Nat.le_of_ble_eq_true rfl, Nat.le_of_ble_eq_true rfl⟩ (Nat.le_of_ble_eq_true rfl) dX11_share_5 ?_
  refine jr_if_ne (tgt := 17) hF dX11_share_8 rfl hf (fun hf => ?_) (fun hf => ?_)
  · refine jr_aload_n hF dX11_share_17 0 rfl rfl ?_
    refine jr_getRT (cr := 5) hF gf_X11_30 hT h0 rfl rfl dX11_share_18 (fun th3 => ?_)
    obtain ⟨q4, hq4, hf⟩ := Option.bind_eq_some_iff.mp hf
    refine jr_cV01 hF ml_X11_370 (c_X5_dearThere hT th3 hq4) th3 ⟨Nat.le_of_ble_eq_true rfl, Nat.le_of_ble_eq_true rfl⟩ (Nat.le_of_ble_eq_true rfl) dX11_share_21 ?_
    refine jr_istore_n (lv' := [(0, .ref (lt_z X + o)), (1, .int x1), (2, .int q4)]) hF dX11_share_24 rfl (by decide) [1, 2, 0] rfl ?_
    refine jr_iload_n hF dX11_share_25 2 rfl rfl ?_
    refine jr_if_ne (tgt := 36) hF dX11_share_26 rfl hf (fun hf => ?_) (fun hf => ?_)
    · refine jr_aload_n hF dX11_share_36 0 rfl rfl ?_
      refine jr_getRT (cr := 5) hF gf_X11_30 hT h0 rfl rfl dX11_share_37 (fun th5 => ?_)
      refine jr_iload_n hF dX11_share_40 1 rfl rfl ?_
      obtain ⟨q6, hq6, hf⟩ := Option.bind_eq_some_iff.mp hf
      refine jr_cV11 hF ml_X11_269 (c_X5_isThere th5 hq6) th5 ⟨Nat.le_of_ble_eq_true rfl, Nat.le_of_ble_eq_true rfl⟩ (Nat.le_of_ble_eq_true rfl) dX11_share_41 ?_
      refine jr_if_ne (tgt := 54) hF dX11_share_44 rfl hf (fun hf => ?_) (fun hf => ?_)
      · refine jr_aload_n hF dX11_share_54 0 rfl rfl ?_
        refine jr_aload_n hF dX11_share_55 0 rfl rfl ?_
        refine jr_getRT (cr := 5) hF gf_X11_30 hT h0 rfl rfl dX11_share_56 (fun th7 => ?_)
        refine jr_getRT (cr := 50) hF gf_X11_260 hT th7 rfl rfl dX11_share_59 (fun th8 => ?_)
        refine jr_iload_n hF dX11_share_62 1 rfl rfl ?_
        refine jr_iaload hF th8 dX11_share_63 hf (fun hf => ?_)
        refine jr_i2l hF dX11_share_64 ?_
        refine jr_iload_n hF dX11_share_65 2 rfl rfl ?_
        refine jr_i2l hF dX11_share_66 ?_
        obtain ⟨q9, hq9, hf⟩ := Option.bind_eq_some_iff.mp hf
        refine jr_cV21 hF ml_X11_356 (c_X11_fraction h0 hq9) h0 ⟨Nat.le_of_ble_eq_true rfl, Nat.le_of_ble_eq_true rfl⟩ (Nat.le_of_ble_eq_true rfl) dX11_share_67 ?_
        obtain ⟨b10, hf⟩ := lt_bzE hf
        obtain rfl := Option.some.inj hf
        exact jr_zreturn hF hE b10 dX11_share_70
      · refine jr_aload_n hF dX11_share_47 0 rfl rfl ?_
        refine jr_bipush (v := 7) hF dX11_share_48 rfl ?_
        obtain ⟨q11, hq11, hf⟩ := Option.bind_eq_some_iff.mp hf
        refine jr_cV11 hF ml_X11_125 (c_X11_refused h0 hq11) h0 ⟨Nat.le_of_ble_eq_true rfl, Nat.le_of_ble_eq_true rfl⟩ (Nat.le_of_ble_eq_true rfl) dX11_share_50 ?_
        obtain ⟨b12, hf⟩ := lt_bzE hf
        obtain rfl := Option.some.inj hf
        exact jr_zreturn hF hE b12 dX11_share_53
    · refine jr_aload_n hF dX11_share_29 0 rfl rfl ?_
      refine jr_bipush (v := 6) hF dX11_share_30 rfl ?_
      obtain ⟨q13, hq13, hf⟩ := Option.bind_eq_some_iff.mp hf
      refine jr_cV11 hF ml_X11_125 (c_X11_refused h0 hq13) h0 ⟨Nat.le_of_ble_eq_true rfl, Nat.le_of_ble_eq_true rfl⟩ (Nat.le_of_ble_eq_true rfl) dX11_share_32 ?_
      obtain ⟨b14, hf⟩ := lt_bzE hf
      obtain rfl := Option.some.inj hf
      exact jr_zreturn hF hE b14 dX11_share_35
  · refine jr_aload_n hF dX11_share_11 0 rfl rfl ?_
    refine jr_iconst (v := 1) hF dX11_share_12 rfl ?_
    obtain ⟨q15, hq15, hf⟩ := Option.bind_eq_some_iff.mp hf
    refine jr_cV11 hF ml_X11_125 (c_X11_refused h0 hq15) h0 ⟨Nat.le_of_ble_eq_true rfl, Nat.le_of_ble_eq_true rfl⟩ (Nat.le_of_ble_eq_true rfl) dX11_share_13 ?_
    obtain ⟨b16, hf⟩ := lt_bzE hf
    obtain rfl := Option.some.inj hf
    exact jr_zreturn hF hE b16 dX11_share_16
def f_X11_share (σ : lt_S) (o : Nat) (x1 : Int32) (w : lt_W) : Option (Int32 × lt_W) := fb_X11_share_0 σ o x1 w
set_option maxRecDepth 100000 in
theorem c_X11_share {l : Launch} {D : va_G} {gA : Nat → ClassId} {s0 : State} {σ : lt_S} (hT : lt_Wt σ) {o : Nat} (h0 : lt_c σ o = 11) {x1 : Int32} {w : lt_W} {r : Int32 × lt_W} (hf : f_X11_share σ o x1 w = some r) : lt_C l D gA s0 yX11_share cX11_share 3 (some .boolean) (lt_rm 3) [.ref (s0.heap.size + o), .int x1] σ w σ (some (.int r.1)) r.2 := by
  refine lt_enter rfl (Nat.le_of_ble_eq_true rfl) (fun X e1 e2 e3 e4 hF hE => ?_)
  subst e1 e2 e3 e4
  exact jb_X11_share_0 hT h0 hF hE _ _ hf

set_option maxRecDepth 100000 in
def fb_X11_sit_40 (σ : lt_S) (o : Nat) (w : lt_W) : Option (Int32 × lt_W) := Option.bind (f_X11_none σ o 1 w) (fun q1 => some (q1.1, q1.2))
set_option maxHeartbeats 4000000 in
set_option maxRecDepth 100000 in
theorem jb_X11_sit_40 {X : lt_X} {σ : lt_S} (hT : lt_Wt σ) {o : Nat} (h0 : lt_c σ o = 11) {r : Int32 × lt_W} (hF : lt_F X cX11_sit RX11 6 (lt_rm 2)) (hE : lt_E X 0 0 σ (some .int) (some (.int r.1)) r.2) : ∀ (w : lt_W), fb_X11_sit_40 σ o w = some r → lt_J X 0 0 σ w 40 [(0, .ref (lt_z X + o))] [] := by
  intro w hf
  unfold fb_X11_sit_40 at hf
  refine jr_aload_n hF dX11_sit_40 0 rfl rfl ?_
  refine jr_iconst (v := 1) hF dX11_sit_41 rfl ?_
  obtain ⟨q1, hq1, hf⟩ := Option.bind_eq_some_iff.mp hf
  refine jr_cV11 hF ml_X11_144 (c_X11_none h0 hq1) h0 ⟨Nat.le_of_ble_eq_true rfl, Nat.le_of_ble_eq_true rfl⟩ (Nat.le_of_ble_eq_true rfl) dX11_sit_42 ?_
  obtain rfl := Option.some.inj hf
  exact jr_ireturn hF hE dX11_sit_45
set_option maxRecDepth 100000 in
def fb_X11_sit_0 (σ : lt_S) (o : Nat) (x1 : Int32) (x2 : Int32) (x3 : Int32) (x4 : Int32) (w : lt_W) : Option (Int32 × lt_W) := Option.bind (f_X11_within x1 0 20) (fun q1 => if q1 = 0 then fb_X11_sit_40 σ o w else Option.bind (f_X11_within x2 0 20) (fun q2 => if q2 = 0 then fb_X11_sit_40 σ o w else Option.bind (f_X11_within x3 0 20) (fun q3 => if q3 = 0 then fb_X11_sit_40 σ o w else Option.bind (f_X11_within x4 0 2) (fun q4 => if q4 = 0 then fb_X11_sit_40 σ o w else if (lt_gi w (lt_r σ o 5) 0) < 7 then Option.bind (f_X5_seat σ (lt_r σ o 5) 0 w) (fun q8 => lt_ck (lt_gi w (lt_r σ o 5) 0) (lt_len σ (lt_r σ (lt_r σ o 5) 10)) (lt_let (lt_si q8 (lt_r σ (lt_r σ o 5) 10) (lt_gi w (lt_r σ o 5) 0).toNatClampNeg x1) (fun w11 => lt_ck (lt_gi w (lt_r σ o 5) 0) (lt_len σ (lt_r σ (lt_r σ o 5) 11)) (lt_let (lt_si w11 (lt_r σ (lt_r σ o 5) 11) (lt_gi w (lt_r σ o 5) 0).toNatClampNeg x2) (fun w14 => lt_ck (lt_gi w (lt_r σ o 5) 0) (lt_len σ (lt_r σ (lt_r σ o 5) 12)) (lt_let (lt_si w14 (lt_r σ (lt_r σ o 5) 12) (lt_gi w (lt_r σ o 5) 0).toNatClampNeg x3) (fun w17 => lt_ck (lt_gi w (lt_r σ o 5) 0) (lt_len σ (lt_r σ (lt_r σ o 5) 13)) (lt_let (lt_si w17 (lt_r σ (lt_r σ o 5) 13) (lt_gi w (lt_r σ o 5) 0).toNatClampNeg x4) (fun w20 => Option.bind (f_X11_given σ o (lt_gi w (lt_r σ o 5) 0) w20) (fun q21 => some (q21.1, q21.2))))))))))) else Option.bind (f_X11_none σ o 4 w) (fun q22 => some (q22.1, q22.2))))))
set_option maxHeartbeats 4000000 in
set_option maxRecDepth 100000 in
theorem jb_X11_sit_0 {X : lt_X} {σ : lt_S} (hT : lt_Wt σ) {o : Nat} (h0 : lt_c σ o = 11) {r : Int32 × lt_W} (hF : lt_F X cX11_sit RX11 6 (lt_rm 2)) (hE : lt_E X 0 0 σ (some .int) (some (.int r.1)) r.2) : ∀ (x1 : Int32) (x2 : Int32) (x3 : Int32) (x4 : Int32) (w : lt_W), fb_X11_sit_0 σ o x1 x2 x3 x4 w = some r → lt_J X 0 0 σ w 0 [(0, .ref (lt_z X + o)), (1, .int x1), (2, .int x2), (3, .int x3), (4, .int x4)] [] := by
  intro x1 x2 x3 x4 w hf
  unfold fb_X11_sit_0 at hf
  refine jr_iload_n hF dX11_sit_0 1 rfl rfl ?_
  refine jr_iconst (v := 0) hF dX11_sit_1 rfl ?_
  refine jr_bipush (v := 20) hF dX11_sit_2 rfl ?_
  obtain ⟨q1, hq1, hf⟩ := Option.bind_eq_some_iff.mp hf
  refine jr_cS31 hF ml_X11_121 (c_X11_within hq1) ⟨Nat.le_of_ble_eq_true rfl, Nat.le_of_ble_eq_true rfl⟩ (Nat.le_of_ble_eq_true rfl) dX11_sit_4 ?_
  refine jr_if_eq (tgt := 40) hF dX11_sit_7 rfl hf (fun hf => ?_) (fun hf => ?_)
  · refine jr_sub [0] rfl ?_
    exact jb_X11_sit_40 hT h0 hF hE _ hf
  · refine jr_iload_n hF dX11_sit_10 2 rfl rfl ?_
    refine jr_iconst (v := 0) hF dX11_sit_11 rfl ?_
    refine jr_bipush (v := 20) hF dX11_sit_12 rfl ?_
    obtain ⟨q2, hq2, hf⟩ := Option.bind_eq_some_iff.mp hf
    refine jr_cS31 hF ml_X11_121 (c_X11_within hq2) ⟨Nat.le_of_ble_eq_true rfl, Nat.le_of_ble_eq_true rfl⟩ (Nat.le_of_ble_eq_true rfl) dX11_sit_14 ?_
    refine jr_if_eq (tgt := 40) hF dX11_sit_17 rfl hf (fun hf => ?_) (fun hf => ?_)
    · refine jr_sub [0] rfl ?_
      exact jb_X11_sit_40 hT h0 hF hE _ hf
    · refine jr_iload_n hF dX11_sit_20 3 rfl rfl ?_
      refine jr_iconst (v := 0) hF dX11_sit_21 rfl ?_
      refine jr_bipush (v := 20) hF dX11_sit_22 rfl ?_
      obtain ⟨q3, hq3, hf⟩ := Option.bind_eq_some_iff.mp hf
      refine jr_cS31 hF ml_X11_121 (c_X11_within hq3) ⟨Nat.le_of_ble_eq_true rfl, Nat.le_of_ble_eq_true rfl⟩ (Nat.le_of_ble_eq_true rfl) dX11_sit_24 ?_
      refine jr_if_eq (tgt := 40) hF dX11_sit_27 rfl hf (fun hf => ?_) (fun hf => ?_)
      · refine jr_sub [0] rfl ?_
        exact jb_X11_sit_40 hT h0 hF hE _ hf
      · refine jr_iload hF dX11_sit_30 4 rfl ?_
        refine jr_iconst (v := 0) hF dX11_sit_32 rfl ?_
        refine jr_iconst (v := 2) hF dX11_sit_33 rfl ?_
        obtain ⟨q4, hq4, hf⟩ := Option.bind_eq_some_iff.mp hf
        refine jr_cS31 hF ml_X11_121 (c_X11_within hq4) ⟨Nat.le_of_ble_eq_true rfl, Nat.le_of_ble_eq_true rfl⟩ (Nat.le_of_ble_eq_true rfl) dX11_sit_34 ?_
        refine jr_if_ne (tgt := 46) hF dX11_sit_37 rfl hf (fun hf => ?_) (fun hf => ?_)
        · refine jr_aload_n hF dX11_sit_46 0 rfl rfl ?_
          refine jr_getRT (cr := 5) hF gf_X11_30 hT h0 rfl rfl dX11_sit_47 (fun th5 => ?_)
          refine jr_getI hF gf_X11_191 th5 dX11_sit_50 ?_
          refine jr_bipush (v := 7) hF dX11_sit_53 rfl ?_
          refine jr_icmp_lt (tgt := 64) hF dX11_sit_55 rfl hf (fun hf => ?_) (fun hf => ?_)
          · refine jr_aload_n hF dX11_sit_64 0 rfl rfl ?_
            refine jr_getRT (cr := 5) hF gf_X11_30 hT h0 rfl rfl dX11_sit_65 (fun th6 => ?_)
            refine jr_getI hF gf_X11_191 th6 dX11_sit_68 ?_
            refine jr_istore (lv' := [(0, .ref (lt_z X + o)), (1, .int x1), (2, .int x2), (3, .int x3), (4, .int x4), (5, .int (lt_gi w (lt_r σ o 5) 0))]) hF dX11_sit_71 (by decide) [1, 2, 3, 4, 5, 0] rfl ?_
            refine jr_aload_n hF dX11_sit_73 0 rfl rfl ?_
            refine jr_getRT (cr := 5) hF gf_X11_30 hT h0 rfl rfl dX11_sit_74 (fun th7 => ?_)
            refine jr_lconst (v := 0) hF dX11_sit_77 rfl ?_
            obtain ⟨q8, hq8, hf⟩ := Option.bind_eq_some_iff.mp hf
            refine jr_cV1v hF ml_X11_305 (c_X5_seat hT th7 hq8) th7 ⟨Nat.le_of_ble_eq_true rfl, Nat.le_of_ble_eq_true rfl⟩ (Nat.le_of_ble_eq_true rfl) dX11_sit_78 ?_
            refine jr_aload_n hF dX11_sit_81 0 rfl rfl ?_
            refine jr_getRT (cr := 5) hF gf_X11_30 hT h0 rfl rfl dX11_sit_82 (fun th9 => ?_)
            refine jr_getRT (cr := 50) hF gf_X11_254 hT th9 rfl rfl dX11_sit_85 (fun th10 => ?_)
            refine jr_iload hF dX11_sit_88 5 rfl ?_
            refine jr_iload_n hF dX11_sit_90 1 rfl rfl ?_
            refine jr_iastore hF th10 dX11_sit_91 hf (fun hf => ?_)
            refine jr_letW hf (fun w11 hf => ?_)
            refine jr_aload_n hF dX11_sit_92 0 rfl rfl ?_
            refine jr_getRT (cr := 5) hF gf_X11_30 hT h0 rfl rfl dX11_sit_93 (fun th12 => ?_)
            refine jr_getRT (cr := 50) hF gf_X11_257 hT th12 rfl rfl dX11_sit_96 (fun th13 => ?_)
            refine jr_iload hF dX11_sit_99 5 rfl ?_
            refine jr_iload_n hF dX11_sit_101 2 rfl rfl ?_
            refine jr_iastore hF th13 dX11_sit_102 hf (fun hf => ?_)
            refine jr_letW hf (fun w14 hf => ?_)
            refine jr_aload_n hF dX11_sit_103 0 rfl rfl ?_
            refine jr_getRT (cr := 5) hF gf_X11_30 hT h0 rfl rfl dX11_sit_104 (fun th15 => ?_)
            refine jr_getRT (cr := 50) hF gf_X11_260 hT th15 rfl rfl dX11_sit_107 (fun th16 => ?_)
            refine jr_iload hF dX11_sit_110 5 rfl ?_
            refine jr_iload_n hF dX11_sit_112 3 rfl rfl ?_
            refine jr_iastore hF th16 dX11_sit_113 hf (fun hf => ?_)
            refine jr_letW hf (fun w17 hf => ?_)
            refine jr_aload_n hF dX11_sit_114 0 rfl rfl ?_
            refine jr_getRT (cr := 5) hF gf_X11_30 hT h0 rfl rfl dX11_sit_115 (fun th18 => ?_)
            refine jr_getRT (cr := 50) hF gf_X11_263 hT th18 rfl rfl dX11_sit_118 (fun th19 => ?_)
            refine jr_iload hF dX11_sit_121 5 rfl ?_
            refine jr_iload hF dX11_sit_123 4 rfl ?_
            refine jr_iastore hF th19 dX11_sit_125 hf (fun hf => ?_)
            refine jr_letW hf (fun w20 hf => ?_)
            refine jr_aload_n hF dX11_sit_126 0 rfl rfl ?_
            refine jr_iload hF dX11_sit_127 5 rfl ?_
            obtain ⟨q21, hq21, hf⟩ := Option.bind_eq_some_iff.mp hf
            refine jr_cV11 hF ml_X11_194 (c_X11_given h0 hq21) h0 ⟨Nat.le_of_ble_eq_true rfl, Nat.le_of_ble_eq_true rfl⟩ (Nat.le_of_ble_eq_true rfl) dX11_sit_129 ?_
            obtain rfl := Option.some.inj hf
            exact jr_ireturn hF hE dX11_sit_132
          · refine jr_aload_n hF dX11_sit_58 0 rfl rfl ?_
            refine jr_iconst (v := 4) hF dX11_sit_59 rfl ?_
            obtain ⟨q22, hq22, hf⟩ := Option.bind_eq_some_iff.mp hf
            refine jr_cV11 hF ml_X11_144 (c_X11_none h0 hq22) h0 ⟨Nat.le_of_ble_eq_true rfl, Nat.le_of_ble_eq_true rfl⟩ (Nat.le_of_ble_eq_true rfl) dX11_sit_60 ?_
            obtain rfl := Option.some.inj hf
            exact jr_ireturn hF hE dX11_sit_63
        · refine jr_sub [0] rfl ?_
          exact jb_X11_sit_40 hT h0 hF hE _ hf
def f_X11_sit (σ : lt_S) (o : Nat) (x1 : Int32) (x2 : Int32) (x3 : Int32) (x4 : Int32) (w : lt_W) : Option (Int32 × lt_W) := fb_X11_sit_0 σ o x1 x2 x3 x4 w
set_option maxRecDepth 100000 in
theorem c_X11_sit {l : Launch} {D : va_G} {gA : Nat → ClassId} {s0 : State} {σ : lt_S} (hT : lt_Wt σ) {o : Nat} (h0 : lt_c σ o = 11) {x1 : Int32} {x2 : Int32} {x3 : Int32} {x4 : Int32} {w : lt_W} {r : Int32 × lt_W} (hf : f_X11_sit σ o x1 x2 x3 x4 w = some r) : lt_C l D gA s0 yX11_sit cX11_sit 6 (some .int) (lt_rm 2) [.ref (s0.heap.size + o), .int x1, .int x2, .int x3, .int x4] σ w σ (some (.int r.1)) r.2 := by
  refine lt_enter rfl (Nat.le_of_ble_eq_true rfl) (fun X e1 e2 e3 e4 hF hE => ?_)
  subst e1 e2 e3 e4
  exact jb_X11_sit_0 hT h0 hF hE _ _ _ _ _ hf

set_option maxRecDepth 100000 in
def fb_X11_slicesIn_0 (σ : lt_S) (o : Nat) (x1 : Int32) (w : lt_W) : Option (Int32 × lt_W) := Option.bind (f_X11_within x1 0 99) (fun q1 => if q1 = 0 then Option.bind (f_X11_none σ o 1 w) (fun q6 => some (q6.1, q6.2)) else Option.bind (f_X0_inDays σ (lt_r σ o 9) x1 w) (fun q3 => Option.bind (f_X11_given σ o (lt_gi q3.2 q3.1 5) q3.2) (fun q5 => some (q5.1, q5.2))))
set_option maxHeartbeats 4000000 in
set_option maxRecDepth 100000 in
theorem jb_X11_slicesIn_0 {X : lt_X} {σ : lt_S} (hT : lt_Wt σ) {o : Nat} (h0 : lt_c σ o = 11) {r : Int32 × lt_W} (hF : lt_F X cX11_slicesIn RX11 2 (lt_rm 6)) (hE : lt_E X 0 0 σ (some .int) (some (.int r.1)) r.2) : ∀ (x1 : Int32) (w : lt_W), fb_X11_slicesIn_0 σ o x1 w = some r → lt_J X 0 0 σ w 0 [(0, .ref (lt_z X + o)), (1, .int x1)] [] := by
  intro x1 w hf
  unfold fb_X11_slicesIn_0 at hf
  refine jr_iload_n hF dX11_slicesIn_0 1 rfl rfl ?_
  refine jr_iconst (v := 0) hF dX11_slicesIn_1 rfl ?_
  refine jr_bipush (v := 99) hF dX11_slicesIn_2 rfl ?_
  obtain ⟨q1, hq1, hf⟩ := Option.bind_eq_some_iff.mp hf
  refine jr_cS31 hF ml_X11_121 (c_X11_within hq1) ⟨Nat.le_of_ble_eq_true rfl, Nat.le_of_ble_eq_true rfl⟩ (Nat.le_of_ble_eq_true rfl) dX11_slicesIn_4 ?_
  refine jr_if_ne (tgt := 16) hF dX11_slicesIn_7 rfl hf (fun hf => ?_) (fun hf => ?_)
  · refine jr_aload_n hF dX11_slicesIn_16 0 rfl rfl ?_
    refine jr_aload_n hF dX11_slicesIn_17 0 rfl rfl ?_
    refine jr_getRT (cr := 0) hF gf_X11_64 hT h0 rfl rfl dX11_slicesIn_18 (fun th2 => ?_)
    refine jr_iload_n hF dX11_slicesIn_21 1 rfl rfl ?_
    obtain ⟨q3, hq3, hf⟩ := Option.bind_eq_some_iff.mp hf
    refine jr_cV11 hF ml_X11_309 (c_X0_inDays hT th2 hq3) th2 ⟨Nat.le_of_ble_eq_true rfl, Nat.le_of_ble_eq_true rfl⟩ (Nat.le_of_ble_eq_true rfl) dX11_slicesIn_22 ?_
    have th4 := ct_X0_inDays hT th2 hq3
    refine jr_getI hF gf_X11_232 th4 dX11_slicesIn_25 ?_
    obtain ⟨q5, hq5, hf⟩ := Option.bind_eq_some_iff.mp hf
    refine jr_cV11 hF ml_X11_194 (c_X11_given h0 hq5) h0 ⟨Nat.le_of_ble_eq_true rfl, Nat.le_of_ble_eq_true rfl⟩ (Nat.le_of_ble_eq_true rfl) dX11_slicesIn_28 ?_
    obtain rfl := Option.some.inj hf
    exact jr_ireturn hF hE dX11_slicesIn_31
  · refine jr_aload_n hF dX11_slicesIn_10 0 rfl rfl ?_
    refine jr_iconst (v := 1) hF dX11_slicesIn_11 rfl ?_
    obtain ⟨q6, hq6, hf⟩ := Option.bind_eq_some_iff.mp hf
    refine jr_cV11 hF ml_X11_144 (c_X11_none h0 hq6) h0 ⟨Nat.le_of_ble_eq_true rfl, Nat.le_of_ble_eq_true rfl⟩ (Nat.le_of_ble_eq_true rfl) dX11_slicesIn_12 ?_
    obtain rfl := Option.some.inj hf
    exact jr_ireturn hF hE dX11_slicesIn_15
def f_X11_slicesIn (σ : lt_S) (o : Nat) (x1 : Int32) (w : lt_W) : Option (Int32 × lt_W) := fb_X11_slicesIn_0 σ o x1 w
set_option maxRecDepth 100000 in
theorem c_X11_slicesIn {l : Launch} {D : va_G} {gA : Nat → ClassId} {s0 : State} {σ : lt_S} (hT : lt_Wt σ) {o : Nat} (h0 : lt_c σ o = 11) {x1 : Int32} {w : lt_W} {r : Int32 × lt_W} (hf : f_X11_slicesIn σ o x1 w = some r) : lt_C l D gA s0 yX11_slicesIn cX11_slicesIn 2 (some .int) (lt_rm 6) [.ref (s0.heap.size + o), .int x1] σ w σ (some (.int r.1)) r.2 := by
  refine lt_enter rfl (Nat.le_of_ble_eq_true rfl) (fun X e1 e2 e3 e4 hF hE => ?_)
  subst e1 e2 e3 e4
  exact jb_X11_slicesIn_0 hT h0 hF hE _ _ hf

set_option maxRecDepth 100000 in
def fb_X11_soup_0 (σ : lt_S) (o : Nat) (x1 : Int32) (w : lt_W) : Option (Int32 × lt_W) := Option.bind (f_X5_hasGuest σ (lt_r σ o 5) x1 w) (fun q2 => if q2 = 0 then Option.bind (f_X11_none σ o 1 w) (fun q13 => some (q13.1, q13.2)) else Option.bind (f_X5_hungers σ (lt_r σ o 5) x1 w) (fun q4 => if q4 = 0 then Option.bind (f_X11_none σ o 7 w) (fun q12 => some (q12.1, q12.2)) else lt_ck x1 (lt_len σ (lt_r σ (lt_r σ o 5) 14)) (lt_let (lt_gi w (lt_r σ (lt_r σ o 5) 14) x1.toNatClampNeg) (fun z7 => lt_ck x1 (lt_len σ (lt_r σ (lt_r σ o 5) 14)) (lt_let (lt_si w (lt_r σ (lt_r σ o 5) 14) x1.toNatClampNeg 0) (fun w10 => Option.bind (f_X11_given σ o z7 w10) (fun q11 => some (q11.1, q11.2))))))))
set_option maxHeartbeats 4000000 in
set_option maxRecDepth 100000 in
theorem jb_X11_soup_0 {X : lt_X} {σ : lt_S} (hT : lt_Wt σ) {o : Nat} (h0 : lt_c σ o = 11) {r : Int32 × lt_W} (hF : lt_F X cX11_soup RX11 3 (lt_rm 3)) (hE : lt_E X 0 0 σ (some .int) (some (.int r.1)) r.2) : ∀ (x1 : Int32) (w : lt_W), fb_X11_soup_0 σ o x1 w = some r → lt_J X 0 0 σ w 0 [(0, .ref (lt_z X + o)), (1, .int x1)] [] := by
  intro x1 w hf
  unfold fb_X11_soup_0 at hf
  refine jr_aload_n hF dX11_soup_0 0 rfl rfl ?_
  refine jr_getRT (cr := 5) hF gf_X11_30 hT h0 rfl rfl dX11_soup_1 (fun th1 => ?_)
  refine jr_iload_n hF dX11_soup_4 1 rfl rfl ?_
  obtain ⟨q2, hq2, hf⟩ := Option.bind_eq_some_iff.mp hf
  refine jr_cV11 hF ml_X11_251 (c_X5_hasGuest th1 hq2) th1 ⟨Nat.le_of_ble_eq_true rfl, Nat.le_of_ble_eq_true rfl⟩ (Nat.le_of_ble_eq_true rfl) dX11_soup_5 ?_
  refine jr_if_ne (tgt := 17) hF dX11_soup_8 rfl hf (fun hf => ?_) (fun hf => ?_)
  · refine jr_aload_n hF dX11_soup_17 0 rfl rfl ?_
    refine jr_getRT (cr := 5) hF gf_X11_30 hT h0 rfl rfl dX11_soup_18 (fun th3 => ?_)
    refine jr_iload_n hF dX11_soup_21 1 rfl rfl ?_
    obtain ⟨q4, hq4, hf⟩ := Option.bind_eq_some_iff.mp hf
    refine jr_cV11 hF ml_X11_302 (c_X5_hungers hT th3 hq4) th3 ⟨Nat.le_of_ble_eq_true rfl, Nat.le_of_ble_eq_true rfl⟩ (Nat.le_of_ble_eq_true rfl) dX11_soup_22 ?_
    refine jr_if_ne (tgt := 35) hF dX11_soup_25 rfl hf (fun hf => ?_) (fun hf => ?_)
    · refine jr_aload_n hF dX11_soup_35 0 rfl rfl ?_
      refine jr_getRT (cr := 5) hF gf_X11_30 hT h0 rfl rfl dX11_soup_36 (fun th5 => ?_)
      refine jr_getRT (cr := 50) hF gf_X11_266 hT th5 rfl rfl dX11_soup_39 (fun th6 => ?_)
      refine jr_iload_n hF dX11_soup_42 1 rfl rfl ?_
      refine jr_iaload hF th6 dX11_soup_43 hf (fun hf => ?_)
      refine jr_letI hf (fun z7 hf => ?_)
      refine jr_istore_n (lv' := [(0, .ref (lt_z X + o)), (1, .int x1), (2, .int z7)]) hF dX11_soup_44 rfl (by decide) [1, 2, 0] rfl ?_
      refine jr_aload_n hF dX11_soup_45 0 rfl rfl ?_
      refine jr_getRT (cr := 5) hF gf_X11_30 hT h0 rfl rfl dX11_soup_46 (fun th8 => ?_)
      refine jr_getRT (cr := 50) hF gf_X11_266 hT th8 rfl rfl dX11_soup_49 (fun th9 => ?_)
      refine jr_iload_n hF dX11_soup_52 1 rfl rfl ?_
      refine jr_iconst (v := 0) hF dX11_soup_53 rfl ?_
      refine jr_iastore hF th9 dX11_soup_54 hf (fun hf => ?_)
      refine jr_letW hf (fun w10 hf => ?_)
      refine jr_aload_n hF dX11_soup_55 0 rfl rfl ?_
      refine jr_iload_n hF dX11_soup_56 2 rfl rfl ?_
      obtain ⟨q11, hq11, hf⟩ := Option.bind_eq_some_iff.mp hf
      refine jr_cV11 hF ml_X11_194 (c_X11_given h0 hq11) h0 ⟨Nat.le_of_ble_eq_true rfl, Nat.le_of_ble_eq_true rfl⟩ (Nat.le_of_ble_eq_true rfl) dX11_soup_57 ?_
      obtain rfl := Option.some.inj hf
      exact jr_ireturn hF hE dX11_soup_60
    · refine jr_aload_n hF dX11_soup_28 0 rfl rfl ?_
      refine jr_bipush (v := 7) hF dX11_soup_29 rfl ?_
      obtain ⟨q12, hq12, hf⟩ := Option.bind_eq_some_iff.mp hf
      refine jr_cV11 hF ml_X11_144 (c_X11_none h0 hq12) h0 ⟨Nat.le_of_ble_eq_true rfl, Nat.le_of_ble_eq_true rfl⟩ (Nat.le_of_ble_eq_true rfl) dX11_soup_31 ?_
      obtain rfl := Option.some.inj hf
      exact jr_ireturn hF hE dX11_soup_34
  · refine jr_aload_n hF dX11_soup_11 0 rfl rfl ?_
    refine jr_iconst (v := 1) hF dX11_soup_12 rfl ?_
    obtain ⟨q13, hq13, hf⟩ := Option.bind_eq_some_iff.mp hf
    refine jr_cV11 hF ml_X11_144 (c_X11_none h0 hq13) h0 ⟨Nat.le_of_ble_eq_true rfl, Nat.le_of_ble_eq_true rfl⟩ (Nat.le_of_ble_eq_true rfl) dX11_soup_13 ?_
    obtain rfl := Option.some.inj hf
    exact jr_ireturn hF hE dX11_soup_16
def f_X11_soup (σ : lt_S) (o : Nat) (x1 : Int32) (w : lt_W) : Option (Int32 × lt_W) := fb_X11_soup_0 σ o x1 w
set_option maxRecDepth 100000 in
theorem c_X11_soup {l : Launch} {D : va_G} {gA : Nat → ClassId} {s0 : State} {σ : lt_S} (hT : lt_Wt σ) {o : Nat} (h0 : lt_c σ o = 11) {x1 : Int32} {w : lt_W} {r : Int32 × lt_W} (hf : f_X11_soup σ o x1 w = some r) : lt_C l D gA s0 yX11_soup cX11_soup 3 (some .int) (lt_rm 3) [.ref (s0.heap.size + o), .int x1] σ w σ (some (.int r.1)) r.2 := by
  refine lt_enter rfl (Nat.le_of_ble_eq_true rfl) (fun X e1 e2 e3 e4 hF hE => ?_)
  subst e1 e2 e3 e4
  exact jb_X11_soup_0 hT h0 hF hE _ _ hf

set_option maxRecDepth 100000 in
def fb_X11_stale_0 (σ : lt_S) (o : Nat) (x1 : Int32) (w : lt_W) : Option (Int32 × lt_W) := Option.bind (f_X11_within x1 0 12) (fun q1 => if q1 = 0 then Option.bind (f_X11_refused σ o 1 w) (fun q7 => lt_bz q7.1 (some (q7.1, q7.2))) else Option.bind (f_X11_power ((16 - (lt_gi w (lt_r σ o 5) 1)).toInt64) x1) (fun q3 => Option.bind (f_X11_power 16 x1) (fun q4 => Option.bind (f_X11_fraction σ o q3 q4 w) (fun q5 => lt_bz q5.1 (some (q5.1, q5.2))))))
set_option maxHeartbeats 4000000 in
set_option maxRecDepth 100000 in
theorem jb_X11_stale_0 {X : lt_X} {σ : lt_S} (hT : lt_Wt σ) {o : Nat} (h0 : lt_c σ o = 11) {r : Int32 × lt_W} (hF : lt_F X cX11_stale RX11 2 (lt_rm 3)) (hE : lt_E X 0 0 σ (some .boolean) (some (.int r.1)) r.2) : ∀ (x1 : Int32) (w : lt_W), fb_X11_stale_0 σ o x1 w = some r → lt_J X 0 0 σ w 0 [(0, .ref (lt_z X + o)), (1, .int x1)] [] := by
  intro x1 w hf
  unfold fb_X11_stale_0 at hf
  refine jr_iload_n hF dX11_stale_0 1 rfl rfl ?_
  refine jr_iconst (v := 0) hF dX11_stale_1 rfl ?_
  refine jr_bipush (v := 12) hF dX11_stale_2 rfl ?_
  obtain ⟨q1, hq1, hf⟩ := Option.bind_eq_some_iff.mp hf
  refine jr_cS31 hF ml_X11_121 (c_X11_within hq1) ⟨Nat.le_of_ble_eq_true rfl, Nat.le_of_ble_eq_true rfl⟩ (Nat.le_of_ble_eq_true rfl) dX11_stale_4 ?_
  refine jr_if_ne (tgt := 16) hF dX11_stale_7 rfl hf (fun hf => ?_) (fun hf => ?_)
  · refine jr_aload_n hF dX11_stale_16 0 rfl rfl ?_
    refine jr_bipush (v := 16) hF dX11_stale_17 rfl ?_
    refine jr_aload_n hF dX11_stale_19 0 rfl rfl ?_
    refine jr_getRT (cr := 5) hF gf_X11_30 hT h0 rfl rfl dX11_stale_20 (fun th2 => ?_)
    refine jr_getI hF gf_X11_220 th2 dX11_stale_23 ?_
    refine jr_isub hF dX11_stale_26 ?_
    refine jr_i2l hF dX11_stale_27 ?_
    refine jr_iload_n hF dX11_stale_28 1 rfl rfl ?_
    obtain ⟨q3, hq3, hf⟩ := Option.bind_eq_some_iff.mp hf
    refine jr_cS21 hF ml_X11_362 (c_X11_power hq3) ⟨Nat.le_of_ble_eq_true rfl, Nat.le_of_ble_eq_true rfl⟩ (Nat.le_of_ble_eq_true rfl) dX11_stale_29 ?_
    refine jr_ldc2 (v := 16) hF dX11_stale_32 kc_X11_368 ?_
    refine jr_iload_n hF dX11_stale_35 1 rfl rfl ?_
    obtain ⟨q4, hq4, hf⟩ := Option.bind_eq_some_iff.mp hf
    refine jr_cS21 hF ml_X11_362 (c_X11_power hq4) ⟨Nat.le_of_ble_eq_true rfl, Nat.le_of_ble_eq_true rfl⟩ (Nat.le_of_ble_eq_true rfl) dX11_stale_36 ?_
    obtain ⟨q5, hq5, hf⟩ := Option.bind_eq_some_iff.mp hf
    refine jr_cV21 hF ml_X11_356 (c_X11_fraction h0 hq5) h0 ⟨Nat.le_of_ble_eq_true rfl, Nat.le_of_ble_eq_true rfl⟩ (Nat.le_of_ble_eq_true rfl) dX11_stale_39 ?_
    obtain ⟨b6, hf⟩ := lt_bzE hf
    obtain rfl := Option.some.inj hf
    exact jr_zreturn hF hE b6 dX11_stale_42
  · refine jr_aload_n hF dX11_stale_10 0 rfl rfl ?_
    refine jr_iconst (v := 1) hF dX11_stale_11 rfl ?_
    obtain ⟨q7, hq7, hf⟩ := Option.bind_eq_some_iff.mp hf
    refine jr_cV11 hF ml_X11_125 (c_X11_refused h0 hq7) h0 ⟨Nat.le_of_ble_eq_true rfl, Nat.le_of_ble_eq_true rfl⟩ (Nat.le_of_ble_eq_true rfl) dX11_stale_12 ?_
    obtain ⟨b8, hf⟩ := lt_bzE hf
    obtain rfl := Option.some.inj hf
    exact jr_zreturn hF hE b8 dX11_stale_15
def f_X11_stale (σ : lt_S) (o : Nat) (x1 : Int32) (w : lt_W) : Option (Int32 × lt_W) := fb_X11_stale_0 σ o x1 w
set_option maxRecDepth 100000 in
theorem c_X11_stale {l : Launch} {D : va_G} {gA : Nat → ClassId} {s0 : State} {σ : lt_S} (hT : lt_Wt σ) {o : Nat} (h0 : lt_c σ o = 11) {x1 : Int32} {w : lt_W} {r : Int32 × lt_W} (hf : f_X11_stale σ o x1 w = some r) : lt_C l D gA s0 yX11_stale cX11_stale 2 (some .boolean) (lt_rm 3) [.ref (s0.heap.size + o), .int x1] σ w σ (some (.int r.1)) r.2 := by
  refine lt_enter rfl (Nat.le_of_ble_eq_true rfl) (fun X e1 e2 e3 e4 hF hE => ?_)
  subst e1 e2 e3 e4
  exact jb_X11_stale_0 hT h0 hF hE _ _ hf

set_option maxRecDepth 100000 in
def fb_X11_starving_0 (σ : lt_S) (o : Nat) (w : lt_W) : Option (Int32 × lt_W) := Option.bind (f_X0_daysToStarve σ (lt_r σ o 9) w) (fun q2 => Option.bind (f_X11_givenIfAny σ o q2.1 q2.2) (fun q3 => some (q3.1, q3.2)))
set_option maxHeartbeats 4000000 in
set_option maxRecDepth 100000 in
theorem jb_X11_starving_0 {X : lt_X} {σ : lt_S} (hT : lt_Wt σ) {o : Nat} (h0 : lt_c σ o = 11) {r : Int32 × lt_W} (hF : lt_F X cX11_starving RX11 1 (lt_rm 6)) (hE : lt_E X 0 0 σ (some .int) (some (.int r.1)) r.2) : ∀ (w : lt_W), fb_X11_starving_0 σ o w = some r → lt_J X 0 0 σ w 0 [(0, .ref (lt_z X + o))] [] := by
  intro w hf
  unfold fb_X11_starving_0 at hf
  refine jr_aload_n hF dX11_starving_0 0 rfl rfl ?_
  refine jr_aload_n hF dX11_starving_1 0 rfl rfl ?_
  refine jr_getRT (cr := 0) hF gf_X11_64 hT h0 rfl rfl dX11_starving_2 (fun th1 => ?_)
  obtain ⟨q2, hq2, hf⟩ := Option.bind_eq_some_iff.mp hf
  refine jr_cV01 hF ml_X11_325 (c_X0_daysToStarve hT th1 hq2) th1 ⟨Nat.le_of_ble_eq_true rfl, Nat.le_of_ble_eq_true rfl⟩ (Nat.le_of_ble_eq_true rfl) dX11_starving_5 ?_
  obtain ⟨q3, hq3, hf⟩ := Option.bind_eq_some_iff.mp hf
  refine jr_cV11 hF ml_X11_275 (c_X11_givenIfAny h0 hq3) h0 ⟨Nat.le_of_ble_eq_true rfl, Nat.le_of_ble_eq_true rfl⟩ (Nat.le_of_ble_eq_true rfl) dX11_starving_8 ?_
  obtain rfl := Option.some.inj hf
  exact jr_ireturn hF hE dX11_starving_11
def f_X11_starving (σ : lt_S) (o : Nat) (w : lt_W) : Option (Int32 × lt_W) := fb_X11_starving_0 σ o w
set_option maxRecDepth 100000 in
theorem c_X11_starving {l : Launch} {D : va_G} {gA : Nat → ClassId} {s0 : State} {σ : lt_S} (hT : lt_Wt σ) {o : Nat} (h0 : lt_c σ o = 11) {w : lt_W} {r : Int32 × lt_W} (hf : f_X11_starving σ o w = some r) : lt_C l D gA s0 yX11_starving cX11_starving 1 (some .int) (lt_rm 6) [.ref (s0.heap.size + o)] σ w σ (some (.int r.1)) r.2 := by
  refine lt_enter rfl (Nat.le_of_ble_eq_true rfl) (fun X e1 e2 e3 e4 hF hE => ?_)
  subst e1 e2 e3 e4
  exact jb_X11_starving_0 hT h0 hF hE _ hf

set_option maxRecDepth 100000 in
def fb_X11_status_0 (σ : lt_S) (o : Nat) (w : lt_W) : Option Int32 := some (lt_gi w o 0)
set_option maxHeartbeats 4000000 in
set_option maxRecDepth 100000 in
theorem jb_X11_status_0 {X : lt_X} {σ : lt_S} {o : Nat} (h0 : lt_c σ o = 11) {r : Int32} {w : lt_W} (hF : lt_F X cX11_status RX11 1 (lt_rm 1)) (hE : lt_E X 0 0 σ (some .int) (some (.int r)) w) : fb_X11_status_0 σ o w = some r → lt_J X 0 0 σ w 0 [(0, .ref (lt_z X + o))] [] := by
  intro  hf
  unfold fb_X11_status_0 at hf
  refine jr_aload_n hF dX11_status_0 0 rfl rfl ?_
  refine jr_getI hF gf_X11_110 h0 dX11_status_1 ?_
  obtain rfl := Option.some.inj hf
  exact jr_ireturn hF hE dX11_status_4
def f_X11_status (σ : lt_S) (o : Nat) (w : lt_W) : Option Int32 := fb_X11_status_0 σ o w
set_option maxRecDepth 100000 in
theorem c_X11_status {l : Launch} {D : va_G} {gA : Nat → ClassId} {s0 : State} {σ : lt_S} {o : Nat} (h0 : lt_c σ o = 11) {w : lt_W} {r : Int32} (hf : f_X11_status σ o w = some r) : lt_C l D gA s0 yX11_status cX11_status 1 (some .int) (lt_rm 1) [.ref (s0.heap.size + o)] σ w σ (some (.int r)) w := by
  refine lt_enter rfl (Nat.le_of_ble_eq_true rfl) (fun X e1 e2 e3 e4 hF hE => ?_)
  subst e1 e2 e3 e4
  exact jb_X11_status_0 h0 hF hE hf

set_option maxRecDepth 100000 in
def fb_X11_sway_21 (σ : lt_S) (o : Nat) (w : lt_W) : Option (Int32 × lt_W) := Option.bind (f_X11_none σ o 1 w) (fun q1 => some (q1.1, q1.2))
set_option maxHeartbeats 4000000 in
set_option maxRecDepth 100000 in
theorem jb_X11_sway_21 {X : lt_X} {σ : lt_S} (hT : lt_Wt σ) {o : Nat} (h0 : lt_c σ o = 11) {r : Int32 × lt_W} (hF : lt_F X cX11_sway RX11 4 (lt_rm 2)) (hE : lt_E X 0 0 σ (some .int) (some (.int r.1)) r.2) : ∀ (w : lt_W), fb_X11_sway_21 σ o w = some r → lt_J X 0 0 σ w 21 [(0, .ref (lt_z X + o))] [] := by
  intro w hf
  unfold fb_X11_sway_21 at hf
  refine jr_aload_n hF dX11_sway_21 0 rfl rfl ?_
  refine jr_iconst (v := 1) hF dX11_sway_22 rfl ?_
  obtain ⟨q1, hq1, hf⟩ := Option.bind_eq_some_iff.mp hf
  refine jr_cV11 hF ml_X11_144 (c_X11_none h0 hq1) h0 ⟨Nat.le_of_ble_eq_true rfl, Nat.le_of_ble_eq_true rfl⟩ (Nat.le_of_ble_eq_true rfl) dX11_sway_23 ?_
  obtain rfl := Option.some.inj hf
  exact jr_ireturn hF hE dX11_sway_26
set_option maxRecDepth 100000 in
def fb_X11_sway_0 (σ : lt_S) (o : Nat) (x1 : Int32) (x2 : Int32) (w : lt_W) : Option (Int32 × lt_W) := Option.bind (f_X5_hasGuest σ (lt_r σ o 5) x1 w) (fun q2 => if q2 = 0 then fb_X11_sway_21 σ o w else Option.bind (f_X11_within x2 0 20) (fun q3 => if q3 = 0 then fb_X11_sway_21 σ o w else Option.bind (f_X5_isThere σ (lt_r σ o 5) x1 w) (fun q5 => if q5 = 0 then Option.bind (f_X11_none σ o 7 w) (fun q13 => some (q13.1, q13.2)) else lt_ck x1 (lt_len σ (lt_r σ (lt_r σ o 5) 10)) (lt_let (lt_gi w (lt_r σ (lt_r σ o 5) 10) x1.toNatClampNeg) (fun z8 => lt_ck x1 (lt_len σ (lt_r σ (lt_r σ o 5) 10)) (lt_let (lt_si w (lt_r σ (lt_r σ o 5) 10) x1.toNatClampNeg x2) (fun w11 => Option.bind (f_X11_given σ o z8 w11) (fun q12 => some (q12.1, q12.2)))))))))
set_option maxHeartbeats 4000000 in
set_option maxRecDepth 100000 in
theorem jb_X11_sway_0 {X : lt_X} {σ : lt_S} (hT : lt_Wt σ) {o : Nat} (h0 : lt_c σ o = 11) {r : Int32 × lt_W} (hF : lt_F X cX11_sway RX11 4 (lt_rm 2)) (hE : lt_E X 0 0 σ (some .int) (some (.int r.1)) r.2) : ∀ (x1 : Int32) (x2 : Int32) (w : lt_W), fb_X11_sway_0 σ o x1 x2 w = some r → lt_J X 0 0 σ w 0 [(0, .ref (lt_z X + o)), (1, .int x1), (2, .int x2)] [] := by
  intro x1 x2 w hf
  unfold fb_X11_sway_0 at hf
  refine jr_aload_n hF dX11_sway_0 0 rfl rfl ?_
  refine jr_getRT (cr := 5) hF gf_X11_30 hT h0 rfl rfl dX11_sway_1 (fun th1 => ?_)
  refine jr_iload_n hF dX11_sway_4 1 rfl rfl ?_
  obtain ⟨q2, hq2, hf⟩ := Option.bind_eq_some_iff.mp hf
  refine jr_cV11 hF ml_X11_251 (c_X5_hasGuest th1 hq2) th1 ⟨Nat.le_of_ble_eq_true rfl, Nat.le_of_ble_eq_true rfl⟩ (Nat.le_of_ble_eq_true rfl) dX11_sway_5 ?_
  refine jr_if_eq (tgt := 21) hF dX11_sway_8 rfl hf (fun hf => ?_) (fun hf => ?_)
  · refine jr_sub [0] rfl ?_
    exact jb_X11_sway_21 hT h0 hF hE _ hf
  · refine jr_iload_n hF dX11_sway_11 2 rfl rfl ?_
    refine jr_iconst (v := 0) hF dX11_sway_12 rfl ?_
    refine jr_bipush (v := 20) hF dX11_sway_13 rfl ?_
    obtain ⟨q3, hq3, hf⟩ := Option.bind_eq_some_iff.mp hf
    refine jr_cS31 hF ml_X11_121 (c_X11_within hq3) ⟨Nat.le_of_ble_eq_true rfl, Nat.le_of_ble_eq_true rfl⟩ (Nat.le_of_ble_eq_true rfl) dX11_sway_15 ?_
    refine jr_if_ne (tgt := 27) hF dX11_sway_18 rfl hf (fun hf => ?_) (fun hf => ?_)
    · refine jr_aload_n hF dX11_sway_27 0 rfl rfl ?_
      refine jr_getRT (cr := 5) hF gf_X11_30 hT h0 rfl rfl dX11_sway_28 (fun th4 => ?_)
      refine jr_iload_n hF dX11_sway_31 1 rfl rfl ?_
      obtain ⟨q5, hq5, hf⟩ := Option.bind_eq_some_iff.mp hf
      refine jr_cV11 hF ml_X11_269 (c_X5_isThere th4 hq5) th4 ⟨Nat.le_of_ble_eq_true rfl, Nat.le_of_ble_eq_true rfl⟩ (Nat.le_of_ble_eq_true rfl) dX11_sway_32 ?_
      refine jr_if_ne (tgt := 45) hF dX11_sway_35 rfl hf (fun hf => ?_) (fun hf => ?_)
      · refine jr_aload_n hF dX11_sway_45 0 rfl rfl ?_
        refine jr_getRT (cr := 5) hF gf_X11_30 hT h0 rfl rfl dX11_sway_46 (fun th6 => ?_)
        refine jr_getRT (cr := 50) hF gf_X11_254 hT th6 rfl rfl dX11_sway_49 (fun th7 => ?_)
        refine jr_iload_n hF dX11_sway_52 1 rfl rfl ?_
        refine jr_iaload hF th7 dX11_sway_53 hf (fun hf => ?_)
        refine jr_letI hf (fun z8 hf => ?_)
        refine jr_istore_n (lv' := [(0, .ref (lt_z X + o)), (1, .int x1), (2, .int x2), (3, .int z8)]) hF dX11_sway_54 rfl (by decide) [1, 2, 3, 0] rfl ?_
        refine jr_aload_n hF dX11_sway_55 0 rfl rfl ?_
        refine jr_getRT (cr := 5) hF gf_X11_30 hT h0 rfl rfl dX11_sway_56 (fun th9 => ?_)
        refine jr_getRT (cr := 50) hF gf_X11_254 hT th9 rfl rfl dX11_sway_59 (fun th10 => ?_)
        refine jr_iload_n hF dX11_sway_62 1 rfl rfl ?_
        refine jr_iload_n hF dX11_sway_63 2 rfl rfl ?_
        refine jr_iastore hF th10 dX11_sway_64 hf (fun hf => ?_)
        refine jr_letW hf (fun w11 hf => ?_)
        refine jr_aload_n hF dX11_sway_65 0 rfl rfl ?_
        refine jr_iload_n hF dX11_sway_66 3 rfl rfl ?_
        obtain ⟨q12, hq12, hf⟩ := Option.bind_eq_some_iff.mp hf
        refine jr_cV11 hF ml_X11_194 (c_X11_given h0 hq12) h0 ⟨Nat.le_of_ble_eq_true rfl, Nat.le_of_ble_eq_true rfl⟩ (Nat.le_of_ble_eq_true rfl) dX11_sway_67 ?_
        obtain rfl := Option.some.inj hf
        exact jr_ireturn hF hE dX11_sway_70
      · refine jr_aload_n hF dX11_sway_38 0 rfl rfl ?_
        refine jr_bipush (v := 7) hF dX11_sway_39 rfl ?_
        obtain ⟨q13, hq13, hf⟩ := Option.bind_eq_some_iff.mp hf
        refine jr_cV11 hF ml_X11_144 (c_X11_none h0 hq13) h0 ⟨Nat.le_of_ble_eq_true rfl, Nat.le_of_ble_eq_true rfl⟩ (Nat.le_of_ble_eq_true rfl) dX11_sway_41 ?_
        obtain rfl := Option.some.inj hf
        exact jr_ireturn hF hE dX11_sway_44
    · refine jr_sub [0] rfl ?_
      exact jb_X11_sway_21 hT h0 hF hE _ hf
def f_X11_sway (σ : lt_S) (o : Nat) (x1 : Int32) (x2 : Int32) (w : lt_W) : Option (Int32 × lt_W) := fb_X11_sway_0 σ o x1 x2 w
set_option maxRecDepth 100000 in
theorem c_X11_sway {l : Launch} {D : va_G} {gA : Nat → ClassId} {s0 : State} {σ : lt_S} (hT : lt_Wt σ) {o : Nat} (h0 : lt_c σ o = 11) {x1 : Int32} {x2 : Int32} {w : lt_W} {r : Int32 × lt_W} (hf : f_X11_sway σ o x1 x2 w = some r) : lt_C l D gA s0 yX11_sway cX11_sway 4 (some .int) (lt_rm 2) [.ref (s0.heap.size + o), .int x1, .int x2] σ w σ (some (.int r.1)) r.2 := by
  refine lt_enter rfl (Nat.le_of_ble_eq_true rfl) (fun X e1 e2 e3 e4 hF hE => ?_)
  subst e1 e2 e3 e4
  exact jb_X11_sway_0 hT h0 hF hE _ _ _ hf

set_option maxRecDepth 100000 in
def fb_X11_table_0 (σ : lt_S) (o : Nat) (x1 : Int32) (w : lt_W) : Option (Int32 × lt_W) := Option.bind (f_X11_within x1 0 (lt_gi w (lt_r σ o 4) 1)) (fun q2 => if q2 = 0 then Option.bind (f_X11_none σ o 1 w) (fun q16 => some (q16.1, q16.2)) else Option.bind (f_X7_begin σ (lt_r σ o 4) x1 w) (fun q4 => Option.bind (f_X6_isTable σ (lt_r σ o 7) q4) (fun q6 => if q6.1 = 0 then Option.bind (f_X11_none σ o 9 q6.2) (fun q15 => some (q15.1, q15.2)) else Option.bind (f_X5_copyFrom σ (lt_r σ o 5) (lt_r σ (lt_r σ o 7) 1) q6.2) (fun q10 => Option.bind (f_X9_forget σ (lt_r σ o 6) q10) (fun q12 => Option.bind (f_X11_given σ o (lt_gi q12 (lt_r σ o 5) 0) q12) (fun q14 => some (q14.1, q14.2)))))))
set_option maxHeartbeats 4000000 in
set_option maxRecDepth 100000 in
theorem jb_X11_table_0 {X : lt_X} {σ : lt_S} (hT : lt_Wt σ) {o : Nat} (h0 : lt_c σ o = 11) {r : Int32 × lt_W} (hF : lt_F X cX11_table RX11 2 (lt_rm 13)) (hE : lt_E X 0 0 σ (some .int) (some (.int r.1)) r.2) : ∀ (x1 : Int32) (w : lt_W), fb_X11_table_0 σ o x1 w = some r → lt_J X 0 0 σ w 0 [(0, .ref (lt_z X + o)), (1, .int x1)] [] := by
  intro x1 w hf
  unfold fb_X11_table_0 at hf
  refine jr_iload_n hF dX11_table_0 1 rfl rfl ?_
  refine jr_iconst (v := 0) hF dX11_table_1 rfl ?_
  refine jr_aload_n hF dX11_table_2 0 rfl rfl ?_
  refine jr_getRT (cr := 7) hF gf_X11_23 hT h0 rfl rfl dX11_table_3 (fun th1 => ?_)
  refine jr_getI hF gf_X11_169 th1 dX11_table_6 ?_
  obtain ⟨q2, hq2, hf⟩ := Option.bind_eq_some_iff.mp hf
  refine jr_cS31 hF ml_X11_121 (c_X11_within hq2) ⟨Nat.le_of_ble_eq_true rfl, Nat.le_of_ble_eq_true rfl⟩ (Nat.le_of_ble_eq_true rfl) dX11_table_9 ?_
  refine jr_if_ne (tgt := 21) hF dX11_table_12 rfl hf (fun hf => ?_) (fun hf => ?_)
  · refine jr_aload_n hF dX11_table_21 0 rfl rfl ?_
    refine jr_getRT (cr := 7) hF gf_X11_23 hT h0 rfl rfl dX11_table_22 (fun th3 => ?_)
    refine jr_iload_n hF dX11_table_25 1 rfl rfl ?_
    obtain ⟨q4, hq4, hf⟩ := Option.bind_eq_some_iff.mp hf
    refine jr_cV1v hF ml_X11_176 (c_X7_begin hT th3 hq4) th3 ⟨Nat.le_of_ble_eq_true rfl, Nat.le_of_ble_eq_true rfl⟩ (Nat.le_of_ble_eq_true rfl) dX11_table_26 ?_
    refine jr_aload_n hF dX11_table_29 0 rfl rfl ?_
    refine jr_getRT (cr := 6) hF gf_X11_46 hT h0 rfl rfl dX11_table_30 (fun th5 => ?_)
    obtain ⟨q6, hq6, hf⟩ := Option.bind_eq_some_iff.mp hf
    refine jr_cV01 hF ml_X11_179 (c_X6_isTable hT th5 hq6) th5 ⟨Nat.le_of_ble_eq_true rfl, Nat.le_of_ble_eq_true rfl⟩ (Nat.le_of_ble_eq_true rfl) dX11_table_33 ?_
    refine jr_if_ne (tgt := 46) hF dX11_table_36 rfl hf (fun hf => ?_) (fun hf => ?_)
    · refine jr_aload_n hF dX11_table_46 0 rfl rfl ?_
      refine jr_getRT (cr := 5) hF gf_X11_30 hT h0 rfl rfl dX11_table_47 (fun th7 => ?_)
      refine jr_aload_n hF dX11_table_50 0 rfl rfl ?_
      refine jr_getRT (cr := 6) hF gf_X11_46 hT h0 rfl rfl dX11_table_51 (fun th8 => ?_)
      refine jr_getRT (cr := 5) hF gf_X11_182 hT th8 rfl rfl dX11_table_54 (fun th9 => ?_)
      obtain ⟨q10, hq10, hf⟩ := Option.bind_eq_some_iff.mp hf
      refine jr_cV1v hF ml_X11_185 (c_X5_copyFrom hT th7 th9 hq10) th7 ⟨Nat.le_of_ble_eq_true rfl, Nat.le_of_ble_eq_true rfl⟩ (Nat.le_of_ble_eq_true rfl) dX11_table_57 ?_
      refine jr_aload_n hF dX11_table_60 0 rfl rfl ?_
      refine jr_getRT (cr := 9) hF gf_X11_37 hT h0 rfl rfl dX11_table_61 (fun th11 => ?_)
      obtain ⟨q12, hq12, hf⟩ := Option.bind_eq_some_iff.mp hf
      refine jr_cV0v hF ml_X11_188 (c_X9_forget th11 hq12) th11 ⟨Nat.le_of_ble_eq_true rfl, Nat.le_of_ble_eq_true rfl⟩ (Nat.le_of_ble_eq_true rfl) dX11_table_64 ?_
      refine jr_aload_n hF dX11_table_67 0 rfl rfl ?_
      refine jr_aload_n hF dX11_table_68 0 rfl rfl ?_
      refine jr_getRT (cr := 5) hF gf_X11_30 hT h0 rfl rfl dX11_table_69 (fun th13 => ?_)
      refine jr_getI hF gf_X11_191 th13 dX11_table_72 ?_
      obtain ⟨q14, hq14, hf⟩ := Option.bind_eq_some_iff.mp hf
      refine jr_cV11 hF ml_X11_194 (c_X11_given h0 hq14) h0 ⟨Nat.le_of_ble_eq_true rfl, Nat.le_of_ble_eq_true rfl⟩ (Nat.le_of_ble_eq_true rfl) dX11_table_75 ?_
      obtain rfl := Option.some.inj hf
      exact jr_ireturn hF hE dX11_table_78
    · refine jr_aload_n hF dX11_table_39 0 rfl rfl ?_
      refine jr_bipush (v := 9) hF dX11_table_40 rfl ?_
      obtain ⟨q15, hq15, hf⟩ := Option.bind_eq_some_iff.mp hf
      refine jr_cV11 hF ml_X11_144 (c_X11_none h0 hq15) h0 ⟨Nat.le_of_ble_eq_true rfl, Nat.le_of_ble_eq_true rfl⟩ (Nat.le_of_ble_eq_true rfl) dX11_table_42 ?_
      obtain rfl := Option.some.inj hf
      exact jr_ireturn hF hE dX11_table_45
  · refine jr_aload_n hF dX11_table_15 0 rfl rfl ?_
    refine jr_iconst (v := 1) hF dX11_table_16 rfl ?_
    obtain ⟨q16, hq16, hf⟩ := Option.bind_eq_some_iff.mp hf
    refine jr_cV11 hF ml_X11_144 (c_X11_none h0 hq16) h0 ⟨Nat.le_of_ble_eq_true rfl, Nat.le_of_ble_eq_true rfl⟩ (Nat.le_of_ble_eq_true rfl) dX11_table_17 ?_
    obtain rfl := Option.some.inj hf
    exact jr_ireturn hF hE dX11_table_20
def f_X11_table (σ : lt_S) (o : Nat) (x1 : Int32) (w : lt_W) : Option (Int32 × lt_W) := fb_X11_table_0 σ o x1 w
set_option maxRecDepth 100000 in
theorem c_X11_table {l : Launch} {D : va_G} {gA : Nat → ClassId} {s0 : State} {σ : lt_S} (hT : lt_Wt σ) {o : Nat} (h0 : lt_c σ o = 11) {x1 : Int32} {w : lt_W} {r : Int32 × lt_W} (hf : f_X11_table σ o x1 w = some r) : lt_C l D gA s0 yX11_table cX11_table 2 (some .int) (lt_rm 13) [.ref (s0.heap.size + o), .int x1] σ w σ (some (.int r.1)) r.2 := by
  refine lt_enter rfl (Nat.le_of_ble_eq_true rfl) (fun X e1 e2 e3 e4 hF hE => ?_)
  subst e1 e2 e3 e4
  exact jb_X11_table_0 hT h0 hF hE _ _ hf

set_option maxRecDepth 100000 in
def fb_X11_thereIn_0 (σ : lt_S) (o : Nat) (x1 : Int32) (w : lt_W) : Option (Int32 × lt_W) := Option.bind (f_X11_within x1 0 99) (fun q1 => if q1 = 0 then Option.bind (f_X11_none σ o 1 w) (fun q6 => some (q6.1, q6.2)) else Option.bind (f_X0_inDays σ (lt_r σ o 9) x1 w) (fun q3 => Option.bind (f_X11_given σ o (lt_gi q3.2 q3.1 8) q3.2) (fun q5 => some (q5.1, q5.2))))
set_option maxHeartbeats 4000000 in
set_option maxRecDepth 100000 in
theorem jb_X11_thereIn_0 {X : lt_X} {σ : lt_S} (hT : lt_Wt σ) {o : Nat} (h0 : lt_c σ o = 11) {r : Int32 × lt_W} (hF : lt_F X cX11_thereIn RX11 2 (lt_rm 6)) (hE : lt_E X 0 0 σ (some .int) (some (.int r.1)) r.2) : ∀ (x1 : Int32) (w : lt_W), fb_X11_thereIn_0 σ o x1 w = some r → lt_J X 0 0 σ w 0 [(0, .ref (lt_z X + o)), (1, .int x1)] [] := by
  intro x1 w hf
  unfold fb_X11_thereIn_0 at hf
  refine jr_iload_n hF dX11_thereIn_0 1 rfl rfl ?_
  refine jr_iconst (v := 0) hF dX11_thereIn_1 rfl ?_
  refine jr_bipush (v := 99) hF dX11_thereIn_2 rfl ?_
  obtain ⟨q1, hq1, hf⟩ := Option.bind_eq_some_iff.mp hf
  refine jr_cS31 hF ml_X11_121 (c_X11_within hq1) ⟨Nat.le_of_ble_eq_true rfl, Nat.le_of_ble_eq_true rfl⟩ (Nat.le_of_ble_eq_true rfl) dX11_thereIn_4 ?_
  refine jr_if_ne (tgt := 16) hF dX11_thereIn_7 rfl hf (fun hf => ?_) (fun hf => ?_)
  · refine jr_aload_n hF dX11_thereIn_16 0 rfl rfl ?_
    refine jr_aload_n hF dX11_thereIn_17 0 rfl rfl ?_
    refine jr_getRT (cr := 0) hF gf_X11_64 hT h0 rfl rfl dX11_thereIn_18 (fun th2 => ?_)
    refine jr_iload_n hF dX11_thereIn_21 1 rfl rfl ?_
    obtain ⟨q3, hq3, hf⟩ := Option.bind_eq_some_iff.mp hf
    refine jr_cV11 hF ml_X11_309 (c_X0_inDays hT th2 hq3) th2 ⟨Nat.le_of_ble_eq_true rfl, Nat.le_of_ble_eq_true rfl⟩ (Nat.le_of_ble_eq_true rfl) dX11_thereIn_22 ?_
    have th4 := ct_X0_inDays hT th2 hq3
    refine jr_getI hF gf_X11_241 th4 dX11_thereIn_25 ?_
    obtain ⟨q5, hq5, hf⟩ := Option.bind_eq_some_iff.mp hf
    refine jr_cV11 hF ml_X11_194 (c_X11_given h0 hq5) h0 ⟨Nat.le_of_ble_eq_true rfl, Nat.le_of_ble_eq_true rfl⟩ (Nat.le_of_ble_eq_true rfl) dX11_thereIn_28 ?_
    obtain rfl := Option.some.inj hf
    exact jr_ireturn hF hE dX11_thereIn_31
  · refine jr_aload_n hF dX11_thereIn_10 0 rfl rfl ?_
    refine jr_iconst (v := 1) hF dX11_thereIn_11 rfl ?_
    obtain ⟨q6, hq6, hf⟩ := Option.bind_eq_some_iff.mp hf
    refine jr_cV11 hF ml_X11_144 (c_X11_none h0 hq6) h0 ⟨Nat.le_of_ble_eq_true rfl, Nat.le_of_ble_eq_true rfl⟩ (Nat.le_of_ble_eq_true rfl) dX11_thereIn_12 ?_
    obtain rfl := Option.some.inj hf
    exact jr_ireturn hF hE dX11_thereIn_15
def f_X11_thereIn (σ : lt_S) (o : Nat) (x1 : Int32) (w : lt_W) : Option (Int32 × lt_W) := fb_X11_thereIn_0 σ o x1 w
set_option maxRecDepth 100000 in
theorem c_X11_thereIn {l : Launch} {D : va_G} {gA : Nat → ClassId} {s0 : State} {σ : lt_S} (hT : lt_Wt σ) {o : Nat} (h0 : lt_c σ o = 11) {x1 : Int32} {w : lt_W} {r : Int32 × lt_W} (hf : f_X11_thereIn σ o x1 w = some r) : lt_C l D gA s0 yX11_thereIn cX11_thereIn 2 (some .int) (lt_rm 6) [.ref (s0.heap.size + o), .int x1] σ w σ (some (.int r.1)) r.2 := by
  refine lt_enter rfl (Nat.le_of_ble_eq_true rfl) (fun X e1 e2 e3 e4 hF hE => ?_)
  subst e1 e2 e3 e4
  exact jb_X11_thereIn_0 hT h0 hF hE _ _ hf

set_option maxRecDepth 100000 in
def fb_X11_told_0 (σ : lt_S) (o : Nat) (x1 : Int32) (w : lt_W) : Option (Int32 × lt_W) := if x1 = 0 then Option.bind (f_X11_given σ o (lt_gi w (lt_r σ o 5) 0) w) (fun q2 => some (q2.1, q2.2)) else if x1 = 1 then Option.bind (f_X11_given σ o (lt_gi w (lt_r σ o 5) 1) w) (fun q5 => some (q5.1, q5.2)) else if x1 = 2 then Option.bind (f_X11_given σ o (lt_gi w (lt_r σ o 5) 2) w) (fun q8 => some (q8.1, q8.2)) else if x1 = 3 then Option.bind (f_X11_given σ o (lt_gi w (lt_r σ o 5) 3) w) (fun q11 => some (q11.1, q11.2)) else if x1 = 4 then Option.bind (f_X11_given σ o (lt_gi w (lt_r σ o 5) 4) w) (fun q14 => some (q14.1, q14.2)) else if x1 = 5 then Option.bind (f_X11_given σ o (lt_gi w (lt_r σ o 5) 5) w) (fun q17 => some (q17.1, q17.2)) else if x1 = 6 then Option.bind (f_X11_given σ o (lt_gi w (lt_r σ o 5) 6) w) (fun q20 => some (q20.1, q20.2)) else if x1 = 7 then Option.bind (f_X11_given σ o (lt_gi w (lt_r σ o 5) 7) w) (fun q23 => some (q23.1, q23.2)) else if x1 = 8 then Option.bind (f_X11_given σ o (lt_gi w (lt_r σ o 5) 8) w) (fun q26 => some (q26.1, q26.2)) else if x1 = 9 then Option.bind (f_X5_hungrySet σ (lt_r σ o 5) w) (fun q29 => Option.bind (f_X11_given σ o q29 w) (fun q30 => some (q30.1, q30.2))) else if x1 = 10 then Option.bind (f_X5_starvedSet σ (lt_r σ o 5) w) (fun q33 => Option.bind (f_X11_given σ o q33 w) (fun q34 => some (q34.1, q34.2))) else Option.bind (f_X11_none σ o 1 w) (fun q36 => some (q36.1, q36.2))
set_option maxHeartbeats 4000000 in
set_option maxRecDepth 100000 in
theorem jb_X11_told_0 {X : lt_X} {σ : lt_S} (hT : lt_Wt σ) {o : Nat} (h0 : lt_c σ o = 11) {r : Int32 × lt_W} (hF : lt_F X cX11_told RX11 2 (lt_rm 4)) (hE : lt_E X 0 0 σ (some .int) (some (.int r.1)) r.2) : ∀ (x1 : Int32) (w : lt_W), fb_X11_told_0 σ o x1 w = some r → lt_J X 0 0 σ w 0 [(0, .ref (lt_z X + o)), (1, .int x1)] [] := by
  intro x1 w hf
  unfold fb_X11_told_0 at hf
  refine jr_iload_n hF dX11_told_0 1 rfl rfl ?_
  by_cases c3 : x1 = 0
  · rw [if_pos c3] at hf
    refine jr_tableIn (off := 59) (tgt := 60) hF dX11_told_1 (by rw [c3]; decide) (by rw [c3]; decide) (by rw [c3]; rfl) rfl ?_
    refine jr_aload_n hF dX11_told_60 0 rfl rfl ?_
    refine jr_aload_n hF dX11_told_61 0 rfl rfl ?_
    refine jr_getRT (cr := 5) hF gf_X11_30 hT h0 rfl rfl dX11_told_62 (fun th1 => ?_)
    refine jr_getI hF gf_X11_191 th1 dX11_told_65 ?_
    obtain ⟨q2, hq2, hf⟩ := Option.bind_eq_some_iff.mp hf
    refine jr_cV11 hF ml_X11_194 (c_X11_given h0 hq2) h0 ⟨Nat.le_of_ble_eq_true rfl, Nat.le_of_ble_eq_true rfl⟩ (Nat.le_of_ble_eq_true rfl) dX11_told_68 ?_
    obtain rfl := Option.some.inj hf
    exact jr_ireturn hF hE dX11_told_71
  rw [if_neg c3] at hf
  by_cases c6 : x1 = 1
  · rw [if_pos c6] at hf
    refine jr_tableIn (off := 71) (tgt := 72) hF dX11_told_1 (by rw [c6]; decide) (by rw [c6]; decide) (by rw [c6]; rfl) rfl ?_
    refine jr_aload_n hF dX11_told_72 0 rfl rfl ?_
    refine jr_aload_n hF dX11_told_73 0 rfl rfl ?_
    refine jr_getRT (cr := 5) hF gf_X11_30 hT h0 rfl rfl dX11_told_74 (fun th4 => ?_)
    refine jr_getI hF gf_X11_220 th4 dX11_told_77 ?_
    obtain ⟨q5, hq5, hf⟩ := Option.bind_eq_some_iff.mp hf
    refine jr_cV11 hF ml_X11_194 (c_X11_given h0 hq5) h0 ⟨Nat.le_of_ble_eq_true rfl, Nat.le_of_ble_eq_true rfl⟩ (Nat.le_of_ble_eq_true rfl) dX11_told_80 ?_
    obtain rfl := Option.some.inj hf
    exact jr_ireturn hF hE dX11_told_83
  rw [if_neg c6] at hf
  by_cases c9 : x1 = 2
  · rw [if_pos c9] at hf
    refine jr_tableIn (off := 83) (tgt := 84) hF dX11_told_1 (by rw [c9]; decide) (by rw [c9]; decide) (by rw [c9]; rfl) rfl ?_
    refine jr_aload_n hF dX11_told_84 0 rfl rfl ?_
    refine jr_aload_n hF dX11_told_85 0 rfl rfl ?_
    refine jr_getRT (cr := 5) hF gf_X11_30 hT h0 rfl rfl dX11_told_86 (fun th7 => ?_)
    refine jr_getI hF gf_X11_223 th7 dX11_told_89 ?_
    obtain ⟨q8, hq8, hf⟩ := Option.bind_eq_some_iff.mp hf
    refine jr_cV11 hF ml_X11_194 (c_X11_given h0 hq8) h0 ⟨Nat.le_of_ble_eq_true rfl, Nat.le_of_ble_eq_true rfl⟩ (Nat.le_of_ble_eq_true rfl) dX11_told_92 ?_
    obtain rfl := Option.some.inj hf
    exact jr_ireturn hF hE dX11_told_95
  rw [if_neg c9] at hf
  by_cases c12 : x1 = 3
  · rw [if_pos c12] at hf
    refine jr_tableIn (off := 95) (tgt := 96) hF dX11_told_1 (by rw [c12]; decide) (by rw [c12]; decide) (by rw [c12]; rfl) rfl ?_
    refine jr_aload_n hF dX11_told_96 0 rfl rfl ?_
    refine jr_aload_n hF dX11_told_97 0 rfl rfl ?_
    refine jr_getRT (cr := 5) hF gf_X11_30 hT h0 rfl rfl dX11_told_98 (fun th10 => ?_)
    refine jr_getI hF gf_X11_226 th10 dX11_told_101 ?_
    obtain ⟨q11, hq11, hf⟩ := Option.bind_eq_some_iff.mp hf
    refine jr_cV11 hF ml_X11_194 (c_X11_given h0 hq11) h0 ⟨Nat.le_of_ble_eq_true rfl, Nat.le_of_ble_eq_true rfl⟩ (Nat.le_of_ble_eq_true rfl) dX11_told_104 ?_
    obtain rfl := Option.some.inj hf
    exact jr_ireturn hF hE dX11_told_107
  rw [if_neg c12] at hf
  by_cases c15 : x1 = 4
  · rw [if_pos c15] at hf
    refine jr_tableIn (off := 107) (tgt := 108) hF dX11_told_1 (by rw [c15]; decide) (by rw [c15]; decide) (by rw [c15]; rfl) rfl ?_
    refine jr_aload_n hF dX11_told_108 0 rfl rfl ?_
    refine jr_aload_n hF dX11_told_109 0 rfl rfl ?_
    refine jr_getRT (cr := 5) hF gf_X11_30 hT h0 rfl rfl dX11_told_110 (fun th13 => ?_)
    refine jr_getI hF gf_X11_229 th13 dX11_told_113 ?_
    obtain ⟨q14, hq14, hf⟩ := Option.bind_eq_some_iff.mp hf
    refine jr_cV11 hF ml_X11_194 (c_X11_given h0 hq14) h0 ⟨Nat.le_of_ble_eq_true rfl, Nat.le_of_ble_eq_true rfl⟩ (Nat.le_of_ble_eq_true rfl) dX11_told_116 ?_
    obtain rfl := Option.some.inj hf
    exact jr_ireturn hF hE dX11_told_119
  rw [if_neg c15] at hf
  by_cases c18 : x1 = 5
  · rw [if_pos c18] at hf
    refine jr_tableIn (off := 119) (tgt := 120) hF dX11_told_1 (by rw [c18]; decide) (by rw [c18]; decide) (by rw [c18]; rfl) rfl ?_
    refine jr_aload_n hF dX11_told_120 0 rfl rfl ?_
    refine jr_aload_n hF dX11_told_121 0 rfl rfl ?_
    refine jr_getRT (cr := 5) hF gf_X11_30 hT h0 rfl rfl dX11_told_122 (fun th16 => ?_)
    refine jr_getI hF gf_X11_232 th16 dX11_told_125 ?_
    obtain ⟨q17, hq17, hf⟩ := Option.bind_eq_some_iff.mp hf
    refine jr_cV11 hF ml_X11_194 (c_X11_given h0 hq17) h0 ⟨Nat.le_of_ble_eq_true rfl, Nat.le_of_ble_eq_true rfl⟩ (Nat.le_of_ble_eq_true rfl) dX11_told_128 ?_
    obtain rfl := Option.some.inj hf
    exact jr_ireturn hF hE dX11_told_131
  rw [if_neg c18] at hf
  by_cases c21 : x1 = 6
  · rw [if_pos c21] at hf
    refine jr_tableIn (off := 131) (tgt := 132) hF dX11_told_1 (by rw [c21]; decide) (by rw [c21]; decide) (by rw [c21]; rfl) rfl ?_
    refine jr_aload_n hF dX11_told_132 0 rfl rfl ?_
    refine jr_aload_n hF dX11_told_133 0 rfl rfl ?_
    refine jr_getRT (cr := 5) hF gf_X11_30 hT h0 rfl rfl dX11_told_134 (fun th19 => ?_)
    refine jr_getI hF gf_X11_235 th19 dX11_told_137 ?_
    obtain ⟨q20, hq20, hf⟩ := Option.bind_eq_some_iff.mp hf
    refine jr_cV11 hF ml_X11_194 (c_X11_given h0 hq20) h0 ⟨Nat.le_of_ble_eq_true rfl, Nat.le_of_ble_eq_true rfl⟩ (Nat.le_of_ble_eq_true rfl) dX11_told_140 ?_
    obtain rfl := Option.some.inj hf
    exact jr_ireturn hF hE dX11_told_143
  rw [if_neg c21] at hf
  by_cases c24 : x1 = 7
  · rw [if_pos c24] at hf
    refine jr_tableIn (off := 143) (tgt := 144) hF dX11_told_1 (by rw [c24]; decide) (by rw [c24]; decide) (by rw [c24]; rfl) rfl ?_
    refine jr_aload_n hF dX11_told_144 0 rfl rfl ?_
    refine jr_aload_n hF dX11_told_145 0 rfl rfl ?_
    refine jr_getRT (cr := 5) hF gf_X11_30 hT h0 rfl rfl dX11_told_146 (fun th22 => ?_)
    refine jr_getI hF gf_X11_238 th22 dX11_told_149 ?_
    obtain ⟨q23, hq23, hf⟩ := Option.bind_eq_some_iff.mp hf
    refine jr_cV11 hF ml_X11_194 (c_X11_given h0 hq23) h0 ⟨Nat.le_of_ble_eq_true rfl, Nat.le_of_ble_eq_true rfl⟩ (Nat.le_of_ble_eq_true rfl) dX11_told_152 ?_
    obtain rfl := Option.some.inj hf
    exact jr_ireturn hF hE dX11_told_155
  rw [if_neg c24] at hf
  by_cases c27 : x1 = 8
  · rw [if_pos c27] at hf
    refine jr_tableIn (off := 155) (tgt := 156) hF dX11_told_1 (by rw [c27]; decide) (by rw [c27]; decide) (by rw [c27]; rfl) rfl ?_
    refine jr_aload_n hF dX11_told_156 0 rfl rfl ?_
    refine jr_aload_n hF dX11_told_157 0 rfl rfl ?_
    refine jr_getRT (cr := 5) hF gf_X11_30 hT h0 rfl rfl dX11_told_158 (fun th25 => ?_)
    refine jr_getI hF gf_X11_241 th25 dX11_told_161 ?_
    obtain ⟨q26, hq26, hf⟩ := Option.bind_eq_some_iff.mp hf
    refine jr_cV11 hF ml_X11_194 (c_X11_given h0 hq26) h0 ⟨Nat.le_of_ble_eq_true rfl, Nat.le_of_ble_eq_true rfl⟩ (Nat.le_of_ble_eq_true rfl) dX11_told_164 ?_
    obtain rfl := Option.some.inj hf
    exact jr_ireturn hF hE dX11_told_167
  rw [if_neg c27] at hf
  by_cases c31 : x1 = 9
  · rw [if_pos c31] at hf
    refine jr_tableIn (off := 167) (tgt := 168) hF dX11_told_1 (by rw [c31]; decide) (by rw [c31]; decide) (by rw [c31]; rfl) rfl ?_
    refine jr_aload_n hF dX11_told_168 0 rfl rfl ?_
    refine jr_aload_n hF dX11_told_169 0 rfl rfl ?_
    refine jr_getRT (cr := 5) hF gf_X11_30 hT h0 rfl rfl dX11_told_170 (fun th28 => ?_)
    obtain ⟨q29, hq29, hf⟩ := Option.bind_eq_some_iff.mp hf
    refine jr_cV01 hF ml_X11_244 (c_X5_hungrySet hT th28 hq29) th28 ⟨Nat.le_of_ble_eq_true rfl, Nat.le_of_ble_eq_true rfl⟩ (Nat.le_of_ble_eq_true rfl) dX11_told_173 ?_
    obtain ⟨q30, hq30, hf⟩ := Option.bind_eq_some_iff.mp hf
    refine jr_cV11 hF ml_X11_194 (c_X11_given h0 hq30) h0 ⟨Nat.le_of_ble_eq_true rfl, Nat.le_of_ble_eq_true rfl⟩ (Nat.le_of_ble_eq_true rfl) dX11_told_176 ?_
    obtain rfl := Option.some.inj hf
    exact jr_ireturn hF hE dX11_told_179
  rw [if_neg c31] at hf
  by_cases c35 : x1 = 10
  · rw [if_pos c35] at hf
    refine jr_tableIn (off := 179) (tgt := 180) hF dX11_told_1 (by rw [c35]; decide) (by rw [c35]; decide) (by rw [c35]; rfl) rfl ?_
    refine jr_aload_n hF dX11_told_180 0 rfl rfl ?_
    refine jr_aload_n hF dX11_told_181 0 rfl rfl ?_
    refine jr_getRT (cr := 5) hF gf_X11_30 hT h0 rfl rfl dX11_told_182 (fun th32 => ?_)
    obtain ⟨q33, hq33, hf⟩ := Option.bind_eq_some_iff.mp hf
    refine jr_cV01 hF ml_X11_248 (c_X5_starvedSet hT th32 hq33) th32 ⟨Nat.le_of_ble_eq_true rfl, Nat.le_of_ble_eq_true rfl⟩ (Nat.le_of_ble_eq_true rfl) dX11_told_185 ?_
    obtain ⟨q34, hq34, hf⟩ := Option.bind_eq_some_iff.mp hf
    refine jr_cV11 hF ml_X11_194 (c_X11_given h0 hq34) h0 ⟨Nat.le_of_ble_eq_true rfl, Nat.le_of_ble_eq_true rfl⟩ (Nat.le_of_ble_eq_true rfl) dX11_told_188 ?_
    obtain rfl := Option.some.inj hf
    exact jr_ireturn hF hE dX11_told_191
  rw [if_neg c35] at hf
  refine jr_tableOut (tgt := 192) hF dX11_told_1 (lt_swd fun kk h1 h2 => by rcases (show kk = 0 ∨ kk = 1 ∨ kk = 2 ∨ kk = 3 ∨ kk = 4 ∨ kk = 5 ∨ kk = 6 ∨ kk = 7 ∨ kk = 8 ∨ kk = 9 ∨ kk = 10 by omega) with rfl | rfl | rfl | rfl | rfl | rfl | rfl | rfl | rfl | rfl | rfl <;> first | exact c3 | exact c6 | exact c9 | exact c12 | exact c15 | exact c18 | exact c21 | exact c24 | exact c27 | exact c31 | exact c35) rfl ?_
  refine jr_aload_n hF dX11_told_192 0 rfl rfl ?_
  refine jr_iconst (v := 1) hF dX11_told_193 rfl ?_
  obtain ⟨q36, hq36, hf⟩ := Option.bind_eq_some_iff.mp hf
  refine jr_cV11 hF ml_X11_144 (c_X11_none h0 hq36) h0 ⟨Nat.le_of_ble_eq_true rfl, Nat.le_of_ble_eq_true rfl⟩ (Nat.le_of_ble_eq_true rfl) dX11_told_194 ?_
  obtain rfl := Option.some.inj hf
  exact jr_ireturn hF hE dX11_told_197
def f_X11_told (σ : lt_S) (o : Nat) (x1 : Int32) (w : lt_W) : Option (Int32 × lt_W) := fb_X11_told_0 σ o x1 w
set_option maxRecDepth 100000 in
theorem c_X11_told {l : Launch} {D : va_G} {gA : Nat → ClassId} {s0 : State} {σ : lt_S} (hT : lt_Wt σ) {o : Nat} (h0 : lt_c σ o = 11) {x1 : Int32} {w : lt_W} {r : Int32 × lt_W} (hf : f_X11_told σ o x1 w = some r) : lt_C l D gA s0 yX11_told cX11_told 2 (some .int) (lt_rm 4) [.ref (s0.heap.size + o), .int x1] σ w σ (some (.int r.1)) r.2 := by
  refine lt_enter rfl (Nat.le_of_ble_eq_true rfl) (fun X e1 e2 e3 e4 hF hE => ?_)
  subst e1 e2 e3 e4
  exact jb_X11_told_0 hT h0 hF hE _ _ hf

set_option maxRecDepth 100000 in
def fb_X11_top_0 (σ : lt_S) (o : Nat) (w : lt_W) : Option Int64 := some (lt_gl w o 1)
set_option maxHeartbeats 4000000 in
set_option maxRecDepth 100000 in
theorem jb_X11_top_0 {X : lt_X} {σ : lt_S} {o : Nat} (h0 : lt_c σ o = 11) {r : Int64} {w : lt_W} (hF : lt_F X cX11_top RX11 1 (lt_rm 1)) (hE : lt_E X 0 0 σ (some .long) (some (.long r)) w) : fb_X11_top_0 σ o w = some r → lt_J X 0 0 σ w 0 [(0, .ref (lt_z X + o))] [] := by
  intro  hf
  unfold fb_X11_top_0 at hf
  refine jr_aload_n hF dX11_top_0 0 rfl rfl ?_
  refine jr_getL hF gf_X11_114 h0 dX11_top_1 ?_
  obtain rfl := Option.some.inj hf
  exact jr_lreturn hF hE dX11_top_4
def f_X11_top (σ : lt_S) (o : Nat) (w : lt_W) : Option Int64 := fb_X11_top_0 σ o w
set_option maxRecDepth 100000 in
theorem c_X11_top {l : Launch} {D : va_G} {gA : Nat → ClassId} {s0 : State} {σ : lt_S} {o : Nat} (h0 : lt_c σ o = 11) {w : lt_W} {r : Int64} (hf : f_X11_top σ o w = some r) : lt_C l D gA s0 yX11_top cX11_top 1 (some .long) (lt_rm 1) [.ref (s0.heap.size + o)] σ w σ (some (.long r)) w := by
  refine lt_enter rfl (Nat.le_of_ble_eq_true rfl) (fun X e1 e2 e3 e4 hF hE => ?_)
  subst e1 e2 e3 e4
  exact jb_X11_top_0 h0 hF hE hf

set_option maxRecDepth 100000 in
def fb_X11_tray_26 (σ : lt_S) (o : Nat) (w : lt_W) : Option (Int32 × lt_W) := Option.bind (f_X11_refused σ o 1 w) (fun q1 => lt_bz q1.1 (some (q1.1, q1.2)))
set_option maxHeartbeats 4000000 in
set_option maxRecDepth 100000 in
theorem jb_X11_tray_26 {X : lt_X} {σ : lt_S} (hT : lt_Wt σ) {o : Nat} (h0 : lt_c σ o = 11) {r : Int32 × lt_W} (hF : lt_F X cX11_tray RX11 4 (lt_rm 3)) (hE : lt_E X 0 0 σ (some .boolean) (some (.int r.1)) r.2) : ∀ (w : lt_W), fb_X11_tray_26 σ o w = some r → lt_J X 0 0 σ w 26 [(0, .ref (lt_z X + o))] [] := by
  intro w hf
  unfold fb_X11_tray_26 at hf
  refine jr_aload_n hF dX11_tray_26 0 rfl rfl ?_
  refine jr_iconst (v := 1) hF dX11_tray_27 rfl ?_
  obtain ⟨q1, hq1, hf⟩ := Option.bind_eq_some_iff.mp hf
  refine jr_cV11 hF ml_X11_125 (c_X11_refused h0 hq1) h0 ⟨Nat.le_of_ble_eq_true rfl, Nat.le_of_ble_eq_true rfl⟩ (Nat.le_of_ble_eq_true rfl) dX11_tray_28 ?_
  obtain ⟨b2, hf⟩ := lt_bzE hf
  obtain rfl := Option.some.inj hf
  exact jr_zreturn hF hE b2 dX11_tray_31
set_option maxRecDepth 100000 in
def fb_X11_tray_0 (σ : lt_S) (o : Nat) (x1 : Int32) (x2 : Int32) (x3 : Int32) (w : lt_W) : Option (Int32 × lt_W) := Option.bind (f_X11_isTray x1) (fun q1 => if q1 = 0 then fb_X11_tray_26 σ o w else Option.bind (f_X11_within x2 0 3) (fun q2 => if q2 = 0 then fb_X11_tray_26 σ o w else Option.bind (f_X11_within x3 0 60) (fun q3 => if q3 = 0 then fb_X11_tray_26 σ o w else lt_ck x1 (lt_len σ (lt_r σ o 3)) (Option.bind (f_X8_become σ (lt_r σ (lt_r σ o 3) x1.toNatClampNeg) x2 x3 w) (fun q6 => Option.bind (f_X11_agreed σ o q6) (fun q7 => lt_bz q7.1 (some (q7.1, q7.2))))))))
set_option maxHeartbeats 4000000 in
set_option maxRecDepth 100000 in
theorem jb_X11_tray_0 {X : lt_X} {σ : lt_S} (hT : lt_Wt σ) {o : Nat} (h0 : lt_c σ o = 11) {r : Int32 × lt_W} (hF : lt_F X cX11_tray RX11 4 (lt_rm 3)) (hE : lt_E X 0 0 σ (some .boolean) (some (.int r.1)) r.2) : ∀ (x1 : Int32) (x2 : Int32) (x3 : Int32) (w : lt_W), fb_X11_tray_0 σ o x1 x2 x3 w = some r → lt_J X 0 0 σ w 0 [(0, .ref (lt_z X + o)), (1, .int x1), (2, .int x2), (3, .int x3)] [] := by
  intro x1 x2 x3 w hf
  unfold fb_X11_tray_0 at hf
  refine jr_iload_n hF dX11_tray_0 1 rfl rfl ?_
  obtain ⟨q1, hq1, hf⟩ := Option.bind_eq_some_iff.mp hf
  refine jr_cS11 hF ml_X11_117 (c_X11_isTray hq1) ⟨Nat.le_of_ble_eq_true rfl, Nat.le_of_ble_eq_true rfl⟩ (Nat.le_of_ble_eq_true rfl) dX11_tray_1 ?_
  refine jr_if_eq (tgt := 26) hF dX11_tray_4 rfl hf (fun hf => ?_) (fun hf => ?_)
  · refine jr_sub [0] rfl ?_
    exact jb_X11_tray_26 hT h0 hF hE _ hf
  · refine jr_iload_n hF dX11_tray_7 2 rfl rfl ?_
    refine jr_iconst (v := 0) hF dX11_tray_8 rfl ?_
    refine jr_iconst (v := 3) hF dX11_tray_9 rfl ?_
    obtain ⟨q2, hq2, hf⟩ := Option.bind_eq_some_iff.mp hf
    refine jr_cS31 hF ml_X11_121 (c_X11_within hq2) ⟨Nat.le_of_ble_eq_true rfl, Nat.le_of_ble_eq_true rfl⟩ (Nat.le_of_ble_eq_true rfl) dX11_tray_10 ?_
    refine jr_if_eq (tgt := 26) hF dX11_tray_13 rfl hf (fun hf => ?_) (fun hf => ?_)
    · refine jr_sub [0] rfl ?_
      exact jb_X11_tray_26 hT h0 hF hE _ hf
    · refine jr_iload_n hF dX11_tray_16 3 rfl rfl ?_
      refine jr_iconst (v := 0) hF dX11_tray_17 rfl ?_
      refine jr_bipush (v := 60) hF dX11_tray_18 rfl ?_
      obtain ⟨q3, hq3, hf⟩ := Option.bind_eq_some_iff.mp hf
      refine jr_cS31 hF ml_X11_121 (c_X11_within hq3) ⟨Nat.le_of_ble_eq_true rfl, Nat.le_of_ble_eq_true rfl⟩ (Nat.le_of_ble_eq_true rfl) dX11_tray_20 ?_
      refine jr_if_ne (tgt := 32) hF dX11_tray_23 rfl hf (fun hf => ?_) (fun hf => ?_)
      · refine jr_aload_n hF dX11_tray_32 0 rfl rfl ?_
        refine jr_getRT (cr := 54) hF gf_X11_15 hT h0 rfl rfl dX11_tray_33 (fun th4 => ?_)
        refine jr_iload_n hF dX11_tray_36 1 rfl rfl ?_
        refine jr_aaload (c := 54) hF hT th4 4 rfl rfl rfl dX11_tray_37 hf (fun th5 hf => ?_)
        have th5 : lt_c σ (lt_r σ (lt_r σ o 3) x1.toNatClampNeg) = 8 := th5
        refine jr_iload_n hF dX11_tray_38 2 rfl rfl ?_
        refine jr_iload_n hF dX11_tray_39 3 rfl rfl ?_
        obtain ⟨q6, hq6, hf⟩ := Option.bind_eq_some_iff.mp hf
        refine jr_cV2v hF ml_X11_128 (c_X8_become hT th5 hq6) th5 ⟨Nat.le_of_ble_eq_true rfl, Nat.le_of_ble_eq_true rfl⟩ (Nat.le_of_ble_eq_true rfl) dX11_tray_40 ?_
        refine jr_aload_n hF dX11_tray_43 0 rfl rfl ?_
        obtain ⟨q7, hq7, hf⟩ := Option.bind_eq_some_iff.mp hf
        refine jr_cV01 hF ml_X11_132 (c_X11_agreed h0 hq7) h0 ⟨Nat.le_of_ble_eq_true rfl, Nat.le_of_ble_eq_true rfl⟩ (Nat.le_of_ble_eq_true rfl) dX11_tray_44 ?_
        obtain ⟨b8, hf⟩ := lt_bzE hf
        obtain rfl := Option.some.inj hf
        exact jr_zreturn hF hE b8 dX11_tray_47
      · refine jr_sub [0] rfl ?_
        exact jb_X11_tray_26 hT h0 hF hE _ hf
def f_X11_tray (σ : lt_S) (o : Nat) (x1 : Int32) (x2 : Int32) (x3 : Int32) (w : lt_W) : Option (Int32 × lt_W) := fb_X11_tray_0 σ o x1 x2 x3 w
set_option maxRecDepth 100000 in
theorem c_X11_tray {l : Launch} {D : va_G} {gA : Nat → ClassId} {s0 : State} {σ : lt_S} (hT : lt_Wt σ) {o : Nat} (h0 : lt_c σ o = 11) {x1 : Int32} {x2 : Int32} {x3 : Int32} {w : lt_W} {r : Int32 × lt_W} (hf : f_X11_tray σ o x1 x2 x3 w = some r) : lt_C l D gA s0 yX11_tray cX11_tray 4 (some .boolean) (lt_rm 3) [.ref (s0.heap.size + o), .int x1, .int x2, .int x3] σ w σ (some (.int r.1)) r.2 := by
  refine lt_enter rfl (Nat.le_of_ble_eq_true rfl) (fun X e1 e2 e3 e4 hF hE => ?_)
  subst e1 e2 e3 e4
  exact jb_X11_tray_0 hT h0 hF hE _ _ _ _ hf

set_option maxRecDepth 100000 in
def fb_X11_undo_0 (σ : lt_S) (o : Nat) (w : lt_W) : Option (Int32 × lt_W) := if 0 < (lt_gi w o 18) then lt_let (lt_si w o 18 ((lt_gi w o 18) - 1)) (fun w1 => lt_ck (lt_gi w1 o 18) (lt_len σ (lt_r σ o 16)) (Option.bind (f_X5_copyFrom σ (lt_r σ o 5) (lt_r σ (lt_r σ o 16) (lt_gi w1 o 18).toNatClampNeg) w1) (fun q5 => lt_ck (lt_gi q5 o 18) (lt_len σ (lt_r σ o 17)) (Option.bind (f_X9_copyFrom σ (lt_r σ o 6) (lt_r σ (lt_r σ o 17) (lt_gi q5 o 18).toNatClampNeg) q5) (fun q9 => Option.bind (f_X11_given σ o (lt_gi q9 o 18) q9) (fun q10 => some (q10.1, q10.2))))))) else Option.bind (f_X11_none σ o 6 w) (fun q11 => some (q11.1, q11.2))
set_option maxHeartbeats 4000000 in
set_option maxRecDepth 100000 in
theorem jb_X11_undo_0 {X : lt_X} {σ : lt_S} (hT : lt_Wt σ) {o : Nat} (h0 : lt_c σ o = 11) {r : Int32 × lt_W} (hF : lt_F X cX11_undo RX11 1 (lt_rm 3)) (hE : lt_E X 0 0 σ (some .int) (some (.int r.1)) r.2) : ∀ (w : lt_W), fb_X11_undo_0 σ o w = some r → lt_J X 0 0 σ w 0 [(0, .ref (lt_z X + o))] [] := by
  intro w hf
  unfold fb_X11_undo_0 at hf
  refine jr_aload_n hF dX11_undo_0 0 rfl rfl ?_
  refine jr_getI hF gf_X11_398 h0 dX11_undo_1 ?_
  refine jr_if_gt (tgt := 14) hF dX11_undo_4 rfl hf (fun hf => ?_) (fun hf => ?_)
  · refine jr_aload_n hF dX11_undo_14 0 rfl rfl ?_
    refine jr_dup hF dX11_undo_15 rfl ?_
    refine jr_getI hF gf_X11_398 h0 dX11_undo_16 ?_
    refine jr_iconst (v := 1) hF dX11_undo_19 rfl ?_
    refine jr_isub hF dX11_undo_20 ?_
    refine jr_putI hF pf_X11_398 h0 dX11_undo_21 ?_
    refine jr_letW hf (fun w1 hf => ?_)
    refine jr_aload_n hF dX11_undo_24 0 rfl rfl ?_
    refine jr_getRT (cr := 5) hF gf_X11_30 hT h0 rfl rfl dX11_undo_25 (fun th2 => ?_)
    refine jr_aload_n hF dX11_undo_28 0 rfl rfl ?_
    refine jr_getRT (cr := 55) hF gf_X11_102 hT h0 rfl rfl dX11_undo_29 (fun th3 => ?_)
    refine jr_aload_n hF dX11_undo_32 0 rfl rfl ?_
    refine jr_getI hF gf_X11_398 h0 dX11_undo_33 ?_
    refine jr_aaload (c := 55) hF hT th3 5 rfl rfl rfl dX11_undo_36 hf (fun th4 hf => ?_)
    have th4 : lt_c σ (lt_r σ (lt_r σ o 16) (lt_gi w1 o 18).toNatClampNeg) = 5 := th4
    obtain ⟨q5, hq5, hf⟩ := Option.bind_eq_some_iff.mp hf
    refine jr_cV1v hF ml_X11_185 (c_X5_copyFrom hT th2 th4 hq5) th2 ⟨Nat.le_of_ble_eq_true rfl, Nat.le_of_ble_eq_true rfl⟩ (Nat.le_of_ble_eq_true rfl) dX11_undo_37 ?_
    refine jr_aload_n hF dX11_undo_40 0 rfl rfl ?_
    refine jr_getRT (cr := 9) hF gf_X11_37 hT h0 rfl rfl dX11_undo_41 (fun th6 => ?_)
    refine jr_aload_n hF dX11_undo_44 0 rfl rfl ?_
    refine jr_getRT (cr := 56) hF gf_X11_106 hT h0 rfl rfl dX11_undo_45 (fun th7 => ?_)
    refine jr_aload_n hF dX11_undo_48 0 rfl rfl ?_
    refine jr_getI hF gf_X11_398 h0 dX11_undo_49 ?_
    refine jr_aaload (c := 56) hF hT th7 6 rfl rfl rfl dX11_undo_52 hf (fun th8 hf => ?_)
    have th8 : lt_c σ (lt_r σ (lt_r σ o 17) (lt_gi q5 o 18).toNatClampNeg) = 9 := th8
    obtain ⟨q9, hq9, hf⟩ := Option.bind_eq_some_iff.mp hf
    refine jr_cV1v hF ml_X11_208 (c_X9_copyFrom hT th6 th8 hq9) th6 ⟨Nat.le_of_ble_eq_true rfl, Nat.le_of_ble_eq_true rfl⟩ (Nat.le_of_ble_eq_true rfl) dX11_undo_53 ?_
    refine jr_aload_n hF dX11_undo_56 0 rfl rfl ?_
    refine jr_aload_n hF dX11_undo_57 0 rfl rfl ?_
    refine jr_getI hF gf_X11_398 h0 dX11_undo_58 ?_
    obtain ⟨q10, hq10, hf⟩ := Option.bind_eq_some_iff.mp hf
    refine jr_cV11 hF ml_X11_194 (c_X11_given h0 hq10) h0 ⟨Nat.le_of_ble_eq_true rfl, Nat.le_of_ble_eq_true rfl⟩ (Nat.le_of_ble_eq_true rfl) dX11_undo_61 ?_
    obtain rfl := Option.some.inj hf
    exact jr_ireturn hF hE dX11_undo_64
  · refine jr_aload_n hF dX11_undo_7 0 rfl rfl ?_
    refine jr_bipush (v := 6) hF dX11_undo_8 rfl ?_
    obtain ⟨q11, hq11, hf⟩ := Option.bind_eq_some_iff.mp hf
    refine jr_cV11 hF ml_X11_144 (c_X11_none h0 hq11) h0 ⟨Nat.le_of_ble_eq_true rfl, Nat.le_of_ble_eq_true rfl⟩ (Nat.le_of_ble_eq_true rfl) dX11_undo_10 ?_
    obtain rfl := Option.some.inj hf
    exact jr_ireturn hF hE dX11_undo_13
def f_X11_undo (σ : lt_S) (o : Nat) (w : lt_W) : Option (Int32 × lt_W) := fb_X11_undo_0 σ o w
set_option maxRecDepth 100000 in
theorem c_X11_undo {l : Launch} {D : va_G} {gA : Nat → ClassId} {s0 : State} {σ : lt_S} (hT : lt_Wt σ) {o : Nat} (h0 : lt_c σ o = 11) {w : lt_W} {r : Int32 × lt_W} (hf : f_X11_undo σ o w = some r) : lt_C l D gA s0 yX11_undo cX11_undo 1 (some .int) (lt_rm 3) [.ref (s0.heap.size + o)] σ w σ (some (.int r.1)) r.2 := by
  refine lt_enter rfl (Nat.le_of_ble_eq_true rfl) (fun X e1 e2 e3 e4 hF hE => ?_)
  subst e1 e2 e3 e4
  exact jb_X11_undo_0 hT h0 hF hE _ hf

set_option maxRecDepth 100000 in
def fb_X11_waits_0 (σ : lt_S) (o : Nat) (x1 : Int32) (x2 : Int32) (w : lt_W) : Option (Int32 × lt_W) := Option.bind (f_X11_areTwo σ o x1 x2 w) (fun q1 => if q1 = 0 then Option.bind (f_X11_refused σ o 1 w) (fun q6 => lt_bz q6.1 (some (q6.1, q6.2))) else lt_ck x2 (lt_len σ (lt_r σ (lt_r σ o 5) 12)) (Option.bind (f_X11_fraction σ o 1 ((1 + (lt_gi w (lt_r σ (lt_r σ o 5) 12) x2.toNatClampNeg)).toInt64) w) (fun q4 => lt_bz q4.1 (some (q4.1, q4.2)))))
set_option maxHeartbeats 4000000 in
set_option maxRecDepth 100000 in
theorem jb_X11_waits_0 {X : lt_X} {σ : lt_S} (hT : lt_Wt σ) {o : Nat} (h0 : lt_c σ o = 11) {r : Int32 × lt_W} (hF : lt_F X cX11_waits RX11 3 (lt_rm 3)) (hE : lt_E X 0 0 σ (some .boolean) (some (.int r.1)) r.2) : ∀ (x1 : Int32) (x2 : Int32) (w : lt_W), fb_X11_waits_0 σ o x1 x2 w = some r → lt_J X 0 0 σ w 0 [(0, .ref (lt_z X + o)), (1, .int x1), (2, .int x2)] [] := by
  intro x1 x2 w hf
  unfold fb_X11_waits_0 at hf
  refine jr_aload_n hF dX11_waits_0 0 rfl rfl ?_
  refine jr_iload_n hF dX11_waits_1 1 rfl rfl ?_
  refine jr_iload_n hF dX11_waits_2 2 rfl rfl ?_
  obtain ⟨q1, hq1, hf⟩ := Option.bind_eq_some_iff.mp hf
  refine jr_cV21 hF ml_X11_299 (c_X11_areTwo hT h0 hq1) h0 ⟨Nat.le_of_ble_eq_true rfl, Nat.le_of_ble_eq_true rfl⟩ (Nat.le_of_ble_eq_true rfl) dX11_waits_3 ?_
  refine jr_if_ne (tgt := 15) hF dX11_waits_6 rfl hf (fun hf => ?_) (fun hf => ?_)
  · refine jr_aload_n hF dX11_waits_15 0 rfl rfl ?_
    refine jr_lconst (v := 1) hF dX11_waits_16 rfl ?_
    refine jr_iconst (v := 1) hF dX11_waits_17 rfl ?_
    refine jr_aload_n hF dX11_waits_18 0 rfl rfl ?_
    refine jr_getRT (cr := 5) hF gf_X11_30 hT h0 rfl rfl dX11_waits_19 (fun th2 => ?_)
    refine jr_getRT (cr := 50) hF gf_X11_260 hT th2 rfl rfl dX11_waits_22 (fun th3 => ?_)
    refine jr_iload_n hF dX11_waits_25 2 rfl rfl ?_
    refine jr_iaload hF th3 dX11_waits_26 hf (fun hf => ?_)
    refine jr_iadd hF dX11_waits_27 ?_
    refine jr_i2l hF dX11_waits_28 ?_
    obtain ⟨q4, hq4, hf⟩ := Option.bind_eq_some_iff.mp hf
    refine jr_cV21 hF ml_X11_356 (c_X11_fraction h0 hq4) h0 ⟨Nat.le_of_ble_eq_true rfl, Nat.le_of_ble_eq_true rfl⟩ (Nat.le_of_ble_eq_true rfl) dX11_waits_29 ?_
    obtain ⟨b5, hf⟩ := lt_bzE hf
    obtain rfl := Option.some.inj hf
    exact jr_zreturn hF hE b5 dX11_waits_32
  · refine jr_aload_n hF dX11_waits_9 0 rfl rfl ?_
    refine jr_iconst (v := 1) hF dX11_waits_10 rfl ?_
    obtain ⟨q6, hq6, hf⟩ := Option.bind_eq_some_iff.mp hf
    refine jr_cV11 hF ml_X11_125 (c_X11_refused h0 hq6) h0 ⟨Nat.le_of_ble_eq_true rfl, Nat.le_of_ble_eq_true rfl⟩ (Nat.le_of_ble_eq_true rfl) dX11_waits_11 ?_
    obtain ⟨b7, hf⟩ := lt_bzE hf
    obtain rfl := Option.some.inj hf
    exact jr_zreturn hF hE b7 dX11_waits_14
def f_X11_waits (σ : lt_S) (o : Nat) (x1 : Int32) (x2 : Int32) (w : lt_W) : Option (Int32 × lt_W) := fb_X11_waits_0 σ o x1 x2 w
set_option maxRecDepth 100000 in
theorem c_X11_waits {l : Launch} {D : va_G} {gA : Nat → ClassId} {s0 : State} {σ : lt_S} (hT : lt_Wt σ) {o : Nat} (h0 : lt_c σ o = 11) {x1 : Int32} {x2 : Int32} {w : lt_W} {r : Int32 × lt_W} (hf : f_X11_waits σ o x1 x2 w = some r) : lt_C l D gA s0 yX11_waits cX11_waits 3 (some .boolean) (lt_rm 3) [.ref (s0.heap.size + o), .int x1, .int x2] σ w σ (some (.int r.1)) r.2 := by
  refine lt_enter rfl (Nat.le_of_ble_eq_true rfl) (fun X e1 e2 e3 e4 hF hE => ?_)
  subst e1 e2 e3 e4
  exact jb_X11_waits_0 hT h0 hF hE _ _ _ hf

set_option maxRecDepth 100000 in
def fb_X11_wanted_0 (σ : lt_S) (o : Nat) (w : lt_W) : Option (Int32 × lt_W) := Option.bind (f_X5_mostPassed σ (lt_r σ o 5) w) (fun q2 => Option.bind (f_X11_givenIfAny σ o q2 w) (fun q3 => some (q3.1, q3.2)))
set_option maxHeartbeats 4000000 in
set_option maxRecDepth 100000 in
theorem jb_X11_wanted_0 {X : lt_X} {σ : lt_S} (hT : lt_Wt σ) {o : Nat} (h0 : lt_c σ o = 11) {r : Int32 × lt_W} (hF : lt_F X cX11_wanted RX11 1 (lt_rm 4)) (hE : lt_E X 0 0 σ (some .int) (some (.int r.1)) r.2) : ∀ (w : lt_W), fb_X11_wanted_0 σ o w = some r → lt_J X 0 0 σ w 0 [(0, .ref (lt_z X + o))] [] := by
  intro w hf
  unfold fb_X11_wanted_0 at hf
  refine jr_aload_n hF dX11_wanted_0 0 rfl rfl ?_
  refine jr_aload_n hF dX11_wanted_1 0 rfl rfl ?_
  refine jr_getRT (cr := 5) hF gf_X11_30 hT h0 rfl rfl dX11_wanted_2 (fun th1 => ?_)
  obtain ⟨q2, hq2, hf⟩ := Option.bind_eq_some_iff.mp hf
  refine jr_cV01 hF ml_X11_284 (c_X5_mostPassed hT th1 hq2) th1 ⟨Nat.le_of_ble_eq_true rfl, Nat.le_of_ble_eq_true rfl⟩ (Nat.le_of_ble_eq_true rfl) dX11_wanted_5 ?_
  obtain ⟨q3, hq3, hf⟩ := Option.bind_eq_some_iff.mp hf
  refine jr_cV11 hF ml_X11_275 (c_X11_givenIfAny h0 hq3) h0 ⟨Nat.le_of_ble_eq_true rfl, Nat.le_of_ble_eq_true rfl⟩ (Nat.le_of_ble_eq_true rfl) dX11_wanted_8 ?_
  obtain rfl := Option.some.inj hf
  exact jr_ireturn hF hE dX11_wanted_11
def f_X11_wanted (σ : lt_S) (o : Nat) (w : lt_W) : Option (Int32 × lt_W) := fb_X11_wanted_0 σ o w
set_option maxRecDepth 100000 in
theorem c_X11_wanted {l : Launch} {D : va_G} {gA : Nat → ClassId} {s0 : State} {σ : lt_S} (hT : lt_Wt σ) {o : Nat} (h0 : lt_c σ o = 11) {w : lt_W} {r : Int32 × lt_W} (hf : f_X11_wanted σ o w = some r) : lt_C l D gA s0 yX11_wanted cX11_wanted 1 (some .int) (lt_rm 4) [.ref (s0.heap.size + o)] σ w σ (some (.int r.1)) r.2 := by
  refine lt_enter rfl (Nat.le_of_ble_eq_true rfl) (fun X e1 e2 e3 e4 hF hE => ?_)
  subst e1 e2 e3 e4
  exact jb_X11_wanted_0 hT h0 hF hE _ hf

set_option maxRecDepth 100000 in
def fb_X11_weeks_0 (σ : lt_S) (o : Nat) (x1 : Int32) (w : lt_W) : Option (Int32 × lt_W) := Option.bind (f_X11_within x1 0 (lt_min (lt_gi w (lt_r σ o 4) 1) 300)) (fun q2 => if q2 = 0 then Option.bind (f_X11_none σ o 1 w) (fun q14 => some (q14.1, q14.2)) else Option.bind (f_X7_begin σ (lt_r σ o 4) x1 w) (fun q4 => Option.bind (f_X10_isWeeks σ (lt_r σ o 8) q4) (fun q6 => if q6.1 = 0 then Option.bind (f_X11_none σ o 9 q6.2) (fun q13 => some (q13.1, q13.2)) else Option.bind (f_X9_copyFrom σ (lt_r σ o 6) (lt_r σ (lt_r σ o 8) 2) q6.2) (fun q10 => Option.bind (f_X11_given σ o (lt_gi q10 (lt_r σ o 6) 1) q10) (fun q12 => some (q12.1, q12.2))))))
set_option maxHeartbeats 4000000 in
set_option maxRecDepth 100000 in
theorem jb_X11_weeks_0 {X : lt_X} {σ : lt_S} (hT : lt_Wt σ) {o : Nat} (h0 : lt_c σ o = 11) {r : Int32 × lt_W} (hF : lt_F X cX11_weeks RX11 2 (lt_rm 13)) (hE : lt_E X 0 0 σ (some .int) (some (.int r.1)) r.2) : ∀ (x1 : Int32) (w : lt_W), fb_X11_weeks_0 σ o x1 w = some r → lt_J X 0 0 σ w 0 [(0, .ref (lt_z X + o)), (1, .int x1)] [] := by
  intro x1 w hf
  unfold fb_X11_weeks_0 at hf
  refine jr_iload_n hF dX11_weeks_0 1 rfl rfl ?_
  refine jr_iconst (v := 0) hF dX11_weeks_1 rfl ?_
  refine jr_aload_n hF dX11_weeks_2 0 rfl rfl ?_
  refine jr_getRT (cr := 7) hF gf_X11_23 hT h0 rfl rfl dX11_weeks_3 (fun th1 => ?_)
  refine jr_getI hF gf_X11_169 th1 dX11_weeks_6 ?_
  refine jr_sipush (v := 300) hF dX11_weeks_9 rfl ?_
  refine jr_min hF mm_X11_197 ⟨Nat.le_of_ble_eq_true rfl, Nat.le_of_ble_eq_true rfl, Nat.zero_le _, Nat.zero_le _⟩ dX11_weeks_12 ?_
  obtain ⟨q2, hq2, hf⟩ := Option.bind_eq_some_iff.mp hf
  refine jr_cS31 hF ml_X11_121 (c_X11_within hq2) ⟨Nat.le_of_ble_eq_true rfl, Nat.le_of_ble_eq_true rfl⟩ (Nat.le_of_ble_eq_true rfl) dX11_weeks_15 ?_
  refine jr_if_ne (tgt := 27) hF dX11_weeks_18 rfl hf (fun hf => ?_) (fun hf => ?_)
  · refine jr_aload_n hF dX11_weeks_27 0 rfl rfl ?_
    refine jr_getRT (cr := 7) hF gf_X11_23 hT h0 rfl rfl dX11_weeks_28 (fun th3 => ?_)
    refine jr_iload_n hF dX11_weeks_31 1 rfl rfl ?_
    obtain ⟨q4, hq4, hf⟩ := Option.bind_eq_some_iff.mp hf
    refine jr_cV1v hF ml_X11_176 (c_X7_begin hT th3 hq4) th3 ⟨Nat.le_of_ble_eq_true rfl, Nat.le_of_ble_eq_true rfl⟩ (Nat.le_of_ble_eq_true rfl) dX11_weeks_32 ?_
    refine jr_aload_n hF dX11_weeks_35 0 rfl rfl ?_
    refine jr_getRT (cr := 10) hF gf_X11_55 hT h0 rfl rfl dX11_weeks_36 (fun th5 => ?_)
    obtain ⟨q6, hq6, hf⟩ := Option.bind_eq_some_iff.mp hf
    refine jr_cV01 hF ml_X11_203 (c_X10_isWeeks hT th5 hq6) th5 ⟨Nat.le_of_ble_eq_true rfl, Nat.le_of_ble_eq_true rfl⟩ (Nat.le_of_ble_eq_true rfl) dX11_weeks_39 ?_
    refine jr_if_ne (tgt := 52) hF dX11_weeks_42 rfl hf (fun hf => ?_) (fun hf => ?_)
    · refine jr_aload_n hF dX11_weeks_52 0 rfl rfl ?_
      refine jr_getRT (cr := 9) hF gf_X11_37 hT h0 rfl rfl dX11_weeks_53 (fun th7 => ?_)
      refine jr_aload_n hF dX11_weeks_56 0 rfl rfl ?_
      refine jr_getRT (cr := 10) hF gf_X11_55 hT h0 rfl rfl dX11_weeks_57 (fun th8 => ?_)
      refine jr_getRT (cr := 9) hF gf_X11_206 hT th8 rfl rfl dX11_weeks_60 (fun th9 => ?_)
      obtain ⟨q10, hq10, hf⟩ := Option.bind_eq_some_iff.mp hf
      refine jr_cV1v hF ml_X11_208 (c_X9_copyFrom hT th7 th9 hq10) th7 ⟨Nat.le_of_ble_eq_true rfl, Nat.le_of_ble_eq_true rfl⟩ (Nat.le_of_ble_eq_true rfl) dX11_weeks_63 ?_
      refine jr_aload_n hF dX11_weeks_66 0 rfl rfl ?_
      refine jr_aload_n hF dX11_weeks_67 0 rfl rfl ?_
      refine jr_getRT (cr := 9) hF gf_X11_37 hT h0 rfl rfl dX11_weeks_68 (fun th11 => ?_)
      refine jr_getI hF gf_X11_211 th11 dX11_weeks_71 ?_
      obtain ⟨q12, hq12, hf⟩ := Option.bind_eq_some_iff.mp hf
      refine jr_cV11 hF ml_X11_194 (c_X11_given h0 hq12) h0 ⟨Nat.le_of_ble_eq_true rfl, Nat.le_of_ble_eq_true rfl⟩ (Nat.le_of_ble_eq_true rfl) dX11_weeks_74 ?_
      obtain rfl := Option.some.inj hf
      exact jr_ireturn hF hE dX11_weeks_77
    · refine jr_aload_n hF dX11_weeks_45 0 rfl rfl ?_
      refine jr_bipush (v := 9) hF dX11_weeks_46 rfl ?_
      obtain ⟨q13, hq13, hf⟩ := Option.bind_eq_some_iff.mp hf
      refine jr_cV11 hF ml_X11_144 (c_X11_none h0 hq13) h0 ⟨Nat.le_of_ble_eq_true rfl, Nat.le_of_ble_eq_true rfl⟩ (Nat.le_of_ble_eq_true rfl) dX11_weeks_48 ?_
      obtain rfl := Option.some.inj hf
      exact jr_ireturn hF hE dX11_weeks_51
  · refine jr_aload_n hF dX11_weeks_21 0 rfl rfl ?_
    refine jr_iconst (v := 1) hF dX11_weeks_22 rfl ?_
    obtain ⟨q14, hq14, hf⟩ := Option.bind_eq_some_iff.mp hf
    refine jr_cV11 hF ml_X11_144 (c_X11_none h0 hq14) h0 ⟨Nat.le_of_ble_eq_true rfl, Nat.le_of_ble_eq_true rfl⟩ (Nat.le_of_ble_eq_true rfl) dX11_weeks_23 ?_
    obtain rfl := Option.some.inj hf
    exact jr_ireturn hF hE dX11_weeks_26
def f_X11_weeks (σ : lt_S) (o : Nat) (x1 : Int32) (w : lt_W) : Option (Int32 × lt_W) := fb_X11_weeks_0 σ o x1 w
set_option maxRecDepth 100000 in
theorem c_X11_weeks {l : Launch} {D : va_G} {gA : Nat → ClassId} {s0 : State} {σ : lt_S} (hT : lt_Wt σ) {o : Nat} (h0 : lt_c σ o = 11) {x1 : Int32} {w : lt_W} {r : Int32 × lt_W} (hf : f_X11_weeks σ o x1 w = some r) : lt_C l D gA s0 yX11_weeks cX11_weeks 2 (some .int) (lt_rm 13) [.ref (s0.heap.size + o), .int x1] σ w σ (some (.int r.1)) r.2 := by
  refine lt_enter rfl (Nat.le_of_ble_eq_true rfl) (fun X e1 e2 e3 e4 hF hE => ?_)
  subst e1 e2 e3 e4
  exact jb_X11_weeks_0 hT h0 hF hE _ _ hf

set_option maxRecDepth 100000 in
def fb_X11_write_0 (σ : lt_S) (o : Nat) (x1 : Int32) (x2 : Int32) (x3 : Int64) (w : lt_W) : Option (Int32 × lt_W) := Option.bind (f_X11_trayFails σ o x1 x2 1 w) (fun q1 => if q1 = 0 then lt_ck x1 (lt_len σ (lt_r σ o 3)) (Option.bind (f_X8_put σ (lt_r σ (lt_r σ o 3) x1.toNatClampNeg) x2 x3 w) (fun q4 => Option.bind (f_X11_agreed σ o q4) (fun q5 => lt_bz q5.1 (some (q5.1, q5.2))))) else Option.bind (f_X11_refused σ o q1 w) (fun q7 => lt_bz q7.1 (some (q7.1, q7.2))))
set_option maxHeartbeats 4000000 in
set_option maxRecDepth 100000 in
theorem jb_X11_write_0 {X : lt_X} {σ : lt_S} (hT : lt_Wt σ) {o : Nat} (h0 : lt_c σ o = 11) {r : Int32 × lt_W} (hF : lt_F X cX11_write RX11 6 (lt_rm 4)) (hE : lt_E X 0 0 σ (some .boolean) (some (.int r.1)) r.2) : ∀ (x1 : Int32) (x2 : Int32) (x3 : Int64) (w : lt_W), fb_X11_write_0 σ o x1 x2 x3 w = some r → lt_J X 0 0 σ w 0 [(0, .ref (lt_z X + o)), (1, .int x1), (2, .int x2), (3, .long x3)] [] := by
  intro x1 x2 x3 w hf
  unfold fb_X11_write_0 at hf
  refine jr_aload_n hF dX11_write_0 0 rfl rfl ?_
  refine jr_iload_n hF dX11_write_1 1 rfl rfl ?_
  refine jr_iload_n hF dX11_write_2 2 rfl rfl ?_
  refine jr_iconst (v := 1) hF dX11_write_3 rfl ?_
  obtain ⟨q1, hq1, hf⟩ := Option.bind_eq_some_iff.mp hf
  refine jr_cV31 hF ml_X11_136 (c_X11_trayFails hT h0 hq1) h0 ⟨Nat.le_of_ble_eq_true rfl, Nat.le_of_ble_eq_true rfl⟩ (Nat.le_of_ble_eq_true rfl) dX11_write_4 ?_
  refine jr_istore (lv' := [(0, .ref (lt_z X + o)), (1, .int x1), (2, .int x2), (3, .long x3), (5, .int q1)]) hF dX11_write_7 (by decide) [1, 2, 3, 4, 0] rfl ?_
  refine jr_iload hF dX11_write_9 4 rfl ?_
  refine jr_if_eq (tgt := 21) hF dX11_write_11 rfl hf (fun hf => ?_) (fun hf => ?_)
  · refine jr_aload_n hF dX11_write_21 0 rfl rfl ?_
    refine jr_getRT (cr := 54) hF gf_X11_15 hT h0 rfl rfl dX11_write_22 (fun th2 => ?_)
    refine jr_iload_n hF dX11_write_25 1 rfl rfl ?_
    refine jr_aaload (c := 54) hF hT th2 4 rfl rfl rfl dX11_write_26 hf (fun th3 hf => ?_)
    have th3 : lt_c σ (lt_r σ (lt_r σ o 3) x1.toNatClampNeg) = 8 := th3
    refine jr_iload_n hF dX11_write_27 2 rfl rfl ?_
    refine jr_lload_n hF dX11_write_28 3 rfl rfl ?_
    obtain ⟨q4, hq4, hf⟩ := Option.bind_eq_some_iff.mp hf
    refine jr_cV2v hF ml_X11_140 (c_X8_put hT th3 hq4) th3 ⟨Nat.le_of_ble_eq_true rfl, Nat.le_of_ble_eq_true rfl⟩ (Nat.le_of_ble_eq_true rfl) dX11_write_29 ?_
    refine jr_aload_n hF dX11_write_32 0 rfl rfl ?_
    obtain ⟨q5, hq5, hf⟩ := Option.bind_eq_some_iff.mp hf
    refine jr_cV01 hF ml_X11_132 (c_X11_agreed h0 hq5) h0 ⟨Nat.le_of_ble_eq_true rfl, Nat.le_of_ble_eq_true rfl⟩ (Nat.le_of_ble_eq_true rfl) dX11_write_33 ?_
    obtain ⟨b6, hf⟩ := lt_bzE hf
    obtain rfl := Option.some.inj hf
    exact jr_zreturn hF hE b6 dX11_write_36
  · refine jr_aload_n hF dX11_write_14 0 rfl rfl ?_
    refine jr_iload hF dX11_write_15 4 rfl ?_
    obtain ⟨q7, hq7, hf⟩ := Option.bind_eq_some_iff.mp hf
    refine jr_cV11 hF ml_X11_125 (c_X11_refused h0 hq7) h0 ⟨Nat.le_of_ble_eq_true rfl, Nat.le_of_ble_eq_true rfl⟩ (Nat.le_of_ble_eq_true rfl) dX11_write_17 ?_
    obtain ⟨b8, hf⟩ := lt_bzE hf
    obtain rfl := Option.some.inj hf
    exact jr_zreturn hF hE b8 dX11_write_20
def f_X11_write (σ : lt_S) (o : Nat) (x1 : Int32) (x2 : Int32) (x3 : Int64) (w : lt_W) : Option (Int32 × lt_W) := fb_X11_write_0 σ o x1 x2 x3 w
set_option maxRecDepth 100000 in
theorem c_X11_write {l : Launch} {D : va_G} {gA : Nat → ClassId} {s0 : State} {σ : lt_S} (hT : lt_Wt σ) {o : Nat} (h0 : lt_c σ o = 11) {x1 : Int32} {x2 : Int32} {x3 : Int64} {w : lt_W} {r : Int32 × lt_W} (hf : f_X11_write σ o x1 x2 x3 w = some r) : lt_C l D gA s0 yX11_write cX11_write 6 (some .boolean) (lt_rm 4) [.ref (s0.heap.size + o), .int x1, .int x2, .long x3] σ w σ (some (.int r.1)) r.2 := by
  refine lt_enter rfl (Nat.le_of_ble_eq_true rfl) (fun X e1 e2 e3 e4 hF hE => ?_)
  subst e1 e2 e3 e4
  exact jb_X11_write_0 hT h0 hF hE _ _ _ _ hf
