set_option maxRecDepth 100000 in
def fb_X4_forget_15 (σ : lt_S) (o : Nat) (k7 : Int32 → lt_W → Option lt_W) : Nat → Int32 → Int32 → lt_W → Option lt_W
  | 0, _, _, _ => none
  | n + 1, x1, x2, w => if 7 < x2 then k7 (x1 + 1) w else lt_ck x1 (lt_len σ (lt_r σ o 3)) (lt_ck x2 (lt_len σ (lt_r σ (lt_r σ o 3) x1.toNatClampNeg)) (lt_let (lt_si w (lt_r σ (lt_r σ o 3) x1.toNatClampNeg) x2.toNatClampNeg 0) (fun w3 => fb_X4_forget_15 σ o k7 n x1 (x2 + 1) w3)))
set_option maxHeartbeats 4000000 in
set_option maxRecDepth 100000 in
theorem jb_X4_forget_15 {X : lt_X} {σ : lt_S} (hT : lt_Wt σ) {o : Nat} (h0 : lt_c σ o = 4) {r : lt_W} {k7 : Int32 → lt_W → Option lt_W} (hF : lt_F X cX4_forget RX4 3 (lt_rm 1)) (hE : lt_E X 0 0 σ none none r) (hk7 : ∀ (x1 : Int32) (w : lt_W), k7 x1 w = some r → lt_J X 0 0 σ w 7 [(0, .ref (lt_z X + o)), (1, .int x1)] []) (n : Nat) : ∀ (x1 : Int32) (x2 : Int32) (w : lt_W), fb_X4_forget_15 σ o k7 n x1 x2 w = some r → lt_J X 0 0 σ w 15 [(0, .ref (lt_z X + o)), (1, .int x1), (2, .int x2)] [] := by
  induction n with
  | zero => intro x1 x2 w hf; rw [fb_X4_forget_15] at hf; cases hf
  | succ n ih =>
    intro x1 x2 w hf
    rw [fb_X4_forget_15] at hf
    refine jr_iload_n hF dX4_forget_15 2 rfl rfl ?_
    refine jr_bipush (v := 7) hF dX4_forget_16 rfl ?_
    refine jr_icmp_gt (tgt := 36) hF dX4_forget_18 rfl hf (fun hf => ?_) (fun hf => ?_)
    · refine jr_iinc (v := x1 + 1) (lv' := [(0, .ref (lt_z X + o)), (1, .int (x1 + 1)), (2, .int x2)]) hF dX4_forget_36 1 rfl rfl (by decide) [1, 0, 2] rfl ?_
      refine jr_goto (tgt := 7) hF dX4_forget_39 rfl ?_
      refine jr_sub [0, 1] rfl ?_
      exact hk7 _ _ hf
    · refine jr_aload_n hF dX4_forget_21 0 rfl rfl ?_
      refine jr_getRT (cr := 57) hF gf_X4_24 hT h0 rfl rfl dX4_forget_22 (fun th1 => ?_)
      refine jr_iload_n hF dX4_forget_25 1 rfl rfl ?_
      refine jr_aaload (c := 57) hF hT th1 7 rfl rfl rfl dX4_forget_26 hf (fun th2 hf => ?_)
      have th2 : lt_c σ (lt_r σ (lt_r σ o 3) x1.toNatClampNeg) = 50 := th2
      refine jr_iload_n hF dX4_forget_27 2 rfl rfl ?_
      refine jr_iconst (v := 0) hF dX4_forget_28 rfl ?_
      refine jr_iastore hF th2 dX4_forget_29 hf (fun hf => ?_)
      refine jr_letW hf (fun w3 hf => ?_)
      refine jr_iinc (v := x2 + 1) (lv' := [(0, .ref (lt_z X + o)), (1, .int x1), (2, .int (x2 + 1))]) hF dX4_forget_30 2 rfl rfl (by decide) [1, 2, 0] rfl ?_
      refine jr_goto (tgt := 15) hF dX4_forget_33 rfl ?_
      exact ih _ _ _ hf
set_option maxRecDepth 100000 in
def fb_X4_forget_7 (σ : lt_S) (o : Nat) : Nat → Int32 → lt_W → Option lt_W
  | 0, _, _ => none
  | n + 1, x1, w => if 20 < x1 then some w else fb_X4_forget_15 σ o (fun x1 w => fb_X4_forget_7 σ o n x1 w) lt_fu x1 0 w
set_option maxHeartbeats 4000000 in
set_option maxRecDepth 100000 in
theorem jb_X4_forget_7 {X : lt_X} {σ : lt_S} (hT : lt_Wt σ) {o : Nat} (h0 : lt_c σ o = 4) {r : lt_W} (hF : lt_F X cX4_forget RX4 3 (lt_rm 1)) (hE : lt_E X 0 0 σ none none r) (n : Nat) : ∀ (x1 : Int32) (w : lt_W), fb_X4_forget_7 σ o n x1 w = some r → lt_J X 0 0 σ w 7 [(0, .ref (lt_z X + o)), (1, .int x1)] [] := by
  induction n with
  | zero => intro x1 w hf; rw [fb_X4_forget_7] at hf; cases hf
  | succ n ih =>
    intro x1 w hf
    rw [fb_X4_forget_7] at hf
    refine jr_iload_n hF dX4_forget_7 1 rfl rfl ?_
    refine jr_bipush (v := 20) hF dX4_forget_8 rfl ?_
    refine jr_icmp_gt (tgt := 42) hF dX4_forget_10 rfl hf (fun hf => ?_) (fun hf => ?_)
    · obtain rfl := Option.some.inj hf
      exact jr_return hF hE dX4_forget_42
    · refine jr_iconst (v := 0) hF dX4_forget_13 rfl ?_
      refine jr_istore_n (lv' := [(0, .ref (lt_z X + o)), (1, .int x1), (2, .int 0)]) hF dX4_forget_14 rfl (by decide) [1, 2, 0] rfl ?_
      exact jb_X4_forget_15 hT h0 hF hE ih lt_fu _ _ _ hf
set_option maxRecDepth 100000 in
def fb_X4_forget_0 (σ : lt_S) (o : Nat) (w : lt_W) : Option lt_W := lt_let (lt_si w o 4 0) (fun w1 => fb_X4_forget_7 σ o lt_fu 0 w1)
set_option maxHeartbeats 4000000 in
set_option maxRecDepth 100000 in
theorem jb_X4_forget_0 {X : lt_X} {σ : lt_S} (hT : lt_Wt σ) {o : Nat} (h0 : lt_c σ o = 4) {r : lt_W} (hF : lt_F X cX4_forget RX4 3 (lt_rm 1)) (hE : lt_E X 0 0 σ none none r) : ∀ (w : lt_W), fb_X4_forget_0 σ o w = some r → lt_J X 0 0 σ w 0 [(0, .ref (lt_z X + o))] [] := by
  intro w hf
  unfold fb_X4_forget_0 at hf
  refine jr_aload_n hF dX4_forget_0 0 rfl rfl ?_
  refine jr_iconst (v := 0) hF dX4_forget_1 rfl ?_
  refine jr_putI hF pf_X4_55 h0 dX4_forget_2 ?_
  refine jr_letW hf (fun w1 hf => ?_)
  refine jr_iconst (v := 0) hF dX4_forget_5 rfl ?_
  refine jr_istore_n (lv' := [(0, .ref (lt_z X + o)), (1, .int 0)]) hF dX4_forget_6 rfl (by decide) [1, 0] rfl ?_
  exact jb_X4_forget_7 hT h0 hF hE lt_fu _ _ hf
def f_X4_forget (σ : lt_S) (o : Nat) (w : lt_W) : Option lt_W := fb_X4_forget_0 σ o w
set_option maxRecDepth 100000 in
theorem c_X4_forget {l : Launch} {D : va_G} {gA : Nat → ClassId} {s0 : State} {σ : lt_S} (hT : lt_Wt σ) {o : Nat} (h0 : lt_c σ o = 4) {w : lt_W} {r : lt_W} (hf : f_X4_forget σ o w = some r) : lt_C l D gA s0 yX4_forget cX4_forget 3 none (lt_rm 1) [.ref (s0.heap.size + o)] σ w σ none r := by
  refine lt_enter rfl (Nat.le_of_ble_eq_true rfl) (fun X e1 e2 e3 e4 hF hE => ?_)
  subst e1 e2 e3 e4
  exact jb_X4_forget_0 hT h0 hF hE _ hf

set_option maxRecDepth 100000 in
def fb_X4_countAhead_32 (σ : lt_S) (o : Nat) : Nat → Int32 → lt_W → Option lt_W
  | 0, _, _ => none
  | n + 1, x4, w => if 20 < x4 then some w else Option.bind (f_X5_countThere σ (lt_r σ o 1) w) (fun q3 => lt_ck x4 (lt_len σ (lt_r σ o 2)) (lt_let (lt_si w (lt_r σ o 2) x4.toNatClampNeg q3) (fun w4 => Option.bind (f_X5_passDays σ (lt_r σ o 1) 1 w4) (fun q6 => fb_X4_countAhead_32 σ o n (x4 + 1) q6))))
set_option maxHeartbeats 4000000 in
set_option maxRecDepth 100000 in
theorem jb_X4_countAhead_32 {X : lt_X} {σ : lt_S} (hT : lt_Wt σ) {o : Nat} (h0 : lt_c σ o = 4) {r : lt_W} (hF : lt_F X cX4_countAhead RX4 5 (lt_rm 5)) (hE : lt_E X 0 0 σ none none r) (n : Nat) : ∀ (x4 : Int32) (w : lt_W), fb_X4_countAhead_32 σ o n x4 w = some r → lt_J X 0 0 σ w 32 [(0, .ref (lt_z X + o)), (4, .int x4)] [] := by
  induction n with
  | zero => intro x4 w hf; rw [fb_X4_countAhead_32] at hf; cases hf
  | succ n ih =>
    intro x4 w hf
    rw [fb_X4_countAhead_32] at hf
    refine jr_iload hF dX4_countAhead_32 1 rfl ?_
    refine jr_bipush (v := 20) hF dX4_countAhead_34 rfl ?_
    refine jr_icmp_gt (tgt := 67) hF dX4_countAhead_36 rfl hf (fun hf => ?_) (fun hf => ?_)
    · obtain rfl := Option.some.inj hf
      exact jr_return hF hE dX4_countAhead_67
    · refine jr_aload_n hF dX4_countAhead_39 0 rfl rfl ?_
      refine jr_getRT (cr := 50) hF gf_X4_18 hT h0 rfl rfl dX4_countAhead_40 (fun th1 => ?_)
      refine jr_iload hF dX4_countAhead_43 1 rfl ?_
      refine jr_aload_n hF dX4_countAhead_45 0 rfl rfl ?_
      refine jr_getRT (cr := 5) hF gf_X4_12 hT h0 rfl rfl dX4_countAhead_46 (fun th2 => ?_)
      obtain ⟨q3, hq3, hf⟩ := Option.bind_eq_some_iff.mp hf
      refine jr_cV01 hF ml_X4_69 (c_X5_countThere th2 hq3) th2 ⟨Nat.le_of_ble_eq_true rfl, Nat.le_of_ble_eq_true rfl⟩ (Nat.le_of_ble_eq_true rfl) dX4_countAhead_49 ?_
      refine jr_iastore hF th1 dX4_countAhead_52 hf (fun hf => ?_)
      refine jr_letW hf (fun w4 hf => ?_)
      refine jr_aload_n hF dX4_countAhead_53 0 rfl rfl ?_
      refine jr_getRT (cr := 5) hF gf_X4_12 hT h0 rfl rfl dX4_countAhead_54 (fun th5 => ?_)
      refine jr_iconst (v := 1) hF dX4_countAhead_57 rfl ?_
      obtain ⟨q6, hq6, hf⟩ := Option.bind_eq_some_iff.mp hf
      refine jr_cV1v hF ml_X4_73 (c_X5_passDays hT th5 hq6) th5 ⟨Nat.le_of_ble_eq_true rfl, Nat.le_of_ble_eq_true rfl⟩ (Nat.le_of_ble_eq_true rfl) dX4_countAhead_58 ?_
      refine jr_iinc (v := x4 + 1) (lv' := [(0, .ref (lt_z X + o)), (4, .int (x4 + 1))]) hF dX4_countAhead_61 1 rfl rfl (by decide) [1, 0] rfl ?_
      refine jr_goto (tgt := 32) hF dX4_countAhead_64 rfl ?_
      exact ih _ _ hf
set_option maxRecDepth 100000 in
def fb_X4_countAhead_0 (σ : lt_S) (o : Nat) (x1 : Int32) (x2 : Int32) (x3 : Int32) (w : lt_W) : Option lt_W := Option.bind (f_X5_copyFrom σ (lt_r σ o 1) (lt_r σ o 0) w) (fun q3 => lt_let (lt_si q3 (lt_r σ o 1) 2 x2) (fun w5 => lt_ck x1 (lt_len σ (lt_r σ (lt_r σ o 1) 10)) (lt_let (lt_si w5 (lt_r σ (lt_r σ o 1) 10) x1.toNatClampNeg x3) (fun w8 => fb_X4_countAhead_32 σ o lt_fu 0 w8))))
set_option maxHeartbeats 4000000 in
set_option maxRecDepth 100000 in
theorem jb_X4_countAhead_0 {X : lt_X} {σ : lt_S} (hT : lt_Wt σ) {o : Nat} (h0 : lt_c σ o = 4) {r : lt_W} (hF : lt_F X cX4_countAhead RX4 5 (lt_rm 5)) (hE : lt_E X 0 0 σ none none r) : ∀ (x1 : Int32) (x2 : Int32) (x3 : Int32) (w : lt_W), fb_X4_countAhead_0 σ o x1 x2 x3 w = some r → lt_J X 0 0 σ w 0 [(0, .ref (lt_z X + o)), (1, .int x1), (2, .int x2), (3, .int x3)] [] := by
  intro x1 x2 x3 w hf
  unfold fb_X4_countAhead_0 at hf
  refine jr_aload_n hF dX4_countAhead_0 0 rfl rfl ?_
  refine jr_getRT (cr := 5) hF gf_X4_12 hT h0 rfl rfl dX4_countAhead_1 (fun th1 => ?_)
  refine jr_aload_n hF dX4_countAhead_4 0 rfl rfl ?_
  refine jr_getRT (cr := 5) hF gf_X4_27 hT h0 rfl rfl dX4_countAhead_5 (fun th2 => ?_)
  obtain ⟨q3, hq3, hf⟩ := Option.bind_eq_some_iff.mp hf
  refine jr_cV1v hF ml_X4_59 (c_X5_copyFrom hT th1 th2 hq3) th1 ⟨Nat.le_of_ble_eq_true rfl, Nat.le_of_ble_eq_true rfl⟩ (Nat.le_of_ble_eq_true rfl) dX4_countAhead_8 ?_
  refine jr_aload_n hF dX4_countAhead_11 0 rfl rfl ?_
  refine jr_getRT (cr := 5) hF gf_X4_12 hT h0 rfl rfl dX4_countAhead_12 (fun th4 => ?_)
  refine jr_iload_n hF dX4_countAhead_15 2 rfl rfl ?_
  refine jr_putI hF pf_X4_63 th4 dX4_countAhead_16 ?_
  refine jr_letW hf (fun w5 hf => ?_)
  refine jr_aload_n hF dX4_countAhead_19 0 rfl rfl ?_
  refine jr_getRT (cr := 5) hF gf_X4_12 hT h0 rfl rfl dX4_countAhead_20 (fun th6 => ?_)
  refine jr_getRT (cr := 50) hF gf_X4_66 hT th6 rfl rfl dX4_countAhead_23 (fun th7 => ?_)
  refine jr_iload_n hF dX4_countAhead_26 1 rfl rfl ?_
  refine jr_iload_n hF dX4_countAhead_27 3 rfl rfl ?_
  refine jr_iastore hF th7 dX4_countAhead_28 hf (fun hf => ?_)
  refine jr_letW hf (fun w8 hf => ?_)
  refine jr_iconst (v := 0) hF dX4_countAhead_29 rfl ?_
  refine jr_istore (lv' := [(0, .ref (lt_z X + o)), (4, .int 0)]) hF dX4_countAhead_30 (by decide) [1, 0] rfl ?_
  exact jb_X4_countAhead_32 hT h0 hF hE lt_fu _ _ hf
def f_X4_countAhead (σ : lt_S) (o : Nat) (x1 : Int32) (x2 : Int32) (x3 : Int32) (w : lt_W) : Option lt_W := fb_X4_countAhead_0 σ o x1 x2 x3 w
set_option maxRecDepth 100000 in
theorem c_X4_countAhead {l : Launch} {D : va_G} {gA : Nat → ClassId} {s0 : State} {σ : lt_S} (hT : lt_Wt σ) {o : Nat} (h0 : lt_c σ o = 4) {x1 : Int32} {x2 : Int32} {x3 : Int32} {w : lt_W} {r : lt_W} (hf : f_X4_countAhead σ o x1 x2 x3 w = some r) : lt_C l D gA s0 yX4_countAhead cX4_countAhead 5 none (lt_rm 5) [.ref (s0.heap.size + o), .int x1, .int x2, .int x3] σ w σ none r := by
  refine lt_enter rfl (Nat.le_of_ble_eq_true rfl) (fun X e1 e2 e3 e4 hF hE => ?_)
  subst e1 e2 e3 e4
  exact jb_X4_countAhead_0 hT h0 hF hE _ _ _ _ hf

set_option maxRecDepth 100000 in
def fb_X4_isAsSeen_2 (σ : lt_S) (o : Nat) (w : lt_W) : Nat → Nat → Int32 → Int32 → Option Int32
  | 0, _, _, _ => none
  | n + 1, x1, x2, x3 => if x2 ≤ x3 then some 1 else if (lt_gi w x1 2) ≤ ((2 * x3) + 1) then some 1 else lt_ck (2 * x3) (lt_len σ (lt_r σ x1 3)) (lt_let (lt_gl w (lt_r σ x1 3) (2 * x3).toNatClampNeg) (fun z2 => if (lg_cmp z2 0) < 0 then some 0 else if 0 < (lg_cmp z2 20) then some 0 else lt_ck z2.toInt32 (lt_len σ (lt_r σ o 2)) (lt_ck ((2 * x3) + 1) (lt_len σ (lt_r σ x1 3)) (if (lg_cmp ((lt_gi w (lt_r σ o 2) z2.toInt32.toNatClampNeg).toInt64) (lt_gl w (lt_r σ x1 3) ((2 * x3) + 1).toNatClampNeg)) = 0 then fb_X4_isAsSeen_2 σ o w n x1 x2 (x3 + 1) else some 0))))
set_option maxHeartbeats 4000000 in
set_option maxRecDepth 100000 in
theorem jb_X4_isAsSeen_2 {X : lt_X} {σ : lt_S} (hT : lt_Wt σ) {o : Nat} (h0 : lt_c σ o = 4) {r : Int32} {w : lt_W} (hF : lt_F X cX4_isAsSeen RX4 6 (lt_rm 1)) (hE : lt_E X 0 0 σ (some .boolean) (some (.int r)) w) (n : Nat) : ∀ (x1 : Nat) (x2 : Int32) (x3 : Int32), lt_c σ x1 = 8 → fb_X4_isAsSeen_2 σ o w n x1 x2 x3 = some r → lt_J X 0 0 σ w 2 [(0, .ref (lt_z X + o)), (1, .ref (lt_z X + x1)), (2, .int x2), (3, .int x3)] [] := by
  induction n with
  | zero => intro x1 x2 x3 t1 hf; rw [fb_X4_isAsSeen_2] at hf; cases hf
  | succ n ih =>
    intro x1 x2 x3 t1 hf
    rw [fb_X4_isAsSeen_2] at hf
    refine jr_iload_n hF dX4_isAsSeen_2 3 rfl rfl ?_
    refine jr_iload_n hF dX4_isAsSeen_3 2 rfl rfl ?_
    refine jr_icmp_ge (tgt := 76) hF dX4_isAsSeen_4 rfl hf (fun hf => ?_) (fun hf => ?_)
    · refine jr_iconst (v := 1) hF dX4_isAsSeen_76 rfl ?_
      obtain rfl := Option.some.inj hf
      exact jr_zreturn hF hE (Or.inr rfl) dX4_isAsSeen_77
    · refine jr_iconst (v := 2) hF dX4_isAsSeen_7 rfl ?_
      refine jr_iload_n hF dX4_isAsSeen_8 3 rfl rfl ?_
      refine jr_imul hF dX4_isAsSeen_9 ?_
      refine jr_iconst (v := 1) hF dX4_isAsSeen_10 rfl ?_
      refine jr_iadd hF dX4_isAsSeen_11 ?_
      refine jr_aload_n hF dX4_isAsSeen_12 1 rfl rfl ?_
      refine jr_getI hF gf_X4_77 t1 dX4_isAsSeen_13 ?_
      refine jr_icmp_ge (tgt := 76) hF dX4_isAsSeen_16 rfl hf (fun hf => ?_) (fun hf => ?_)
      · refine jr_iconst (v := 1) hF dX4_isAsSeen_76 rfl ?_
        obtain rfl := Option.some.inj hf
        exact jr_zreturn hF hE (Or.inr rfl) dX4_isAsSeen_77
      · refine jr_aload_n hF dX4_isAsSeen_19 1 rfl rfl ?_
        refine jr_getRT (cr := 51) hF gf_X4_82 hT t1 rfl rfl dX4_isAsSeen_20 (fun th1 => ?_)
        refine jr_iconst (v := 2) hF dX4_isAsSeen_23 rfl ?_
        refine jr_iload_n hF dX4_isAsSeen_24 3 rfl rfl ?_
        refine jr_imul hF dX4_isAsSeen_25 ?_
        refine jr_laload hF th1 dX4_isAsSeen_26 hf (fun hf => ?_)
        refine jr_letL hf (fun z2 hf => ?_)
        refine jr_lstore (lv' := [(0, .ref (lt_z X + o)), (1, .ref (lt_z X + x1)), (2, .int x2), (3, .int x3), (4, .long z2)]) hF dX4_isAsSeen_27 (by decide) [1, 2, 3, 4, 0] rfl ?_
        refine jr_lload hF dX4_isAsSeen_29 4 rfl ?_
        refine jr_lconst (v := 0) hF dX4_isAsSeen_31 rfl ?_
        refine jr_lcmp hF dX4_isAsSeen_32 ?_
        refine jr_if_lt (tgt := 68) hF dX4_isAsSeen_33 rfl hf (fun hf => ?_) (fun hf => ?_)
        · refine jr_iconst (v := 0) hF dX4_isAsSeen_68 rfl ?_
          obtain rfl := Option.some.inj hf
          exact jr_zreturn hF hE (Or.inl rfl) dX4_isAsSeen_69
        · refine jr_lload hF dX4_isAsSeen_36 4 rfl ?_
          refine jr_ldc2 (v := 20) hF dX4_isAsSeen_38 kc_X4_86 ?_
          refine jr_lcmp hF dX4_isAsSeen_41 ?_
          refine jr_if_gt (tgt := 68) hF dX4_isAsSeen_42 rfl hf (fun hf => ?_) (fun hf => ?_)
          · refine jr_iconst (v := 0) hF dX4_isAsSeen_68 rfl ?_
            obtain rfl := Option.some.inj hf
            exact jr_zreturn hF hE (Or.inl rfl) dX4_isAsSeen_69
          · refine jr_aload_n hF dX4_isAsSeen_45 0 rfl rfl ?_
            refine jr_getRT (cr := 50) hF gf_X4_18 hT h0 rfl rfl dX4_isAsSeen_46 (fun th3 => ?_)
            refine jr_lload hF dX4_isAsSeen_49 4 rfl ?_
            refine jr_l2i hF dX4_isAsSeen_51 ?_
            refine jr_iaload hF th3 dX4_isAsSeen_52 hf (fun hf => ?_)
            refine jr_i2l hF dX4_isAsSeen_53 ?_
            refine jr_aload_n hF dX4_isAsSeen_54 1 rfl rfl ?_
            refine jr_getRT (cr := 51) hF gf_X4_82 hT t1 rfl rfl dX4_isAsSeen_55 (fun th4 => ?_)
            refine jr_iconst (v := 2) hF dX4_isAsSeen_58 rfl ?_
            refine jr_iload_n hF dX4_isAsSeen_59 3 rfl rfl ?_
            refine jr_imul hF dX4_isAsSeen_60 ?_
            refine jr_iconst (v := 1) hF dX4_isAsSeen_61 rfl ?_
            refine jr_iadd hF dX4_isAsSeen_62 ?_
            refine jr_laload hF th4 dX4_isAsSeen_63 hf (fun hf => ?_)
            refine jr_lcmp hF dX4_isAsSeen_64 ?_
            refine jr_if_eq (tgt := 70) hF dX4_isAsSeen_65 rfl hf (fun hf => ?_) (fun hf => ?_)
            · refine jr_iinc (v := x3 + 1) (lv' := [(0, .ref (lt_z X + o)), (1, .ref (lt_z X + x1)), (2, .int x2), (3, .int (x3 + 1)), (4, .long z2)]) hF dX4_isAsSeen_70 3 rfl rfl (by decide) [1, 2, 3, 0, 4] rfl ?_
              refine jr_goto (tgt := 2) hF dX4_isAsSeen_73 rfl ?_
              refine jr_sub [0, 1, 2, 3] rfl ?_
              exact ih _ _ _ t1 hf
            · refine jr_iconst (v := 0) hF dX4_isAsSeen_68 rfl ?_
              obtain rfl := Option.some.inj hf
              exact jr_zreturn hF hE (Or.inl rfl) dX4_isAsSeen_69
set_option maxRecDepth 100000 in
def fb_X4_isAsSeen_0 (σ : lt_S) (o : Nat) (w : lt_W) (x1 : Nat) (x2 : Int32) : Option Int32 := fb_X4_isAsSeen_2 σ o w lt_fu x1 x2 0
set_option maxHeartbeats 4000000 in
set_option maxRecDepth 100000 in
theorem jb_X4_isAsSeen_0 {X : lt_X} {σ : lt_S} (hT : lt_Wt σ) {o : Nat} (h0 : lt_c σ o = 4) {r : Int32} {w : lt_W} (hF : lt_F X cX4_isAsSeen RX4 6 (lt_rm 1)) (hE : lt_E X 0 0 σ (some .boolean) (some (.int r)) w) : ∀ (x1 : Nat) (x2 : Int32), lt_c σ x1 = 8 → fb_X4_isAsSeen_0 σ o w x1 x2 = some r → lt_J X 0 0 σ w 0 [(0, .ref (lt_z X + o)), (1, .ref (lt_z X + x1)), (2, .int x2)] [] := by
  intro x1 x2 t1 hf
  unfold fb_X4_isAsSeen_0 at hf
  refine jr_iconst (v := 0) hF dX4_isAsSeen_0 rfl ?_
  refine jr_istore_n (lv' := [(0, .ref (lt_z X + o)), (1, .ref (lt_z X + x1)), (2, .int x2), (3, .int 0)]) hF dX4_isAsSeen_1 rfl (by decide) [1, 2, 3, 0] rfl ?_
  exact jb_X4_isAsSeen_2 hT h0 hF hE lt_fu _ _ _ t1 hf
def f_X4_isAsSeen (σ : lt_S) (o : Nat) (x1 : Nat) (x2 : Int32) (w : lt_W) : Option Int32 := fb_X4_isAsSeen_0 σ o w x1 x2
set_option maxRecDepth 100000 in
theorem c_X4_isAsSeen {l : Launch} {D : va_G} {gA : Nat → ClassId} {s0 : State} {σ : lt_S} (hT : lt_Wt σ) {o : Nat} (h0 : lt_c σ o = 4) {x1 : Nat} {x2 : Int32} (t1 : lt_c σ x1 = 8) {w : lt_W} {r : Int32} (hf : f_X4_isAsSeen σ o x1 x2 w = some r) : lt_C l D gA s0 yX4_isAsSeen cX4_isAsSeen 6 (some .boolean) (lt_rm 1) [.ref (s0.heap.size + o), .ref (s0.heap.size + x1), .int x2] σ w σ (some (.int r)) w := by
  refine lt_enter rfl (Nat.le_of_ble_eq_true rfl) (fun X e1 e2 e3 e4 hF hE => ?_)
  subst e1 e2 e3 e4
  exact jb_X4_isAsSeen_0 hT h0 hF hE _ _ t1 hf

set_option maxRecDepth 100000 in
def fb_X4_addCouple_29 (σ : lt_S) (o : Nat) : Nat → Int32 → lt_W → Option lt_W
  | 0, _, _ => none
  | n + 1, x3, w => if 20 < x3 then some w else lt_ck x3 (lt_len σ (lt_r σ o 2)) (if (lt_gi w (lt_r σ o 2) x3.toNatClampNeg) < 0 then fb_X4_addCouple_29 σ o n (x3 + 1) w else lt_ck x3 (lt_len σ (lt_r σ o 2)) (if 7 < (lt_gi w (lt_r σ o 2) x3.toNatClampNeg) then fb_X4_addCouple_29 σ o n (x3 + 1) w else lt_ck x3 (lt_len σ (lt_r σ o 3)) (lt_ck x3 (lt_len σ (lt_r σ o 2)) (lt_ck (lt_gi w (lt_r σ o 2) x3.toNatClampNeg) (lt_len σ (lt_r σ (lt_r σ o 3) x3.toNatClampNeg)) (lt_ck (lt_gi w (lt_r σ o 2) x3.toNatClampNeg) (lt_len σ (lt_r σ (lt_r σ o 3) x3.toNatClampNeg)) (lt_let (lt_si w (lt_r σ (lt_r σ o 3) x3.toNatClampNeg) (lt_gi w (lt_r σ o 2) x3.toNatClampNeg).toNatClampNeg ((lt_gi w (lt_r σ (lt_r σ o 3) x3.toNatClampNeg) (lt_gi w (lt_r σ o 2) x3.toNatClampNeg).toNatClampNeg) + 1)) (fun w6 => fb_X4_addCouple_29 σ o n (x3 + 1) w6)))))))
set_option maxHeartbeats 4000000 in
set_option maxRecDepth 100000 in
theorem jb_X4_addCouple_29 {X : lt_X} {σ : lt_S} (hT : lt_Wt σ) {o : Nat} (h0 : lt_c σ o = 4) {r : lt_W} (hF : lt_F X cX4_addCouple RX4 4 (lt_rm 1)) (hE : lt_E X 0 0 σ none none r) (n : Nat) : ∀ (x3 : Int32) (w : lt_W), fb_X4_addCouple_29 σ o n x3 w = some r → lt_J X 0 0 σ w 29 [(0, .ref (lt_z X + o)), (3, .int x3)] [] := by
  induction n with
  | zero => intro x3 w hf; rw [fb_X4_addCouple_29] at hf; cases hf
  | succ n ih =>
    intro x3 w hf
    rw [fb_X4_addCouple_29] at hf
    refine jr_iload_n hF dX4_addCouple_29 1 rfl rfl ?_
    refine jr_bipush (v := 20) hF dX4_addCouple_30 rfl ?_
    refine jr_icmp_gt (tgt := 78) hF dX4_addCouple_32 rfl hf (fun hf => ?_) (fun hf => ?_)
    · obtain rfl := Option.some.inj hf
      exact jr_return hF hE dX4_addCouple_78
    · refine jr_aload_n hF dX4_addCouple_35 0 rfl rfl ?_
      refine jr_getRT (cr := 50) hF gf_X4_18 hT h0 rfl rfl dX4_addCouple_36 (fun th1 => ?_)
      refine jr_iload_n hF dX4_addCouple_39 1 rfl rfl ?_
      refine jr_iaload hF th1 dX4_addCouple_40 hf (fun hf => ?_)
      refine jr_if_lt (tgt := 72) hF dX4_addCouple_41 rfl hf (fun hf => ?_) (fun hf => ?_)
      · refine jr_iinc (v := x3 + 1) (lv' := [(0, .ref (lt_z X + o)), (3, .int (x3 + 1))]) hF dX4_addCouple_72 1 rfl rfl (by decide) [1, 0] rfl ?_
        refine jr_goto (tgt := 29) hF dX4_addCouple_75 rfl ?_
        exact ih _ _ hf
      · refine jr_aload_n hF dX4_addCouple_44 0 rfl rfl ?_
        refine jr_getRT (cr := 50) hF gf_X4_18 hT h0 rfl rfl dX4_addCouple_45 (fun th2 => ?_)
        refine jr_iload_n hF dX4_addCouple_48 1 rfl rfl ?_
        refine jr_iaload hF th2 dX4_addCouple_49 hf (fun hf => ?_)
        refine jr_bipush (v := 7) hF dX4_addCouple_50 rfl ?_
        refine jr_icmp_gt (tgt := 72) hF dX4_addCouple_52 rfl hf (fun hf => ?_) (fun hf => ?_)
        · refine jr_iinc (v := x3 + 1) (lv' := [(0, .ref (lt_z X + o)), (3, .int (x3 + 1))]) hF dX4_addCouple_72 1 rfl rfl (by decide) [1, 0] rfl ?_
          refine jr_goto (tgt := 29) hF dX4_addCouple_75 rfl ?_
          exact ih _ _ hf
        · refine jr_aload_n hF dX4_addCouple_55 0 rfl rfl ?_
          refine jr_getRT (cr := 57) hF gf_X4_24 hT h0 rfl rfl dX4_addCouple_56 (fun th3 => ?_)
          refine jr_iload_n hF dX4_addCouple_59 1 rfl rfl ?_
          refine jr_aaload (c := 57) hF hT th3 7 rfl rfl rfl dX4_addCouple_60 hf (fun th4 hf => ?_)
          have th4 : lt_c σ (lt_r σ (lt_r σ o 3) x3.toNatClampNeg) = 50 := th4
          refine jr_aload_n hF dX4_addCouple_61 0 rfl rfl ?_
          refine jr_getRT (cr := 50) hF gf_X4_18 hT h0 rfl rfl dX4_addCouple_62 (fun th5 => ?_)
          refine jr_iload_n hF dX4_addCouple_65 1 rfl rfl ?_
          refine jr_iaload hF th5 dX4_addCouple_66 hf (fun hf => ?_)
          refine jr_dup2 hF dX4_addCouple_67 rfl rfl ?_
          refine jr_iaload hF th4 dX4_addCouple_68 hf (fun hf => ?_)
          refine jr_iconst (v := 1) hF dX4_addCouple_69 rfl ?_
          refine jr_iadd hF dX4_addCouple_70 ?_
          refine jr_iastore hF th4 dX4_addCouple_71 hf (fun hf => ?_)
          refine jr_letW hf (fun w6 hf => ?_)
          refine jr_iinc (v := x3 + 1) (lv' := [(0, .ref (lt_z X + o)), (3, .int (x3 + 1))]) hF dX4_addCouple_72 1 rfl rfl (by decide) [1, 0] rfl ?_
          refine jr_goto (tgt := 29) hF dX4_addCouple_75 rfl ?_
          exact ih _ _ hf
set_option maxRecDepth 100000 in
def fb_X4_addCouple_17 (σ : lt_S) (o : Nat) (w : lt_W) : Option lt_W := lt_let (lt_si w o 4 ((lt_gi w o 4) + 1)) (fun w1 => fb_X4_addCouple_29 σ o lt_fu 0 w1)
set_option maxHeartbeats 4000000 in
set_option maxRecDepth 100000 in
theorem jb_X4_addCouple_17 {X : lt_X} {σ : lt_S} (hT : lt_Wt σ) {o : Nat} (h0 : lt_c σ o = 4) {r : lt_W} (hF : lt_F X cX4_addCouple RX4 4 (lt_rm 1)) (hE : lt_E X 0 0 σ none none r) : ∀ (w : lt_W), fb_X4_addCouple_17 σ o w = some r → lt_J X 0 0 σ w 17 [(0, .ref (lt_z X + o))] [] := by
  intro w hf
  unfold fb_X4_addCouple_17 at hf
  refine jr_aload_n hF dX4_addCouple_17 0 rfl rfl ?_
  refine jr_dup hF dX4_addCouple_18 rfl ?_
  refine jr_getI hF gf_X4_55 h0 dX4_addCouple_19 ?_
  refine jr_iconst (v := 1) hF dX4_addCouple_22 rfl ?_
  refine jr_iadd hF dX4_addCouple_23 ?_
  refine jr_putI hF pf_X4_55 h0 dX4_addCouple_24 ?_
  refine jr_letW hf (fun w1 hf => ?_)
  refine jr_iconst (v := 0) hF dX4_addCouple_27 rfl ?_
  refine jr_istore_n (lv' := [(0, .ref (lt_z X + o)), (3, .int 0)]) hF dX4_addCouple_28 rfl (by decide) [1, 0] rfl ?_
  exact jb_X4_addCouple_29 hT h0 hF hE lt_fu _ _ hf
set_option maxRecDepth 100000 in
def fb_X4_addCouple_0 (σ : lt_S) (o : Nat) (x1 : Int32) (x2 : Int32) (w : lt_W) : Option lt_W := if (lt_gi w o 4) = 0 then lt_let (lt_si w o 5 x1) (fun w1 => lt_let (lt_si w1 o 6 x2) (fun w2 => fb_X4_addCouple_17 σ o w2)) else fb_X4_addCouple_17 σ o w
set_option maxHeartbeats 4000000 in
set_option maxRecDepth 100000 in
theorem jb_X4_addCouple_0 {X : lt_X} {σ : lt_S} (hT : lt_Wt σ) {o : Nat} (h0 : lt_c σ o = 4) {r : lt_W} (hF : lt_F X cX4_addCouple RX4 4 (lt_rm 1)) (hE : lt_E X 0 0 σ none none r) : ∀ (x1 : Int32) (x2 : Int32) (w : lt_W), fb_X4_addCouple_0 σ o x1 x2 w = some r → lt_J X 0 0 σ w 0 [(0, .ref (lt_z X + o)), (1, .int x1), (2, .int x2)] [] := by
  intro x1 x2 w hf
  unfold fb_X4_addCouple_0 at hf
  refine jr_aload_n hF dX4_addCouple_0 0 rfl rfl ?_
  refine jr_getI hF gf_X4_55 h0 dX4_addCouple_1 ?_
  refine jr_if_ne (tgt := 17) hF dX4_addCouple_4 rfl hf (fun hf => ?_) (fun hf => ?_)
  · refine jr_sub [0] rfl ?_
    exact jb_X4_addCouple_17 hT h0 hF hE _ hf
  · refine jr_aload_n hF dX4_addCouple_7 0 rfl rfl ?_
    refine jr_iload_n hF dX4_addCouple_8 1 rfl rfl ?_
    refine jr_putI hF pf_X4_88 h0 dX4_addCouple_9 ?_
    refine jr_letW hf (fun w1 hf => ?_)
    refine jr_aload_n hF dX4_addCouple_12 0 rfl rfl ?_
    refine jr_iload_n hF dX4_addCouple_13 2 rfl rfl ?_
    refine jr_putI hF pf_X4_91 h0 dX4_addCouple_14 ?_
    refine jr_letW hf (fun w2 hf => ?_)
    refine jr_sub [0] rfl ?_
    exact jb_X4_addCouple_17 hT h0 hF hE _ hf
def f_X4_addCouple (σ : lt_S) (o : Nat) (x1 : Int32) (x2 : Int32) (w : lt_W) : Option lt_W := fb_X4_addCouple_0 σ o x1 x2 w
set_option maxRecDepth 100000 in
theorem c_X4_addCouple {l : Launch} {D : va_G} {gA : Nat → ClassId} {s0 : State} {σ : lt_S} (hT : lt_Wt σ) {o : Nat} (h0 : lt_c σ o = 4) {x1 : Int32} {x2 : Int32} {w : lt_W} {r : lt_W} (hf : f_X4_addCouple σ o x1 x2 w = some r) : lt_C l D gA s0 yX4_addCouple cX4_addCouple 4 none (lt_rm 1) [.ref (s0.heap.size + o), .int x1, .int x2] σ w σ none r := by
  refine lt_enter rfl (Nat.le_of_ble_eq_true rfl) (fun X e1 e2 e3 e4 hF hE => ?_)
  subst e1 e2 e3 e4
  exact jb_X4_addCouple_0 hT h0 hF hE _ _ _ hf

set_option maxRecDepth 100000 in
def fb_X4_look_29 (σ : lt_S) (o : Nat) (k19 : Int32 → Nat → Int32 → Int32 → lt_W → Option lt_W) : Nat → Int32 → Nat → Int32 → Int32 → Int32 → lt_W → Option lt_W
  | 0, _, _, _, _, _, _ => none
  | n + 1, x1, x2, x3, x4, x5, w => if 9 < x5 then k19 x1 x2 x3 (x4 + 1) w else Option.bind (f_X4_countAhead σ o x1 x4 x5 w) (fun q1 => Option.bind (f_X4_isAsSeen σ o x2 x3 q1) (fun q2 => if q2 = 0 then fb_X4_look_29 σ o k19 n x1 x2 x3 x4 (x5 + 1) q1 else Option.bind (f_X4_addCouple σ o x4 x5 q1) (fun q3 => fb_X4_look_29 σ o k19 n x1 x2 x3 x4 (x5 + 1) q3)))
set_option maxHeartbeats 4000000 in
set_option maxRecDepth 100000 in
theorem jb_X4_look_29 {X : lt_X} {σ : lt_S} (hT : lt_Wt σ) {o : Nat} (h0 : lt_c σ o = 4) {r : lt_W} {k19 : Int32 → Nat → Int32 → Int32 → lt_W → Option lt_W} (hF : lt_F X cX4_look RX4 6 (lt_rm 6)) (hE : lt_E X 0 0 σ none none r) (hk19 : ∀ (x1 : Int32) (x2 : Nat) (x3 : Int32) (x4 : Int32) (w : lt_W), lt_c σ x2 = 8 → k19 x1 x2 x3 x4 w = some r → lt_J X 0 0 σ w 19 [(0, .ref (lt_z X + o)), (1, .int x1), (2, .ref (lt_z X + x2)), (3, .int x3), (4, .int x4)] []) (n : Nat) : ∀ (x1 : Int32) (x2 : Nat) (x3 : Int32) (x4 : Int32) (x5 : Int32) (w : lt_W), lt_c σ x2 = 8 → fb_X4_look_29 σ o k19 n x1 x2 x3 x4 x5 w = some r → lt_J X 0 0 σ w 29 [(0, .ref (lt_z X + o)), (1, .int x1), (2, .ref (lt_z X + x2)), (3, .int x3), (4, .int x4), (5, .int x5)] [] := by
  induction n with
  | zero => intro x1 x2 x3 x4 x5 w t2 hf; rw [fb_X4_look_29] at hf; cases hf
  | succ n ih =>
    intro x1 x2 x3 x4 x5 w t2 hf
    rw [fb_X4_look_29] at hf
    refine jr_iload hF dX4_look_29 5 rfl ?_
    refine jr_bipush (v := 9) hF dX4_look_31 rfl ?_
    refine jr_icmp_gt (tgt := 68) hF dX4_look_33 rfl hf (fun hf => ?_) (fun hf => ?_)
    · refine jr_iinc (v := x4 + 1) (lv' := [(0, .ref (lt_z X + o)), (1, .int x1), (2, .ref (lt_z X + x2)), (3, .int x3), (4, .int (x4 + 1)), (5, .int x5)]) hF dX4_look_68 4 rfl rfl (by decide) [1, 2, 3, 4, 0, 5] rfl ?_
      refine jr_goto (tgt := 19) hF dX4_look_71 rfl ?_
      refine jr_sub [0, 1, 2, 3, 4] rfl ?_
      exact hk19 _ _ _ _ _ t2 hf
    · refine jr_aload_n hF dX4_look_36 0 rfl rfl ?_
      refine jr_iload_n hF dX4_look_37 1 rfl rfl ?_
      refine jr_iload hF dX4_look_38 4 rfl ?_
      refine jr_iload hF dX4_look_40 5 rfl ?_
      obtain ⟨q1, hq1, hf⟩ := Option.bind_eq_some_iff.mp hf
      refine jr_cV3v hF ml_X4_37 (c_X4_countAhead hT h0 hq1) h0 ⟨Nat.le_of_ble_eq_true rfl, Nat.le_of_ble_eq_true rfl⟩ (Nat.le_of_ble_eq_true rfl) dX4_look_42 ?_
      refine jr_aload_n hF dX4_look_45 0 rfl rfl ?_
      refine jr_aload_n hF dX4_look_46 2 rfl rfl ?_
      refine jr_iload_n hF dX4_look_47 3 rfl rfl ?_
      obtain ⟨q2, hq2, hf⟩ := Option.bind_eq_some_iff.mp hf
      refine jr_cV21 hF ml_X4_41 (c_X4_isAsSeen hT h0 t2 hq2) h0 ⟨Nat.le_of_ble_eq_true rfl, Nat.le_of_ble_eq_true rfl⟩ (Nat.le_of_ble_eq_true rfl) dX4_look_48 ?_
      refine jr_if_eq (tgt := 62) hF dX4_look_51 rfl hf (fun hf => ?_) (fun hf => ?_)
      · refine jr_iinc (v := x5 + 1) (lv' := [(0, .ref (lt_z X + o)), (1, .int x1), (2, .ref (lt_z X + x2)), (3, .int x3), (4, .int x4), (5, .int (x5 + 1))]) hF dX4_look_62 5 rfl rfl (by decide) [1, 2, 3, 4, 5, 0] rfl ?_
        refine jr_goto (tgt := 29) hF dX4_look_65 rfl ?_
        exact ih _ _ _ _ _ _ t2 hf
      · refine jr_aload_n hF dX4_look_54 0 rfl rfl ?_
        refine jr_iload hF dX4_look_55 4 rfl ?_
        refine jr_iload hF dX4_look_57 5 rfl ?_
        obtain ⟨q3, hq3, hf⟩ := Option.bind_eq_some_iff.mp hf
        refine jr_cV2v hF ml_X4_45 (c_X4_addCouple hT h0 hq3) h0 ⟨Nat.le_of_ble_eq_true rfl, Nat.le_of_ble_eq_true rfl⟩ (Nat.le_of_ble_eq_true rfl) dX4_look_59 ?_
        refine jr_iinc (v := x5 + 1) (lv' := [(0, .ref (lt_z X + o)), (1, .int x1), (2, .ref (lt_z X + x2)), (3, .int x3), (4, .int x4), (5, .int (x5 + 1))]) hF dX4_look_62 5 rfl rfl (by decide) [1, 2, 3, 4, 5, 0] rfl ?_
        refine jr_goto (tgt := 29) hF dX4_look_65 rfl ?_
        exact ih _ _ _ _ _ _ t2 hf
set_option maxRecDepth 100000 in
def fb_X4_look_19 (σ : lt_S) (o : Nat) : Nat → Int32 → Nat → Int32 → Int32 → lt_W → Option lt_W
  | 0, _, _, _, _, _ => none
  | n + 1, x1, x2, x3, x4, w => if 9 < x4 then some w else fb_X4_look_29 σ o (fun x1 x2 x3 x4 w => fb_X4_look_19 σ o n x1 x2 x3 x4 w) lt_fu x1 x2 x3 x4 0 w
set_option maxHeartbeats 4000000 in
set_option maxRecDepth 100000 in
theorem jb_X4_look_19 {X : lt_X} {σ : lt_S} (hT : lt_Wt σ) {o : Nat} (h0 : lt_c σ o = 4) {r : lt_W} (hF : lt_F X cX4_look RX4 6 (lt_rm 6)) (hE : lt_E X 0 0 σ none none r) (n : Nat) : ∀ (x1 : Int32) (x2 : Nat) (x3 : Int32) (x4 : Int32) (w : lt_W), lt_c σ x2 = 8 → fb_X4_look_19 σ o n x1 x2 x3 x4 w = some r → lt_J X 0 0 σ w 19 [(0, .ref (lt_z X + o)), (1, .int x1), (2, .ref (lt_z X + x2)), (3, .int x3), (4, .int x4)] [] := by
  induction n with
  | zero => intro x1 x2 x3 x4 w t2 hf; rw [fb_X4_look_19] at hf; cases hf
  | succ n ih =>
    intro x1 x2 x3 x4 w t2 hf
    rw [fb_X4_look_19] at hf
    refine jr_iload hF dX4_look_19 4 rfl ?_
    refine jr_bipush (v := 9) hF dX4_look_21 rfl ?_
    refine jr_icmp_gt (tgt := 74) hF dX4_look_23 rfl hf (fun hf => ?_) (fun hf => ?_)
    · obtain rfl := Option.some.inj hf
      exact jr_return hF hE dX4_look_74
    · refine jr_iconst (v := 0) hF dX4_look_26 rfl ?_
      refine jr_istore (lv' := [(0, .ref (lt_z X + o)), (1, .int x1), (2, .ref (lt_z X + x2)), (3, .int x3), (4, .int x4), (5, .int 0)]) hF dX4_look_27 (by decide) [1, 2, 3, 4, 5, 0] rfl ?_
      exact jb_X4_look_29 hT h0 hF hE ih lt_fu _ _ _ _ _ _ t2 hf
set_option maxRecDepth 100000 in
def fb_X4_look_0 (σ : lt_S) (o : Nat) (x1 : Int32) (x2 : Nat) (x3 : Int32) (w : lt_W) : Option lt_W := Option.bind (f_X4_forget σ o w) (fun q1 => Option.bind (f_X5_hasGuest σ (lt_r σ o 0) x1 q1) (fun q3 => if q3 = 0 then some q1 else fb_X4_look_19 σ o lt_fu x1 x2 x3 1 q1))
set_option maxHeartbeats 4000000 in
set_option maxRecDepth 100000 in
theorem jb_X4_look_0 {X : lt_X} {σ : lt_S} (hT : lt_Wt σ) {o : Nat} (h0 : lt_c σ o = 4) {r : lt_W} (hF : lt_F X cX4_look RX4 6 (lt_rm 6)) (hE : lt_E X 0 0 σ none none r) : ∀ (x1 : Int32) (x2 : Nat) (x3 : Int32) (w : lt_W), lt_c σ x2 = 8 → fb_X4_look_0 σ o x1 x2 x3 w = some r → lt_J X 0 0 σ w 0 [(0, .ref (lt_z X + o)), (1, .int x1), (2, .ref (lt_z X + x2)), (3, .int x3)] [] := by
  intro x1 x2 x3 w t2 hf
  unfold fb_X4_look_0 at hf
  refine jr_aload_n hF dX4_look_0 0 rfl rfl ?_
  obtain ⟨q1, hq1, hf⟩ := Option.bind_eq_some_iff.mp hf
  refine jr_cV0v hF ml_X4_30 (c_X4_forget hT h0 hq1) h0 ⟨Nat.le_of_ble_eq_true rfl, Nat.le_of_ble_eq_true rfl⟩ (Nat.le_of_ble_eq_true rfl) dX4_look_1 ?_
  refine jr_aload_n hF dX4_look_4 0 rfl rfl ?_
  refine jr_getRT (cr := 5) hF gf_X4_27 hT h0 rfl rfl dX4_look_5 (fun th2 => ?_)
  refine jr_iload_n hF dX4_look_8 1 rfl rfl ?_
  obtain ⟨q3, hq3, hf⟩ := Option.bind_eq_some_iff.mp hf
  refine jr_cV11 hF ml_X4_33 (c_X5_hasGuest th2 hq3) th2 ⟨Nat.le_of_ble_eq_true rfl, Nat.le_of_ble_eq_true rfl⟩ (Nat.le_of_ble_eq_true rfl) dX4_look_9 ?_
  refine jr_if_ne (tgt := 16) hF dX4_look_12 rfl hf (fun hf => ?_) (fun hf => ?_)
  · refine jr_iconst (v := 1) hF dX4_look_16 rfl ?_
    refine jr_istore (lv' := [(0, .ref (lt_z X + o)), (1, .int x1), (2, .ref (lt_z X + x2)), (3, .int x3), (4, .int 1)]) hF dX4_look_17 (by decide) [1, 2, 3, 4, 0] rfl ?_
    exact jb_X4_look_19 hT h0 hF hE lt_fu _ _ _ _ _ t2 hf
  · obtain rfl := Option.some.inj hf
    exact jr_return hF hE dX4_look_15
def f_X4_look (σ : lt_S) (o : Nat) (x1 : Int32) (x2 : Nat) (x3 : Int32) (w : lt_W) : Option lt_W := fb_X4_look_0 σ o x1 x2 x3 w
set_option maxRecDepth 100000 in
theorem c_X4_look {l : Launch} {D : va_G} {gA : Nat → ClassId} {s0 : State} {σ : lt_S} (hT : lt_Wt σ) {o : Nat} (h0 : lt_c σ o = 4) {x1 : Int32} {x2 : Nat} {x3 : Int32} (t2 : lt_c σ x2 = 8) {w : lt_W} {r : lt_W} (hf : f_X4_look σ o x1 x2 x3 w = some r) : lt_C l D gA s0 yX4_look cX4_look 6 none (lt_rm 6) [.ref (s0.heap.size + o), .int x1, .ref (s0.heap.size + x2), .int x3] σ w σ none r := by
  refine lt_enter rfl (Nat.le_of_ble_eq_true rfl) (fun X e1 e2 e3 e4 hF hE => ?_)
  subst e1 e2 e3 e4
  exact jb_X4_look_0 hT h0 hF hE _ _ _ _ t2 hf

set_option maxRecDepth 100000 in
def fb_X4_partingDay_18 (σ : lt_S) (o : Nat) (w : lt_W) (k6 : Int32 → Int32 → Int32 → Option Int32) : Nat → Int32 → Int32 → Int32 → Int32 → Int32 → Option Int32
  | 0, _, _, _, _, _ => none
  | n + 1, x1, x2, x3, x4, x5 => if 7 < x5 then if x1 = (-1) then k6 x3 x4 (x3 + 1) else if x2 ≤ x4 then k6 x1 x2 (x3 + 1) else k6 x3 x4 (x3 + 1) else lt_ck x3 (lt_len σ (lt_r σ o 3)) (lt_ck x5 (lt_len σ (lt_r σ (lt_r σ o 3) x3.toNatClampNeg)) (lt_let (lt_max x4 (lt_gi w (lt_r σ (lt_r σ o 3) x3.toNatClampNeg) x5.toNatClampNeg)) (fun z3 => fb_X4_partingDay_18 σ o w k6 n x1 x2 x3 z3 (x5 + 1))))
set_option maxHeartbeats 4000000 in
set_option maxRecDepth 100000 in
theorem jb_X4_partingDay_18 {X : lt_X} {σ : lt_S} (hT : lt_Wt σ) {o : Nat} (h0 : lt_c σ o = 4) {r : Int32} {w : lt_W} {k6 : Int32 → Int32 → Int32 → Option Int32} (hF : lt_F X cX4_partingDay RX4 6 (lt_rm 2)) (hE : lt_E X 0 0 σ (some .int) (some (.int r)) w) (hk6 : ∀ (x1 : Int32) (x2 : Int32) (x3 : Int32), k6 x1 x2 x3 = some r → lt_J X 0 0 σ w 6 [(0, .ref (lt_z X + o)), (1, .int x1), (2, .int x2), (3, .int x3)] []) (n : Nat) : ∀ (x1 : Int32) (x2 : Int32) (x3 : Int32) (x4 : Int32) (x5 : Int32), fb_X4_partingDay_18 σ o w k6 n x1 x2 x3 x4 x5 = some r → lt_J X 0 0 σ w 18 [(0, .ref (lt_z X + o)), (1, .int x1), (2, .int x2), (3, .int x3), (4, .int x4), (5, .int x5)] [] := by
  induction n with
  | zero => intro x1 x2 x3 x4 x5 hf; rw [fb_X4_partingDay_18] at hf; cases hf
  | succ n ih =>
    intro x1 x2 x3 x4 x5 hf
    rw [fb_X4_partingDay_18] at hf
    refine jr_iload hF dX4_partingDay_18 5 rfl ?_
    refine jr_bipush (v := 7) hF dX4_partingDay_20 rfl ?_
    refine jr_icmp_gt (tgt := 47) hF dX4_partingDay_22 rfl hf (fun hf => ?_) (fun hf => ?_)
    · refine jr_iload_n hF dX4_partingDay_47 1 rfl rfl ?_
      refine jr_iconst (v := (-1)) hF dX4_partingDay_48 rfl ?_
      refine jr_icmp_eq (tgt := 58) hF dX4_partingDay_49 rfl hf (fun hf => ?_) (fun hf => ?_)
      · refine jr_iload_n hF dX4_partingDay_58 3 rfl rfl ?_
        refine jr_istore_n (lv' := [(0, .ref (lt_z X + o)), (1, .int x3), (3, .int x3), (4, .int x4)]) hF dX4_partingDay_59 rfl (by decide) [1, 0, 3, 4] rfl ?_
        refine jr_iload hF dX4_partingDay_60 3 rfl ?_
        refine jr_istore_n (lv' := [(0, .ref (lt_z X + o)), (1, .int x3), (2, .int x4), (3, .int x3)]) hF dX4_partingDay_62 rfl (by decide) [1, 2, 0, 3] rfl ?_
        refine jr_iinc (v := x3 + 1) (lv' := [(0, .ref (lt_z X + o)), (1, .int x3), (2, .int x4), (3, .int (x3 + 1))]) hF dX4_partingDay_63 3 rfl rfl (by decide) [1, 2, 3, 0] rfl ?_
        refine jr_goto (tgt := 6) hF dX4_partingDay_66 rfl ?_
        exact hk6 _ _ _ hf
      · refine jr_iload hF dX4_partingDay_52 4 rfl ?_
        refine jr_iload_n hF dX4_partingDay_54 2 rfl rfl ?_
        refine jr_icmp_ge (tgt := 63) hF dX4_partingDay_55 rfl hf (fun hf => ?_) (fun hf => ?_)
        · refine jr_iinc (v := x3 + 1) (lv' := [(0, .ref (lt_z X + o)), (1, .int x1), (2, .int x2), (3, .int (x3 + 1)), (4, .int x4), (5, .int x5)]) hF dX4_partingDay_63 3 rfl rfl (by decide) [1, 2, 3, 0, 4, 5] rfl ?_
          refine jr_goto (tgt := 6) hF dX4_partingDay_66 rfl ?_
          refine jr_sub [0, 1, 2, 3] rfl ?_
          exact hk6 _ _ _ hf
        · refine jr_iload_n hF dX4_partingDay_58 3 rfl rfl ?_
          refine jr_istore_n (lv' := [(0, .ref (lt_z X + o)), (1, .int x3), (3, .int x3), (4, .int x4)]) hF dX4_partingDay_59 rfl (by decide) [1, 0, 3, 4] rfl ?_
          refine jr_iload hF dX4_partingDay_60 3 rfl ?_
          refine jr_istore_n (lv' := [(0, .ref (lt_z X + o)), (1, .int x3), (2, .int x4), (3, .int x3)]) hF dX4_partingDay_62 rfl (by decide) [1, 2, 0, 3] rfl ?_
          refine jr_iinc (v := x3 + 1) (lv' := [(0, .ref (lt_z X + o)), (1, .int x3), (2, .int x4), (3, .int (x3 + 1))]) hF dX4_partingDay_63 3 rfl rfl (by decide) [1, 2, 3, 0] rfl ?_
          refine jr_goto (tgt := 6) hF dX4_partingDay_66 rfl ?_
          exact hk6 _ _ _ hf
    · refine jr_iload hF dX4_partingDay_25 4 rfl ?_
      refine jr_aload_n hF dX4_partingDay_27 0 rfl rfl ?_
      refine jr_getRT (cr := 57) hF gf_X4_24 hT h0 rfl rfl dX4_partingDay_28 (fun th1 => ?_)
      refine jr_iload_n hF dX4_partingDay_31 3 rfl rfl ?_
      refine jr_aaload (c := 57) hF hT th1 7 rfl rfl rfl dX4_partingDay_32 hf (fun th2 hf => ?_)
      have th2 : lt_c σ (lt_r σ (lt_r σ o 3) x3.toNatClampNeg) = 50 := th2
      refine jr_iload hF dX4_partingDay_33 5 rfl ?_
      refine jr_iaload hF th2 dX4_partingDay_35 hf (fun hf => ?_)
      refine jr_max hF mm_X4_49 ⟨Nat.le_of_ble_eq_true rfl, Nat.le_of_ble_eq_true rfl, Nat.zero_le _, Nat.zero_le _⟩ dX4_partingDay_36 ?_
      refine jr_letI hf (fun z3 hf => ?_)
      refine jr_istore (lv' := [(0, .ref (lt_z X + o)), (1, .int x1), (2, .int x2), (3, .int x3), (4, .int z3), (5, .int x5)]) hF dX4_partingDay_39 (by decide) [1, 2, 3, 4, 0, 5] rfl ?_
      refine jr_iinc (v := x5 + 1) (lv' := [(0, .ref (lt_z X + o)), (1, .int x1), (2, .int x2), (3, .int x3), (4, .int z3), (5, .int (x5 + 1))]) hF dX4_partingDay_41 5 rfl rfl (by decide) [1, 2, 3, 4, 5, 0] rfl ?_
      refine jr_goto (tgt := 18) hF dX4_partingDay_44 rfl ?_
      exact ih _ _ _ _ _ hf
set_option maxRecDepth 100000 in
def fb_X4_partingDay_6 (σ : lt_S) (o : Nat) (w : lt_W) : Nat → Int32 → Int32 → Int32 → Option Int32
  | 0, _, _, _ => none
  | n + 1, x1, x2, x3 => if 20 < x3 then some x1 else fb_X4_partingDay_18 σ o w (fun x1 x2 x3 => fb_X4_partingDay_6 σ o w n x1 x2 x3) lt_fu x1 x2 x3 0 0
set_option maxHeartbeats 4000000 in
set_option maxRecDepth 100000 in
theorem jb_X4_partingDay_6 {X : lt_X} {σ : lt_S} (hT : lt_Wt σ) {o : Nat} (h0 : lt_c σ o = 4) {r : Int32} {w : lt_W} (hF : lt_F X cX4_partingDay RX4 6 (lt_rm 2)) (hE : lt_E X 0 0 σ (some .int) (some (.int r)) w) (n : Nat) : ∀ (x1 : Int32) (x2 : Int32) (x3 : Int32), fb_X4_partingDay_6 σ o w n x1 x2 x3 = some r → lt_J X 0 0 σ w 6 [(0, .ref (lt_z X + o)), (1, .int x1), (2, .int x2), (3, .int x3)] [] := by
  induction n with
  | zero => intro x1 x2 x3 hf; rw [fb_X4_partingDay_6] at hf; cases hf
  | succ n ih =>
    intro x1 x2 x3 hf
    rw [fb_X4_partingDay_6] at hf
    refine jr_iload_n hF dX4_partingDay_6 3 rfl rfl ?_
    refine jr_bipush (v := 20) hF dX4_partingDay_7 rfl ?_
    refine jr_icmp_gt (tgt := 69) hF dX4_partingDay_9 rfl hf (fun hf => ?_) (fun hf => ?_)
    · refine jr_iload_n hF dX4_partingDay_69 1 rfl rfl ?_
      obtain rfl := Option.some.inj hf
      exact jr_ireturn hF hE dX4_partingDay_70
    · refine jr_iconst (v := 0) hF dX4_partingDay_12 rfl ?_
      refine jr_istore (lv' := [(0, .ref (lt_z X + o)), (1, .int x1), (2, .int x2), (3, .int x3), (4, .int 0)]) hF dX4_partingDay_13 (by decide) [1, 2, 3, 4, 0] rfl ?_
      refine jr_iconst (v := 0) hF dX4_partingDay_15 rfl ?_
      refine jr_istore (lv' := [(0, .ref (lt_z X + o)), (1, .int x1), (2, .int x2), (3, .int x3), (4, .int 0), (5, .int 0)]) hF dX4_partingDay_16 (by decide) [1, 2, 3, 4, 5, 0] rfl ?_
      exact jb_X4_partingDay_18 hT h0 hF hE ih lt_fu _ _ _ _ _ hf
set_option maxRecDepth 100000 in
def fb_X4_partingDay_0 (σ : lt_S) (o : Nat) (w : lt_W) : Option Int32 := fb_X4_partingDay_6 σ o w lt_fu (-1) 0 0
set_option maxHeartbeats 4000000 in
set_option maxRecDepth 100000 in
theorem jb_X4_partingDay_0 {X : lt_X} {σ : lt_S} (hT : lt_Wt σ) {o : Nat} (h0 : lt_c σ o = 4) {r : Int32} {w : lt_W} (hF : lt_F X cX4_partingDay RX4 6 (lt_rm 2)) (hE : lt_E X 0 0 σ (some .int) (some (.int r)) w) : fb_X4_partingDay_0 σ o w = some r → lt_J X 0 0 σ w 0 [(0, .ref (lt_z X + o))] [] := by
  intro  hf
  unfold fb_X4_partingDay_0 at hf
  refine jr_iconst (v := (-1)) hF dX4_partingDay_0 rfl ?_
  refine jr_istore_n (lv' := [(0, .ref (lt_z X + o)), (1, .int (-1))]) hF dX4_partingDay_1 rfl (by decide) [1, 0] rfl ?_
  refine jr_iconst (v := 0) hF dX4_partingDay_2 rfl ?_
  refine jr_istore_n (lv' := [(0, .ref (lt_z X + o)), (1, .int (-1)), (2, .int 0)]) hF dX4_partingDay_3 rfl (by decide) [1, 2, 0] rfl ?_
  refine jr_iconst (v := 0) hF dX4_partingDay_4 rfl ?_
  refine jr_istore_n (lv' := [(0, .ref (lt_z X + o)), (1, .int (-1)), (2, .int 0), (3, .int 0)]) hF dX4_partingDay_5 rfl (by decide) [1, 2, 3, 0] rfl ?_
  exact jb_X4_partingDay_6 hT h0 hF hE lt_fu _ _ _ hf
def f_X4_partingDay (σ : lt_S) (o : Nat) (w : lt_W) : Option Int32 := fb_X4_partingDay_0 σ o w
set_option maxRecDepth 100000 in
theorem c_X4_partingDay {l : Launch} {D : va_G} {gA : Nat → ClassId} {s0 : State} {σ : lt_S} (hT : lt_Wt σ) {o : Nat} (h0 : lt_c σ o = 4) {w : lt_W} {r : Int32} (hf : f_X4_partingDay σ o w = some r) : lt_C l D gA s0 yX4_partingDay cX4_partingDay 6 (some .int) (lt_rm 2) [.ref (s0.heap.size + o)] σ w σ (some (.int r)) w := by
  refine lt_enter rfl (Nat.le_of_ble_eq_true rfl) (fun X e1 e2 e3 e4 hF hE => ?_)
  subst e1 e2 e3 e4
  exact jb_X4_partingDay_0 hT h0 hF hE hf

set_option maxRecDepth 100000 in
def fb_X2_goButter_0 (σ : lt_S) (o : Nat) (x1 : Int32) (x2 : Int32) (w : lt_W) : Option (Int32 × lt_W) := Option.bind (f_X5_hasGuest σ (lt_r σ o 0) x1 w) (fun q2 => if q2 = 0 then some (0, w) else lt_ck x1 (lt_len σ (lt_r σ (lt_r σ o 0) 15)) (if (lt_gi w (lt_r σ (lt_r σ o 0) 15) x1.toNatClampNeg) = x2 then some (0, w) else lt_ck x1 (lt_len σ (lt_r σ (lt_r σ o 0) 15)) (lt_let (lt_si w (lt_r σ (lt_r σ o 0) 15) x1.toNatClampNeg x2) (fun w7 => some (1, w7)))))
set_option maxHeartbeats 4000000 in
set_option maxRecDepth 100000 in
theorem jb_X2_goButter_0 {X : lt_X} {σ : lt_S} (hT : lt_Wt σ) {o : Nat} (h0 : lt_c σ o = 2) {r : Int32 × lt_W} (hF : lt_F X cX2_goButter RX2 3 (lt_rm 2)) (hE : lt_E X 0 0 σ (some .boolean) (some (.int r.1)) r.2) : ∀ (x1 : Int32) (x2 : Int32) (w : lt_W), fb_X2_goButter_0 σ o x1 x2 w = some r → lt_J X 0 0 σ w 0 [(0, .ref (lt_z X + o)), (1, .int x1), (2, .int x2)] [] := by
  intro x1 x2 w hf
  unfold fb_X2_goButter_0 at hf
  refine jr_aload_n hF dX2_goButter_0 0 rfl rfl ?_
  refine jr_getRT (cr := 5) hF gf_X2_18 hT h0 rfl rfl dX2_goButter_1 (fun th1 => ?_)
  refine jr_iload_n hF dX2_goButter_4 1 rfl rfl ?_
  obtain ⟨q2, hq2, hf⟩ := Option.bind_eq_some_iff.mp hf
  refine jr_cV11 hF ml_X2_90 (c_X5_hasGuest th1 hq2) th1 ⟨Nat.le_of_ble_eq_true rfl, Nat.le_of_ble_eq_true rfl⟩ (Nat.le_of_ble_eq_true rfl) dX2_goButter_5 ?_
  refine jr_if_eq (tgt := 24) hF dX2_goButter_8 rfl hf (fun hf => ?_) (fun hf => ?_)
  · refine jr_iconst (v := 0) hF dX2_goButter_24 rfl ?_
    obtain rfl := Option.some.inj hf
    exact jr_zreturn hF hE (Or.inl rfl) dX2_goButter_25
  · refine jr_aload_n hF dX2_goButter_11 0 rfl rfl ?_
    refine jr_getRT (cr := 5) hF gf_X2_18 hT h0 rfl rfl dX2_goButter_12 (fun th3 => ?_)
    refine jr_getRT (cr := 50) hF gf_X2_124 hT th3 rfl rfl dX2_goButter_15 (fun th4 => ?_)
    refine jr_iload_n hF dX2_goButter_18 1 rfl rfl ?_
    refine jr_iaload hF th4 dX2_goButter_19 hf (fun hf => ?_)
    refine jr_iload_n hF dX2_goButter_20 2 rfl rfl ?_
    refine jr_icmp_ne (tgt := 26) hF dX2_goButter_21 rfl hf (fun hf => ?_) (fun hf => ?_)
    · refine jr_aload_n hF dX2_goButter_26 0 rfl rfl ?_
      refine jr_getRT (cr := 5) hF gf_X2_18 hT h0 rfl rfl dX2_goButter_27 (fun th5 => ?_)
      refine jr_getRT (cr := 50) hF gf_X2_124 hT th5 rfl rfl dX2_goButter_30 (fun th6 => ?_)
      refine jr_iload_n hF dX2_goButter_33 1 rfl rfl ?_
      refine jr_iload_n hF dX2_goButter_34 2 rfl rfl ?_
      refine jr_iastore hF th6 dX2_goButter_35 hf (fun hf => ?_)
      refine jr_letW hf (fun w7 hf => ?_)
      refine jr_iconst (v := 1) hF dX2_goButter_36 rfl ?_
      obtain rfl := Option.some.inj hf
      exact jr_zreturn hF hE (Or.inr rfl) dX2_goButter_37
    · refine jr_iconst (v := 0) hF dX2_goButter_24 rfl ?_
      obtain rfl := Option.some.inj hf
      exact jr_zreturn hF hE (Or.inl rfl) dX2_goButter_25
def f_X2_goButter (σ : lt_S) (o : Nat) (x1 : Int32) (x2 : Int32) (w : lt_W) : Option (Int32 × lt_W) := fb_X2_goButter_0 σ o x1 x2 w
set_option maxRecDepth 100000 in
theorem c_X2_goButter {l : Launch} {D : va_G} {gA : Nat → ClassId} {s0 : State} {σ : lt_S} (hT : lt_Wt σ) {o : Nat} (h0 : lt_c σ o = 2) {x1 : Int32} {x2 : Int32} {w : lt_W} {r : Int32 × lt_W} (hf : f_X2_goButter σ o x1 x2 w = some r) : lt_C l D gA s0 yX2_goButter cX2_goButter 3 (some .boolean) (lt_rm 2) [.ref (s0.heap.size + o), .int x1, .int x2] σ w σ (some (.int r.1)) r.2 := by
  refine lt_enter rfl (Nat.le_of_ble_eq_true rfl) (fun X e1 e2 e3 e4 hF hE => ?_)
  subst e1 e2 e3 e4
  exact jb_X2_goButter_0 hT h0 hF hE _ _ _ hf

set_option maxRecDepth 100000 in
def fb_X2_goSoup_0 (σ : lt_S) (o : Nat) (x1 : Int32) (w : lt_W) : Option (Int32 × lt_W) := Option.bind (f_X5_hungers σ (lt_r σ o 0) x1 w) (fun q2 => if q2 = 0 then some (0, w) else lt_ck x1 (lt_len σ (lt_r σ (lt_r σ o 0) 14)) (lt_let (lt_si w (lt_r σ (lt_r σ o 0) 14) x1.toNatClampNeg 0) (fun w5 => some (1, w5))))
set_option maxHeartbeats 4000000 in
set_option maxRecDepth 100000 in
theorem jb_X2_goSoup_0 {X : lt_X} {σ : lt_S} (hT : lt_Wt σ) {o : Nat} (h0 : lt_c σ o = 2) {r : Int32 × lt_W} (hF : lt_F X cX2_goSoup RX2 2 (lt_rm 3)) (hE : lt_E X 0 0 σ (some .boolean) (some (.int r.1)) r.2) : ∀ (x1 : Int32) (w : lt_W), fb_X2_goSoup_0 σ o x1 w = some r → lt_J X 0 0 σ w 0 [(0, .ref (lt_z X + o)), (1, .int x1)] [] := by
  intro x1 w hf
  unfold fb_X2_goSoup_0 at hf
  refine jr_aload_n hF dX2_goSoup_0 0 rfl rfl ?_
  refine jr_getRT (cr := 5) hF gf_X2_18 hT h0 rfl rfl dX2_goSoup_1 (fun th1 => ?_)
  refine jr_iload_n hF dX2_goSoup_4 1 rfl rfl ?_
  obtain ⟨q2, hq2, hf⟩ := Option.bind_eq_some_iff.mp hf
  refine jr_cV11 hF ml_X2_80 (c_X5_hungers hT th1 hq2) th1 ⟨Nat.le_of_ble_eq_true rfl, Nat.le_of_ble_eq_true rfl⟩ (Nat.le_of_ble_eq_true rfl) dX2_goSoup_5 ?_
  refine jr_if_ne (tgt := 13) hF dX2_goSoup_8 rfl hf (fun hf => ?_) (fun hf => ?_)
  · refine jr_aload_n hF dX2_goSoup_13 0 rfl rfl ?_
    refine jr_getRT (cr := 5) hF gf_X2_18 hT h0 rfl rfl dX2_goSoup_14 (fun th3 => ?_)
    refine jr_getRT (cr := 50) hF gf_X2_127 hT th3 rfl rfl dX2_goSoup_17 (fun th4 => ?_)
    refine jr_iload_n hF dX2_goSoup_20 1 rfl rfl ?_
    refine jr_iconst (v := 0) hF dX2_goSoup_21 rfl ?_
    refine jr_iastore hF th4 dX2_goSoup_22 hf (fun hf => ?_)
    refine jr_letW hf (fun w5 hf => ?_)
    refine jr_iconst (v := 1) hF dX2_goSoup_23 rfl ?_
    obtain rfl := Option.some.inj hf
    exact jr_zreturn hF hE (Or.inr rfl) dX2_goSoup_24
  · refine jr_iconst (v := 0) hF dX2_goSoup_11 rfl ?_
    obtain rfl := Option.some.inj hf
    exact jr_zreturn hF hE (Or.inl rfl) dX2_goSoup_12
def f_X2_goSoup (σ : lt_S) (o : Nat) (x1 : Int32) (w : lt_W) : Option (Int32 × lt_W) := fb_X2_goSoup_0 σ o x1 w
set_option maxRecDepth 100000 in
theorem c_X2_goSoup {l : Launch} {D : va_G} {gA : Nat → ClassId} {s0 : State} {σ : lt_S} (hT : lt_Wt σ) {o : Nat} (h0 : lt_c σ o = 2) {x1 : Int32} {w : lt_W} {r : Int32 × lt_W} (hf : f_X2_goSoup σ o x1 w = some r) : lt_C l D gA s0 yX2_goSoup cX2_goSoup 2 (some .boolean) (lt_rm 3) [.ref (s0.heap.size + o), .int x1] σ w σ (some (.int r.1)) r.2 := by
  refine lt_enter rfl (Nat.le_of_ble_eq_true rfl) (fun X e1 e2 e3 e4 hF hE => ?_)
  subst e1 e2 e3 e4
  exact jb_X2_goSoup_0 hT h0 hF hE _ _ hf

set_option maxRecDepth 100000 in
def fb_X2_draw_0 (σ : lt_S) (o : Nat) (x1 : Int32) (w : lt_W) : Option (Int32 × lt_W) := lt_let (lt_si w o 3 ((((lt_gi w o 3) * 3283) + 11511) - (((lt_gi w o 3) * 3283) + 11511) / 65536 * 65536)) (fun w1 => if x1 ≤ 0 then some (0, w1) else lt_nz x1 (some (((lt_gi w1 o 3) / 8) - ((lt_gi w1 o 3) / 8) / x1 * x1, w1)))
set_option maxHeartbeats 4000000 in
set_option maxRecDepth 100000 in
theorem jb_X2_draw_0 {X : lt_X} {σ : lt_S} {o : Nat} (h0 : lt_c σ o = 2) {r : Int32 × lt_W} (hF : lt_F X cX2_draw RX2 2 (lt_rm 1)) (hE : lt_E X 0 0 σ (some .int) (some (.int r.1)) r.2) : ∀ (x1 : Int32) (w : lt_W), fb_X2_draw_0 σ o x1 w = some r → lt_J X 0 0 σ w 0 [(0, .ref (lt_z X + o)), (1, .int x1)] [] := by
  intro x1 w hf
  unfold fb_X2_draw_0 at hf
  refine jr_aload_n hF dX2_draw_0 0 rfl rfl ?_
  refine jr_aload_n hF dX2_draw_1 0 rfl rfl ?_
  refine jr_getI hF gf_X2_25 h0 dX2_draw_2 ?_
  refine jr_sipush (v := 3283) hF dX2_draw_5 rfl ?_
  refine jr_imul hF dX2_draw_8 ?_
  refine jr_sipush (v := 11511) hF dX2_draw_9 rfl ?_
  refine jr_iadd hF dX2_draw_12 ?_
  refine jr_ldc (v := 65536) hF dX2_draw_13 kc_X2_146 ?_
  refine jr_iremc hF dX2_draw_15 (by decide) ?_
  refine jr_putI hF pf_X2_25 h0 dX2_draw_16 ?_
  refine jr_letW hf (fun w1 hf => ?_)
  refine jr_iload_n hF dX2_draw_19 1 rfl rfl ?_
  refine jr_if_le (tgt := 35) hF dX2_draw_20 rfl hf (fun hf => ?_) (fun hf => ?_)
  · refine jr_iconst (v := 0) hF dX2_draw_35 rfl ?_
    obtain rfl := Option.some.inj hf
    exact jr_ireturn hF hE dX2_draw_36
  · refine jr_aload_n hF dX2_draw_23 0 rfl rfl ?_
    refine jr_getI hF gf_X2_25 h0 dX2_draw_24 ?_
    refine jr_bipush (v := 8) hF dX2_draw_27 rfl ?_
    refine jr_idivc hF dX2_draw_29 (by decide) ?_
    refine jr_iload_n hF dX2_draw_30 1 rfl rfl ?_
    refine jr_irem hF dX2_draw_31 hf (fun hf => ?_)
    refine jr_goto (tgt := 36) hF dX2_draw_32 rfl ?_
    obtain rfl := Option.some.inj hf
    exact jr_ireturn hF hE dX2_draw_36
def f_X2_draw (σ : lt_S) (o : Nat) (x1 : Int32) (w : lt_W) : Option (Int32 × lt_W) := fb_X2_draw_0 σ o x1 w
set_option maxRecDepth 100000 in
theorem c_X2_draw {l : Launch} {D : va_G} {gA : Nat → ClassId} {s0 : State} {σ : lt_S} {o : Nat} (h0 : lt_c σ o = 2) {x1 : Int32} {w : lt_W} {r : Int32 × lt_W} (hf : f_X2_draw σ o x1 w = some r) : lt_C l D gA s0 yX2_draw cX2_draw 2 (some .int) (lt_rm 1) [.ref (s0.heap.size + o), .int x1] σ w σ (some (.int r.1)) r.2 := by
  refine lt_enter rfl (Nat.le_of_ble_eq_true rfl) (fun X e1 e2 e3 e4 hF hE => ?_)
  subst e1 e2 e3 e4
  exact jb_X2_draw_0 h0 hF hE _ _ hf

set_option maxRecDepth 100000 in
def fb_X2_goAny_116 (σ : lt_S) (o : Nat) (x3 : Int32) (w : lt_W) : Option (Int32 × lt_W) := if x3 = 0 then lt_bz x3 (some (x3, w)) else Option.bind (f_X5_firstCutter σ (lt_r σ o 0) w) (fun q4 => Option.bind (f_X5_passDay σ (lt_r σ o 0) q4 w) (fun q5 => lt_bz x3 (some (x3, q5))))
set_option maxHeartbeats 4000000 in
set_option maxRecDepth 100000 in
theorem jb_X2_goAny_116 {X : lt_X} {σ : lt_S} (hT : lt_Wt σ) {o : Nat} (h0 : lt_c σ o = 2) {r : Int32 × lt_W} (hF : lt_F X cX2_goAny RX2 4 (lt_rm 4)) (hE : lt_E X 0 0 σ (some .boolean) (some (.int r.1)) r.2) : ∀ (x3 : Int32) (w : lt_W), fb_X2_goAny_116 σ o x3 w = some r → lt_J X 0 0 σ w 116 [(0, .ref (lt_z X + o)), (3, .int x3)] [] := by
  intro x3 w hf
  unfold fb_X2_goAny_116 at hf
  refine jr_iload_n hF dX2_goAny_116 1 rfl rfl ?_
  refine jr_if_eq (tgt := 134) hF dX2_goAny_117 rfl hf (fun hf => ?_) (fun hf => ?_)
  · refine jr_iload_n hF dX2_goAny_134 1 rfl rfl ?_
    obtain ⟨b1, hf⟩ := lt_bzE hf
    obtain rfl := Option.some.inj hf
    exact jr_zreturn hF hE b1 dX2_goAny_135
  · refine jr_aload_n hF dX2_goAny_120 0 rfl rfl ?_
    refine jr_getRT (cr := 5) hF gf_X2_18 hT h0 rfl rfl dX2_goAny_121 (fun th2 => ?_)
    refine jr_aload_n hF dX2_goAny_124 0 rfl rfl ?_
    refine jr_getRT (cr := 5) hF gf_X2_18 hT h0 rfl rfl dX2_goAny_125 (fun th3 => ?_)
    obtain ⟨q4, hq4, hf⟩ := Option.bind_eq_some_iff.mp hf
    refine jr_cV01 hF ml_X2_139 (c_X5_firstCutter hT th3 hq4) th3 ⟨Nat.le_of_ble_eq_true rfl, Nat.le_of_ble_eq_true rfl⟩ (Nat.le_of_ble_eq_true rfl) dX2_goAny_128 ?_
    obtain ⟨q5, hq5, hf⟩ := Option.bind_eq_some_iff.mp hf
    refine jr_cV1v hF ml_X2_143 (c_X5_passDay hT th2 hq5) th2 ⟨Nat.le_of_ble_eq_true rfl, Nat.le_of_ble_eq_true rfl⟩ (Nat.le_of_ble_eq_true rfl) dX2_goAny_131 ?_
    refine jr_iload_n hF dX2_goAny_134 1 rfl rfl ?_
    obtain ⟨b6, hf⟩ := lt_bzE hf
    obtain rfl := Option.some.inj hf
    exact jr_zreturn hF hE b6 dX2_goAny_135
set_option maxRecDepth 100000 in
def fb_X2_goAny_91 (σ : lt_S) (o : Nat) (x1 : Int32) (x2 : Int32) (y0 : Int32) (w : lt_W) : Option (Int32 × lt_W) := if y0 = 0 then fb_X2_goAny_116 σ o y0 w else if x2 = 0 then fb_X2_goAny_116 σ o y0 w else lt_ck x1 (lt_len σ (lt_r σ (lt_r σ o 0) 10)) (lt_ck x1 (lt_len σ (lt_r σ (lt_r σ o 0) 10)) (lt_let (lt_si w (lt_r σ (lt_r σ o 0) 10) x1.toNatClampNeg ((lt_gi w (lt_r σ (lt_r σ o 0) 10) x1.toNatClampNeg) + 1)) (fun w3 => lt_bz y0 (some (y0, w3)))))
set_option maxHeartbeats 4000000 in
set_option maxRecDepth 100000 in
theorem jb_X2_goAny_91 {X : lt_X} {σ : lt_S} (hT : lt_Wt σ) {o : Nat} (h0 : lt_c σ o = 2) {r : Int32 × lt_W} (hF : lt_F X cX2_goAny RX2 4 (lt_rm 4)) (hE : lt_E X 0 0 σ (some .boolean) (some (.int r.1)) r.2) : ∀ (x1 : Int32) (x2 : Int32) (y0 : Int32) (w : lt_W), fb_X2_goAny_91 σ o x1 x2 y0 w = some r → lt_J X 0 0 σ w 91 [(0, .ref (lt_z X + o)), (1, .int x1), (2, .int x2)] [.int y0] := by
  intro x1 x2 y0 w hf
  unfold fb_X2_goAny_91 at hf
  refine jr_istore_n (lv' := [(0, .ref (lt_z X + o)), (1, .int x1), (2, .int x2), (3, .int y0)]) hF dX2_goAny_91 rfl (by decide) [1, 2, 3, 0] rfl ?_
  refine jr_iload_n hF dX2_goAny_92 3 rfl rfl ?_
  refine jr_if_eq (tgt := 116) hF dX2_goAny_93 rfl hf (fun hf => ?_) (fun hf => ?_)
  · refine jr_sub [0, 3] rfl ?_
    exact jb_X2_goAny_116 hT h0 hF hE _ _ hf
  · refine jr_iload_n hF dX2_goAny_96 2 rfl rfl ?_
    refine jr_if_eq (tgt := 116) hF dX2_goAny_97 rfl hf (fun hf => ?_) (fun hf => ?_)
    · refine jr_sub [0, 3] rfl ?_
      exact jb_X2_goAny_116 hT h0 hF hE _ _ hf
    · refine jr_aload_n hF dX2_goAny_100 0 rfl rfl ?_
      refine jr_getRT (cr := 5) hF gf_X2_18 hT h0 rfl rfl dX2_goAny_101 (fun th1 => ?_)
      refine jr_getRT (cr := 50) hF gf_X2_93 hT th1 rfl rfl dX2_goAny_104 (fun th2 => ?_)
      refine jr_iload_n hF dX2_goAny_107 1 rfl rfl ?_
      refine jr_dup2 hF dX2_goAny_108 rfl rfl ?_
      refine jr_iaload hF th2 dX2_goAny_109 hf (fun hf => ?_)
      refine jr_iconst (v := 1) hF dX2_goAny_110 rfl ?_
      refine jr_iadd hF dX2_goAny_111 ?_
      refine jr_iastore hF th2 dX2_goAny_112 hf (fun hf => ?_)
      refine jr_letW hf (fun w3 hf => ?_)
      refine jr_goto (tgt := 134) hF dX2_goAny_113 rfl ?_
      refine jr_iload_n hF dX2_goAny_134 3 rfl rfl ?_
      obtain ⟨b4, hf⟩ := lt_bzE hf
      obtain rfl := Option.some.inj hf
      exact jr_zreturn hF hE b4 dX2_goAny_135
set_option maxRecDepth 100000 in
def fb_X2_goAny_45 (σ : lt_S) (o : Nat) (x1 : Int32) (y0 : Int32) (w : lt_W) : Option (Int32 × lt_W) := if y0 = 0 then Option.bind (f_X5_mayPass σ (lt_r σ o 0) 1 w) (fun q2 => fb_X2_goAny_91 σ o x1 y0 q2 w) else Option.bind (f_X5_isThere σ (lt_r σ o 0) x1 w) (fun q4 => if q4 = 0 then fb_X2_goAny_91 σ o x1 y0 0 w else lt_ck x1 (lt_len σ (lt_r σ (lt_r σ o 0) 10)) (if 20 ≤ (lt_gi w (lt_r σ (lt_r σ o 0) 10) x1.toNatClampNeg) then fb_X2_goAny_91 σ o x1 y0 0 w else fb_X2_goAny_91 σ o x1 y0 1 w))
set_option maxHeartbeats 4000000 in
set_option maxRecDepth 100000 in
theorem jb_X2_goAny_45 {X : lt_X} {σ : lt_S} (hT : lt_Wt σ) {o : Nat} (h0 : lt_c σ o = 2) {r : Int32 × lt_W} (hF : lt_F X cX2_goAny RX2 4 (lt_rm 4)) (hE : lt_E X 0 0 σ (some .boolean) (some (.int r.1)) r.2) : ∀ (x1 : Int32) (y0 : Int32) (w : lt_W), fb_X2_goAny_45 σ o x1 y0 w = some r → lt_J X 0 0 σ w 45 [(0, .ref (lt_z X + o)), (1, .int x1)] [.int y0] := by
  intro x1 y0 w hf
  unfold fb_X2_goAny_45 at hf
  refine jr_istore_n (lv' := [(0, .ref (lt_z X + o)), (1, .int x1), (2, .int y0)]) hF dX2_goAny_45 rfl (by decide) [1, 2, 0] rfl ?_
  refine jr_iload_n hF dX2_goAny_46 2 rfl rfl ?_
  refine jr_if_eq (tgt := 83) hF dX2_goAny_47 rfl hf (fun hf => ?_) (fun hf => ?_)
  · refine jr_aload_n hF dX2_goAny_83 0 rfl rfl ?_
    refine jr_getRT (cr := 5) hF gf_X2_18 hT h0 rfl rfl dX2_goAny_84 (fun th1 => ?_)
    refine jr_iconst (v := 1) hF dX2_goAny_87 rfl ?_
    obtain ⟨q2, hq2, hf⟩ := Option.bind_eq_some_iff.mp hf
    refine jr_cV11 hF ml_X2_99 (c_X5_mayPass th1 hq2) th1 ⟨Nat.le_of_ble_eq_true rfl, Nat.le_of_ble_eq_true rfl⟩ (Nat.le_of_ble_eq_true rfl) dX2_goAny_88 ?_
    exact jb_X2_goAny_91 hT h0 hF hE _ _ _ _ hf
  · refine jr_aload_n hF dX2_goAny_50 0 rfl rfl ?_
    refine jr_getRT (cr := 5) hF gf_X2_18 hT h0 rfl rfl dX2_goAny_51 (fun th3 => ?_)
    refine jr_iload_n hF dX2_goAny_54 1 rfl rfl ?_
    obtain ⟨q4, hq4, hf⟩ := Option.bind_eq_some_iff.mp hf
    refine jr_cV11 hF ml_X2_77 (c_X5_isThere th3 hq4) th3 ⟨Nat.le_of_ble_eq_true rfl, Nat.le_of_ble_eq_true rfl⟩ (Nat.le_of_ble_eq_true rfl) dX2_goAny_55 ?_
    refine jr_if_eq (tgt := 79) hF dX2_goAny_58 rfl hf (fun hf => ?_) (fun hf => ?_)
    · refine jr_iconst (v := 0) hF dX2_goAny_79 rfl ?_
      refine jr_goto (tgt := 91) hF dX2_goAny_80 rfl ?_
      exact jb_X2_goAny_91 hT h0 hF hE _ _ _ _ hf
    · refine jr_aload_n hF dX2_goAny_61 0 rfl rfl ?_
      refine jr_getRT (cr := 5) hF gf_X2_18 hT h0 rfl rfl dX2_goAny_62 (fun th5 => ?_)
      refine jr_getRT (cr := 50) hF gf_X2_93 hT th5 rfl rfl dX2_goAny_65 (fun th6 => ?_)
      refine jr_iload_n hF dX2_goAny_68 1 rfl rfl ?_
      refine jr_iaload hF th6 dX2_goAny_69 hf (fun hf => ?_)
      refine jr_bipush (v := 20) hF dX2_goAny_70 rfl ?_
      refine jr_icmp_ge (tgt := 79) hF dX2_goAny_72 rfl hf (fun hf => ?_) (fun hf => ?_)
      · refine jr_iconst (v := 0) hF dX2_goAny_79 rfl ?_
        refine jr_goto (tgt := 91) hF dX2_goAny_80 rfl ?_
        exact jb_X2_goAny_91 hT h0 hF hE _ _ _ _ hf
      · refine jr_iconst (v := 1) hF dX2_goAny_75 rfl ?_
        refine jr_goto (tgt := 91) hF dX2_goAny_76 rfl ?_
        exact jb_X2_goAny_91 hT h0 hF hE _ _ _ _ hf
set_option maxRecDepth 100000 in
def fb_X2_goAny_0 (σ : lt_S) (o : Nat) (w : lt_W) : Option (Int32 × lt_W) := if 0 < (lt_gi w (lt_r σ o 0) 0) then Option.bind (f_X2_draw σ o (lt_gi w (lt_r σ o 0) 0) w) (fun q3 => Option.bind (f_X2_draw σ o 16 q3.2) (fun q4 => if (lt_gi q4.2 (lt_r σ o 0) 1) ≤ q4.1 then fb_X2_goAny_45 σ o q3.1 0 q4.2 else fb_X2_goAny_45 σ o q3.1 1 q4.2)) else some (0, w)
set_option maxHeartbeats 4000000 in
set_option maxRecDepth 100000 in
theorem jb_X2_goAny_0 {X : lt_X} {σ : lt_S} (hT : lt_Wt σ) {o : Nat} (h0 : lt_c σ o = 2) {r : Int32 × lt_W} (hF : lt_F X cX2_goAny RX2 4 (lt_rm 4)) (hE : lt_E X 0 0 σ (some .boolean) (some (.int r.1)) r.2) : ∀ (w : lt_W), fb_X2_goAny_0 σ o w = some r → lt_J X 0 0 σ w 0 [(0, .ref (lt_z X + o))] [] := by
  intro w hf
  unfold fb_X2_goAny_0 at hf
  refine jr_aload_n hF dX2_goAny_0 0 rfl rfl ?_
  refine jr_getRT (cr := 5) hF gf_X2_18 hT h0 rfl rfl dX2_goAny_1 (fun th1 => ?_)
  refine jr_getI hF gf_X2_130 th1 dX2_goAny_4 ?_
  refine jr_if_gt (tgt := 12) hF dX2_goAny_7 rfl hf (fun hf => ?_) (fun hf => ?_)
  · refine jr_aload_n hF dX2_goAny_12 0 rfl rfl ?_
    refine jr_aload_n hF dX2_goAny_13 0 rfl rfl ?_
    refine jr_getRT (cr := 5) hF gf_X2_18 hT h0 rfl rfl dX2_goAny_14 (fun th2 => ?_)
    refine jr_getI hF gf_X2_130 th2 dX2_goAny_17 ?_
    obtain ⟨q3, hq3, hf⟩ := Option.bind_eq_some_iff.mp hf
    refine jr_cV11 hF ml_X2_133 (c_X2_draw h0 hq3) h0 ⟨Nat.le_of_ble_eq_true rfl, Nat.le_of_ble_eq_true rfl⟩ (Nat.le_of_ble_eq_true rfl) dX2_goAny_20 ?_
    refine jr_istore_n (lv' := [(0, .ref (lt_z X + o)), (1, .int q3.1)]) hF dX2_goAny_23 rfl (by decide) [1, 0] rfl ?_
    refine jr_aload_n hF dX2_goAny_24 0 rfl rfl ?_
    refine jr_bipush (v := 16) hF dX2_goAny_25 rfl ?_
    obtain ⟨q4, hq4, hf⟩ := Option.bind_eq_some_iff.mp hf
    refine jr_cV11 hF ml_X2_133 (c_X2_draw h0 hq4) h0 ⟨Nat.le_of_ble_eq_true rfl, Nat.le_of_ble_eq_true rfl⟩ (Nat.le_of_ble_eq_true rfl) dX2_goAny_27 ?_
    refine jr_aload_n hF dX2_goAny_30 0 rfl rfl ?_
    refine jr_getRT (cr := 5) hF gf_X2_18 hT h0 rfl rfl dX2_goAny_31 (fun th5 => ?_)
    refine jr_getI hF gf_X2_136 th5 dX2_goAny_34 ?_
    refine jr_icmp_ge (tgt := 44) hF dX2_goAny_37 rfl hf (fun hf => ?_) (fun hf => ?_)
    · refine jr_iconst (v := 0) hF dX2_goAny_44 rfl ?_
      exact jb_X2_goAny_45 hT h0 hF hE _ _ _ hf
    · refine jr_iconst (v := 1) hF dX2_goAny_40 rfl ?_
      refine jr_goto (tgt := 45) hF dX2_goAny_41 rfl ?_
      exact jb_X2_goAny_45 hT h0 hF hE _ _ _ hf
  · refine jr_iconst (v := 0) hF dX2_goAny_10 rfl ?_
    obtain rfl := Option.some.inj hf
    exact jr_zreturn hF hE (Or.inl rfl) dX2_goAny_11
def f_X2_goAny (σ : lt_S) (o : Nat) (w : lt_W) : Option (Int32 × lt_W) := fb_X2_goAny_0 σ o w
set_option maxRecDepth 100000 in
theorem c_X2_goAny {l : Launch} {D : va_G} {gA : Nat → ClassId} {s0 : State} {σ : lt_S} (hT : lt_Wt σ) {o : Nat} (h0 : lt_c σ o = 2) {w : lt_W} {r : Int32 × lt_W} (hf : f_X2_goAny σ o w = some r) : lt_C l D gA s0 yX2_goAny cX2_goAny 4 (some .boolean) (lt_rm 4) [.ref (s0.heap.size + o)] σ w σ (some (.int r.1)) r.2 := by
  refine lt_enter rfl (Nat.le_of_ble_eq_true rfl) (fun X e1 e2 e3 e4 hF hE => ?_)
  subst e1 e2 e3 e4
  exact jb_X2_goAny_0 hT h0 hF hE _ hf

set_option maxRecDepth 100000 in
def fb_X2_goStep_208 (σ : lt_S) (o : Nat) (x2 : Int32) (w : lt_W) : Option lt_W := if x2 = 0 then lt_let (lt_si w o 6 ((lt_gi w o 6) + 1)) (fun w1 => some w1) else some w
set_option maxHeartbeats 4000000 in
set_option maxRecDepth 100000 in
theorem jb_X2_goStep_208 {X : lt_X} {σ : lt_S} (hT : lt_Wt σ) {o : Nat} (h0 : lt_c σ o = 2) {r : lt_W} (hF : lt_F X cX2_goStep RX2 3 (lt_rm 5)) (hE : lt_E X 0 0 σ none none r) : ∀ (x2 : Int32) (w : lt_W), fb_X2_goStep_208 σ o x2 w = some r → lt_J X 0 0 σ w 208 [(0, .ref (lt_z X + o)), (2, .int x2)] [] := by
  intro x2 w hf
  unfold fb_X2_goStep_208 at hf
  refine jr_iload_n hF dX2_goStep_208 1 rfl rfl ?_
  refine jr_if_ne (tgt := 222) hF dX2_goStep_209 rfl hf (fun hf => ?_) (fun hf => ?_)
  · obtain rfl := Option.some.inj hf
    exact jr_return hF hE dX2_goStep_222
  · refine jr_aload_n hF dX2_goStep_212 0 rfl rfl ?_
    refine jr_dup hF dX2_goStep_213 rfl ?_
    refine jr_getI hF gf_X2_36 h0 dX2_goStep_214 ?_
    refine jr_iconst (v := 1) hF dX2_goStep_217 rfl ?_
    refine jr_iadd hF dX2_goStep_218 ?_
    refine jr_putI hF pf_X2_36 h0 dX2_goStep_219 ?_
    refine jr_letW hf (fun w1 hf => ?_)
    obtain rfl := Option.some.inj hf
    exact jr_return hF hE dX2_goStep_222
set_option maxRecDepth 100000 in
def fb_X2_goStep_175 (σ : lt_S) (o : Nat) (x1 : Int32) (y0 : Int32) (w : lt_W) : Option lt_W := lt_ck x1 (lt_len σ (lt_r σ (lt_r σ o 1) 7)) (lt_let (lt_si w (lt_r σ o 0) 4 (lt_gi w (lt_r σ (lt_r σ o 1) 7) x1.toNatClampNeg)) (fun w4 => fb_X2_goStep_208 σ o y0 w4))
set_option maxHeartbeats 4000000 in
set_option maxRecDepth 100000 in
theorem jb_X2_goStep_175 {X : lt_X} {σ : lt_S} (hT : lt_Wt σ) {o : Nat} (h0 : lt_c σ o = 2) {r : lt_W} (hF : lt_F X cX2_goStep RX2 3 (lt_rm 5)) (hE : lt_E X 0 0 σ none none r) : ∀ (x1 : Int32) (y0 : Int32) (w : lt_W), fb_X2_goStep_175 σ o x1 y0 w = some r → lt_J X 0 0 σ w 175 [(0, .ref (lt_z X + o)), (1, .int x1)] [.int y0] := by
  intro x1 y0 w hf
  unfold fb_X2_goStep_175 at hf
  refine jr_istore_n (lv' := [(0, .ref (lt_z X + o)), (1, .int x1), (2, .int y0)]) hF dX2_goStep_175 rfl (by decide) [1, 2, 0] rfl ?_
  refine jr_aload_n hF dX2_goStep_176 0 rfl rfl ?_
  refine jr_getRT (cr := 5) hF gf_X2_18 hT h0 rfl rfl dX2_goStep_177 (fun th1 => ?_)
  refine jr_aload_n hF dX2_goStep_180 0 rfl rfl ?_
  refine jr_getRT (cr := 9) hF gf_X2_21 hT h0 rfl rfl dX2_goStep_181 (fun th2 => ?_)
  refine jr_getRT (cr := 50) hF gf_X2_64 hT th2 rfl rfl dX2_goStep_184 (fun th3 => ?_)
  refine jr_iload_n hF dX2_goStep_187 1 rfl rfl ?_
  refine jr_iaload hF th3 dX2_goStep_188 hf (fun hf => ?_)
  refine jr_putI hF pf_X2_117 th1 dX2_goStep_189 ?_
  refine jr_letW hf (fun w4 hf => ?_)
  refine jr_goto (tgt := 208) hF dX2_goStep_192 rfl ?_
  refine jr_sub [0, 2] rfl ?_
  exact jb_X2_goStep_208 hT h0 hF hE _ _ hf
set_option maxRecDepth 100000 in
def fb_X2_goStep_0 (σ : lt_S) (o : Nat) (x1 : Int32) (w : lt_W) : Option lt_W := lt_ck x1 (lt_len σ (lt_r σ (lt_r σ o 1) 2)) (if (lt_gi w (lt_r σ (lt_r σ o 1) 2) x1.toNatClampNeg) = 12 then lt_ck x1 (lt_len σ (lt_r σ (lt_r σ o 1) 4)) (lt_ck x1 (lt_len σ (lt_r σ (lt_r σ o 1) 5)) (Option.bind (f_X2_goButter σ o (lt_gi w (lt_r σ (lt_r σ o 1) 4) x1.toNatClampNeg) (lt_gi w (lt_r σ (lt_r σ o 1) 5) x1.toNatClampNeg) w) (fun q7 => fb_X2_goStep_208 σ o q7.1 q7.2))) else if (lt_gi w (lt_r σ (lt_r σ o 1) 2) x1.toNatClampNeg) = 13 then lt_ck x1 (lt_len σ (lt_r σ (lt_r σ o 1) 7)) (Option.bind (f_X5_mayPass σ (lt_r σ o 0) (lt_gi w (lt_r σ (lt_r σ o 1) 7) x1.toNatClampNeg) w) (fun q12 => if q12 = 0 then fb_X2_goStep_208 σ o q12 w else lt_ck x1 (lt_len σ (lt_r σ (lt_r σ o 1) 7)) (Option.bind (f_X5_passDays σ (lt_r σ o 0) (lt_gi w (lt_r σ (lt_r σ o 1) 7) x1.toNatClampNeg) w) (fun q16 => fb_X2_goStep_208 σ o q12 q16)))) else if (lt_gi w (lt_r σ (lt_r σ o 1) 2) x1.toNatClampNeg) = 14 then lt_ck x1 (lt_len σ (lt_r σ (lt_r σ o 1) 4)) (Option.bind (f_X5_cutBy σ (lt_r σ o 0) (lt_gi w (lt_r σ (lt_r σ o 1) 4) x1.toNatClampNeg) w) (fun q21 => fb_X2_goStep_208 σ o q21.1 q21.2)) else if (lt_gi w (lt_r σ (lt_r σ o 1) 2) x1.toNatClampNeg) = 15 then lt_ck x1 (lt_len σ (lt_r σ (lt_r σ o 1) 4)) (Option.bind (f_X2_goSoup σ o (lt_gi w (lt_r σ (lt_r σ o 1) 4) x1.toNatClampNeg) w) (fun q25 => fb_X2_goStep_208 σ o q25.1 q25.2)) else if (lt_gi w (lt_r σ (lt_r σ o 1) 2) x1.toNatClampNeg) = 16 then lt_ck x1 (lt_len σ (lt_r σ (lt_r σ o 1) 7)) (if (lt_gi w (lt_r σ o 0) 4) = (lt_gi w (lt_r σ (lt_r σ o 1) 7) x1.toNatClampNeg) then fb_X2_goStep_175 σ o x1 0 w else fb_X2_goStep_175 σ o x1 1 w) else if (lt_gi w (lt_r σ (lt_r σ o 1) 2) x1.toNatClampNeg) = 17 then Option.bind (f_X2_goAny σ o w) (fun q31 => fb_X2_goStep_208 σ o q31.1 q31.2) else lt_let (lt_si w o 4 1) (fun w33 => fb_X2_goStep_208 σ o 1 w33))
set_option maxHeartbeats 4000000 in
set_option maxRecDepth 100000 in
theorem jb_X2_goStep_0 {X : lt_X} {σ : lt_S} (hT : lt_Wt σ) {o : Nat} (h0 : lt_c σ o = 2) {r : lt_W} (hF : lt_F X cX2_goStep RX2 3 (lt_rm 5)) (hE : lt_E X 0 0 σ none none r) : ∀ (x1 : Int32) (w : lt_W), fb_X2_goStep_0 σ o x1 w = some r → lt_J X 0 0 σ w 0 [(0, .ref (lt_z X + o)), (1, .int x1)] [] := by
  intro x1 w hf
  unfold fb_X2_goStep_0 at hf
  refine jr_iconst (v := 1) hF dX2_goStep_0 rfl ?_
  refine jr_istore_n (lv' := [(0, .ref (lt_z X + o)), (1, .int x1), (2, .int 1)]) hF dX2_goStep_1 rfl (by decide) [1, 2, 0] rfl ?_
  refine jr_aload_n hF dX2_goStep_2 0 rfl rfl ?_
  refine jr_getRT (cr := 9) hF gf_X2_21 hT h0 rfl rfl dX2_goStep_3 (fun th1 => ?_)
  refine jr_getRT (cr := 50) hF gf_X2_49 hT th1 rfl rfl dX2_goStep_6 (fun th2 => ?_)
  refine jr_iload_n hF dX2_goStep_9 1 rfl rfl ?_
  refine jr_iaload hF th2 dX2_goStep_10 hf (fun hf => ?_)
  by_cases c8 : (lt_gi w (lt_r σ (lt_r σ o 1) 2) x1.toNatClampNeg) = 12
  · rw [if_pos c8] at hf
    refine jr_tableIn (off := 97) (tgt := 108) hF dX2_goStep_11 (by rw [c8]; decide) (by rw [c8]; decide) (by rw [c8]; rfl) rfl ?_
    refine jr_aload_n hF dX2_goStep_108 0 rfl rfl ?_
    refine jr_aload_n hF dX2_goStep_109 0 rfl rfl ?_
    refine jr_getRT (cr := 9) hF gf_X2_21 hT h0 rfl rfl dX2_goStep_110 (fun th3 => ?_)
    refine jr_getRT (cr := 50) hF gf_X2_71 hT th3 rfl rfl dX2_goStep_113 (fun th4 => ?_)
    refine jr_iload_n hF dX2_goStep_116 1 rfl rfl ?_
    refine jr_iaload hF th4 dX2_goStep_117 hf (fun hf => ?_)
    refine jr_aload_n hF dX2_goStep_118 0 rfl rfl ?_
    refine jr_getRT (cr := 9) hF gf_X2_21 hT h0 rfl rfl dX2_goStep_119 (fun th5 => ?_)
    refine jr_getRT (cr := 50) hF gf_X2_108 hT th5 rfl rfl dX2_goStep_122 (fun th6 => ?_)
    refine jr_iload_n hF dX2_goStep_125 1 rfl rfl ?_
    refine jr_iaload hF th6 dX2_goStep_126 hf (fun hf => ?_)
    obtain ⟨q7, hq7, hf⟩ := Option.bind_eq_some_iff.mp hf
    refine jr_cV21 hF ml_X2_111 (c_X2_goButter hT h0 hq7) h0 ⟨Nat.le_of_ble_eq_true rfl, Nat.le_of_ble_eq_true rfl⟩ (Nat.le_of_ble_eq_true rfl) dX2_goStep_127 ?_
    refine jr_istore_n (lv' := [(0, .ref (lt_z X + o)), (2, .int q7.1)]) hF dX2_goStep_130 rfl (by decide) [1, 0] rfl ?_
    refine jr_goto (tgt := 208) hF dX2_goStep_131 rfl ?_
    exact jb_X2_goStep_208 hT h0 hF hE _ _ hf
  rw [if_neg c8] at hf
  by_cases c17 : (lt_gi w (lt_r σ (lt_r σ o 1) 2) x1.toNatClampNeg) = 13
  · rw [if_pos c17] at hf
    refine jr_tableIn (off := 37) (tgt := 48) hF dX2_goStep_11 (by rw [c17]; decide) (by rw [c17]; decide) (by rw [c17]; rfl) rfl ?_
    refine jr_aload_n hF dX2_goStep_48 0 rfl rfl ?_
    refine jr_getRT (cr := 5) hF gf_X2_18 hT h0 rfl rfl dX2_goStep_49 (fun th9 => ?_)
    refine jr_aload_n hF dX2_goStep_52 0 rfl rfl ?_
    refine jr_getRT (cr := 9) hF gf_X2_21 hT h0 rfl rfl dX2_goStep_53 (fun th10 => ?_)
    refine jr_getRT (cr := 50) hF gf_X2_64 hT th10 rfl rfl dX2_goStep_56 (fun th11 => ?_)
    refine jr_iload_n hF dX2_goStep_59 1 rfl rfl ?_
    refine jr_iaload hF th11 dX2_goStep_60 hf (fun hf => ?_)
    obtain ⟨q12, hq12, hf⟩ := Option.bind_eq_some_iff.mp hf
    refine jr_cV11 hF ml_X2_99 (c_X5_mayPass th9 hq12) th9 ⟨Nat.le_of_ble_eq_true rfl, Nat.le_of_ble_eq_true rfl⟩ (Nat.le_of_ble_eq_true rfl) dX2_goStep_61 ?_
    refine jr_istore_n (lv' := [(0, .ref (lt_z X + o)), (1, .int x1), (2, .int q12)]) hF dX2_goStep_64 rfl (by decide) [1, 2, 0] rfl ?_
    refine jr_iload_n hF dX2_goStep_65 2 rfl rfl ?_
    refine jr_if_eq (tgt := 208) hF dX2_goStep_66 rfl hf (fun hf => ?_) (fun hf => ?_)
    · refine jr_sub [0, 2] rfl ?_
      exact jb_X2_goStep_208 hT h0 hF hE _ _ hf
    · refine jr_aload_n hF dX2_goStep_69 0 rfl rfl ?_
      refine jr_getRT (cr := 5) hF gf_X2_18 hT h0 rfl rfl dX2_goStep_70 (fun th13 => ?_)
      refine jr_aload_n hF dX2_goStep_73 0 rfl rfl ?_
      refine jr_getRT (cr := 9) hF gf_X2_21 hT h0 rfl rfl dX2_goStep_74 (fun th14 => ?_)
      refine jr_getRT (cr := 50) hF gf_X2_64 hT th14 rfl rfl dX2_goStep_77 (fun th15 => ?_)
      refine jr_iload_n hF dX2_goStep_80 1 rfl rfl ?_
      refine jr_iaload hF th15 dX2_goStep_81 hf (fun hf => ?_)
      obtain ⟨q16, hq16, hf⟩ := Option.bind_eq_some_iff.mp hf
      refine jr_cV1v hF ml_X2_102 (c_X5_passDays hT th13 hq16) th13 ⟨Nat.le_of_ble_eq_true rfl, Nat.le_of_ble_eq_true rfl⟩ (Nat.le_of_ble_eq_true rfl) dX2_goStep_82 ?_
      refine jr_goto (tgt := 208) hF dX2_goStep_85 rfl ?_
      refine jr_sub [0, 2] rfl ?_
      exact jb_X2_goStep_208 hT h0 hF hE _ _ hf
  rw [if_neg c17] at hf
  by_cases c22 : (lt_gi w (lt_r σ (lt_r σ o 1) 2) x1.toNatClampNeg) = 14
  · rw [if_pos c22] at hf
    refine jr_tableIn (off := 77) (tgt := 88) hF dX2_goStep_11 (by rw [c22]; decide) (by rw [c22]; decide) (by rw [c22]; rfl) rfl ?_
    refine jr_aload_n hF dX2_goStep_88 0 rfl rfl ?_
    refine jr_getRT (cr := 5) hF gf_X2_18 hT h0 rfl rfl dX2_goStep_89 (fun th18 => ?_)
    refine jr_aload_n hF dX2_goStep_92 0 rfl rfl ?_
    refine jr_getRT (cr := 9) hF gf_X2_21 hT h0 rfl rfl dX2_goStep_93 (fun th19 => ?_)
    refine jr_getRT (cr := 50) hF gf_X2_71 hT th19 rfl rfl dX2_goStep_96 (fun th20 => ?_)
    refine jr_iload_n hF dX2_goStep_99 1 rfl rfl ?_
    refine jr_iaload hF th20 dX2_goStep_100 hf (fun hf => ?_)
    obtain ⟨q21, hq21, hf⟩ := Option.bind_eq_some_iff.mp hf
    refine jr_cV11 hF ml_X2_105 (c_X5_cutBy hT th18 hq21) th18 ⟨Nat.le_of_ble_eq_true rfl, Nat.le_of_ble_eq_true rfl⟩ (Nat.le_of_ble_eq_true rfl) dX2_goStep_101 ?_
    refine jr_istore_n (lv' := [(0, .ref (lt_z X + o)), (2, .int q21.1)]) hF dX2_goStep_104 rfl (by decide) [1, 0] rfl ?_
    refine jr_goto (tgt := 208) hF dX2_goStep_105 rfl ?_
    exact jb_X2_goStep_208 hT h0 hF hE _ _ hf
  rw [if_neg c22] at hf
  by_cases c26 : (lt_gi w (lt_r σ (lt_r σ o 1) 2) x1.toNatClampNeg) = 15
  · rw [if_pos c26] at hf
    refine jr_tableIn (off := 123) (tgt := 134) hF dX2_goStep_11 (by rw [c26]; decide) (by rw [c26]; decide) (by rw [c26]; rfl) rfl ?_
    refine jr_aload_n hF dX2_goStep_134 0 rfl rfl ?_
    refine jr_aload_n hF dX2_goStep_135 0 rfl rfl ?_
    refine jr_getRT (cr := 9) hF gf_X2_21 hT h0 rfl rfl dX2_goStep_136 (fun th23 => ?_)
    refine jr_getRT (cr := 50) hF gf_X2_71 hT th23 rfl rfl dX2_goStep_139 (fun th24 => ?_)
    refine jr_iload_n hF dX2_goStep_142 1 rfl rfl ?_
    refine jr_iaload hF th24 dX2_goStep_143 hf (fun hf => ?_)
    obtain ⟨q25, hq25, hf⟩ := Option.bind_eq_some_iff.mp hf
    refine jr_cV11 hF ml_X2_114 (c_X2_goSoup hT h0 hq25) h0 ⟨Nat.le_of_ble_eq_true rfl, Nat.le_of_ble_eq_true rfl⟩ (Nat.le_of_ble_eq_true rfl) dX2_goStep_144 ?_
    refine jr_istore_n (lv' := [(0, .ref (lt_z X + o)), (2, .int q25.1)]) hF dX2_goStep_147 rfl (by decide) [1, 0] rfl ?_
    refine jr_goto (tgt := 208) hF dX2_goStep_148 rfl ?_
    exact jb_X2_goStep_208 hT h0 hF hE _ _ hf
  rw [if_neg c26] at hf
  by_cases c30 : (lt_gi w (lt_r σ (lt_r σ o 1) 2) x1.toNatClampNeg) = 16
  · rw [if_pos c30] at hf
    refine jr_tableIn (off := 140) (tgt := 151) hF dX2_goStep_11 (by rw [c30]; decide) (by rw [c30]; decide) (by rw [c30]; rfl) rfl ?_
    refine jr_aload_n hF dX2_goStep_151 0 rfl rfl ?_
    refine jr_getRT (cr := 5) hF gf_X2_18 hT h0 rfl rfl dX2_goStep_152 (fun th27 => ?_)
    refine jr_getI hF gf_X2_117 th27 dX2_goStep_155 ?_
    refine jr_aload_n hF dX2_goStep_158 0 rfl rfl ?_
    refine jr_getRT (cr := 9) hF gf_X2_21 hT h0 rfl rfl dX2_goStep_159 (fun th28 => ?_)
    refine jr_getRT (cr := 50) hF gf_X2_64 hT th28 rfl rfl dX2_goStep_162 (fun th29 => ?_)
    refine jr_iload_n hF dX2_goStep_165 1 rfl rfl ?_
    refine jr_iaload hF th29 dX2_goStep_166 hf (fun hf => ?_)
    refine jr_icmp_eq (tgt := 174) hF dX2_goStep_167 rfl hf (fun hf => ?_) (fun hf => ?_)
    · refine jr_iconst (v := 0) hF dX2_goStep_174 rfl ?_
      refine jr_sub [0, 1] rfl ?_
      exact jb_X2_goStep_175 hT h0 hF hE _ _ _ hf
    · refine jr_iconst (v := 1) hF dX2_goStep_170 rfl ?_
      refine jr_goto (tgt := 175) hF dX2_goStep_171 rfl ?_
      refine jr_sub [0, 1] rfl ?_
      exact jb_X2_goStep_175 hT h0 hF hE _ _ _ hf
  rw [if_neg c30] at hf
  by_cases c32 : (lt_gi w (lt_r σ (lt_r σ o 1) 2) x1.toNatClampNeg) = 17
  · rw [if_pos c32] at hf
    refine jr_tableIn (off := 184) (tgt := 195) hF dX2_goStep_11 (by rw [c32]; decide) (by rw [c32]; decide) (by rw [c32]; rfl) rfl ?_
    refine jr_aload_n hF dX2_goStep_195 0 rfl rfl ?_
    obtain ⟨q31, hq31, hf⟩ := Option.bind_eq_some_iff.mp hf
    refine jr_cV01 hF ml_X2_120 (c_X2_goAny hT h0 hq31) h0 ⟨Nat.le_of_ble_eq_true rfl, Nat.le_of_ble_eq_true rfl⟩ (Nat.le_of_ble_eq_true rfl) dX2_goStep_196 ?_
    refine jr_istore_n (lv' := [(0, .ref (lt_z X + o)), (2, .int q31.1)]) hF dX2_goStep_199 rfl (by decide) [1, 0] rfl ?_
    refine jr_goto (tgt := 208) hF dX2_goStep_200 rfl ?_
    exact jb_X2_goStep_208 hT h0 hF hE _ _ hf
  rw [if_neg c32] at hf
  refine jr_tableOut (tgt := 203) hF dX2_goStep_11 (lt_swd fun kk h1 h2 => by rcases (show kk = 12 ∨ kk = 13 ∨ kk = 14 ∨ kk = 15 ∨ kk = 16 ∨ kk = 17 by omega) with rfl | rfl | rfl | rfl | rfl | rfl <;> first | exact c8 | exact c17 | exact c22 | exact c26 | exact c30 | exact c32) rfl ?_
  refine jr_aload_n hF dX2_goStep_203 0 rfl rfl ?_
  refine jr_iconst (v := 1) hF dX2_goStep_204 rfl ?_
  refine jr_putZ hF pf_X2_29 h0 (Or.inr rfl) dX2_goStep_205 ?_
  refine jr_letW hf (fun w33 hf => ?_)
  refine jr_sub [0, 2] rfl ?_
  exact jb_X2_goStep_208 hT h0 hF hE _ _ hf
def f_X2_goStep (σ : lt_S) (o : Nat) (x1 : Int32) (w : lt_W) : Option lt_W := fb_X2_goStep_0 σ o x1 w
set_option maxRecDepth 100000 in
theorem c_X2_goStep {l : Launch} {D : va_G} {gA : Nat → ClassId} {s0 : State} {σ : lt_S} (hT : lt_Wt σ) {o : Nat} (h0 : lt_c σ o = 2) {x1 : Int32} {w : lt_W} {r : lt_W} (hf : f_X2_goStep σ o x1 w = some r) : lt_C l D gA s0 yX2_goStep cX2_goStep 3 none (lt_rm 5) [.ref (s0.heap.size + o), .int x1] σ w σ none r := by
  refine lt_enter rfl (Nat.le_of_ble_eq_true rfl) (fun X e1 e2 e3 e4 hF hE => ?_)
  subst e1 e2 e3 e4
  exact jb_X2_goStep_0 hT h0 hF hE _ _ hf

set_option maxRecDepth 100000 in
def fb_X2_compare_0 (σ : lt_S) (o : Nat) (w : lt_W) (x1 : Int32) (x2 : Int32) : Option Int32 := lt_ck x2 (lt_len σ (lt_r σ (lt_r σ o 1) 7)) (lt_let (lt_gi w (lt_r σ (lt_r σ o 1) 7) x2.toNatClampNeg) (fun z3 => lt_ck x2 (lt_len σ (lt_r σ (lt_r σ o 1) 6)) (if (lt_gi w (lt_r σ (lt_r σ o 1) 6) x2.toNatClampNeg) = 60 then if z3 ≤ x1 then some 0 else some 1 else if (lt_gi w (lt_r σ (lt_r σ o 1) 6) x2.toNatClampNeg) = 62 then if x1 ≤ z3 then some 0 else some 1 else if x1 = z3 then some 1 else some 0)))
set_option maxHeartbeats 4000000 in
set_option maxRecDepth 100000 in
theorem jb_X2_compare_0 {X : lt_X} {σ : lt_S} (hT : lt_Wt σ) {o : Nat} (h0 : lt_c σ o = 2) {r : Int32} {w : lt_W} (hF : lt_F X cX2_compare RX2 4 (lt_rm 1)) (hE : lt_E X 0 0 σ (some .boolean) (some (.int r)) w) : ∀ (x1 : Int32) (x2 : Int32), fb_X2_compare_0 σ o w x1 x2 = some r → lt_J X 0 0 σ w 0 [(0, .ref (lt_z X + o)), (1, .int x1), (2, .int x2)] [] := by
  intro x1 x2 hf
  unfold fb_X2_compare_0 at hf
  refine jr_aload_n hF dX2_compare_0 0 rfl rfl ?_
  refine jr_getRT (cr := 9) hF gf_X2_21 hT h0 rfl rfl dX2_compare_1 (fun th1 => ?_)
  refine jr_getRT (cr := 50) hF gf_X2_64 hT th1 rfl rfl dX2_compare_4 (fun th2 => ?_)
  refine jr_iload_n hF dX2_compare_7 2 rfl rfl ?_
  refine jr_iaload hF th2 dX2_compare_8 hf (fun hf => ?_)
  refine jr_letI hf (fun z3 hf => ?_)
  refine jr_istore_n (lv' := [(0, .ref (lt_z X + o)), (1, .int x1), (2, .int x2), (3, .int z3)]) hF dX2_compare_9 rfl (by decide) [1, 2, 3, 0] rfl ?_
  refine jr_aload_n hF dX2_compare_10 0 rfl rfl ?_
  refine jr_getRT (cr := 9) hF gf_X2_21 hT h0 rfl rfl dX2_compare_11 (fun th4 => ?_)
  refine jr_getRT (cr := 50) hF gf_X2_96 hT th4 rfl rfl dX2_compare_14 (fun th5 => ?_)
  refine jr_iload_n hF dX2_compare_17 2 rfl rfl ?_
  refine jr_iaload hF th5 dX2_compare_18 hf (fun hf => ?_)
  by_cases c6 : (lt_gi w (lt_r σ (lt_r σ o 1) 6) x2.toNatClampNeg) = 60
  · rw [if_pos c6] at hf
    refine jr_lookup (off := 25) (tgt := 44) hF dX2_compare_19 rfl (by rw [c6]; rfl) rfl ?_
    refine jr_iload_n hF dX2_compare_44 1 rfl rfl ?_
    refine jr_iload_n hF dX2_compare_45 3 rfl rfl ?_
    refine jr_icmp_ge (tgt := 53) hF dX2_compare_46 rfl hf (fun hf => ?_) (fun hf => ?_)
    · refine jr_iconst (v := 0) hF dX2_compare_53 rfl ?_
      obtain rfl := Option.some.inj hf
      exact jr_zreturn hF hE (Or.inl rfl) dX2_compare_54
    · refine jr_iconst (v := 1) hF dX2_compare_49 rfl ?_
      refine jr_goto (tgt := 54) hF dX2_compare_50 rfl ?_
      obtain rfl := Option.some.inj hf
      exact jr_zreturn hF hE (Or.inr rfl) dX2_compare_54
  rw [if_neg c6] at hf
  by_cases c7 : (lt_gi w (lt_r σ (lt_r σ o 1) 6) x2.toNatClampNeg) = 62
  · rw [if_pos c7] at hf
    refine jr_lookup (off := 36) (tgt := 55) hF dX2_compare_19 rfl (by rw [c7]; rfl) rfl ?_
    refine jr_iload_n hF dX2_compare_55 1 rfl rfl ?_
    refine jr_iload_n hF dX2_compare_56 3 rfl rfl ?_
    refine jr_icmp_le (tgt := 64) hF dX2_compare_57 rfl hf (fun hf => ?_) (fun hf => ?_)
    · refine jr_iconst (v := 0) hF dX2_compare_64 rfl ?_
      obtain rfl := Option.some.inj hf
      exact jr_zreturn hF hE (Or.inl rfl) dX2_compare_65
    · refine jr_iconst (v := 1) hF dX2_compare_60 rfl ?_
      refine jr_goto (tgt := 65) hF dX2_compare_61 rfl ?_
      obtain rfl := Option.some.inj hf
      exact jr_zreturn hF hE (Or.inr rfl) dX2_compare_65
  rw [if_neg c7] at hf
  refine jr_lookup (off := 47) (tgt := 66) hF dX2_compare_19 rfl (lt_lkd (lt_i32k c6 rfl) (lt_i32k c7 rfl)) rfl ?_
  refine jr_iload_n hF dX2_compare_66 1 rfl rfl ?_
  refine jr_iload_n hF dX2_compare_67 3 rfl rfl ?_
  refine jr_icmp_ne (tgt := 75) hF dX2_compare_68 rfl hf (fun hf => ?_) (fun hf => ?_)
  · refine jr_iconst (v := 0) hF dX2_compare_75 rfl ?_
    obtain rfl := Option.some.inj hf
    exact jr_zreturn hF hE (Or.inl rfl) dX2_compare_76
  · refine jr_iconst (v := 1) hF dX2_compare_71 rfl ?_
    refine jr_goto (tgt := 76) hF dX2_compare_72 rfl ?_
    obtain rfl := Option.some.inj hf
    exact jr_zreturn hF hE (Or.inr rfl) dX2_compare_76
def f_X2_compare (σ : lt_S) (o : Nat) (x1 : Int32) (x2 : Int32) (w : lt_W) : Option Int32 := fb_X2_compare_0 σ o w x1 x2
set_option maxRecDepth 100000 in
theorem c_X2_compare {l : Launch} {D : va_G} {gA : Nat → ClassId} {s0 : State} {σ : lt_S} (hT : lt_Wt σ) {o : Nat} (h0 : lt_c σ o = 2) {x1 : Int32} {x2 : Int32} {w : lt_W} {r : Int32} (hf : f_X2_compare σ o x1 x2 w = some r) : lt_C l D gA s0 yX2_compare cX2_compare 4 (some .boolean) (lt_rm 1) [.ref (s0.heap.size + o), .int x1, .int x2] σ w σ (some (.int r)) w := by
  refine lt_enter rfl (Nat.le_of_ble_eq_true rfl) (fun X e1 e2 e3 e4 hF hE => ?_)
  subst e1 e2 e3 e4
  exact jb_X2_compare_0 hT h0 hF hE _ _ hf

set_option maxRecDepth 100000 in
def fb_X2_holds_0 (σ : lt_S) (o : Nat) (w : lt_W) (x1 : Int32) : Option Int32 := lt_ck x1 (lt_len σ (lt_r σ (lt_r σ o 1) 4)) (lt_let (lt_gi w (lt_r σ (lt_r σ o 1) 4) x1.toNatClampNeg) (fun z3 => lt_ck x1 (lt_len σ (lt_r σ (lt_r σ o 1) 3)) (if (lt_gi w (lt_r σ (lt_r σ o 1) 3) x1.toNatClampNeg) = 19 then Option.bind (f_X5_isThere σ (lt_r σ o 0) z3 w) (fun q7 => lt_bz q7 (some q7)) else if (lt_gi w (lt_r σ (lt_r σ o 1) 3) x1.toNatClampNeg) = 20 then Option.bind (f_X5_hungers σ (lt_r σ o 0) z3 w) (fun q11 => lt_bz q11 (some q11)) else if (lt_gi w (lt_r σ (lt_r σ o 1) 3) x1.toNatClampNeg) = 21 then Option.bind (f_X2_compare σ o (lt_gi w (lt_r σ o 0) 5) x1 w) (fun q15 => lt_bz q15 (some q15)) else Option.bind (f_X5_hasGuest σ (lt_r σ o 0) z3 w) (fun q19 => if q19 = 0 then some 0 else lt_ck z3 (lt_len σ (lt_r σ (lt_r σ o 0) 10)) (Option.bind (f_X2_compare σ o (lt_gi w (lt_r σ (lt_r σ o 0) 10) z3.toNatClampNeg) x1 w) (fun q22 => if q22 = 0 then some 0 else some 1))))))
set_option maxHeartbeats 4000000 in
set_option maxRecDepth 100000 in
theorem jb_X2_holds_0 {X : lt_X} {σ : lt_S} (hT : lt_Wt σ) {o : Nat} (h0 : lt_c σ o = 2) {r : Int32} {w : lt_W} (hF : lt_F X cX2_holds RX2 3 (lt_rm 3)) (hE : lt_E X 0 0 σ (some .boolean) (some (.int r)) w) : ∀ (x1 : Int32), fb_X2_holds_0 σ o w x1 = some r → lt_J X 0 0 σ w 0 [(0, .ref (lt_z X + o)), (1, .int x1)] [] := by
  intro x1 hf
  unfold fb_X2_holds_0 at hf
  refine jr_aload_n hF dX2_holds_0 0 rfl rfl ?_
  refine jr_getRT (cr := 9) hF gf_X2_21 hT h0 rfl rfl dX2_holds_1 (fun th1 => ?_)
  refine jr_getRT (cr := 50) hF gf_X2_71 hT th1 rfl rfl dX2_holds_4 (fun th2 => ?_)
  refine jr_iload_n hF dX2_holds_7 1 rfl rfl ?_
  refine jr_iaload hF th2 dX2_holds_8 hf (fun hf => ?_)
  refine jr_letI hf (fun z3 hf => ?_)
  refine jr_istore_n (lv' := [(0, .ref (lt_z X + o)), (1, .int x1), (2, .int z3)]) hF dX2_holds_9 rfl (by decide) [1, 2, 0] rfl ?_
  refine jr_aload_n hF dX2_holds_10 0 rfl rfl ?_
  refine jr_getRT (cr := 9) hF gf_X2_21 hT h0 rfl rfl dX2_holds_11 (fun th4 => ?_)
  refine jr_getRT (cr := 50) hF gf_X2_74 hT th4 rfl rfl dX2_holds_14 (fun th5 => ?_)
  refine jr_iload_n hF dX2_holds_17 1 rfl rfl ?_
  refine jr_iaload hF th5 dX2_holds_18 hf (fun hf => ?_)
  by_cases c9 : (lt_gi w (lt_r σ (lt_r σ o 1) 3) x1.toNatClampNeg) = 19
  · rw [if_pos c9] at hf
    refine jr_tableIn (off := 25) (tgt := 44) hF dX2_holds_19 (by rw [c9]; decide) (by rw [c9]; decide) (by rw [c9]; rfl) rfl ?_
    refine jr_aload_n hF dX2_holds_44 0 rfl rfl ?_
    refine jr_getRT (cr := 5) hF gf_X2_18 hT h0 rfl rfl dX2_holds_45 (fun th6 => ?_)
    refine jr_iload_n hF dX2_holds_48 2 rfl rfl ?_
    obtain ⟨q7, hq7, hf⟩ := Option.bind_eq_some_iff.mp hf
    refine jr_cV11 hF ml_X2_77 (c_X5_isThere th6 hq7) th6 ⟨Nat.le_of_ble_eq_true rfl, Nat.le_of_ble_eq_true rfl⟩ (Nat.le_of_ble_eq_true rfl) dX2_holds_49 ?_
    obtain ⟨b8, hf⟩ := lt_bzE hf
    obtain rfl := Option.some.inj hf
    exact jr_zreturn hF hE b8 dX2_holds_52
  rw [if_neg c9] at hf
  by_cases c13 : (lt_gi w (lt_r σ (lt_r σ o 1) 3) x1.toNatClampNeg) = 20
  · rw [if_pos c13] at hf
    refine jr_tableIn (off := 34) (tgt := 53) hF dX2_holds_19 (by rw [c13]; decide) (by rw [c13]; decide) (by rw [c13]; rfl) rfl ?_
    refine jr_aload_n hF dX2_holds_53 0 rfl rfl ?_
    refine jr_getRT (cr := 5) hF gf_X2_18 hT h0 rfl rfl dX2_holds_54 (fun th10 => ?_)
    refine jr_iload_n hF dX2_holds_57 2 rfl rfl ?_
    obtain ⟨q11, hq11, hf⟩ := Option.bind_eq_some_iff.mp hf
    refine jr_cV11 hF ml_X2_80 (c_X5_hungers hT th10 hq11) th10 ⟨Nat.le_of_ble_eq_true rfl, Nat.le_of_ble_eq_true rfl⟩ (Nat.le_of_ble_eq_true rfl) dX2_holds_58 ?_
    obtain ⟨b12, hf⟩ := lt_bzE hf
    obtain rfl := Option.some.inj hf
    exact jr_zreturn hF hE b12 dX2_holds_61
  rw [if_neg c13] at hf
  by_cases c17 : (lt_gi w (lt_r σ (lt_r σ o 1) 3) x1.toNatClampNeg) = 21
  · rw [if_pos c17] at hf
    refine jr_tableIn (off := 43) (tgt := 62) hF dX2_holds_19 (by rw [c17]; decide) (by rw [c17]; decide) (by rw [c17]; rfl) rfl ?_
    refine jr_aload_n hF dX2_holds_62 0 rfl rfl ?_
    refine jr_aload_n hF dX2_holds_63 0 rfl rfl ?_
    refine jr_getRT (cr := 5) hF gf_X2_18 hT h0 rfl rfl dX2_holds_64 (fun th14 => ?_)
    refine jr_getI hF gf_X2_83 th14 dX2_holds_67 ?_
    refine jr_iload_n hF dX2_holds_70 1 rfl rfl ?_
    obtain ⟨q15, hq15, hf⟩ := Option.bind_eq_some_iff.mp hf
    refine jr_cV21 hF ml_X2_86 (c_X2_compare hT h0 hq15) h0 ⟨Nat.le_of_ble_eq_true rfl, Nat.le_of_ble_eq_true rfl⟩ (Nat.le_of_ble_eq_true rfl) dX2_holds_71 ?_
    obtain ⟨b16, hf⟩ := lt_bzE hf
    obtain rfl := Option.some.inj hf
    exact jr_zreturn hF hE b16 dX2_holds_74
  rw [if_neg c17] at hf
  refine jr_tableOut (tgt := 75) hF dX2_holds_19 (lt_swd fun kk h1 h2 => by rcases (show kk = 19 ∨ kk = 20 ∨ kk = 21 by omega) with rfl | rfl | rfl <;> first | exact c9 | exact c13 | exact c17) rfl ?_
  refine jr_aload_n hF dX2_holds_75 0 rfl rfl ?_
  refine jr_getRT (cr := 5) hF gf_X2_18 hT h0 rfl rfl dX2_holds_76 (fun th18 => ?_)
  refine jr_iload_n hF dX2_holds_79 2 rfl rfl ?_
  obtain ⟨q19, hq19, hf⟩ := Option.bind_eq_some_iff.mp hf
  refine jr_cV11 hF ml_X2_90 (c_X5_hasGuest th18 hq19) th18 ⟨Nat.le_of_ble_eq_true rfl, Nat.le_of_ble_eq_true rfl⟩ (Nat.le_of_ble_eq_true rfl) dX2_holds_80 ?_
  refine jr_if_eq (tgt := 107) hF dX2_holds_83 rfl hf (fun hf => ?_) (fun hf => ?_)
  · refine jr_iconst (v := 0) hF dX2_holds_107 rfl ?_
    obtain rfl := Option.some.inj hf
    exact jr_zreturn hF hE (Or.inl rfl) dX2_holds_108
  · refine jr_aload_n hF dX2_holds_86 0 rfl rfl ?_
    refine jr_aload_n hF dX2_holds_87 0 rfl rfl ?_
    refine jr_getRT (cr := 5) hF gf_X2_18 hT h0 rfl rfl dX2_holds_88 (fun th20 => ?_)
    refine jr_getRT (cr := 50) hF gf_X2_93 hT th20 rfl rfl dX2_holds_91 (fun th21 => ?_)
    refine jr_iload_n hF dX2_holds_94 2 rfl rfl ?_
    refine jr_iaload hF th21 dX2_holds_95 hf (fun hf => ?_)
    refine jr_iload_n hF dX2_holds_96 1 rfl rfl ?_
    obtain ⟨q22, hq22, hf⟩ := Option.bind_eq_some_iff.mp hf
    refine jr_cV21 hF ml_X2_86 (c_X2_compare hT h0 hq22) h0 ⟨Nat.le_of_ble_eq_true rfl, Nat.le_of_ble_eq_true rfl⟩ (Nat.le_of_ble_eq_true rfl) dX2_holds_97 ?_
    refine jr_if_eq (tgt := 107) hF dX2_holds_100 rfl hf (fun hf => ?_) (fun hf => ?_)
    · refine jr_iconst (v := 0) hF dX2_holds_107 rfl ?_
      obtain rfl := Option.some.inj hf
      exact jr_zreturn hF hE (Or.inl rfl) dX2_holds_108
    · refine jr_iconst (v := 1) hF dX2_holds_103 rfl ?_
      refine jr_goto (tgt := 108) hF dX2_holds_104 rfl ?_
      obtain rfl := Option.some.inj hf
      exact jr_zreturn hF hE (Or.inr rfl) dX2_holds_108
def f_X2_holds (σ : lt_S) (o : Nat) (x1 : Int32) (w : lt_W) : Option Int32 := fb_X2_holds_0 σ o w x1
set_option maxRecDepth 100000 in
theorem c_X2_holds {l : Launch} {D : va_G} {gA : Nat → ClassId} {s0 : State} {σ : lt_S} (hT : lt_Wt σ) {o : Nat} (h0 : lt_c σ o = 2) {x1 : Int32} {w : lt_W} {r : Int32} (hf : f_X2_holds σ o x1 w = some r) : lt_C l D gA s0 yX2_holds cX2_holds 3 (some .boolean) (lt_rm 3) [.ref (s0.heap.size + o), .int x1] σ w σ (some (.int r)) w := by
  refine lt_enter rfl (Nat.le_of_ble_eq_true rfl) (fun X e1 e2 e3 e4 hF hE => ?_)
  subst e1 e2 e3 e4
  exact jb_X2_holds_0 hT h0 hF hE _ hf

set_option maxRecDepth 100000 in
def fb_X2_timesWithin_0 (σ : lt_S) (o : Nat) (w : lt_W) (x1 : Int32) : Option Int32 := lt_ck x1 (lt_len σ (lt_r σ (lt_r σ o 1) 2)) (if (lt_gi w (lt_r σ (lt_r σ o 1) 2) x1.toNatClampNeg) = 22 then lt_ck x1 (lt_len σ (lt_r σ (lt_r σ o 1) 7)) (some (lt_gi w (lt_r σ (lt_r σ o 1) 7) x1.toNatClampNeg)) else Option.bind (f_X2_holds σ o x1 w) (fun q3 => if q3 = 0 then some 0 else some 1))
set_option maxHeartbeats 4000000 in
set_option maxRecDepth 100000 in
theorem jb_X2_timesWithin_0 {X : lt_X} {σ : lt_S} (hT : lt_Wt σ) {o : Nat} (h0 : lt_c σ o = 2) {r : Int32} {w : lt_W} (hF : lt_F X cX2_timesWithin RX2 2 (lt_rm 4)) (hE : lt_E X 0 0 σ (some .int) (some (.int r)) w) : ∀ (x1 : Int32), fb_X2_timesWithin_0 σ o w x1 = some r → lt_J X 0 0 σ w 0 [(0, .ref (lt_z X + o)), (1, .int x1)] [] := by
  intro x1 hf
  unfold fb_X2_timesWithin_0 at hf
  refine jr_aload_n hF dX2_timesWithin_0 0 rfl rfl ?_
  refine jr_getRT (cr := 9) hF gf_X2_21 hT h0 rfl rfl dX2_timesWithin_1 (fun th1 => ?_)
  refine jr_getRT (cr := 50) hF gf_X2_49 hT th1 rfl rfl dX2_timesWithin_4 (fun th2 => ?_)
  refine jr_iload_n hF dX2_timesWithin_7 1 rfl rfl ?_
  refine jr_iaload hF th2 dX2_timesWithin_8 hf (fun hf => ?_)
  refine jr_bipush (v := 22) hF dX2_timesWithin_9 rfl ?_
  refine jr_icmp_ne (tgt := 24) hF dX2_timesWithin_11 rfl hf (fun hf => ?_) (fun hf => ?_)
  · refine jr_aload_n hF dX2_timesWithin_24 0 rfl rfl ?_
    refine jr_iload_n hF dX2_timesWithin_25 1 rfl rfl ?_
    obtain ⟨q3, hq3, hf⟩ := Option.bind_eq_some_iff.mp hf
    refine jr_cV11 hF ml_X2_67 (c_X2_holds hT h0 hq3) h0 ⟨Nat.le_of_ble_eq_true rfl, Nat.le_of_ble_eq_true rfl⟩ (Nat.le_of_ble_eq_true rfl) dX2_timesWithin_26 ?_
    refine jr_if_eq (tgt := 36) hF dX2_timesWithin_29 rfl hf (fun hf => ?_) (fun hf => ?_)
    · refine jr_iconst (v := 0) hF dX2_timesWithin_36 rfl ?_
      obtain rfl := Option.some.inj hf
      exact jr_ireturn hF hE dX2_timesWithin_37
    · refine jr_iconst (v := 1) hF dX2_timesWithin_32 rfl ?_
      refine jr_goto (tgt := 37) hF dX2_timesWithin_33 rfl ?_
      obtain rfl := Option.some.inj hf
      exact jr_ireturn hF hE dX2_timesWithin_37
  · refine jr_aload_n hF dX2_timesWithin_14 0 rfl rfl ?_
    refine jr_getRT (cr := 9) hF gf_X2_21 hT h0 rfl rfl dX2_timesWithin_15 (fun th4 => ?_)
    refine jr_getRT (cr := 50) hF gf_X2_64 hT th4 rfl rfl dX2_timesWithin_18 (fun th5 => ?_)
    refine jr_iload_n hF dX2_timesWithin_21 1 rfl rfl ?_
    refine jr_iaload hF th5 dX2_timesWithin_22 hf (fun hf => ?_)
    obtain rfl := Option.some.inj hf
    exact jr_ireturn hF hE dX2_timesWithin_23
def f_X2_timesWithin (σ : lt_S) (o : Nat) (x1 : Int32) (w : lt_W) : Option Int32 := fb_X2_timesWithin_0 σ o w x1
set_option maxRecDepth 100000 in
theorem c_X2_timesWithin {l : Launch} {D : va_G} {gA : Nat → ClassId} {s0 : State} {σ : lt_S} (hT : lt_Wt σ) {o : Nat} (h0 : lt_c σ o = 2) {x1 : Int32} {w : lt_W} {r : Int32} (hf : f_X2_timesWithin σ o x1 w = some r) : lt_C l D gA s0 yX2_timesWithin cX2_timesWithin 2 (some .int) (lt_rm 4) [.ref (s0.heap.size + o), .int x1] σ w σ (some (.int r)) w := by
  refine lt_enter rfl (Nat.le_of_ble_eq_true rfl) (fun X e1 e2 e3 e4 hF hE => ?_)
  subst e1 e2 e3 e4
  exact jb_X2_timesWithin_0 hT h0 hF hE _ hf

set_option maxRecDepth 100000 in
def fb_X2_goThrough_122 (σ : lt_S) (o : Nat) (kR : Int32 → Int32 → Int32 → lt_W → Option lt_W) (k6 : Int32 → Int32 → Int32 → Int32 → lt_W → Option lt_W) : Nat → Int32 → Int32 → Int32 → Int32 → Int32 → Int32 → Int32 → lt_W → Option lt_W
  | 0, _, _, _, _, _, _, _, _ => none
  | n + 1, x2, x3, x4, x5, x6, x7, x8, w => if x6 ≤ x8 then k6 x2 x3 x7 (x5 + 1) w else if (lt_gi w o 4) = 0 then if 3 ≤ x3 then k6 x2 x3 x7 (x5 + 1) w else Option.bind (kR (x4 + 1) x7 (x3 + 1) w) (fun q1 => fb_X2_goThrough_122 σ o kR k6 n x2 x3 x4 x5 x6 x7 (x8 + 1) q1) else k6 x2 x3 x7 (x5 + 1) w
set_option maxHeartbeats 4000000 in
set_option maxRecDepth 100000 in
theorem jb_X2_goThrough_122 {X : lt_X} {σ : lt_S} (hT : lt_Wt σ) {o : Nat} (h0 : lt_c σ o = 2) {r : lt_W} {lev : Nat} {kR : Int32 → Int32 → Int32 → lt_W → Option lt_W} {k6 : Int32 → Int32 → Int32 → Int32 → lt_W → Option lt_W} (hF : lt_F X cX2_goThrough RX2 9 (lt_rm (lev + 1))) (hE : lt_E X 0 0 σ none none r) (hL : 6 ≤ lev) (hkR : ∀ (x1 : Int32) (x2 : Int32) (x3 : Int32) (w : lt_W) (r : lt_W), kR x1 x2 x3 w = some r → lt_C (lt_Xl X) (lt_XD X) (lt_XA X) (lt_Xs X) yX2_goThrough cX2_goThrough 9 none (lt_rm lev) [.ref ((lt_Xs X).heap.size + o), .int x1, .int x2, .int x3] σ w σ none r) (hk6 : ∀ (x2 : Int32) (x3 : Int32) (x4 : Int32) (x5 : Int32) (w : lt_W), k6 x2 x3 x4 x5 w = some r → lt_J X 0 0 σ w 6 [(0, .ref (lt_z X + o)), (2, .int x2), (3, .int x3), (4, .int x4), (5, .int x5)] []) (n : Nat) : ∀ (x2 : Int32) (x3 : Int32) (x4 : Int32) (x5 : Int32) (x6 : Int32) (x7 : Int32) (x8 : Int32) (w : lt_W), fb_X2_goThrough_122 σ o kR k6 n x2 x3 x4 x5 x6 x7 x8 w = some r → lt_J X 0 0 σ w 122 [(0, .ref (lt_z X + o)), (2, .int x2), (3, .int x3), (4, .int x4), (5, .int x5), (6, .int x6), (7, .int x7), (8, .int x8)] [] := by
  induction n with
  | zero => intro x2 x3 x4 x5 x6 x7 x8 w hf; rw [fb_X2_goThrough_122] at hf; cases hf
  | succ n ih =>
    intro x2 x3 x4 x5 x6 x7 x8 w hf
    rw [fb_X2_goThrough_122] at hf
    refine jr_iload hF dX2_goThrough_122 7 rfl ?_
    refine jr_iload hF dX2_goThrough_124 5 rfl ?_
    refine jr_icmp_ge (tgt := 160) hF dX2_goThrough_126 rfl hf (fun hf => ?_) (fun hf => ?_)
    · refine jr_iload hF dX2_goThrough_160 6 rfl ?_
      refine jr_istore (lv' := [(0, .ref (lt_z X + o)), (2, .int x2), (3, .int x3), (4, .int x7), (5, .int x5)]) hF dX2_goThrough_162 (by decide) [1, 2, 3, 0, 4] rfl ?_
      refine jr_iinc (v := x5 + 1) (lv' := [(0, .ref (lt_z X + o)), (2, .int x2), (3, .int x3), (4, .int x7), (5, .int (x5 + 1))]) hF dX2_goThrough_164 4 rfl rfl (by decide) [1, 2, 3, 4, 0] rfl ?_
      refine jr_goto (tgt := 6) hF dX2_goThrough_167 rfl ?_
      exact hk6 _ _ _ _ _ hf
    · refine jr_aload_n hF dX2_goThrough_129 0 rfl rfl ?_
      refine jr_getI hF gf_X2_29 h0 dX2_goThrough_130 ?_
      refine jr_if_ne (tgt := 160) hF dX2_goThrough_133 rfl hf (fun hf => ?_) (fun hf => ?_)
      · refine jr_iload hF dX2_goThrough_160 6 rfl ?_
        refine jr_istore (lv' := [(0, .ref (lt_z X + o)), (2, .int x2), (3, .int x3), (4, .int x7), (5, .int x5)]) hF dX2_goThrough_162 (by decide) [1, 2, 3, 0, 4] rfl ?_
        refine jr_iinc (v := x5 + 1) (lv' := [(0, .ref (lt_z X + o)), (2, .int x2), (3, .int x3), (4, .int x7), (5, .int (x5 + 1))]) hF dX2_goThrough_164 4 rfl rfl (by decide) [1, 2, 3, 4, 0] rfl ?_
        refine jr_goto (tgt := 6) hF dX2_goThrough_167 rfl ?_
        exact hk6 _ _ _ _ _ hf
      · refine jr_iload_n hF dX2_goThrough_136 2 rfl rfl ?_
        refine jr_iconst (v := 3) hF dX2_goThrough_137 rfl ?_
        refine jr_icmp_ge (tgt := 160) hF dX2_goThrough_138 rfl hf (fun hf => ?_) (fun hf => ?_)
        · refine jr_iload hF dX2_goThrough_160 6 rfl ?_
          refine jr_istore (lv' := [(0, .ref (lt_z X + o)), (2, .int x2), (3, .int x3), (4, .int x7), (5, .int x5)]) hF dX2_goThrough_162 (by decide) [1, 2, 3, 0, 4] rfl ?_
          refine jr_iinc (v := x5 + 1) (lv' := [(0, .ref (lt_z X + o)), (2, .int x2), (3, .int x3), (4, .int x7), (5, .int (x5 + 1))]) hF dX2_goThrough_164 4 rfl rfl (by decide) [1, 2, 3, 4, 0] rfl ?_
          refine jr_goto (tgt := 6) hF dX2_goThrough_167 rfl ?_
          exact hk6 _ _ _ _ _ hf
        · refine jr_aload_n hF dX2_goThrough_141 0 rfl rfl ?_
          refine jr_iload hF dX2_goThrough_142 3 rfl ?_
          refine jr_iconst (v := 1) hF dX2_goThrough_144 rfl ?_
          refine jr_iadd hF dX2_goThrough_145 ?_
          refine jr_iload hF dX2_goThrough_146 6 rfl ?_
          refine jr_iload_n hF dX2_goThrough_148 2 rfl rfl ?_
          refine jr_iconst (v := 1) hF dX2_goThrough_149 rfl ?_
          refine jr_iadd hF dX2_goThrough_150 ?_
          obtain ⟨q1, hq1, hf⟩ := Option.bind_eq_some_iff.mp hf
          refine jr_cV3v hF ml_X2_45 (hkR _ _ _ _ _ hq1) h0 ⟨by simp only [lt_rm]; omega, by simp only [lt_rm]; omega⟩ (Nat.le_of_ble_eq_true rfl) dX2_goThrough_151 ?_
          refine jr_iinc (v := x8 + 1) (lv' := [(0, .ref (lt_z X + o)), (2, .int x2), (3, .int x3), (4, .int x4), (5, .int x5), (6, .int x6), (7, .int x7), (8, .int (x8 + 1))]) hF dX2_goThrough_154 7 rfl rfl (by decide) [1, 2, 3, 4, 5, 6, 7, 0] rfl ?_
          refine jr_goto (tgt := 122) hF dX2_goThrough_157 rfl ?_
          exact ih _ _ _ _ _ _ _ _ hf
set_option maxRecDepth 100000 in
def fb_X2_goThrough_99 (σ : lt_S) (o : Nat) (kR : Int32 → Int32 → Int32 → lt_W → Option lt_W) (k6 : Int32 → Int32 → Int32 → Int32 → lt_W → Option lt_W) (x2 : Int32) (x3 : Int32) (x4 : Int32) (x5 : Int32) (w : lt_W) : Option lt_W := Option.bind (f_X2_timesWithin σ o x4 w) (fun q1 => lt_ck x4 (lt_len σ (lt_r σ (lt_r σ o 1) 8)) (lt_let (lt_gi w (lt_r σ (lt_r σ o 1) 8) x4.toNatClampNeg) (fun z4 => fb_X2_goThrough_122 σ o kR k6 lt_fu x2 x3 x4 x5 q1 z4 0 w)))
set_option maxHeartbeats 4000000 in
set_option maxRecDepth 100000 in
theorem jb_X2_goThrough_99 {X : lt_X} {σ : lt_S} (hT : lt_Wt σ) {o : Nat} (h0 : lt_c σ o = 2) {r : lt_W} {lev : Nat} {kR : Int32 → Int32 → Int32 → lt_W → Option lt_W} {k6 : Int32 → Int32 → Int32 → Int32 → lt_W → Option lt_W} (hF : lt_F X cX2_goThrough RX2 9 (lt_rm (lev + 1))) (hE : lt_E X 0 0 σ none none r) (hL : 6 ≤ lev) (hkR : ∀ (x1 : Int32) (x2 : Int32) (x3 : Int32) (w : lt_W) (r : lt_W), kR x1 x2 x3 w = some r → lt_C (lt_Xl X) (lt_XD X) (lt_XA X) (lt_Xs X) yX2_goThrough cX2_goThrough 9 none (lt_rm lev) [.ref ((lt_Xs X).heap.size + o), .int x1, .int x2, .int x3] σ w σ none r) (hk6 : ∀ (x2 : Int32) (x3 : Int32) (x4 : Int32) (x5 : Int32) (w : lt_W), k6 x2 x3 x4 x5 w = some r → lt_J X 0 0 σ w 6 [(0, .ref (lt_z X + o)), (2, .int x2), (3, .int x3), (4, .int x4), (5, .int x5)] []) : ∀ (x2 : Int32) (x3 : Int32) (x4 : Int32) (x5 : Int32) (w : lt_W), fb_X2_goThrough_99 σ o kR k6 x2 x3 x4 x5 w = some r → lt_J X 0 0 σ w 99 [(0, .ref (lt_z X + o)), (2, .int x2), (3, .int x3), (4, .int x4), (5, .int x5)] [] := by
  intro x2 x3 x4 x5 w hf
  unfold fb_X2_goThrough_99 at hf
  refine jr_aload_n hF dX2_goThrough_99 0 rfl rfl ?_
  refine jr_iload hF dX2_goThrough_100 3 rfl ?_
  obtain ⟨q1, hq1, hf⟩ := Option.bind_eq_some_iff.mp hf
  refine jr_cV11 hF ml_X2_57 (c_X2_timesWithin hT h0 hq1) h0 ⟨by simp only [lt_rm]; omega, by simp only [lt_rm]; omega⟩ (Nat.le_of_ble_eq_true rfl) dX2_goThrough_102 ?_
  refine jr_istore (lv' := [(0, .ref (lt_z X + o)), (2, .int x2), (3, .int x3), (4, .int x4), (5, .int x5), (6, .int q1)]) hF dX2_goThrough_105 (by decide) [1, 2, 3, 4, 5, 0] rfl ?_
  refine jr_aload_n hF dX2_goThrough_107 0 rfl rfl ?_
  refine jr_getRT (cr := 9) hF gf_X2_21 hT h0 rfl rfl dX2_goThrough_108 (fun th2 => ?_)
  refine jr_getRT (cr := 50) hF gf_X2_61 hT th2 rfl rfl dX2_goThrough_111 (fun th3 => ?_)
  refine jr_iload hF dX2_goThrough_114 3 rfl ?_
  refine jr_iaload hF th3 dX2_goThrough_116 hf (fun hf => ?_)
  refine jr_letI hf (fun z4 hf => ?_)
  refine jr_istore (lv' := [(0, .ref (lt_z X + o)), (2, .int x2), (3, .int x3), (4, .int x4), (5, .int x5), (6, .int q1), (7, .int z4)]) hF dX2_goThrough_117 (by decide) [1, 2, 3, 4, 5, 6, 0] rfl ?_
  refine jr_iconst (v := 0) hF dX2_goThrough_119 rfl ?_
  refine jr_istore (lv' := [(0, .ref (lt_z X + o)), (2, .int x2), (3, .int x3), (4, .int x4), (5, .int x5), (6, .int q1), (7, .int z4), (8, .int 0)]) hF dX2_goThrough_120 (by decide) [1, 2, 3, 4, 5, 6, 7, 0] rfl ?_
  exact jb_X2_goThrough_122 hT h0 hF hE hL hkR hk6 lt_fu _ _ _ _ _ _ _ _ hf
set_option maxRecDepth 100000 in
def fb_X2_goThrough_6 (σ : lt_S) (o : Nat) (kR : Int32 → Int32 → Int32 → lt_W → Option lt_W) : Nat → Int32 → Int32 → Int32 → Int32 → lt_W → Option lt_W
  | 0, _, _, _, _, _ => none
  | n + 1, x2, x3, x4, x5, w => if 30 ≤ x5 then some w else if x2 ≤ x4 then some w else if (lt_gi w o 4) = 0 then if (lt_gi w o 5) < 300 then lt_let (lt_si w o 5 ((lt_gi w o 5) + 1)) (fun w1 => lt_ck x4 (lt_len σ (lt_r σ (lt_r σ o 1) 2)) (if (lt_gi w1 (lt_r σ (lt_r σ o 1) 2) x4.toNatClampNeg) = 18 then fb_X2_goThrough_99 σ o kR (fun x2 x3 x4 x5 w => fb_X2_goThrough_6 σ o kR n x2 x3 x4 x5 w) x2 x3 x4 x5 w1 else lt_ck x4 (lt_len σ (lt_r σ (lt_r σ o 1) 2)) (if (lt_gi w1 (lt_r σ (lt_r σ o 1) 2) x4.toNatClampNeg) = 22 then fb_X2_goThrough_99 σ o kR (fun x2 x3 x4 x5 w => fb_X2_goThrough_6 σ o kR n x2 x3 x4 x5 w) x2 x3 x4 x5 w1 else Option.bind (f_X2_goStep σ o x4 w1) (fun q6 => fb_X2_goThrough_6 σ o kR n x2 x3 (x4 + 1) (x5 + 1) q6)))) else lt_let (lt_si w o 7 1) (fun w7 => lt_let (lt_si w7 o 4 1) (fun w8 => some w8)) else some w
set_option maxHeartbeats 4000000 in
set_option maxRecDepth 100000 in
theorem jb_X2_goThrough_6 {X : lt_X} {σ : lt_S} (hT : lt_Wt σ) {o : Nat} (h0 : lt_c σ o = 2) {r : lt_W} {lev : Nat} {kR : Int32 → Int32 → Int32 → lt_W → Option lt_W} (hF : lt_F X cX2_goThrough RX2 9 (lt_rm (lev + 1))) (hE : lt_E X 0 0 σ none none r) (hL : 6 ≤ lev) (hkR : ∀ (x1 : Int32) (x2 : Int32) (x3 : Int32) (w : lt_W) (r : lt_W), kR x1 x2 x3 w = some r → lt_C (lt_Xl X) (lt_XD X) (lt_XA X) (lt_Xs X) yX2_goThrough cX2_goThrough 9 none (lt_rm lev) [.ref ((lt_Xs X).heap.size + o), .int x1, .int x2, .int x3] σ w σ none r) (n : Nat) : ∀ (x2 : Int32) (x3 : Int32) (x4 : Int32) (x5 : Int32) (w : lt_W), fb_X2_goThrough_6 σ o kR n x2 x3 x4 x5 w = some r → lt_J X 0 0 σ w 6 [(0, .ref (lt_z X + o)), (2, .int x2), (3, .int x3), (4, .int x4), (5, .int x5)] [] := by
  induction n with
  | zero => intro x2 x3 x4 x5 w hf; rw [fb_X2_goThrough_6] at hf; cases hf
  | succ n ih =>
    intro x2 x3 x4 x5 w hf
    rw [fb_X2_goThrough_6] at hf
    refine jr_iload hF dX2_goThrough_6 4 rfl ?_
    refine jr_bipush (v := 30) hF dX2_goThrough_8 rfl ?_
    refine jr_icmp_ge (tgt := 170) hF dX2_goThrough_10 rfl hf (fun hf => ?_) (fun hf => ?_)
    · obtain rfl := Option.some.inj hf
      exact jr_return hF hE dX2_goThrough_170
    · refine jr_iload hF dX2_goThrough_13 3 rfl ?_
      refine jr_iload_n hF dX2_goThrough_15 1 rfl rfl ?_
      refine jr_icmp_ge (tgt := 170) hF dX2_goThrough_16 rfl hf (fun hf => ?_) (fun hf => ?_)
      · obtain rfl := Option.some.inj hf
        exact jr_return hF hE dX2_goThrough_170
      · refine jr_aload_n hF dX2_goThrough_19 0 rfl rfl ?_
        refine jr_getI hF gf_X2_29 h0 dX2_goThrough_20 ?_
        refine jr_if_ne (tgt := 170) hF dX2_goThrough_23 rfl hf (fun hf => ?_) (fun hf => ?_)
        · obtain rfl := Option.some.inj hf
          exact jr_return hF hE dX2_goThrough_170
        · refine jr_aload_n hF dX2_goThrough_26 0 rfl rfl ?_
          refine jr_getI hF gf_X2_33 h0 dX2_goThrough_27 ?_
          refine jr_sipush (v := 300) hF dX2_goThrough_30 rfl ?_
          refine jr_icmp_lt (tgt := 47) hF dX2_goThrough_33 rfl hf (fun hf => ?_) (fun hf => ?_)
          · refine jr_aload_n hF dX2_goThrough_47 0 rfl rfl ?_
            refine jr_dup hF dX2_goThrough_48 rfl ?_
            refine jr_getI hF gf_X2_33 h0 dX2_goThrough_49 ?_
            refine jr_iconst (v := 1) hF dX2_goThrough_52 rfl ?_
            refine jr_iadd hF dX2_goThrough_53 ?_
            refine jr_putI hF pf_X2_33 h0 dX2_goThrough_54 ?_
            refine jr_letW hf (fun w1 hf => ?_)
            refine jr_aload_n hF dX2_goThrough_57 0 rfl rfl ?_
            refine jr_getRT (cr := 9) hF gf_X2_21 hT h0 rfl rfl dX2_goThrough_58 (fun th2 => ?_)
            refine jr_getRT (cr := 50) hF gf_X2_49 hT th2 rfl rfl dX2_goThrough_61 (fun th3 => ?_)
            refine jr_iload hF dX2_goThrough_64 3 rfl ?_
            refine jr_iaload hF th3 dX2_goThrough_66 hf (fun hf => ?_)
            refine jr_bipush (v := 18) hF dX2_goThrough_67 rfl ?_
            refine jr_icmp_eq (tgt := 99) hF dX2_goThrough_69 rfl hf (fun hf => ?_) (fun hf => ?_)
            · exact jb_X2_goThrough_99 hT h0 hF hE hL hkR ih _ _ _ _ _ hf
            · refine jr_aload_n hF dX2_goThrough_72 0 rfl rfl ?_
              refine jr_getRT (cr := 9) hF gf_X2_21 hT h0 rfl rfl dX2_goThrough_73 (fun th4 => ?_)
              refine jr_getRT (cr := 50) hF gf_X2_49 hT th4 rfl rfl dX2_goThrough_76 (fun th5 => ?_)
              refine jr_iload hF dX2_goThrough_79 3 rfl ?_
              refine jr_iaload hF th5 dX2_goThrough_81 hf (fun hf => ?_)
              refine jr_bipush (v := 22) hF dX2_goThrough_82 rfl ?_
              refine jr_icmp_eq (tgt := 99) hF dX2_goThrough_84 rfl hf (fun hf => ?_) (fun hf => ?_)
              · exact jb_X2_goThrough_99 hT h0 hF hE hL hkR ih _ _ _ _ _ hf
              · refine jr_aload_n hF dX2_goThrough_87 0 rfl rfl ?_
                refine jr_iload hF dX2_goThrough_88 3 rfl ?_
                obtain ⟨q6, hq6, hf⟩ := Option.bind_eq_some_iff.mp hf
                refine jr_cV1v hF ml_X2_53 (c_X2_goStep hT h0 hq6) h0 ⟨by simp only [lt_rm]; omega, by simp only [lt_rm]; omega⟩ (Nat.le_of_ble_eq_true rfl) dX2_goThrough_90 ?_
                refine jr_iinc (v := x4 + 1) (lv' := [(0, .ref (lt_z X + o)), (2, .int x2), (3, .int x3), (4, .int (x4 + 1)), (5, .int x5)]) hF dX2_goThrough_93 3 rfl rfl (by decide) [1, 2, 3, 0, 4] rfl ?_
                refine jr_goto (tgt := 164) hF dX2_goThrough_96 rfl ?_
                refine jr_iinc (v := x5 + 1) (lv' := [(0, .ref (lt_z X + o)), (2, .int x2), (3, .int x3), (4, .int (x4 + 1)), (5, .int (x5 + 1))]) hF dX2_goThrough_164 4 rfl rfl (by decide) [1, 2, 3, 4, 0] rfl ?_
                refine jr_goto (tgt := 6) hF dX2_goThrough_167 rfl ?_
                exact ih _ _ _ _ _ hf
          · refine jr_aload_n hF dX2_goThrough_36 0 rfl rfl ?_
            refine jr_iconst (v := 1) hF dX2_goThrough_37 rfl ?_
            refine jr_putZ hF pf_X2_39 h0 (Or.inr rfl) dX2_goThrough_38 ?_
            refine jr_letW hf (fun w7 hf => ?_)
            refine jr_aload_n hF dX2_goThrough_41 0 rfl rfl ?_
            refine jr_iconst (v := 1) hF dX2_goThrough_42 rfl ?_
            refine jr_putZ hF pf_X2_29 h0 (Or.inr rfl) dX2_goThrough_43 ?_
            refine jr_letW hf (fun w8 hf => ?_)
            obtain rfl := Option.some.inj hf
            exact jr_return hF hE dX2_goThrough_46
set_option maxRecDepth 100000 in
def fb_X2_goThrough_0 (σ : lt_S) (o : Nat) (kR : Int32 → Int32 → Int32 → lt_W → Option lt_W) (x1 : Int32) (x2 : Int32) (x3 : Int32) (w : lt_W) : Option lt_W := fb_X2_goThrough_6 σ o kR lt_fu x2 x3 x1 0 w
set_option maxHeartbeats 4000000 in
set_option maxRecDepth 100000 in
theorem jb_X2_goThrough_0 {X : lt_X} {σ : lt_S} (hT : lt_Wt σ) {o : Nat} (h0 : lt_c σ o = 2) {r : lt_W} {lev : Nat} {kR : Int32 → Int32 → Int32 → lt_W → Option lt_W} (hF : lt_F X cX2_goThrough RX2 9 (lt_rm (lev + 1))) (hE : lt_E X 0 0 σ none none r) (hL : 6 ≤ lev) (hkR : ∀ (x1 : Int32) (x2 : Int32) (x3 : Int32) (w : lt_W) (r : lt_W), kR x1 x2 x3 w = some r → lt_C (lt_Xl X) (lt_XD X) (lt_XA X) (lt_Xs X) yX2_goThrough cX2_goThrough 9 none (lt_rm lev) [.ref ((lt_Xs X).heap.size + o), .int x1, .int x2, .int x3] σ w σ none r) : ∀ (x1 : Int32) (x2 : Int32) (x3 : Int32) (w : lt_W), fb_X2_goThrough_0 σ o kR x1 x2 x3 w = some r → lt_J X 0 0 σ w 0 [(0, .ref (lt_z X + o)), (1, .int x1), (2, .int x2), (3, .int x3)] [] := by
  intro x1 x2 x3 w hf
  unfold fb_X2_goThrough_0 at hf
  refine jr_iload_n hF dX2_goThrough_0 1 rfl rfl ?_
  refine jr_istore (lv' := [(0, .ref (lt_z X + o)), (2, .int x2), (3, .int x3), (4, .int x1)]) hF dX2_goThrough_1 (by decide) [1, 3, 4, 0] rfl ?_
  refine jr_iconst (v := 0) hF dX2_goThrough_3 rfl ?_
  refine jr_istore (lv' := [(0, .ref (lt_z X + o)), (2, .int x2), (3, .int x3), (4, .int x1), (5, .int 0)]) hF dX2_goThrough_4 (by decide) [1, 2, 3, 4, 0] rfl ?_
  exact jb_X2_goThrough_6 hT h0 hF hE hL hkR lt_fu _ _ _ _ _ hf
def f_X2_goThrough (σ : lt_S) (o : Nat) : Nat → Int32 → Int32 → Int32 → lt_W → Option lt_W
  | 0, _, _, _, _ => none
  | dd + 1, x1, x2, x3, w => fb_X2_goThrough_0 σ o (fun x1 x2 x3 w => f_X2_goThrough σ o dd x1 x2 x3 w) x1 x2 x3 w
set_option maxRecDepth 100000 in
theorem cd_X2_goThrough {l : Launch} {D : va_G} {gA : Nat → ClassId} {s0 : State} {σ : lt_S} (hT : lt_Wt σ) {o : Nat} (h0 : lt_c σ o = 2) (dd : Nat) : ∀ (x1 : Int32) (x2 : Int32) (x3 : Int32) (w : lt_W) (r : lt_W), f_X2_goThrough σ o dd x1 x2 x3 w = some r → lt_C l D gA s0 yX2_goThrough cX2_goThrough 9 none (lt_rm (6 + 1 * dd)) [.ref (s0.heap.size + o), .int x1, .int x2, .int x3] σ w σ none r := by
  induction dd with
  | zero => intro x1 x2 x3 w r hf; rw [f_X2_goThrough] at hf; cases hf
  | succ dd ih =>
    intro x1 x2 x3 w r hf
    rw [f_X2_goThrough] at hf
    refine lt_enter rfl (Nat.le_of_ble_eq_true rfl) (fun X e1 e2 e3 e4 hF hE => ?_)
    subst e1 e2 e3 e4
    have hL : 6 ≤ 6 + 1 * dd := by omega
    exact jb_X2_goThrough_0 hT h0 hF hE hL ih _ _ _ _ hf
theorem c_X2_goThrough {l : Launch} {D : va_G} {gA : Nat → ClassId} {s0 : State} {σ : lt_S} (hT : lt_Wt σ) {o : Nat} (h0 : lt_c σ o = 2) {x1 : Int32} {x2 : Int32} {x3 : Int32} {w : lt_W} {r : lt_W} (hf : f_X2_goThrough σ o 8 x1 x2 x3 w = some r) : lt_C l D gA s0 yX2_goThrough cX2_goThrough 9 none (lt_rm 14) [.ref (s0.heap.size + o), .int x1, .int x2, .int x3] σ w σ none r := cd_X2_goThrough hT h0 8 _ _ _ _ _ hf

set_option maxRecDepth 100000 in
def fb_X2_pass_0 (σ : lt_S) (o : Nat) (x1 : Int32) (w : lt_W) : Option lt_W := lt_let (lt_si w o 3 x1) (fun w1 => lt_let (lt_si w1 o 4 0) (fun w2 => lt_let (lt_si w2 o 5 0) (fun w3 => lt_let (lt_si w3 o 6 0) (fun w4 => lt_let (lt_si w4 o 7 0) (fun w5 => Option.bind (f_X2_goThrough σ o 8 0 (lt_gi w5 (lt_r σ o 1) 1) 0 w5) (fun q7 => some q7))))))
set_option maxHeartbeats 4000000 in
set_option maxRecDepth 100000 in
theorem jb_X2_pass_0 {X : lt_X} {σ : lt_S} (hT : lt_Wt σ) {o : Nat} (h0 : lt_c σ o = 2) {r : lt_W} (hF : lt_F X cX2_pass RX2 2 (lt_rm 15)) (hE : lt_E X 0 0 σ none none r) : ∀ (x1 : Int32) (w : lt_W), fb_X2_pass_0 σ o x1 w = some r → lt_J X 0 0 σ w 0 [(0, .ref (lt_z X + o)), (1, .int x1)] [] := by
  intro x1 w hf
  unfold fb_X2_pass_0 at hf
  refine jr_aload_n hF dX2_pass_0 0 rfl rfl ?_
  refine jr_iload_n hF dX2_pass_1 1 rfl rfl ?_
  refine jr_putI hF pf_X2_25 h0 dX2_pass_2 ?_
  refine jr_letW hf (fun w1 hf => ?_)
  refine jr_aload_n hF dX2_pass_5 0 rfl rfl ?_
  refine jr_iconst (v := 0) hF dX2_pass_6 rfl ?_
  refine jr_putZ hF pf_X2_29 h0 (Or.inl rfl) dX2_pass_7 ?_
  refine jr_letW hf (fun w2 hf => ?_)
  refine jr_aload_n hF dX2_pass_10 0 rfl rfl ?_
  refine jr_iconst (v := 0) hF dX2_pass_11 rfl ?_
  refine jr_putI hF pf_X2_33 h0 dX2_pass_12 ?_
  refine jr_letW hf (fun w3 hf => ?_)
  refine jr_aload_n hF dX2_pass_15 0 rfl rfl ?_
  refine jr_iconst (v := 0) hF dX2_pass_16 rfl ?_
  refine jr_putI hF pf_X2_36 h0 dX2_pass_17 ?_
  refine jr_letW hf (fun w4 hf => ?_)
  refine jr_aload_n hF dX2_pass_20 0 rfl rfl ?_
  refine jr_iconst (v := 0) hF dX2_pass_21 rfl ?_
  refine jr_putZ hF pf_X2_39 h0 (Or.inl rfl) dX2_pass_22 ?_
  refine jr_letW hf (fun w5 hf => ?_)
  refine jr_aload_n hF dX2_pass_25 0 rfl rfl ?_
  refine jr_iconst (v := 0) hF dX2_pass_26 rfl ?_
  refine jr_aload_n hF dX2_pass_27 0 rfl rfl ?_
  refine jr_getRT (cr := 9) hF gf_X2_21 hT h0 rfl rfl dX2_pass_28 (fun th6 => ?_)
  refine jr_getI hF gf_X2_42 th6 dX2_pass_31 ?_
  refine jr_iconst (v := 0) hF dX2_pass_34 rfl ?_
  obtain ⟨q7, hq7, hf⟩ := Option.bind_eq_some_iff.mp hf
  refine jr_cV3v hF ml_X2_45 (c_X2_goThrough hT h0 hq7) h0 ⟨Nat.le_of_ble_eq_true rfl, Nat.le_of_ble_eq_true rfl⟩ (Nat.le_of_ble_eq_true rfl) dX2_pass_35 ?_
  obtain rfl := Option.some.inj hf
  exact jr_return hF hE dX2_pass_38
def f_X2_pass (σ : lt_S) (o : Nat) (x1 : Int32) (w : lt_W) : Option lt_W := fb_X2_pass_0 σ o x1 w
set_option maxRecDepth 100000 in
theorem c_X2_pass {l : Launch} {D : va_G} {gA : Nat → ClassId} {s0 : State} {σ : lt_S} (hT : lt_Wt σ) {o : Nat} (h0 : lt_c σ o = 2) {x1 : Int32} {w : lt_W} {r : lt_W} (hf : f_X2_pass σ o x1 w = some r) : lt_C l D gA s0 yX2_pass cX2_pass 2 none (lt_rm 15) [.ref (s0.heap.size + o), .int x1] σ w σ none r := by
  refine lt_enter rfl (Nat.le_of_ble_eq_true rfl) (fun X e1 e2 e3 e4 hF hE => ?_)
  subst e1 e2 e3 e4
  exact jb_X2_pass_0 hT h0 hF hE _ _ hf
