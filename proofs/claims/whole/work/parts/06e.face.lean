set_option maxRecDepth 100000 in
def fb_X11_agreed_0 (σ : lt_S) (o : Nat) (w : lt_W) : Option (Int32 × lt_W) := lt_let (lt_si w o 0 0) (fun w1 => some (1, w1))
set_option maxHeartbeats 4000000 in
set_option maxRecDepth 100000 in
theorem jb_X11_agreed_0 {X : lt_X} {σ : lt_S} {o : Nat} (h0 : lt_c σ o = 11) {r : Int32 × lt_W} (hF : lt_F X cX11_agreed RX11 1 (lt_rm 1)) (hE : lt_E X 0 0 σ (some .boolean) (some (.int r.1)) r.2) : ∀ (w : lt_W), fb_X11_agreed_0 σ o w = some r → lt_J X 0 0 σ w 0 [(0, .ref (lt_z X + o))] [] := by
  intro w hf
  unfold fb_X11_agreed_0 at hf
  refine jr_aload_n hF dX11_agreed_0 0 rfl rfl ?_
  refine jr_iconst (v := 0) hF dX11_agreed_1 rfl ?_
  refine jr_putI hF pf_X11_110 h0 dX11_agreed_2 ?_
  refine jr_letW hf (fun w1 hf => ?_)
  refine jr_iconst (v := 1) hF dX11_agreed_5 rfl ?_
  obtain rfl := Option.some.inj hf
  exact jr_zreturn hF hE (Or.inr rfl) dX11_agreed_6
def f_X11_agreed (σ : lt_S) (o : Nat) (w : lt_W) : Option (Int32 × lt_W) := fb_X11_agreed_0 σ o w
set_option maxRecDepth 100000 in
theorem c_X11_agreed {l : Launch} {D : va_G} {gA : Nat → ClassId} {s0 : State} {σ : lt_S} {o : Nat} (h0 : lt_c σ o = 11) {w : lt_W} {r : Int32 × lt_W} (hf : f_X11_agreed σ o w = some r) : lt_C l D gA s0 yX11_agreed cX11_agreed 1 (some .boolean) (lt_rm 1) [.ref (s0.heap.size + o)] σ w σ (some (.int r.1)) r.2 := by
  refine lt_enter rfl (Nat.le_of_ble_eq_true rfl) (fun X e1 e2 e3 e4 hF hE => ?_)
  subst e1 e2 e3 e4
  exact jb_X11_agreed_0 h0 hF hE _ hf

set_option maxRecDepth 100000 in
def fb_X11_areTwo_0 (σ : lt_S) (o : Nat) (w : lt_W) (x1 : Int32) (x2 : Int32) : Option Int32 := Option.bind (f_X5_hasGuest σ (lt_r σ o 5) x1 w) (fun q2 => if q2 = 0 then some 0 else Option.bind (f_X5_hasGuest σ (lt_r σ o 5) x2 w) (fun q4 => if q4 = 0 then some 0 else if x1 = x2 then some 0 else some 1))
set_option maxHeartbeats 4000000 in
set_option maxRecDepth 100000 in
theorem jb_X11_areTwo_0 {X : lt_X} {σ : lt_S} (hT : lt_Wt σ) {o : Nat} (h0 : lt_c σ o = 11) {r : Int32} {w : lt_W} (hF : lt_F X cX11_areTwo RX11 3 (lt_rm 2)) (hE : lt_E X 0 0 σ (some .boolean) (some (.int r)) w) : ∀ (x1 : Int32) (x2 : Int32), fb_X11_areTwo_0 σ o w x1 x2 = some r → lt_J X 0 0 σ w 0 [(0, .ref (lt_z X + o)), (1, .int x1), (2, .int x2)] [] := by
  intro x1 x2 hf
  unfold fb_X11_areTwo_0 at hf
  refine jr_aload_n hF dX11_areTwo_0 0 rfl rfl ?_
  refine jr_getRT (cr := 5) hF gf_X11_30 hT h0 rfl rfl dX11_areTwo_1 (fun th1 => ?_)
  refine jr_iload_n hF dX11_areTwo_4 1 rfl rfl ?_
  obtain ⟨q2, hq2, hf⟩ := Option.bind_eq_some_iff.mp hf
  refine jr_cV11 hF ml_X11_251 (c_X5_hasGuest th1 hq2) th1 ⟨Nat.le_of_ble_eq_true rfl, Nat.le_of_ble_eq_true rfl⟩ (Nat.le_of_ble_eq_true rfl) dX11_areTwo_5 ?_
  refine jr_if_eq (tgt := 31) hF dX11_areTwo_8 rfl hf (fun hf => ?_) (fun hf => ?_)
  · refine jr_iconst (v := 0) hF dX11_areTwo_31 rfl ?_
    obtain rfl := Option.some.inj hf
    exact jr_zreturn hF hE (Or.inl rfl) dX11_areTwo_32
  · refine jr_aload_n hF dX11_areTwo_11 0 rfl rfl ?_
    refine jr_getRT (cr := 5) hF gf_X11_30 hT h0 rfl rfl dX11_areTwo_12 (fun th3 => ?_)
    refine jr_iload_n hF dX11_areTwo_15 2 rfl rfl ?_
    obtain ⟨q4, hq4, hf⟩ := Option.bind_eq_some_iff.mp hf
    refine jr_cV11 hF ml_X11_251 (c_X5_hasGuest th3 hq4) th3 ⟨Nat.le_of_ble_eq_true rfl, Nat.le_of_ble_eq_true rfl⟩ (Nat.le_of_ble_eq_true rfl) dX11_areTwo_16 ?_
    refine jr_if_eq (tgt := 31) hF dX11_areTwo_19 rfl hf (fun hf => ?_) (fun hf => ?_)
    · refine jr_iconst (v := 0) hF dX11_areTwo_31 rfl ?_
      obtain rfl := Option.some.inj hf
      exact jr_zreturn hF hE (Or.inl rfl) dX11_areTwo_32
    · refine jr_iload_n hF dX11_areTwo_22 1 rfl rfl ?_
      refine jr_iload_n hF dX11_areTwo_23 2 rfl rfl ?_
      refine jr_icmp_eq (tgt := 31) hF dX11_areTwo_24 rfl hf (fun hf => ?_) (fun hf => ?_)
      · refine jr_iconst (v := 0) hF dX11_areTwo_31 rfl ?_
        obtain rfl := Option.some.inj hf
        exact jr_zreturn hF hE (Or.inl rfl) dX11_areTwo_32
      · refine jr_iconst (v := 1) hF dX11_areTwo_27 rfl ?_
        refine jr_goto (tgt := 32) hF dX11_areTwo_28 rfl ?_
        obtain rfl := Option.some.inj hf
        exact jr_zreturn hF hE (Or.inr rfl) dX11_areTwo_32
def f_X11_areTwo (σ : lt_S) (o : Nat) (x1 : Int32) (x2 : Int32) (w : lt_W) : Option Int32 := fb_X11_areTwo_0 σ o w x1 x2
set_option maxRecDepth 100000 in
theorem c_X11_areTwo {l : Launch} {D : va_G} {gA : Nat → ClassId} {s0 : State} {σ : lt_S} (hT : lt_Wt σ) {o : Nat} (h0 : lt_c σ o = 11) {x1 : Int32} {x2 : Int32} {w : lt_W} {r : Int32} (hf : f_X11_areTwo σ o x1 x2 w = some r) : lt_C l D gA s0 yX11_areTwo cX11_areTwo 3 (some .boolean) (lt_rm 2) [.ref (s0.heap.size + o), .int x1, .int x2] σ w σ (some (.int r)) w := by
  refine lt_enter rfl (Nat.le_of_ble_eq_true rfl) (fun X e1 e2 e3 e4 hF hE => ?_)
  subst e1 e2 e3 e4
  exact jb_X11_areTwo_0 hT h0 hF hE _ _ hf

set_option maxRecDepth 100000 in
def fb_X11_trayFails_0 (σ : lt_S) (o : Nat) (w : lt_W) (x1 : Int32) (x2 : Int32) (x3 : Int32) : Option Int32 := Option.bind (f_X11_isTray x1) (fun q1 => if q1 = 0 then some 1 else lt_ck x1 (lt_len σ (lt_r σ o 3)) (if (lt_gi w (lt_r σ (lt_r σ o 3) x1.toNatClampNeg) 0) = 0 then some 2 else lt_ck x1 (lt_len σ (lt_r σ o 3)) (Option.bind (f_X8_has σ (lt_r σ (lt_r σ o 3) x1.toNatClampNeg) x2 x3 w) (fun q6 => if q6 = 0 then some 3 else some 0))))
set_option maxHeartbeats 4000000 in
set_option maxRecDepth 100000 in
theorem jb_X11_trayFails_0 {X : lt_X} {σ : lt_S} (hT : lt_Wt σ) {o : Nat} (h0 : lt_c σ o = 11) {r : Int32} {w : lt_W} (hF : lt_F X cX11_trayFails RX11 4 (lt_rm 3)) (hE : lt_E X 0 0 σ (some .int) (some (.int r)) w) : ∀ (x1 : Int32) (x2 : Int32) (x3 : Int32), fb_X11_trayFails_0 σ o w x1 x2 x3 = some r → lt_J X 0 0 σ w 0 [(0, .ref (lt_z X + o)), (1, .int x1), (2, .int x2), (3, .int x3)] [] := by
  intro x1 x2 x3 hf
  unfold fb_X11_trayFails_0 at hf
  refine jr_iload_n hF dX11_trayFails_0 1 rfl rfl ?_
  obtain ⟨q1, hq1, hf⟩ := Option.bind_eq_some_iff.mp hf
  refine jr_cS11 hF ml_X11_117 (c_X11_isTray hq1) ⟨Nat.le_of_ble_eq_true rfl, Nat.le_of_ble_eq_true rfl⟩ (Nat.le_of_ble_eq_true rfl) dX11_trayFails_1 ?_
  refine jr_if_ne (tgt := 9) hF dX11_trayFails_4 rfl hf (fun hf => ?_) (fun hf => ?_)
  · refine jr_aload_n hF dX11_trayFails_9 0 rfl rfl ?_
    refine jr_getRT (cr := 54) hF gf_X11_15 hT h0 rfl rfl dX11_trayFails_10 (fun th2 => ?_)
    refine jr_iload_n hF dX11_trayFails_13 1 rfl rfl ?_
    refine jr_aaload (c := 54) hF hT th2 4 rfl rfl rfl dX11_trayFails_14 hf (fun th3 hf => ?_)
    have th3 : lt_c σ (lt_r σ (lt_r σ o 3) x1.toNatClampNeg) = 8 := th3
    refine jr_getI hF gf_X11_152 th3 dX11_trayFails_15 ?_
    refine jr_if_ne (tgt := 23) hF dX11_trayFails_18 rfl hf (fun hf => ?_) (fun hf => ?_)
    · refine jr_aload_n hF dX11_trayFails_23 0 rfl rfl ?_
      refine jr_getRT (cr := 54) hF gf_X11_15 hT h0 rfl rfl dX11_trayFails_24 (fun th4 => ?_)
      refine jr_iload_n hF dX11_trayFails_27 1 rfl rfl ?_
      refine jr_aaload (c := 54) hF hT th4 4 rfl rfl rfl dX11_trayFails_28 hf (fun th5 hf => ?_)
      have th5 : lt_c σ (lt_r σ (lt_r σ o 3) x1.toNatClampNeg) = 8 := th5
      refine jr_iload_n hF dX11_trayFails_29 2 rfl rfl ?_
      refine jr_iload_n hF dX11_trayFails_30 3 rfl rfl ?_
      obtain ⟨q6, hq6, hf⟩ := Option.bind_eq_some_iff.mp hf
      refine jr_cV21 hF ml_X11_159 (c_X8_has th5 hq6) th5 ⟨Nat.le_of_ble_eq_true rfl, Nat.le_of_ble_eq_true rfl⟩ (Nat.le_of_ble_eq_true rfl) dX11_trayFails_31 ?_
      refine jr_if_eq (tgt := 41) hF dX11_trayFails_34 rfl hf (fun hf => ?_) (fun hf => ?_)
      · refine jr_iconst (v := 3) hF dX11_trayFails_41 rfl ?_
        obtain rfl := Option.some.inj hf
        exact jr_ireturn hF hE dX11_trayFails_42
      · refine jr_iconst (v := 0) hF dX11_trayFails_37 rfl ?_
        refine jr_goto (tgt := 42) hF dX11_trayFails_38 rfl ?_
        obtain rfl := Option.some.inj hf
        exact jr_ireturn hF hE dX11_trayFails_42
    · refine jr_iconst (v := 2) hF dX11_trayFails_21 rfl ?_
      obtain rfl := Option.some.inj hf
      exact jr_ireturn hF hE dX11_trayFails_22
  · refine jr_iconst (v := 1) hF dX11_trayFails_7 rfl ?_
    obtain rfl := Option.some.inj hf
    exact jr_ireturn hF hE dX11_trayFails_8
def f_X11_trayFails (σ : lt_S) (o : Nat) (x1 : Int32) (x2 : Int32) (x3 : Int32) (w : lt_W) : Option Int32 := fb_X11_trayFails_0 σ o w x1 x2 x3
set_option maxRecDepth 100000 in
theorem c_X11_trayFails {l : Launch} {D : va_G} {gA : Nat → ClassId} {s0 : State} {σ : lt_S} (hT : lt_Wt σ) {o : Nat} (h0 : lt_c σ o = 11) {x1 : Int32} {x2 : Int32} {x3 : Int32} {w : lt_W} {r : Int32} (hf : f_X11_trayFails σ o x1 x2 x3 w = some r) : lt_C l D gA s0 yX11_trayFails cX11_trayFails 4 (some .int) (lt_rm 3) [.ref (s0.heap.size + o), .int x1, .int x2, .int x3] σ w σ (some (.int r)) w := by
  refine lt_enter rfl (Nat.le_of_ble_eq_true rfl) (fun X e1 e2 e3 e4 hF hE => ?_)
  subst e1 e2 e3 e4
  exact jb_X11_trayFails_0 hT h0 hF hE _ _ _ hf

set_option maxRecDepth 100000 in
def fb_X11_seenFails_56 (σ : lt_S) (o : Nat) (w : lt_W) : Nat → Int32 → Nat → Int32 → Option Int32
  | 0, _, _, _ => none
  | n + 1, x3, x5, x6 => if (2 * x3) ≤ x6 then some 0 else lt_ck x6 (lt_len σ x5) (if (lg_cmp (lt_gl w x5 x6.toNatClampNeg) 0) < 0 then some 5 else lt_ck x6 (lt_len σ x5) (if 0 < (lg_cmp (lt_gl w x5 x6.toNatClampNeg) 20) then some 5 else lt_ck (x6 + 1) (lt_len σ x5) (if (lg_cmp (lt_gl w x5 (x6 + 1).toNatClampNeg) 0) < 0 then some 5 else lt_ck (x6 + 1) (lt_len σ x5) (if (lg_cmp (lt_gl w x5 (x6 + 1).toNatClampNeg) 7) ≤ 0 then fb_X11_seenFails_56 σ o w n x3 x5 (x6 + 2) else some 5))))
set_option maxHeartbeats 4000000 in
set_option maxRecDepth 100000 in
theorem jb_X11_seenFails_56 {X : lt_X} {σ : lt_S} (hT : lt_Wt σ) {o : Nat} (h0 : lt_c σ o = 11) {r : Int32} {w : lt_W} (hF : lt_F X cX11_seenFails RX11 7 (lt_rm 4)) (hE : lt_E X 0 0 σ (some .int) (some (.int r)) w) (n : Nat) : ∀ (x3 : Int32) (x5 : Nat) (x6 : Int32), lt_c σ x5 = 51 → fb_X11_seenFails_56 σ o w n x3 x5 x6 = some r → lt_J X 0 0 σ w 56 [(0, .ref (lt_z X + o)), (3, .int x3), (5, .ref (lt_z X + x5)), (6, .int x6)] [] := by
  induction n with
  | zero => intro x3 x5 x6 t5 hf; rw [fb_X11_seenFails_56] at hf; cases hf
  | succ n ih =>
    intro x3 x5 x6 t5 hf
    rw [fb_X11_seenFails_56] at hf
    refine jr_iload hF dX11_seenFails_56 3 rfl ?_
    refine jr_iconst (v := 2) hF dX11_seenFails_58 rfl ?_
    refine jr_iload_n hF dX11_seenFails_59 1 rfl rfl ?_
    refine jr_imul hF dX11_seenFails_60 ?_
    refine jr_icmp_ge (tgt := 120) hF dX11_seenFails_61 rfl hf (fun hf => ?_) (fun hf => ?_)
    · refine jr_iconst (v := 0) hF dX11_seenFails_120 rfl ?_
      obtain rfl := Option.some.inj hf
      exact jr_ireturn hF hE dX11_seenFails_121
    · refine jr_aload hF dX11_seenFails_64 2 rfl ?_
      refine jr_iload hF dX11_seenFails_66 3 rfl ?_
      refine jr_laload hF t5 dX11_seenFails_68 hf (fun hf => ?_)
      refine jr_lconst (v := 0) hF dX11_seenFails_69 rfl ?_
      refine jr_lcmp hF dX11_seenFails_70 ?_
      refine jr_if_lt (tgt := 112) hF dX11_seenFails_71 rfl hf (fun hf => ?_) (fun hf => ?_)
      · refine jr_iconst (v := 5) hF dX11_seenFails_112 rfl ?_
        obtain rfl := Option.some.inj hf
        exact jr_ireturn hF hE dX11_seenFails_113
      · refine jr_aload hF dX11_seenFails_74 2 rfl ?_
        refine jr_iload hF dX11_seenFails_76 3 rfl ?_
        refine jr_laload hF t5 dX11_seenFails_78 hf (fun hf => ?_)
        refine jr_ldc2 (v := 20) hF dX11_seenFails_79 kc_X11_405 ?_
        refine jr_lcmp hF dX11_seenFails_82 ?_
        refine jr_if_gt (tgt := 112) hF dX11_seenFails_83 rfl hf (fun hf => ?_) (fun hf => ?_)
        · refine jr_iconst (v := 5) hF dX11_seenFails_112 rfl ?_
          obtain rfl := Option.some.inj hf
          exact jr_ireturn hF hE dX11_seenFails_113
        · refine jr_aload hF dX11_seenFails_86 2 rfl ?_
          refine jr_iload hF dX11_seenFails_88 3 rfl ?_
          refine jr_iconst (v := 1) hF dX11_seenFails_90 rfl ?_
          refine jr_iadd hF dX11_seenFails_91 ?_
          refine jr_laload hF t5 dX11_seenFails_92 hf (fun hf => ?_)
          refine jr_lconst (v := 0) hF dX11_seenFails_93 rfl ?_
          refine jr_lcmp hF dX11_seenFails_94 ?_
          refine jr_if_lt (tgt := 112) hF dX11_seenFails_95 rfl hf (fun hf => ?_) (fun hf => ?_)
          · refine jr_iconst (v := 5) hF dX11_seenFails_112 rfl ?_
            obtain rfl := Option.some.inj hf
            exact jr_ireturn hF hE dX11_seenFails_113
          · refine jr_aload hF dX11_seenFails_98 2 rfl ?_
            refine jr_iload hF dX11_seenFails_100 3 rfl ?_
            refine jr_iconst (v := 1) hF dX11_seenFails_102 rfl ?_
            refine jr_iadd hF dX11_seenFails_103 ?_
            refine jr_laload hF t5 dX11_seenFails_104 hf (fun hf => ?_)
            refine jr_ldc2 (v := 7) hF dX11_seenFails_105 kc_X11_407 ?_
            refine jr_lcmp hF dX11_seenFails_108 ?_
            refine jr_if_le (tgt := 114) hF dX11_seenFails_109 rfl hf (fun hf => ?_) (fun hf => ?_)
            · refine jr_iinc (v := x6 + 2) (lv' := [(0, .ref (lt_z X + o)), (3, .int x3), (5, .ref (lt_z X + x5)), (6, .int (x6 + 2))]) hF dX11_seenFails_114 3 rfl rfl (by decide) [1, 2, 3, 0] rfl ?_
              refine jr_goto (tgt := 56) hF dX11_seenFails_117 rfl ?_
              exact ih _ _ _ t5 hf
            · refine jr_iconst (v := 5) hF dX11_seenFails_112 rfl ?_
              obtain rfl := Option.some.inj hf
              exact jr_ireturn hF hE dX11_seenFails_113
set_option maxRecDepth 100000 in
def fb_X11_seenFails_0 (σ : lt_S) (o : Nat) (w : lt_W) (x1 : Int32) (x2 : Int32) (x3 : Int32) : Option Int32 := Option.bind (f_X5_hasGuest σ (lt_r σ o 5) x1 w) (fun q2 => if q2 = 0 then some 1 else Option.bind (f_X11_within x3 0 20) (fun q3 => if q3 = 0 then some 1 else Option.bind (f_X11_trayFails σ o x2 0 (2 * x3) w) (fun q4 => if q4 = 0 then lt_ck x2 (lt_len σ (lt_r σ o 3)) (fb_X11_seenFails_56 σ o w lt_fu x3 (lt_r σ (lt_r σ (lt_r σ o 3) x2.toNatClampNeg) 3) 0) else some q4)))
set_option maxHeartbeats 4000000 in
set_option maxRecDepth 100000 in
theorem jb_X11_seenFails_0 {X : lt_X} {σ : lt_S} (hT : lt_Wt σ) {o : Nat} (h0 : lt_c σ o = 11) {r : Int32} {w : lt_W} (hF : lt_F X cX11_seenFails RX11 7 (lt_rm 4)) (hE : lt_E X 0 0 σ (some .int) (some (.int r)) w) : ∀ (x1 : Int32) (x2 : Int32) (x3 : Int32), fb_X11_seenFails_0 σ o w x1 x2 x3 = some r → lt_J X 0 0 σ w 0 [(0, .ref (lt_z X + o)), (1, .int x1), (2, .int x2), (3, .int x3)] [] := by
  intro x1 x2 x3 hf
  unfold fb_X11_seenFails_0 at hf
  refine jr_aload_n hF dX11_seenFails_0 0 rfl rfl ?_
  refine jr_getRT (cr := 5) hF gf_X11_30 hT h0 rfl rfl dX11_seenFails_1 (fun th1 => ?_)
  refine jr_iload_n hF dX11_seenFails_4 1 rfl rfl ?_
  obtain ⟨q2, hq2, hf⟩ := Option.bind_eq_some_iff.mp hf
  refine jr_cV11 hF ml_X11_251 (c_X5_hasGuest th1 hq2) th1 ⟨Nat.le_of_ble_eq_true rfl, Nat.le_of_ble_eq_true rfl⟩ (Nat.le_of_ble_eq_true rfl) dX11_seenFails_5 ?_
  refine jr_if_eq (tgt := 21) hF dX11_seenFails_8 rfl hf (fun hf => ?_) (fun hf => ?_)
  · refine jr_iconst (v := 1) hF dX11_seenFails_21 rfl ?_
    obtain rfl := Option.some.inj hf
    exact jr_ireturn hF hE dX11_seenFails_22
  · refine jr_iload_n hF dX11_seenFails_11 3 rfl rfl ?_
    refine jr_iconst (v := 0) hF dX11_seenFails_12 rfl ?_
    refine jr_bipush (v := 20) hF dX11_seenFails_13 rfl ?_
    obtain ⟨q3, hq3, hf⟩ := Option.bind_eq_some_iff.mp hf
    refine jr_cS31 hF ml_X11_121 (c_X11_within hq3) ⟨Nat.le_of_ble_eq_true rfl, Nat.le_of_ble_eq_true rfl⟩ (Nat.le_of_ble_eq_true rfl) dX11_seenFails_15 ?_
    refine jr_if_ne (tgt := 23) hF dX11_seenFails_18 rfl hf (fun hf => ?_) (fun hf => ?_)
    · refine jr_aload_n hF dX11_seenFails_23 0 rfl rfl ?_
      refine jr_iload_n hF dX11_seenFails_24 2 rfl rfl ?_
      refine jr_iconst (v := 0) hF dX11_seenFails_25 rfl ?_
      refine jr_iconst (v := 2) hF dX11_seenFails_26 rfl ?_
      refine jr_iload_n hF dX11_seenFails_27 3 rfl rfl ?_
      refine jr_imul hF dX11_seenFails_28 ?_
      obtain ⟨q4, hq4, hf⟩ := Option.bind_eq_some_iff.mp hf
      refine jr_cV31 hF ml_X11_136 (c_X11_trayFails hT h0 hq4) h0 ⟨Nat.le_of_ble_eq_true rfl, Nat.le_of_ble_eq_true rfl⟩ (Nat.le_of_ble_eq_true rfl) dX11_seenFails_29 ?_
      refine jr_istore (lv' := [(0, .ref (lt_z X + o)), (2, .int x2), (3, .int x3), (4, .int q4)]) hF dX11_seenFails_32 (by decide) [1, 3, 4, 0] rfl ?_
      refine jr_iload hF dX11_seenFails_34 3 rfl ?_
      refine jr_if_eq (tgt := 42) hF dX11_seenFails_36 rfl hf (fun hf => ?_) (fun hf => ?_)
      · refine jr_aload_n hF dX11_seenFails_42 0 rfl rfl ?_
        refine jr_getRT (cr := 54) hF gf_X11_15 hT h0 rfl rfl dX11_seenFails_43 (fun th5 => ?_)
        refine jr_iload_n hF dX11_seenFails_46 1 rfl rfl ?_
        refine jr_aaload (c := 54) hF hT th5 4 rfl rfl rfl dX11_seenFails_47 hf (fun th6 hf => ?_)
        have th6 : lt_c σ (lt_r σ (lt_r σ o 3) x2.toNatClampNeg) = 8 := th6
        refine jr_getRT (cr := 51) hF gf_X11_148 hT th6 rfl rfl dX11_seenFails_48 (fun th7 => ?_)
        refine jr_astore (lv' := [(0, .ref (lt_z X + o)), (3, .int x3), (5, .ref (lt_z X + (lt_r σ (lt_r σ (lt_r σ o 3) x2.toNatClampNeg) 3)))]) hF dX11_seenFails_51 (by decide) [1, 3, 0] rfl ?_
        refine jr_iconst (v := 0) hF dX11_seenFails_53 rfl ?_
        refine jr_istore (lv' := [(0, .ref (lt_z X + o)), (3, .int x3), (5, .ref (lt_z X + (lt_r σ (lt_r σ (lt_r σ o 3) x2.toNatClampNeg) 3))), (6, .int 0)]) hF dX11_seenFails_54 (by decide) [1, 2, 3, 0] rfl ?_
        exact jb_X11_seenFails_56 hT h0 hF hE lt_fu _ _ _ th7 hf
      · refine jr_iload hF dX11_seenFails_39 3 rfl ?_
        obtain rfl := Option.some.inj hf
        exact jr_ireturn hF hE dX11_seenFails_41
    · refine jr_iconst (v := 1) hF dX11_seenFails_21 rfl ?_
      obtain rfl := Option.some.inj hf
      exact jr_ireturn hF hE dX11_seenFails_22
def f_X11_seenFails (σ : lt_S) (o : Nat) (x1 : Int32) (x2 : Int32) (x3 : Int32) (w : lt_W) : Option Int32 := fb_X11_seenFails_0 σ o w x1 x2 x3
set_option maxRecDepth 100000 in
theorem c_X11_seenFails {l : Launch} {D : va_G} {gA : Nat → ClassId} {s0 : State} {σ : lt_S} (hT : lt_Wt σ) {o : Nat} (h0 : lt_c σ o = 11) {x1 : Int32} {x2 : Int32} {x3 : Int32} {w : lt_W} {r : Int32} (hf : f_X11_seenFails σ o x1 x2 x3 w = some r) : lt_C l D gA s0 yX11_seenFails cX11_seenFails 7 (some .int) (lt_rm 4) [.ref (s0.heap.size + o), .int x1, .int x2, .int x3] σ w σ (some (.int r)) w := by
  refine lt_enter rfl (Nat.le_of_ble_eq_true rfl) (fun X e1 e2 e3 e4 hF hE => ?_)
  subst e1 e2 e3 e4
  exact jb_X11_seenFails_0 hT h0 hF hE _ _ _ hf

set_option maxRecDepth 100000 in
def fb_X11_none_0 (σ : lt_S) (o : Nat) (x1 : Int32) (w : lt_W) : Option (Int32 × lt_W) := lt_let (lt_si w o 0 x1) (fun w1 => some ((-1), w1))
set_option maxHeartbeats 4000000 in
set_option maxRecDepth 100000 in
theorem jb_X11_none_0 {X : lt_X} {σ : lt_S} {o : Nat} (h0 : lt_c σ o = 11) {r : Int32 × lt_W} (hF : lt_F X cX11_none RX11 2 (lt_rm 1)) (hE : lt_E X 0 0 σ (some .int) (some (.int r.1)) r.2) : ∀ (x1 : Int32) (w : lt_W), fb_X11_none_0 σ o x1 w = some r → lt_J X 0 0 σ w 0 [(0, .ref (lt_z X + o)), (1, .int x1)] [] := by
  intro x1 w hf
  unfold fb_X11_none_0 at hf
  refine jr_aload_n hF dX11_none_0 0 rfl rfl ?_
  refine jr_iload_n hF dX11_none_1 1 rfl rfl ?_
  refine jr_putI hF pf_X11_110 h0 dX11_none_2 ?_
  refine jr_letW hf (fun w1 hf => ?_)
  refine jr_iconst (v := (-1)) hF dX11_none_5 rfl ?_
  obtain rfl := Option.some.inj hf
  exact jr_ireturn hF hE dX11_none_6
def f_X11_none (σ : lt_S) (o : Nat) (x1 : Int32) (w : lt_W) : Option (Int32 × lt_W) := fb_X11_none_0 σ o x1 w
set_option maxRecDepth 100000 in
theorem c_X11_none {l : Launch} {D : va_G} {gA : Nat → ClassId} {s0 : State} {σ : lt_S} {o : Nat} (h0 : lt_c σ o = 11) {x1 : Int32} {w : lt_W} {r : Int32 × lt_W} (hf : f_X11_none σ o x1 w = some r) : lt_C l D gA s0 yX11_none cX11_none 2 (some .int) (lt_rm 1) [.ref (s0.heap.size + o), .int x1] σ w σ (some (.int r.1)) r.2 := by
  refine lt_enter rfl (Nat.le_of_ble_eq_true rfl) (fun X e1 e2 e3 e4 hF hE => ?_)
  subst e1 e2 e3 e4
  exact jb_X11_none_0 h0 hF hE _ _ hf

set_option maxRecDepth 100000 in
def fb_X11_given_0 (σ : lt_S) (o : Nat) (x1 : Int32) (w : lt_W) : Option (Int32 × lt_W) := lt_let (lt_si w o 0 0) (fun w1 => some (x1, w1))
set_option maxHeartbeats 4000000 in
set_option maxRecDepth 100000 in
theorem jb_X11_given_0 {X : lt_X} {σ : lt_S} {o : Nat} (h0 : lt_c σ o = 11) {r : Int32 × lt_W} (hF : lt_F X cX11_given RX11 2 (lt_rm 1)) (hE : lt_E X 0 0 σ (some .int) (some (.int r.1)) r.2) : ∀ (x1 : Int32) (w : lt_W), fb_X11_given_0 σ o x1 w = some r → lt_J X 0 0 σ w 0 [(0, .ref (lt_z X + o)), (1, .int x1)] [] := by
  intro x1 w hf
  unfold fb_X11_given_0 at hf
  refine jr_aload_n hF dX11_given_0 0 rfl rfl ?_
  refine jr_iconst (v := 0) hF dX11_given_1 rfl ?_
  refine jr_putI hF pf_X11_110 h0 dX11_given_2 ?_
  refine jr_letW hf (fun w1 hf => ?_)
  refine jr_iload_n hF dX11_given_5 1 rfl rfl ?_
  obtain rfl := Option.some.inj hf
  exact jr_ireturn hF hE dX11_given_6
def f_X11_given (σ : lt_S) (o : Nat) (x1 : Int32) (w : lt_W) : Option (Int32 × lt_W) := fb_X11_given_0 σ o x1 w
set_option maxRecDepth 100000 in
theorem c_X11_given {l : Launch} {D : va_G} {gA : Nat → ClassId} {s0 : State} {σ : lt_S} {o : Nat} (h0 : lt_c σ o = 11) {x1 : Int32} {w : lt_W} {r : Int32 × lt_W} (hf : f_X11_given σ o x1 w = some r) : lt_C l D gA s0 yX11_given cX11_given 2 (some .int) (lt_rm 1) [.ref (s0.heap.size + o), .int x1] σ w σ (some (.int r.1)) r.2 := by
  refine lt_enter rfl (Nat.le_of_ble_eq_true rfl) (fun X e1 e2 e3 e4 hF hE => ?_)
  subst e1 e2 e3 e4
  exact jb_X11_given_0 h0 hF hE _ _ hf

set_option maxRecDepth 100000 in
def fb_X11_ask_0 (σ : lt_S) (o : Nat) (x1 : Int32) (x2 : Int32) (x3 : Int32) (w : lt_W) : Option (Int32 × lt_W) := Option.bind (f_X11_seenFails σ o x1 x2 x3 w) (fun q1 => if q1 = 0 then lt_ck x2 (lt_len σ (lt_r σ o 3)) (Option.bind (f_X4_look σ (lt_r σ o 11) x1 (lt_r σ (lt_r σ o 3) x2.toNatClampNeg) x3 w) (fun q5 => if 2 ≤ (lt_gi q5 (lt_r σ o 11) 4) then Option.bind (f_X4_partingDay σ (lt_r σ o 11) q5) (fun q8 => Option.bind (f_X11_given σ o q8 q5) (fun q9 => some (q9.1, q9.2))) else Option.bind (f_X11_none σ o 6 q5) (fun q10 => some (q10.1, q10.2)))) else Option.bind (f_X11_none σ o q1 w) (fun q11 => some (q11.1, q11.2)))
set_option maxHeartbeats 4000000 in
set_option maxRecDepth 100000 in
theorem jb_X11_ask_0 {X : lt_X} {σ : lt_S} (hT : lt_Wt σ) {o : Nat} (h0 : lt_c σ o = 11) {r : Int32 × lt_W} (hF : lt_F X cX11_ask RX11 5 (lt_rm 7)) (hE : lt_E X 0 0 σ (some .int) (some (.int r.1)) r.2) : ∀ (x1 : Int32) (x2 : Int32) (x3 : Int32) (w : lt_W), fb_X11_ask_0 σ o x1 x2 x3 w = some r → lt_J X 0 0 σ w 0 [(0, .ref (lt_z X + o)), (1, .int x1), (2, .int x2), (3, .int x3)] [] := by
  intro x1 x2 x3 w hf
  unfold fb_X11_ask_0 at hf
  refine jr_aload_n hF dX11_ask_0 0 rfl rfl ?_
  refine jr_iload_n hF dX11_ask_1 1 rfl rfl ?_
  refine jr_iload_n hF dX11_ask_2 2 rfl rfl ?_
  refine jr_iload_n hF dX11_ask_3 3 rfl rfl ?_
  obtain ⟨q1, hq1, hf⟩ := Option.bind_eq_some_iff.mp hf
  refine jr_cV31 hF ml_X11_337 (c_X11_seenFails hT h0 hq1) h0 ⟨Nat.le_of_ble_eq_true rfl, Nat.le_of_ble_eq_true rfl⟩ (Nat.le_of_ble_eq_true rfl) dX11_ask_4 ?_
  refine jr_istore (lv' := [(0, .ref (lt_z X + o)), (1, .int x1), (2, .int x2), (3, .int x3), (4, .int q1)]) hF dX11_ask_7 (by decide) [1, 2, 3, 4, 0] rfl ?_
  refine jr_iload hF dX11_ask_9 4 rfl ?_
  refine jr_if_eq (tgt := 21) hF dX11_ask_11 rfl hf (fun hf => ?_) (fun hf => ?_)
  · refine jr_aload_n hF dX11_ask_21 0 rfl rfl ?_
    refine jr_getRT (cr := 4) hF gf_X11_78 hT h0 rfl rfl dX11_ask_22 (fun th2 => ?_)
    refine jr_iload_n hF dX11_ask_25 1 rfl rfl ?_
    refine jr_aload_n hF dX11_ask_26 0 rfl rfl ?_
    refine jr_getRT (cr := 54) hF gf_X11_15 hT h0 rfl rfl dX11_ask_27 (fun th3 => ?_)
    refine jr_iload_n hF dX11_ask_30 2 rfl rfl ?_
    refine jr_aaload (c := 54) hF hT th3 4 rfl rfl rfl dX11_ask_31 hf (fun th4 hf => ?_)
    have th4 : lt_c σ (lt_r σ (lt_r σ o 3) x2.toNatClampNeg) = 8 := th4
    refine jr_iload_n hF dX11_ask_32 3 rfl rfl ?_
    obtain ⟨q5, hq5, hf⟩ := Option.bind_eq_some_iff.mp hf
    refine jr_cV3v hF ml_X11_340 (c_X4_look hT th2 th4 hq5) th2 ⟨Nat.le_of_ble_eq_true rfl, Nat.le_of_ble_eq_true rfl⟩ (Nat.le_of_ble_eq_true rfl) dX11_ask_33 ?_
    refine jr_aload_n hF dX11_ask_36 0 rfl rfl ?_
    refine jr_getRT (cr := 4) hF gf_X11_78 hT h0 rfl rfl dX11_ask_37 (fun th6 => ?_)
    refine jr_getI hF gf_X11_344 th6 dX11_ask_40 ?_
    refine jr_iconst (v := 2) hF dX11_ask_43 rfl ?_
    refine jr_icmp_ge (tgt := 54) hF dX11_ask_44 rfl hf (fun hf => ?_) (fun hf => ?_)
    · refine jr_aload_n hF dX11_ask_54 0 rfl rfl ?_
      refine jr_aload_n hF dX11_ask_55 0 rfl rfl ?_
      refine jr_getRT (cr := 4) hF gf_X11_78 hT h0 rfl rfl dX11_ask_56 (fun th7 => ?_)
      obtain ⟨q8, hq8, hf⟩ := Option.bind_eq_some_iff.mp hf
      refine jr_cV01 hF ml_X11_353 (c_X4_partingDay hT th7 hq8) th7 ⟨Nat.le_of_ble_eq_true rfl, Nat.le_of_ble_eq_true rfl⟩ (Nat.le_of_ble_eq_true rfl) dX11_ask_59 ?_
      obtain ⟨q9, hq9, hf⟩ := Option.bind_eq_some_iff.mp hf
      refine jr_cV11 hF ml_X11_194 (c_X11_given h0 hq9) h0 ⟨Nat.le_of_ble_eq_true rfl, Nat.le_of_ble_eq_true rfl⟩ (Nat.le_of_ble_eq_true rfl) dX11_ask_62 ?_
      obtain rfl := Option.some.inj hf
      exact jr_ireturn hF hE dX11_ask_65
    · refine jr_aload_n hF dX11_ask_47 0 rfl rfl ?_
      refine jr_bipush (v := 6) hF dX11_ask_48 rfl ?_
      obtain ⟨q10, hq10, hf⟩ := Option.bind_eq_some_iff.mp hf
      refine jr_cV11 hF ml_X11_144 (c_X11_none h0 hq10) h0 ⟨Nat.le_of_ble_eq_true rfl, Nat.le_of_ble_eq_true rfl⟩ (Nat.le_of_ble_eq_true rfl) dX11_ask_50 ?_
      obtain rfl := Option.some.inj hf
      exact jr_ireturn hF hE dX11_ask_53
  · refine jr_aload_n hF dX11_ask_14 0 rfl rfl ?_
    refine jr_iload hF dX11_ask_15 4 rfl ?_
    obtain ⟨q11, hq11, hf⟩ := Option.bind_eq_some_iff.mp hf
    refine jr_cV11 hF ml_X11_144 (c_X11_none h0 hq11) h0 ⟨Nat.le_of_ble_eq_true rfl, Nat.le_of_ble_eq_true rfl⟩ (Nat.le_of_ble_eq_true rfl) dX11_ask_17 ?_
    obtain rfl := Option.some.inj hf
    exact jr_ireturn hF hE dX11_ask_20
def f_X11_ask (σ : lt_S) (o : Nat) (x1 : Int32) (x2 : Int32) (x3 : Int32) (w : lt_W) : Option (Int32 × lt_W) := fb_X11_ask_0 σ o x1 x2 x3 w
set_option maxRecDepth 100000 in
theorem c_X11_ask {l : Launch} {D : va_G} {gA : Nat → ClassId} {s0 : State} {σ : lt_S} (hT : lt_Wt σ) {o : Nat} (h0 : lt_c σ o = 11) {x1 : Int32} {x2 : Int32} {x3 : Int32} {w : lt_W} {r : Int32 × lt_W} (hf : f_X11_ask σ o x1 x2 x3 w = some r) : lt_C l D gA s0 yX11_ask cX11_ask 5 (some .int) (lt_rm 7) [.ref (s0.heap.size + o), .int x1, .int x2, .int x3] σ w σ (some (.int r.1)) r.2 := by
  refine lt_enter rfl (Nat.le_of_ble_eq_true rfl) (fun X e1 e2 e3 e4 hF hE => ?_)
  subst e1 e2 e3 e4
  exact jb_X11_ask_0 hT h0 hF hE _ _ _ _ hf

set_option maxRecDepth 100000 in
def fb_X11_bake_0 (σ : lt_S) (o : Nat) (x1 : Int32) (w : lt_W) : Option (Int32 × lt_W) := Option.bind (f_X11_within x1 1 60) (fun q1 => if q1 = 0 then Option.bind (f_X11_none σ o 1 w) (fun q6 => some (q6.1, q6.2)) else lt_let (lt_si w (lt_r σ o 5) 4 x1) (fun w4 => Option.bind (f_X11_given σ o (lt_gi w (lt_r σ o 5) 4) w4) (fun q5 => some (q5.1, q5.2))))
set_option maxHeartbeats 4000000 in
set_option maxRecDepth 100000 in
theorem jb_X11_bake_0 {X : lt_X} {σ : lt_S} (hT : lt_Wt σ) {o : Nat} (h0 : lt_c σ o = 11) {r : Int32 × lt_W} (hF : lt_F X cX11_bake RX11 3 (lt_rm 2)) (hE : lt_E X 0 0 σ (some .int) (some (.int r.1)) r.2) : ∀ (x1 : Int32) (w : lt_W), fb_X11_bake_0 σ o x1 w = some r → lt_J X 0 0 σ w 0 [(0, .ref (lt_z X + o)), (1, .int x1)] [] := by
  intro x1 w hf
  unfold fb_X11_bake_0 at hf
  refine jr_iload_n hF dX11_bake_0 1 rfl rfl ?_
  refine jr_iconst (v := 1) hF dX11_bake_1 rfl ?_
  refine jr_bipush (v := 60) hF dX11_bake_2 rfl ?_
  obtain ⟨q1, hq1, hf⟩ := Option.bind_eq_some_iff.mp hf
  refine jr_cS31 hF ml_X11_121 (c_X11_within hq1) ⟨Nat.le_of_ble_eq_true rfl, Nat.le_of_ble_eq_true rfl⟩ (Nat.le_of_ble_eq_true rfl) dX11_bake_4 ?_
  refine jr_if_ne (tgt := 16) hF dX11_bake_7 rfl hf (fun hf => ?_) (fun hf => ?_)
  · refine jr_aload_n hF dX11_bake_16 0 rfl rfl ?_
    refine jr_getRT (cr := 5) hF gf_X11_30 hT h0 rfl rfl dX11_bake_17 (fun th2 => ?_)
    refine jr_getI hF gf_X11_229 th2 dX11_bake_20 ?_
    refine jr_istore_n (lv' := [(0, .ref (lt_z X + o)), (1, .int x1), (2, .int (lt_gi w (lt_r σ o 5) 4))]) hF dX11_bake_23 rfl (by decide) [1, 2, 0] rfl ?_
    refine jr_aload_n hF dX11_bake_24 0 rfl rfl ?_
    refine jr_getRT (cr := 5) hF gf_X11_30 hT h0 rfl rfl dX11_bake_25 (fun th3 => ?_)
    refine jr_iload_n hF dX11_bake_28 1 rfl rfl ?_
    refine jr_putI hF pf_X11_229 th3 dX11_bake_29 ?_
    refine jr_letW hf (fun w4 hf => ?_)
    refine jr_aload_n hF dX11_bake_32 0 rfl rfl ?_
    refine jr_iload_n hF dX11_bake_33 2 rfl rfl ?_
    obtain ⟨q5, hq5, hf⟩ := Option.bind_eq_some_iff.mp hf
    refine jr_cV11 hF ml_X11_194 (c_X11_given h0 hq5) h0 ⟨Nat.le_of_ble_eq_true rfl, Nat.le_of_ble_eq_true rfl⟩ (Nat.le_of_ble_eq_true rfl) dX11_bake_34 ?_
    obtain rfl := Option.some.inj hf
    exact jr_ireturn hF hE dX11_bake_37
  · refine jr_aload_n hF dX11_bake_10 0 rfl rfl ?_
    refine jr_iconst (v := 1) hF dX11_bake_11 rfl ?_
    obtain ⟨q6, hq6, hf⟩ := Option.bind_eq_some_iff.mp hf
    refine jr_cV11 hF ml_X11_144 (c_X11_none h0 hq6) h0 ⟨Nat.le_of_ble_eq_true rfl, Nat.le_of_ble_eq_true rfl⟩ (Nat.le_of_ble_eq_true rfl) dX11_bake_12 ?_
    obtain rfl := Option.some.inj hf
    exact jr_ireturn hF hE dX11_bake_15
def f_X11_bake (σ : lt_S) (o : Nat) (x1 : Int32) (w : lt_W) : Option (Int32 × lt_W) := fb_X11_bake_0 σ o x1 w
set_option maxRecDepth 100000 in
theorem c_X11_bake {l : Launch} {D : va_G} {gA : Nat → ClassId} {s0 : State} {σ : lt_S} (hT : lt_Wt σ) {o : Nat} (h0 : lt_c σ o = 11) {x1 : Int32} {w : lt_W} {r : Int32 × lt_W} (hf : f_X11_bake σ o x1 w = some r) : lt_C l D gA s0 yX11_bake cX11_bake 3 (some .int) (lt_rm 2) [.ref (s0.heap.size + o), .int x1] σ w σ (some (.int r.1)) r.2 := by
  refine lt_enter rfl (Nat.le_of_ble_eq_true rfl) (fun X e1 e2 e3 e4 hF hE => ?_)
  subst e1 e2 e3 e4
  exact jb_X11_bake_0 hT h0 hF hE _ _ hf

set_option maxRecDepth 100000 in
def fb_X11_bottom_0 (σ : lt_S) (o : Nat) (w : lt_W) : Option Int64 := some (lt_gl w o 2)
set_option maxHeartbeats 4000000 in
set_option maxRecDepth 100000 in
theorem jb_X11_bottom_0 {X : lt_X} {σ : lt_S} {o : Nat} (h0 : lt_c σ o = 11) {r : Int64} {w : lt_W} (hF : lt_F X cX11_bottom RX11 1 (lt_rm 1)) (hE : lt_E X 0 0 σ (some .long) (some (.long r)) w) : fb_X11_bottom_0 σ o w = some r → lt_J X 0 0 σ w 0 [(0, .ref (lt_z X + o))] [] := by
  intro  hf
  unfold fb_X11_bottom_0 at hf
  refine jr_aload_n hF dX11_bottom_0 0 rfl rfl ?_
  refine jr_getL hF gf_X11_7 h0 dX11_bottom_1 ?_
  obtain rfl := Option.some.inj hf
  exact jr_lreturn hF hE dX11_bottom_4
def f_X11_bottom (σ : lt_S) (o : Nat) (w : lt_W) : Option Int64 := fb_X11_bottom_0 σ o w
set_option maxRecDepth 100000 in
theorem c_X11_bottom {l : Launch} {D : va_G} {gA : Nat → ClassId} {s0 : State} {σ : lt_S} {o : Nat} (h0 : lt_c σ o = 11) {w : lt_W} {r : Int64} (hf : f_X11_bottom σ o w = some r) : lt_C l D gA s0 yX11_bottom cX11_bottom 1 (some .long) (lt_rm 1) [.ref (s0.heap.size + o)] σ w σ (some (.long r)) w := by
  refine lt_enter rfl (Nat.le_of_ble_eq_true rfl) (fun X e1 e2 e3 e4 hF hE => ?_)
  subst e1 e2 e3 e4
  exact jb_X11_bottom_0 h0 hF hE hf

set_option maxRecDepth 100000 in
def fb_X11_butter_64 (σ : lt_S) (o : Nat) (y1 : Int32) (w : lt_W) : Option (Int32 × lt_W) := Option.bind (f_X11_given σ o y1 w) (fun q1 => some (q1.1, q1.2))
set_option maxHeartbeats 4000000 in
set_option maxRecDepth 100000 in
theorem jb_X11_butter_64 {X : lt_X} {σ : lt_S} (hT : lt_Wt σ) {o : Nat} (h0 : lt_c σ o = 11) {r : Int32 × lt_W} (hF : lt_F X cX11_butter RX11 4 (lt_rm 3)) (hE : lt_E X 0 0 σ (some .int) (some (.int r.1)) r.2) : ∀ (y1 : Int32) (w : lt_W), fb_X11_butter_64 σ o y1 w = some r → lt_J X 0 0 σ w 64 [(0, .ref (lt_z X + o))] [.int y1, .ref (lt_z X + o)] := by
  intro y1 w hf
  unfold fb_X11_butter_64 at hf
  obtain ⟨q1, hq1, hf⟩ := Option.bind_eq_some_iff.mp hf
  refine jr_cV11 hF ml_X11_194 (c_X11_given h0 hq1) h0 ⟨Nat.le_of_ble_eq_true rfl, Nat.le_of_ble_eq_true rfl⟩ (Nat.le_of_ble_eq_true rfl) dX11_butter_64 ?_
  obtain rfl := Option.some.inj hf
  exact jr_ireturn hF hE dX11_butter_67
set_option maxRecDepth 100000 in
def fb_X11_butter_0 (σ : lt_S) (o : Nat) (x1 : Int32) (x2 : Int32) (w : lt_W) : Option (Int32 × lt_W) := Option.bind (f_X11_areTwo σ o x1 x2 w) (fun q1 => if q1 = 0 then Option.bind (f_X11_none σ o 1 w) (fun q10 => some (q10.1, q10.2)) else lt_ck x1 (lt_len σ (lt_r σ (lt_r σ o 5) 15)) (lt_let (lt_gi w (lt_r σ (lt_r σ o 5) 15) x1.toNatClampNeg) (fun z4 => if z4 = x2 then Option.bind (f_X11_none σ o 7 w) (fun q9 => some (q9.1, q9.2)) else lt_ck x1 (lt_len σ (lt_r σ (lt_r σ o 5) 15)) (lt_let (lt_si w (lt_r σ (lt_r σ o 5) 15) x1.toNatClampNeg x2) (fun w7 => if z4 = (-1) then fb_X11_butter_64 σ o (lt_gi w7 (lt_r σ o 5) 0) w7 else fb_X11_butter_64 σ o z4 w7)))))
set_option maxHeartbeats 4000000 in
set_option maxRecDepth 100000 in
theorem jb_X11_butter_0 {X : lt_X} {σ : lt_S} (hT : lt_Wt σ) {o : Nat} (h0 : lt_c σ o = 11) {r : Int32 × lt_W} (hF : lt_F X cX11_butter RX11 4 (lt_rm 3)) (hE : lt_E X 0 0 σ (some .int) (some (.int r.1)) r.2) : ∀ (x1 : Int32) (x2 : Int32) (w : lt_W), fb_X11_butter_0 σ o x1 x2 w = some r → lt_J X 0 0 σ w 0 [(0, .ref (lt_z X + o)), (1, .int x1), (2, .int x2)] [] := by
  intro x1 x2 w hf
  unfold fb_X11_butter_0 at hf
  refine jr_aload_n hF dX11_butter_0 0 rfl rfl ?_
  refine jr_iload_n hF dX11_butter_1 1 rfl rfl ?_
  refine jr_iload_n hF dX11_butter_2 2 rfl rfl ?_
  obtain ⟨q1, hq1, hf⟩ := Option.bind_eq_some_iff.mp hf
  refine jr_cV21 hF ml_X11_299 (c_X11_areTwo hT h0 hq1) h0 ⟨Nat.le_of_ble_eq_true rfl, Nat.le_of_ble_eq_true rfl⟩ (Nat.le_of_ble_eq_true rfl) dX11_butter_3 ?_
  refine jr_if_ne (tgt := 15) hF dX11_butter_6 rfl hf (fun hf => ?_) (fun hf => ?_)
  · refine jr_aload_n hF dX11_butter_15 0 rfl rfl ?_
    refine jr_getRT (cr := 5) hF gf_X11_30 hT h0 rfl rfl dX11_butter_16 (fun th2 => ?_)
    refine jr_getRT (cr := 50) hF gf_X11_272 hT th2 rfl rfl dX11_butter_19 (fun th3 => ?_)
    refine jr_iload_n hF dX11_butter_22 1 rfl rfl ?_
    refine jr_iaload hF th3 dX11_butter_23 hf (fun hf => ?_)
    refine jr_letI hf (fun z4 hf => ?_)
    refine jr_istore_n (lv' := [(0, .ref (lt_z X + o)), (1, .int x1), (2, .int x2), (3, .int z4)]) hF dX11_butter_24 rfl (by decide) [1, 2, 3, 0] rfl ?_
    refine jr_iload_n hF dX11_butter_25 3 rfl rfl ?_
    refine jr_iload_n hF dX11_butter_26 2 rfl rfl ?_
    refine jr_icmp_ne (tgt := 37) hF dX11_butter_27 rfl hf (fun hf => ?_) (fun hf => ?_)
    · refine jr_aload_n hF dX11_butter_37 0 rfl rfl ?_
      refine jr_getRT (cr := 5) hF gf_X11_30 hT h0 rfl rfl dX11_butter_38 (fun th5 => ?_)
      refine jr_getRT (cr := 50) hF gf_X11_272 hT th5 rfl rfl dX11_butter_41 (fun th6 => ?_)
      refine jr_iload_n hF dX11_butter_44 1 rfl rfl ?_
      refine jr_iload_n hF dX11_butter_45 2 rfl rfl ?_
      refine jr_iastore hF th6 dX11_butter_46 hf (fun hf => ?_)
      refine jr_letW hf (fun w7 hf => ?_)
      refine jr_aload_n hF dX11_butter_47 0 rfl rfl ?_
      refine jr_iload_n hF dX11_butter_48 3 rfl rfl ?_
      refine jr_iconst (v := (-1)) hF dX11_butter_49 rfl ?_
      refine jr_icmp_ne (tgt := 63) hF dX11_butter_50 rfl hf (fun hf => ?_) (fun hf => ?_)
      · refine jr_iload_n hF dX11_butter_63 3 rfl rfl ?_
        refine jr_sub [0] rfl ?_
        exact jb_X11_butter_64 hT h0 hF hE _ _ hf
      · refine jr_aload_n hF dX11_butter_53 0 rfl rfl ?_
        refine jr_getRT (cr := 5) hF gf_X11_30 hT h0 rfl rfl dX11_butter_54 (fun th8 => ?_)
        refine jr_getI hF gf_X11_191 th8 dX11_butter_57 ?_
        refine jr_goto (tgt := 64) hF dX11_butter_60 rfl ?_
        refine jr_sub [0] rfl ?_
        exact jb_X11_butter_64 hT h0 hF hE _ _ hf
    · refine jr_aload_n hF dX11_butter_30 0 rfl rfl ?_
      refine jr_bipush (v := 7) hF dX11_butter_31 rfl ?_
      obtain ⟨q9, hq9, hf⟩ := Option.bind_eq_some_iff.mp hf
      refine jr_cV11 hF ml_X11_144 (c_X11_none h0 hq9) h0 ⟨Nat.le_of_ble_eq_true rfl, Nat.le_of_ble_eq_true rfl⟩ (Nat.le_of_ble_eq_true rfl) dX11_butter_33 ?_
      obtain rfl := Option.some.inj hf
      exact jr_ireturn hF hE dX11_butter_36
  · refine jr_aload_n hF dX11_butter_9 0 rfl rfl ?_
    refine jr_iconst (v := 1) hF dX11_butter_10 rfl ?_
    obtain ⟨q10, hq10, hf⟩ := Option.bind_eq_some_iff.mp hf
    refine jr_cV11 hF ml_X11_144 (c_X11_none h0 hq10) h0 ⟨Nat.le_of_ble_eq_true rfl, Nat.le_of_ble_eq_true rfl⟩ (Nat.le_of_ble_eq_true rfl) dX11_butter_11 ?_
    obtain rfl := Option.some.inj hf
    exact jr_ireturn hF hE dX11_butter_14
def f_X11_butter (σ : lt_S) (o : Nat) (x1 : Int32) (x2 : Int32) (w : lt_W) : Option (Int32 × lt_W) := fb_X11_butter_0 σ o x1 x2 w
set_option maxRecDepth 100000 in
theorem c_X11_butter {l : Launch} {D : va_G} {gA : Nat → ClassId} {s0 : State} {σ : lt_S} (hT : lt_Wt σ) {o : Nat} (h0 : lt_c σ o = 11) {x1 : Int32} {x2 : Int32} {w : lt_W} {r : Int32 × lt_W} (hf : f_X11_butter σ o x1 x2 w = some r) : lt_C l D gA s0 yX11_butter cX11_butter 4 (some .int) (lt_rm 3) [.ref (s0.heap.size + o), .int x1, .int x2] σ w σ (some (.int r.1)) r.2 := by
  refine lt_enter rfl (Nat.le_of_ble_eq_true rfl) (fun X e1 e2 e3 e4 hF hE => ?_)
  subst e1 e2 e3 e4
  exact jb_X11_butter_0 hT h0 hF hE _ _ _ hf

set_option maxRecDepth 100000 in
def fb_X11_refused_0 (σ : lt_S) (o : Nat) (x1 : Int32) (w : lt_W) : Option (Int32 × lt_W) := lt_let (lt_si w o 0 x1) (fun w1 => some (0, w1))
set_option maxHeartbeats 4000000 in
set_option maxRecDepth 100000 in
theorem jb_X11_refused_0 {X : lt_X} {σ : lt_S} {o : Nat} (h0 : lt_c σ o = 11) {r : Int32 × lt_W} (hF : lt_F X cX11_refused RX11 2 (lt_rm 1)) (hE : lt_E X 0 0 σ (some .boolean) (some (.int r.1)) r.2) : ∀ (x1 : Int32) (w : lt_W), fb_X11_refused_0 σ o x1 w = some r → lt_J X 0 0 σ w 0 [(0, .ref (lt_z X + o)), (1, .int x1)] [] := by
  intro x1 w hf
  unfold fb_X11_refused_0 at hf
  refine jr_aload_n hF dX11_refused_0 0 rfl rfl ?_
  refine jr_iload_n hF dX11_refused_1 1 rfl rfl ?_
  refine jr_putI hF pf_X11_110 h0 dX11_refused_2 ?_
  refine jr_letW hf (fun w1 hf => ?_)
  refine jr_iconst (v := 0) hF dX11_refused_5 rfl ?_
  obtain rfl := Option.some.inj hf
  exact jr_zreturn hF hE (Or.inl rfl) dX11_refused_6
def f_X11_refused (σ : lt_S) (o : Nat) (x1 : Int32) (w : lt_W) : Option (Int32 × lt_W) := fb_X11_refused_0 σ o x1 w
set_option maxRecDepth 100000 in
theorem c_X11_refused {l : Launch} {D : va_G} {gA : Nat → ClassId} {s0 : State} {σ : lt_S} {o : Nat} (h0 : lt_c σ o = 11) {x1 : Int32} {w : lt_W} {r : Int32 × lt_W} (hf : f_X11_refused σ o x1 w = some r) : lt_C l D gA s0 yX11_refused cX11_refused 2 (some .boolean) (lt_rm 1) [.ref (s0.heap.size + o), .int x1] σ w σ (some (.int r.1)) r.2 := by
  refine lt_enter rfl (Nat.le_of_ble_eq_true rfl) (fun X e1 e2 e3 e4 hF hE => ?_)
  subst e1 e2 e3 e4
  exact jb_X11_refused_0 h0 hF hE _ _ hf

set_option maxRecDepth 100000 in
def fb_X11_power_5 : Nat → Int64 → Int32 → Int64 → Int32 → Option Int64
  | 0, _, _, _, _ => none
  | n + 1, x0, x2, x3, x5 => if x2 ≤ x5 then some x3 else fb_X11_power_5 n x0 x2 (x3 * x0) (x5 + 1)
set_option maxHeartbeats 4000000 in
set_option maxRecDepth 100000 in
theorem jb_X11_power_5 {X : lt_X} {σ : lt_S} {r : Int64} {w : lt_W} (hF : lt_F X cX11_power RX11 6 (lt_rm 1)) (hE : lt_E X 0 0 σ (some .long) (some (.long r)) w) (n : Nat) : ∀ (x0 : Int64) (x2 : Int32) (x3 : Int64) (x5 : Int32), fb_X11_power_5 n x0 x2 x3 x5 = some r → lt_J X 0 0 σ w 5 [(0, .long x0), (2, .int x2), (3, .long x3), (5, .int x5)] [] := by
  induction n with
  | zero => intro x0 x2 x3 x5 hf; rw [fb_X11_power_5] at hf; cases hf
  | succ n ih =>
    intro x0 x2 x3 x5 hf
    rw [fb_X11_power_5] at hf
    refine jr_iload hF dX11_power_5 3 rfl ?_
    refine jr_iload_n hF dX11_power_7 1 rfl rfl ?_
    refine jr_icmp_ge (tgt := 21) hF dX11_power_8 rfl hf (fun hf => ?_) (fun hf => ?_)
    · refine jr_lload_n hF dX11_power_21 2 rfl rfl ?_
      obtain rfl := Option.some.inj hf
      exact jr_lreturn hF hE dX11_power_22
    · refine jr_lload_n hF dX11_power_11 2 rfl rfl ?_
      refine jr_lload_n hF dX11_power_12 0 rfl rfl ?_
      refine jr_lmul hF dX11_power_13 ?_
      refine jr_lstore_n (lv' := [(0, .long x0), (2, .int x2), (3, .long (x3 * x0)), (5, .int x5)]) hF dX11_power_14 rfl (by decide) [1, 2, 0, 3] rfl ?_
      refine jr_iinc (v := x5 + 1) (lv' := [(0, .long x0), (2, .int x2), (3, .long (x3 * x0)), (5, .int (x5 + 1))]) hF dX11_power_15 3 rfl rfl (by decide) [1, 2, 3, 0] rfl ?_
      refine jr_goto (tgt := 5) hF dX11_power_18 rfl ?_
      exact ih _ _ _ _ hf
set_option maxRecDepth 100000 in
def fb_X11_power_0 (x0 : Int64) (x2 : Int32) : Option Int64 := fb_X11_power_5 lt_fu x0 x2 1 0
set_option maxHeartbeats 4000000 in
set_option maxRecDepth 100000 in
theorem jb_X11_power_0 {X : lt_X} {σ : lt_S} {r : Int64} {w : lt_W} (hF : lt_F X cX11_power RX11 6 (lt_rm 1)) (hE : lt_E X 0 0 σ (some .long) (some (.long r)) w) : ∀ (x0 : Int64) (x2 : Int32), fb_X11_power_0 x0 x2 = some r → lt_J X 0 0 σ w 0 [(0, .long x0), (2, .int x2)] [] := by
  intro x0 x2 hf
  unfold fb_X11_power_0 at hf
  refine jr_lconst (v := 1) hF dX11_power_0 rfl ?_
  refine jr_lstore_n (lv' := [(0, .long x0), (2, .int x2), (3, .long 1)]) hF dX11_power_1 rfl (by decide) [1, 2, 0] rfl ?_
  refine jr_iconst (v := 0) hF dX11_power_2 rfl ?_
  refine jr_istore (lv' := [(0, .long x0), (2, .int x2), (3, .long 1), (5, .int 0)]) hF dX11_power_3 (by decide) [1, 2, 3, 0] rfl ?_
  exact jb_X11_power_5 hF hE lt_fu _ _ _ _ hf
def f_X11_power (x0 : Int64) (x2 : Int32) : Option Int64 := fb_X11_power_0 x0 x2
set_option maxRecDepth 100000 in
theorem c_X11_power {l : Launch} {D : va_G} {gA : Nat → ClassId} {s0 : State} {σ : lt_S} {x0 : Int64} {x2 : Int32} {w : lt_W} {r : Int64} (hf : f_X11_power x0 x2 = some r) : lt_C l D gA s0 yX11_power cX11_power 6 (some .long) (lt_rm 1) [.long x0, .int x2] σ w σ (some (.long r)) w := by
  refine lt_enter rfl (Nat.le_of_ble_eq_true rfl) (fun X e1 e2 e3 e4 hF hE => ?_)
  subst e1 e2 e3 e4
  exact jb_X11_power_0 hF hE _ _ hf

set_option maxRecDepth 100000 in
def fb_X11_commonDivisor_9 : Nat → Int64 → Int64 → Int32 → Option Int64
  | 0, _, _, _ => none
  | n + 1, x4, x6, x8 => if 100 ≤ x8 then some x4 else if (lg_cmp x6 0) = 0 then some x4 else lt_nzl x6 (fb_X11_commonDivisor_9 n x6 (x4 - x4 / x6 * x6) (x8 + 1))
set_option maxHeartbeats 4000000 in
set_option maxRecDepth 100000 in
theorem jb_X11_commonDivisor_9 {X : lt_X} {σ : lt_S} {r : Int64} {w : lt_W} (hF : lt_F X cX11_commonDivisor RX11 11 (lt_rm 1)) (hE : lt_E X 0 0 σ (some .long) (some (.long r)) w) (n : Nat) : ∀ (x4 : Int64) (x6 : Int64) (x8 : Int32), fb_X11_commonDivisor_9 n x4 x6 x8 = some r → lt_J X 0 0 σ w 9 [(4, .long x4), (6, .long x6), (8, .int x8)] [] := by
  induction n with
  | zero => intro x4 x6 x8 hf; rw [fb_X11_commonDivisor_9] at hf; cases hf
  | succ n ih =>
    intro x4 x6 x8 hf
    rw [fb_X11_commonDivisor_9] at hf
    refine jr_iload hF dX11_commonDivisor_9 2 rfl ?_
    refine jr_bipush (v := 100) hF dX11_commonDivisor_11 rfl ?_
    refine jr_icmp_ge (tgt := 44) hF dX11_commonDivisor_13 rfl hf (fun hf => ?_) (fun hf => ?_)
    · refine jr_lload hF dX11_commonDivisor_44 0 rfl ?_
      obtain rfl := Option.some.inj hf
      exact jr_lreturn hF hE dX11_commonDivisor_46
    · refine jr_lload hF dX11_commonDivisor_16 1 rfl ?_
      refine jr_lconst (v := 0) hF dX11_commonDivisor_18 rfl ?_
      refine jr_lcmp hF dX11_commonDivisor_19 ?_
      refine jr_if_eq (tgt := 44) hF dX11_commonDivisor_20 rfl hf (fun hf => ?_) (fun hf => ?_)
      · refine jr_lload hF dX11_commonDivisor_44 0 rfl ?_
        obtain rfl := Option.some.inj hf
        exact jr_lreturn hF hE dX11_commonDivisor_46
      · refine jr_lload hF dX11_commonDivisor_23 0 rfl ?_
        refine jr_lload hF dX11_commonDivisor_25 1 rfl ?_
        refine jr_lrem hF dX11_commonDivisor_27 hf (fun hf => ?_)
        refine jr_lstore (lv' := [(6, .long x6), (8, .int x8), (9, .long (x4 - x4 / x6 * x6))]) hF dX11_commonDivisor_28 (by decide) [2, 3, 0] rfl ?_
        refine jr_lload hF dX11_commonDivisor_30 0 rfl ?_
        refine jr_lstore (lv' := [(4, .long x6), (8, .int x8), (9, .long (x4 - x4 / x6 * x6))]) hF dX11_commonDivisor_32 (by decide) [0, 2, 3] rfl ?_
        refine jr_lload hF dX11_commonDivisor_34 2 rfl ?_
        refine jr_lstore (lv' := [(4, .long x6), (6, .long (x4 - x4 / x6 * x6)), (8, .int x8)]) hF dX11_commonDivisor_36 (by decide) [1, 0, 2] rfl ?_
        refine jr_iinc (v := x8 + 1) (lv' := [(4, .long x6), (6, .long (x4 - x4 / x6 * x6)), (8, .int (x8 + 1))]) hF dX11_commonDivisor_38 2 rfl rfl (by decide) [1, 2, 0] rfl ?_
        refine jr_goto (tgt := 9) hF dX11_commonDivisor_41 rfl ?_
        exact ih _ _ _ hf
set_option maxRecDepth 100000 in
def fb_X11_commonDivisor_0 (x0 : Int64) (x2 : Int64) : Option Int64 := fb_X11_commonDivisor_9 lt_fu x0 x2 0
set_option maxHeartbeats 4000000 in
set_option maxRecDepth 100000 in
theorem jb_X11_commonDivisor_0 {X : lt_X} {σ : lt_S} {r : Int64} {w : lt_W} (hF : lt_F X cX11_commonDivisor RX11 11 (lt_rm 1)) (hE : lt_E X 0 0 σ (some .long) (some (.long r)) w) : ∀ (x0 : Int64) (x2 : Int64), fb_X11_commonDivisor_0 x0 x2 = some r → lt_J X 0 0 σ w 0 [(0, .long x0), (2, .long x2)] [] := by
  intro x0 x2 hf
  unfold fb_X11_commonDivisor_0 at hf
  refine jr_lload_n hF dX11_commonDivisor_0 0 rfl rfl ?_
  refine jr_lstore (lv' := [(2, .long x2), (4, .long x0)]) hF dX11_commonDivisor_1 (by decide) [2, 0] rfl ?_
  refine jr_lload_n hF dX11_commonDivisor_3 0 rfl rfl ?_
  refine jr_lstore (lv' := [(4, .long x0), (6, .long x2)]) hF dX11_commonDivisor_4 (by decide) [2, 0] rfl ?_
  refine jr_iconst (v := 0) hF dX11_commonDivisor_6 rfl ?_
  refine jr_istore (lv' := [(4, .long x0), (6, .long x2), (8, .int 0)]) hF dX11_commonDivisor_7 (by decide) [1, 2, 0] rfl ?_
  exact jb_X11_commonDivisor_9 hF hE lt_fu _ _ _ hf
def f_X11_commonDivisor (x0 : Int64) (x2 : Int64) : Option Int64 := fb_X11_commonDivisor_0 x0 x2
set_option maxRecDepth 100000 in
theorem c_X11_commonDivisor {l : Launch} {D : va_G} {gA : Nat → ClassId} {s0 : State} {σ : lt_S} {x0 : Int64} {x2 : Int64} {w : lt_W} {r : Int64} (hf : f_X11_commonDivisor x0 x2 = some r) : lt_C l D gA s0 yX11_commonDivisor cX11_commonDivisor 11 (some .long) (lt_rm 1) [.long x0, .long x2] σ w σ (some (.long r)) w := by
  refine lt_enter rfl (Nat.le_of_ble_eq_true rfl) (fun X e1 e2 e3 e4 hF hE => ?_)
  subst e1 e2 e3 e4
  exact jb_X11_commonDivisor_0 hF hE _ _ hf

set_option maxRecDepth 100000 in
def fb_X11_fraction_30 (σ : lt_S) (o : Nat) (w : lt_W) : Option (Int32 × lt_W) := Option.bind (f_X11_agreed σ o w) (fun q1 => lt_bz q1.1 (some (q1.1, q1.2)))
set_option maxHeartbeats 4000000 in
set_option maxRecDepth 100000 in
theorem jb_X11_fraction_30 {X : lt_X} {σ : lt_S} {o : Nat} (h0 : lt_c σ o = 11) {r : Int32 × lt_W} (hF : lt_F X cX11_fraction RX11 7 (lt_rm 2)) (hE : lt_E X 0 0 σ (some .boolean) (some (.int r.1)) r.2) : ∀ (w : lt_W), fb_X11_fraction_30 σ o w = some r → lt_J X 0 0 σ w 30 [(0, .ref (lt_z X + o))] [] := by
  intro w hf
  unfold fb_X11_fraction_30 at hf
  refine jr_aload_n hF dX11_fraction_30 0 rfl rfl ?_
  obtain ⟨q1, hq1, hf⟩ := Option.bind_eq_some_iff.mp hf
  refine jr_cV01 hF ml_X11_132 (c_X11_agreed h0 hq1) h0 ⟨Nat.le_of_ble_eq_true rfl, Nat.le_of_ble_eq_true rfl⟩ (Nat.le_of_ble_eq_true rfl) dX11_fraction_31 ?_
  obtain ⟨b2, hf⟩ := lt_bzE hf
  obtain rfl := Option.some.inj hf
  exact jr_zreturn hF hE b2 dX11_fraction_34
set_option maxRecDepth 100000 in
def fb_X11_fraction_0 (σ : lt_S) (o : Nat) (x1 : Int64) (x3 : Int64) (w : lt_W) : Option (Int32 × lt_W) := Option.bind (f_X11_commonDivisor x1 x3) (fun q1 => if (lg_cmp q1 0) ≤ 0 then fb_X11_fraction_30 σ o w else lt_nzl q1 (lt_let (lt_sl w o 1 (x1 / q1)) (fun w2 => lt_nzl q1 (lt_let (lt_sl w2 o 2 (x3 / q1)) (fun w3 => fb_X11_fraction_30 σ o w3)))))
set_option maxHeartbeats 4000000 in
set_option maxRecDepth 100000 in
theorem jb_X11_fraction_0 {X : lt_X} {σ : lt_S} {o : Nat} (h0 : lt_c σ o = 11) {r : Int32 × lt_W} (hF : lt_F X cX11_fraction RX11 7 (lt_rm 2)) (hE : lt_E X 0 0 σ (some .boolean) (some (.int r.1)) r.2) : ∀ (x1 : Int64) (x3 : Int64) (w : lt_W), fb_X11_fraction_0 σ o x1 x3 w = some r → lt_J X 0 0 σ w 0 [(0, .ref (lt_z X + o)), (1, .long x1), (3, .long x3)] [] := by
  intro x1 x3 w hf
  unfold fb_X11_fraction_0 at hf
  refine jr_lload_n hF dX11_fraction_0 1 rfl rfl ?_
  refine jr_lload_n hF dX11_fraction_1 2 rfl rfl ?_
  obtain ⟨q1, hq1, hf⟩ := Option.bind_eq_some_iff.mp hf
  refine jr_cS21 hF ml_X11_401 (c_X11_commonDivisor hq1) ⟨Nat.le_of_ble_eq_true rfl, Nat.le_of_ble_eq_true rfl⟩ (Nat.le_of_ble_eq_true rfl) dX11_fraction_2 ?_
  refine jr_lstore (lv' := [(0, .ref (lt_z X + o)), (1, .long x1), (3, .long x3), (5, .long q1)]) hF dX11_fraction_5 (by decide) [1, 2, 3, 0] rfl ?_
  refine jr_lload hF dX11_fraction_7 3 rfl ?_
  refine jr_lconst (v := 0) hF dX11_fraction_9 rfl ?_
  refine jr_lcmp hF dX11_fraction_10 ?_
  refine jr_if_le (tgt := 30) hF dX11_fraction_11 rfl hf (fun hf => ?_) (fun hf => ?_)
  · refine jr_sub [0] rfl ?_
    exact jb_X11_fraction_30 h0 hF hE _ hf
  · refine jr_aload_n hF dX11_fraction_14 0 rfl rfl ?_
    refine jr_lload_n hF dX11_fraction_15 1 rfl rfl ?_
    refine jr_lload hF dX11_fraction_16 3 rfl ?_
    refine jr_ldiv hF dX11_fraction_18 hf (fun hf => ?_)
    refine jr_putL hF pf_X11_114 h0 dX11_fraction_19 ?_
    refine jr_letW hf (fun w2 hf => ?_)
    refine jr_aload_n hF dX11_fraction_22 0 rfl rfl ?_
    refine jr_lload_n hF dX11_fraction_23 2 rfl rfl ?_
    refine jr_lload hF dX11_fraction_24 3 rfl ?_
    refine jr_ldiv hF dX11_fraction_26 hf (fun hf => ?_)
    refine jr_putL hF pf_X11_7 h0 dX11_fraction_27 ?_
    refine jr_letW hf (fun w3 hf => ?_)
    refine jr_sub [0] rfl ?_
    exact jb_X11_fraction_30 h0 hF hE _ hf
def f_X11_fraction (σ : lt_S) (o : Nat) (x1 : Int64) (x3 : Int64) (w : lt_W) : Option (Int32 × lt_W) := fb_X11_fraction_0 σ o x1 x3 w
set_option maxRecDepth 100000 in
theorem c_X11_fraction {l : Launch} {D : va_G} {gA : Nat → ClassId} {s0 : State} {σ : lt_S} {o : Nat} (h0 : lt_c σ o = 11) {x1 : Int64} {x3 : Int64} {w : lt_W} {r : Int32 × lt_W} (hf : f_X11_fraction σ o x1 x3 w = some r) : lt_C l D gA s0 yX11_fraction cX11_fraction 7 (some .boolean) (lt_rm 2) [.ref (s0.heap.size + o), .long x1, .long x3] σ w σ (some (.int r.1)) r.2 := by
  refine lt_enter rfl (Nat.le_of_ble_eq_true rfl) (fun X e1 e2 e3 e4 hF hE => ?_)
  subst e1 e2 e3 e4
  exact jb_X11_fraction_0 h0 hF hE _ _ _ hf

set_option maxRecDepth 100000 in
def fb_X11_chance_20 (σ : lt_S) (o : Nat) (w : lt_W) : Option (Int32 × lt_W) := Option.bind (f_X11_refused σ o 1 w) (fun q1 => lt_bz q1.1 (some (q1.1, q1.2)))
set_option maxHeartbeats 4000000 in
set_option maxRecDepth 100000 in
theorem jb_X11_chance_20 {X : lt_X} {σ : lt_S} {o : Nat} (h0 : lt_c σ o = 11) {r : Int32 × lt_W} (hF : lt_F X cX11_chance RX11 8 (lt_rm 3)) (hE : lt_E X 0 0 σ (some .boolean) (some (.int r.1)) r.2) : ∀ (w : lt_W), fb_X11_chance_20 σ o w = some r → lt_J X 0 0 σ w 20 [(0, .ref (lt_z X + o))] [] := by
  intro w hf
  unfold fb_X11_chance_20 at hf
  refine jr_aload_n hF dX11_chance_20 0 rfl rfl ?_
  refine jr_iconst (v := 1) hF dX11_chance_21 rfl ?_
  obtain ⟨q1, hq1, hf⟩ := Option.bind_eq_some_iff.mp hf
  refine jr_cV11 hF ml_X11_125 (c_X11_refused h0 hq1) h0 ⟨Nat.le_of_ble_eq_true rfl, Nat.le_of_ble_eq_true rfl⟩ (Nat.le_of_ble_eq_true rfl) dX11_chance_22 ?_
  obtain ⟨b2, hf⟩ := lt_bzE hf
  obtain rfl := Option.some.inj hf
  exact jr_zreturn hF hE b2 dX11_chance_25
set_option maxRecDepth 100000 in
def fb_X11_chance_58 (σ : lt_S) (o : Nat) (k40 : Int32 → Int32 → Int64 → Int64 → Int32 → lt_W → Option (Int32 × lt_W)) (x1 : Int32) (x2 : Int32) (x3 : Int64) (x5 : Int64) (x7 : Int32) (w : lt_W) : Option (Int32 × lt_W) := lt_nzl (((x7 + 1).toInt64) * 5) (lt_let ((x3 * ((x1 - x7).toInt64)) / (((x7 + 1).toInt64) * 5)) (fun z1 => k40 x1 x2 z1 x5 (x7 + 1) w))
set_option maxHeartbeats 4000000 in
set_option maxRecDepth 100000 in
theorem jb_X11_chance_58 {X : lt_X} {σ : lt_S} {o : Nat} (h0 : lt_c σ o = 11) {r : Int32 × lt_W} {k40 : Int32 → Int32 → Int64 → Int64 → Int32 → lt_W → Option (Int32 × lt_W)} (hF : lt_F X cX11_chance RX11 8 (lt_rm 3)) (hE : lt_E X 0 0 σ (some .boolean) (some (.int r.1)) r.2) (hk40 : ∀ (x1 : Int32) (x2 : Int32) (x3 : Int64) (x5 : Int64) (x7 : Int32) (w : lt_W), k40 x1 x2 x3 x5 x7 w = some r → lt_J X 0 0 σ w 40 [(0, .ref (lt_z X + o)), (1, .int x1), (2, .int x2), (3, .long x3), (5, .long x5), (7, .int x7)] []) : ∀ (x1 : Int32) (x2 : Int32) (x3 : Int64) (x5 : Int64) (x7 : Int32) (w : lt_W), fb_X11_chance_58 σ o k40 x1 x2 x3 x5 x7 w = some r → lt_J X 0 0 σ w 58 [(0, .ref (lt_z X + o)), (1, .int x1), (2, .int x2), (3, .long x3), (5, .long x5), (7, .int x7)] [] := by
  intro x1 x2 x3 x5 x7 w hf
  unfold fb_X11_chance_58 at hf
  refine jr_lload_n hF dX11_chance_58 3 rfl rfl ?_
  refine jr_iload_n hF dX11_chance_59 1 rfl rfl ?_
  refine jr_iload hF dX11_chance_60 5 rfl ?_
  refine jr_isub hF dX11_chance_62 ?_
  refine jr_i2l hF dX11_chance_63 ?_
  refine jr_lmul hF dX11_chance_64 ?_
  refine jr_iload hF dX11_chance_65 5 rfl ?_
  refine jr_iconst (v := 1) hF dX11_chance_67 rfl ?_
  refine jr_iadd hF dX11_chance_68 ?_
  refine jr_i2l hF dX11_chance_69 ?_
  refine jr_ldc2 (v := 5) hF dX11_chance_70 kc_X11_360 ?_
  refine jr_lmul hF dX11_chance_73 ?_
  refine jr_ldiv hF dX11_chance_74 hf (fun hf => ?_)
  refine jr_letL hf (fun z1 hf => ?_)
  refine jr_lstore_n (lv' := [(0, .ref (lt_z X + o)), (1, .int x1), (2, .int x2), (3, .long z1), (5, .long x5), (7, .int x7)]) hF dX11_chance_75 rfl (by decide) [1, 2, 3, 0, 4, 5] rfl ?_
  refine jr_iinc (v := x7 + 1) (lv' := [(0, .ref (lt_z X + o)), (1, .int x1), (2, .int x2), (3, .long z1), (5, .long x5), (7, .int (x7 + 1))]) hF dX11_chance_76 5 rfl rfl (by decide) [1, 2, 3, 4, 5, 0] rfl ?_
  refine jr_goto (tgt := 40) hF dX11_chance_79 rfl ?_
  exact hk40 _ _ _ _ _ _ hf
set_option maxRecDepth 100000 in
def fb_X11_chance_40 (σ : lt_S) (o : Nat) : Nat → Int32 → Int32 → Int64 → Int64 → Int32 → lt_W → Option (Int32 × lt_W)
  | 0, _, _, _, _, _, _ => none
  | n + 1, x1, x2, x3, x5, x7, w => if x1 < x7 then Option.bind (f_X11_power 6 x1) (fun q1 => Option.bind (f_X11_fraction σ o x5 q1 w) (fun q2 => lt_bz q2.1 (some (q2.1, q2.2)))) else if x7 < x2 then fb_X11_chance_58 σ o (fun x1 x2 x3 x5 x7 w => fb_X11_chance_40 σ o n x1 x2 x3 x5 x7 w) x1 x2 x3 x5 x7 w else fb_X11_chance_58 σ o (fun x1 x2 x3 x5 x7 w => fb_X11_chance_40 σ o n x1 x2 x3 x5 x7 w) x1 x2 x3 (x5 + x3) x7 w
set_option maxHeartbeats 4000000 in
set_option maxRecDepth 100000 in
theorem jb_X11_chance_40 {X : lt_X} {σ : lt_S} {o : Nat} (h0 : lt_c σ o = 11) {r : Int32 × lt_W} (hF : lt_F X cX11_chance RX11 8 (lt_rm 3)) (hE : lt_E X 0 0 σ (some .boolean) (some (.int r.1)) r.2) (n : Nat) : ∀ (x1 : Int32) (x2 : Int32) (x3 : Int64) (x5 : Int64) (x7 : Int32) (w : lt_W), fb_X11_chance_40 σ o n x1 x2 x3 x5 x7 w = some r → lt_J X 0 0 σ w 40 [(0, .ref (lt_z X + o)), (1, .int x1), (2, .int x2), (3, .long x3), (5, .long x5), (7, .int x7)] [] := by
  induction n with
  | zero => intro x1 x2 x3 x5 x7 w hf; rw [fb_X11_chance_40] at hf; cases hf
  | succ n ih =>
    intro x1 x2 x3 x5 x7 w hf
    rw [fb_X11_chance_40] at hf
    refine jr_iload hF dX11_chance_40 5 rfl ?_
    refine jr_iload_n hF dX11_chance_42 1 rfl rfl ?_
    refine jr_icmp_gt (tgt := 82) hF dX11_chance_43 rfl hf (fun hf => ?_) (fun hf => ?_)
    · refine jr_aload_n hF dX11_chance_82 0 rfl rfl ?_
      refine jr_lload hF dX11_chance_83 4 rfl ?_
      refine jr_ldc2 (v := 6) hF dX11_chance_85 kc_X11_366 ?_
      refine jr_iload_n hF dX11_chance_88 1 rfl rfl ?_
      obtain ⟨q1, hq1, hf⟩ := Option.bind_eq_some_iff.mp hf
      refine jr_cS21 hF ml_X11_362 (c_X11_power hq1) ⟨Nat.le_of_ble_eq_true rfl, Nat.le_of_ble_eq_true rfl⟩ (Nat.le_of_ble_eq_true rfl) dX11_chance_89 ?_
      obtain ⟨q2, hq2, hf⟩ := Option.bind_eq_some_iff.mp hf
      refine jr_cV21 hF ml_X11_356 (c_X11_fraction h0 hq2) h0 ⟨Nat.le_of_ble_eq_true rfl, Nat.le_of_ble_eq_true rfl⟩ (Nat.le_of_ble_eq_true rfl) dX11_chance_92 ?_
      obtain ⟨b3, hf⟩ := lt_bzE hf
      obtain rfl := Option.some.inj hf
      exact jr_zreturn hF hE b3 dX11_chance_95
    · refine jr_iload hF dX11_chance_46 5 rfl ?_
      refine jr_iload_n hF dX11_chance_48 2 rfl rfl ?_
      refine jr_icmp_lt (tgt := 58) hF dX11_chance_49 rfl hf (fun hf => ?_) (fun hf => ?_)
      · exact jb_X11_chance_58 h0 hF hE ih _ _ _ _ _ _ hf
      · refine jr_lload hF dX11_chance_52 4 rfl ?_
        refine jr_lload_n hF dX11_chance_54 3 rfl rfl ?_
        refine jr_ladd hF dX11_chance_55 ?_
        refine jr_lstore (lv' := [(0, .ref (lt_z X + o)), (1, .int x1), (2, .int x2), (3, .long x3), (5, .long (x5 + x3)), (7, .int x7)]) hF dX11_chance_56 (by decide) [1, 2, 3, 4, 0, 5] rfl ?_
        exact jb_X11_chance_58 h0 hF hE ih _ _ _ _ _ _ hf
set_option maxRecDepth 100000 in
def fb_X11_chance_0 (σ : lt_S) (o : Nat) (x1 : Int32) (x2 : Int32) (w : lt_W) : Option (Int32 × lt_W) := Option.bind (f_X11_within x1 0 6) (fun q1 => if q1 = 0 then fb_X11_chance_20 σ o w else Option.bind (f_X11_within x2 0 6) (fun q2 => if q2 = 0 then fb_X11_chance_20 σ o w else Option.bind (f_X11_power 5 x1) (fun q3 => fb_X11_chance_40 σ o lt_fu x1 x2 q3 0 0 w)))
set_option maxHeartbeats 4000000 in
set_option maxRecDepth 100000 in
theorem jb_X11_chance_0 {X : lt_X} {σ : lt_S} {o : Nat} (h0 : lt_c σ o = 11) {r : Int32 × lt_W} (hF : lt_F X cX11_chance RX11 8 (lt_rm 3)) (hE : lt_E X 0 0 σ (some .boolean) (some (.int r.1)) r.2) : ∀ (x1 : Int32) (x2 : Int32) (w : lt_W), fb_X11_chance_0 σ o x1 x2 w = some r → lt_J X 0 0 σ w 0 [(0, .ref (lt_z X + o)), (1, .int x1), (2, .int x2)] [] := by
  intro x1 x2 w hf
  unfold fb_X11_chance_0 at hf
  refine jr_iload_n hF dX11_chance_0 1 rfl rfl ?_
  refine jr_iconst (v := 0) hF dX11_chance_1 rfl ?_
  refine jr_bipush (v := 6) hF dX11_chance_2 rfl ?_
  obtain ⟨q1, hq1, hf⟩ := Option.bind_eq_some_iff.mp hf
  refine jr_cS31 hF ml_X11_121 (c_X11_within hq1) ⟨Nat.le_of_ble_eq_true rfl, Nat.le_of_ble_eq_true rfl⟩ (Nat.le_of_ble_eq_true rfl) dX11_chance_4 ?_
  refine jr_if_eq (tgt := 20) hF dX11_chance_7 rfl hf (fun hf => ?_) (fun hf => ?_)
  · refine jr_sub [0] rfl ?_
    exact jb_X11_chance_20 h0 hF hE _ hf
  · refine jr_iload_n hF dX11_chance_10 2 rfl rfl ?_
    refine jr_iconst (v := 0) hF dX11_chance_11 rfl ?_
    refine jr_bipush (v := 6) hF dX11_chance_12 rfl ?_
    obtain ⟨q2, hq2, hf⟩ := Option.bind_eq_some_iff.mp hf
    refine jr_cS31 hF ml_X11_121 (c_X11_within hq2) ⟨Nat.le_of_ble_eq_true rfl, Nat.le_of_ble_eq_true rfl⟩ (Nat.le_of_ble_eq_true rfl) dX11_chance_14 ?_
    refine jr_if_ne (tgt := 26) hF dX11_chance_17 rfl hf (fun hf => ?_) (fun hf => ?_)
    · refine jr_ldc2 (v := 5) hF dX11_chance_26 kc_X11_360 ?_
      refine jr_iload_n hF dX11_chance_29 1 rfl rfl ?_
      obtain ⟨q3, hq3, hf⟩ := Option.bind_eq_some_iff.mp hf
      refine jr_cS21 hF ml_X11_362 (c_X11_power hq3) ⟨Nat.le_of_ble_eq_true rfl, Nat.le_of_ble_eq_true rfl⟩ (Nat.le_of_ble_eq_true rfl) dX11_chance_30 ?_
      refine jr_lstore_n (lv' := [(0, .ref (lt_z X + o)), (1, .int x1), (2, .int x2), (3, .long q3)]) hF dX11_chance_33 rfl (by decide) [1, 2, 3, 0] rfl ?_
      refine jr_lconst (v := 0) hF dX11_chance_34 rfl ?_
      refine jr_lstore (lv' := [(0, .ref (lt_z X + o)), (1, .int x1), (2, .int x2), (3, .long q3), (5, .long 0)]) hF dX11_chance_35 (by decide) [1, 2, 3, 4, 0] rfl ?_
      refine jr_iconst (v := 0) hF dX11_chance_37 rfl ?_
      refine jr_istore (lv' := [(0, .ref (lt_z X + o)), (1, .int x1), (2, .int x2), (3, .long q3), (5, .long 0), (7, .int 0)]) hF dX11_chance_38 (by decide) [1, 2, 3, 4, 5, 0] rfl ?_
      exact jb_X11_chance_40 h0 hF hE lt_fu _ _ _ _ _ _ hf
    · refine jr_sub [0] rfl ?_
      exact jb_X11_chance_20 h0 hF hE _ hf
def f_X11_chance (σ : lt_S) (o : Nat) (x1 : Int32) (x2 : Int32) (w : lt_W) : Option (Int32 × lt_W) := fb_X11_chance_0 σ o x1 x2 w
set_option maxRecDepth 100000 in
theorem c_X11_chance {l : Launch} {D : va_G} {gA : Nat → ClassId} {s0 : State} {σ : lt_S} {o : Nat} (h0 : lt_c σ o = 11) {x1 : Int32} {x2 : Int32} {w : lt_W} {r : Int32 × lt_W} (hf : f_X11_chance σ o x1 x2 w = some r) : lt_C l D gA s0 yX11_chance cX11_chance 8 (some .boolean) (lt_rm 3) [.ref (s0.heap.size + o), .int x1, .int x2] σ w σ (some (.int r.1)) r.2 := by
  refine lt_enter rfl (Nat.le_of_ble_eq_true rfl) (fun X e1 e2 e3 e4 hF hE => ?_)
  subst e1 e2 e3 e4
  exact jb_X11_chance_0 h0 hF hE _ _ _ hf

set_option maxRecDepth 100000 in
def fb_X11_come_0 (σ : lt_S) (o : Nat) (x1 : Int32) (w : lt_W) : Option (Int32 × lt_W) := Option.bind (f_X5_hasGuest σ (lt_r σ o 5) x1 w) (fun q2 => if q2 = 0 then Option.bind (f_X11_none σ o 1 w) (fun q17 => some (q17.1, q17.2)) else Option.bind (f_X5_isThere σ (lt_r σ o 5) x1 w) (fun q4 => if q4 = 0 then lt_let (lt_si w (lt_r σ o 5) 8 ((lt_gi w (lt_r σ o 5) 8) ||| (1 <<< (x1 &&& 31)))) (fun w6 => lt_ck x1 (lt_len σ (lt_r σ (lt_r σ o 5) 10)) (lt_let (lt_si w6 (lt_r σ (lt_r σ o 5) 10) x1.toNatClampNeg 0) (fun w9 => lt_ck x1 (lt_len σ (lt_r σ (lt_r σ o 5) 14)) (lt_let (lt_si w9 (lt_r σ (lt_r σ o 5) 14) x1.toNatClampNeg 0) (fun w12 => Option.bind (f_X5_countThere σ (lt_r σ o 5) w12) (fun q14 => Option.bind (f_X11_given σ o q14 w12) (fun q15 => some (q15.1, q15.2)))))))) else Option.bind (f_X11_none σ o 7 w) (fun q16 => some (q16.1, q16.2))))
set_option maxHeartbeats 4000000 in
set_option maxRecDepth 100000 in
theorem jb_X11_come_0 {X : lt_X} {σ : lt_S} (hT : lt_Wt σ) {o : Nat} (h0 : lt_c σ o = 11) {r : Int32 × lt_W} (hF : lt_F X cX11_come RX11 2 (lt_rm 3)) (hE : lt_E X 0 0 σ (some .int) (some (.int r.1)) r.2) : ∀ (x1 : Int32) (w : lt_W), fb_X11_come_0 σ o x1 w = some r → lt_J X 0 0 σ w 0 [(0, .ref (lt_z X + o)), (1, .int x1)] [] := by
  intro x1 w hf
  unfold fb_X11_come_0 at hf
  refine jr_aload_n hF dX11_come_0 0 rfl rfl ?_
  refine jr_getRT (cr := 5) hF gf_X11_30 hT h0 rfl rfl dX11_come_1 (fun th1 => ?_)
  refine jr_iload_n hF dX11_come_4 1 rfl rfl ?_
  obtain ⟨q2, hq2, hf⟩ := Option.bind_eq_some_iff.mp hf
  refine jr_cV11 hF ml_X11_251 (c_X5_hasGuest th1 hq2) th1 ⟨Nat.le_of_ble_eq_true rfl, Nat.le_of_ble_eq_true rfl⟩ (Nat.le_of_ble_eq_true rfl) dX11_come_5 ?_
  refine jr_if_ne (tgt := 17) hF dX11_come_8 rfl hf (fun hf => ?_) (fun hf => ?_)
  · refine jr_aload_n hF dX11_come_17 0 rfl rfl ?_
    refine jr_getRT (cr := 5) hF gf_X11_30 hT h0 rfl rfl dX11_come_18 (fun th3 => ?_)
    refine jr_iload_n hF dX11_come_21 1 rfl rfl ?_
    obtain ⟨q4, hq4, hf⟩ := Option.bind_eq_some_iff.mp hf
    refine jr_cV11 hF ml_X11_269 (c_X5_isThere th3 hq4) th3 ⟨Nat.le_of_ble_eq_true rfl, Nat.le_of_ble_eq_true rfl⟩ (Nat.le_of_ble_eq_true rfl) dX11_come_22 ?_
    refine jr_if_eq (tgt := 35) hF dX11_come_25 rfl hf (fun hf => ?_) (fun hf => ?_)
    · refine jr_aload_n hF dX11_come_35 0 rfl rfl ?_
      refine jr_getRT (cr := 5) hF gf_X11_30 hT h0 rfl rfl dX11_come_36 (fun th5 => ?_)
      refine jr_dup hF dX11_come_39 rfl ?_
      refine jr_getI hF gf_X11_241 th5 dX11_come_40 ?_
      refine jr_iconst (v := 1) hF dX11_come_43 rfl ?_
      refine jr_iload_n hF dX11_come_44 1 rfl rfl ?_
      refine jr_ishl hF dX11_come_45 ?_
      refine jr_ior hF dX11_come_46 ?_
      refine jr_putI hF pf_X11_241 th5 dX11_come_47 ?_
      refine jr_letW hf (fun w6 hf => ?_)
      refine jr_aload_n hF dX11_come_50 0 rfl rfl ?_
      refine jr_getRT (cr := 5) hF gf_X11_30 hT h0 rfl rfl dX11_come_51 (fun th7 => ?_)
      refine jr_getRT (cr := 50) hF gf_X11_254 hT th7 rfl rfl dX11_come_54 (fun th8 => ?_)
      refine jr_iload_n hF dX11_come_57 1 rfl rfl ?_
      refine jr_iconst (v := 0) hF dX11_come_58 rfl ?_
      refine jr_iastore hF th8 dX11_come_59 hf (fun hf => ?_)
      refine jr_letW hf (fun w9 hf => ?_)
      refine jr_aload_n hF dX11_come_60 0 rfl rfl ?_
      refine jr_getRT (cr := 5) hF gf_X11_30 hT h0 rfl rfl dX11_come_61 (fun th10 => ?_)
      refine jr_getRT (cr := 50) hF gf_X11_266 hT th10 rfl rfl dX11_come_64 (fun th11 => ?_)
      refine jr_iload_n hF dX11_come_67 1 rfl rfl ?_
      refine jr_iconst (v := 0) hF dX11_come_68 rfl ?_
      refine jr_iastore hF th11 dX11_come_69 hf (fun hf => ?_)
      refine jr_letW hf (fun w12 hf => ?_)
      refine jr_aload_n hF dX11_come_70 0 rfl rfl ?_
      refine jr_aload_n hF dX11_come_71 0 rfl rfl ?_
      refine jr_getRT (cr := 5) hF gf_X11_30 hT h0 rfl rfl dX11_come_72 (fun th13 => ?_)
      obtain ⟨q14, hq14, hf⟩ := Option.bind_eq_some_iff.mp hf
      refine jr_cV01 hF ml_X11_293 (c_X5_countThere th13 hq14) th13 ⟨Nat.le_of_ble_eq_true rfl, Nat.le_of_ble_eq_true rfl⟩ (Nat.le_of_ble_eq_true rfl) dX11_come_75 ?_
      obtain ⟨q15, hq15, hf⟩ := Option.bind_eq_some_iff.mp hf
      refine jr_cV11 hF ml_X11_194 (c_X11_given h0 hq15) h0 ⟨Nat.le_of_ble_eq_true rfl, Nat.le_of_ble_eq_true rfl⟩ (Nat.le_of_ble_eq_true rfl) dX11_come_78 ?_
      obtain rfl := Option.some.inj hf
      exact jr_ireturn hF hE dX11_come_81
    · refine jr_aload_n hF dX11_come_28 0 rfl rfl ?_
      refine jr_bipush (v := 7) hF dX11_come_29 rfl ?_
      obtain ⟨q16, hq16, hf⟩ := Option.bind_eq_some_iff.mp hf
      refine jr_cV11 hF ml_X11_144 (c_X11_none h0 hq16) h0 ⟨Nat.le_of_ble_eq_true rfl, Nat.le_of_ble_eq_true rfl⟩ (Nat.le_of_ble_eq_true rfl) dX11_come_31 ?_
      obtain rfl := Option.some.inj hf
      exact jr_ireturn hF hE dX11_come_34
  · refine jr_aload_n hF dX11_come_11 0 rfl rfl ?_
    refine jr_iconst (v := 1) hF dX11_come_12 rfl ?_
    obtain ⟨q17, hq17, hf⟩ := Option.bind_eq_some_iff.mp hf
    refine jr_cV11 hF ml_X11_144 (c_X11_none h0 hq17) h0 ⟨Nat.le_of_ble_eq_true rfl, Nat.le_of_ble_eq_true rfl⟩ (Nat.le_of_ble_eq_true rfl) dX11_come_13 ?_
    obtain rfl := Option.some.inj hf
    exact jr_ireturn hF hE dX11_come_16
def f_X11_come (σ : lt_S) (o : Nat) (x1 : Int32) (w : lt_W) : Option (Int32 × lt_W) := fb_X11_come_0 σ o x1 w
set_option maxRecDepth 100000 in
theorem c_X11_come {l : Launch} {D : va_G} {gA : Nat → ClassId} {s0 : State} {σ : lt_S} (hT : lt_Wt σ) {o : Nat} (h0 : lt_c σ o = 11) {x1 : Int32} {w : lt_W} {r : Int32 × lt_W} (hf : f_X11_come σ o x1 w = some r) : lt_C l D gA s0 yX11_come cX11_come 2 (some .int) (lt_rm 3) [.ref (s0.heap.size + o), .int x1] σ w σ (some (.int r.1)) r.2 := by
  refine lt_enter rfl (Nat.le_of_ble_eq_true rfl) (fun X e1 e2 e3 e4 hF hE => ?_)
  subst e1 e2 e3 e4
  exact jb_X11_come_0 hT h0 hF hE _ _ hf

set_option maxRecDepth 100000 in
def fb_X11_copyWishes_26 (σ : lt_S) (o : Nat) : Nat → Int32 → Int32 → lt_W → Option (Int32 × lt_W)
  | 0, _, _, _ => none
  | n + 1, x1, x3, w => if (lt_gi w (lt_r σ o 5) 0) ≤ x3 then Option.bind (f_X11_given σ o (lt_gi w (lt_r σ o 5) 0) w) (fun q3 => some (q3.1, q3.2)) else lt_ck x1 (lt_len σ (lt_r σ o 3)) (lt_ck x3 (lt_len σ (lt_r σ (lt_r σ o 5) 10)) (Option.bind (f_X8_put σ (lt_r σ (lt_r σ o 3) x1.toNatClampNeg) x3 ((lt_gi w (lt_r σ (lt_r σ o 5) 10) x3.toNatClampNeg).toInt64) w) (fun q8 => fb_X11_copyWishes_26 σ o n x1 (x3 + 1) q8)))
set_option maxHeartbeats 4000000 in
set_option maxRecDepth 100000 in
theorem jb_X11_copyWishes_26 {X : lt_X} {σ : lt_S} (hT : lt_Wt σ) {o : Nat} (h0 : lt_c σ o = 11) {r : Int32 × lt_W} (hF : lt_F X cX11_copyWishes RX11 4 (lt_rm 4)) (hE : lt_E X 0 0 σ (some .int) (some (.int r.1)) r.2) (n : Nat) : ∀ (x1 : Int32) (x3 : Int32) (w : lt_W), fb_X11_copyWishes_26 σ o n x1 x3 w = some r → lt_J X 0 0 σ w 26 [(0, .ref (lt_z X + o)), (1, .int x1), (3, .int x3)] [] := by
  induction n with
  | zero => intro x1 x3 w hf; rw [fb_X11_copyWishes_26] at hf; cases hf
  | succ n ih =>
    intro x1 x3 w hf
    rw [fb_X11_copyWishes_26] at hf
    refine jr_iload_n hF dX11_copyWishes_26 2 rfl rfl ?_
    refine jr_aload_n hF dX11_copyWishes_27 0 rfl rfl ?_
    refine jr_getRT (cr := 5) hF gf_X11_30 hT h0 rfl rfl dX11_copyWishes_28 (fun th1 => ?_)
    refine jr_getI hF gf_X11_191 th1 dX11_copyWishes_31 ?_
    refine jr_icmp_ge (tgt := 63) hF dX11_copyWishes_34 rfl hf (fun hf => ?_) (fun hf => ?_)
    · refine jr_aload_n hF dX11_copyWishes_63 0 rfl rfl ?_
      refine jr_aload_n hF dX11_copyWishes_64 0 rfl rfl ?_
      refine jr_getRT (cr := 5) hF gf_X11_30 hT h0 rfl rfl dX11_copyWishes_65 (fun th2 => ?_)
      refine jr_getI hF gf_X11_191 th2 dX11_copyWishes_68 ?_
      obtain ⟨q3, hq3, hf⟩ := Option.bind_eq_some_iff.mp hf
      refine jr_cV11 hF ml_X11_194 (c_X11_given h0 hq3) h0 ⟨Nat.le_of_ble_eq_true rfl, Nat.le_of_ble_eq_true rfl⟩ (Nat.le_of_ble_eq_true rfl) dX11_copyWishes_71 ?_
      obtain rfl := Option.some.inj hf
      exact jr_ireturn hF hE dX11_copyWishes_74
    · refine jr_aload_n hF dX11_copyWishes_37 0 rfl rfl ?_
      refine jr_getRT (cr := 54) hF gf_X11_15 hT h0 rfl rfl dX11_copyWishes_38 (fun th4 => ?_)
      refine jr_iload_n hF dX11_copyWishes_41 1 rfl rfl ?_
      refine jr_aaload (c := 54) hF hT th4 4 rfl rfl rfl dX11_copyWishes_42 hf (fun th5 hf => ?_)
      have th5 : lt_c σ (lt_r σ (lt_r σ o 3) x1.toNatClampNeg) = 8 := th5
      refine jr_iload_n hF dX11_copyWishes_43 2 rfl rfl ?_
      refine jr_aload_n hF dX11_copyWishes_44 0 rfl rfl ?_
      refine jr_getRT (cr := 5) hF gf_X11_30 hT h0 rfl rfl dX11_copyWishes_45 (fun th6 => ?_)
      refine jr_getRT (cr := 50) hF gf_X11_254 hT th6 rfl rfl dX11_copyWishes_48 (fun th7 => ?_)
      refine jr_iload_n hF dX11_copyWishes_51 2 rfl rfl ?_
      refine jr_iaload hF th7 dX11_copyWishes_52 hf (fun hf => ?_)
      refine jr_i2l hF dX11_copyWishes_53 ?_
      obtain ⟨q8, hq8, hf⟩ := Option.bind_eq_some_iff.mp hf
      refine jr_cV2v hF ml_X11_140 (c_X8_put hT th5 hq8) th5 ⟨Nat.le_of_ble_eq_true rfl, Nat.le_of_ble_eq_true rfl⟩ (Nat.le_of_ble_eq_true rfl) dX11_copyWishes_54 ?_
      refine jr_iinc (v := x3 + 1) (lv' := [(0, .ref (lt_z X + o)), (1, .int x1), (3, .int (x3 + 1))]) hF dX11_copyWishes_57 2 rfl rfl (by decide) [1, 2, 0] rfl ?_
      refine jr_goto (tgt := 26) hF dX11_copyWishes_60 rfl ?_
      exact ih _ _ _ hf
set_option maxRecDepth 100000 in
def fb_X11_copyWishes_0 (σ : lt_S) (o : Nat) (x1 : Int32) (w : lt_W) : Option (Int32 × lt_W) := Option.bind (f_X11_trayFails σ o x1 0 (lt_gi w (lt_r σ o 5) 0) w) (fun q2 => if q2 = 0 then fb_X11_copyWishes_26 σ o lt_fu x1 0 w else Option.bind (f_X11_none σ o q2 w) (fun q3 => some (q3.1, q3.2)))
set_option maxHeartbeats 4000000 in
set_option maxRecDepth 100000 in
theorem jb_X11_copyWishes_0 {X : lt_X} {σ : lt_S} (hT : lt_Wt σ) {o : Nat} (h0 : lt_c σ o = 11) {r : Int32 × lt_W} (hF : lt_F X cX11_copyWishes RX11 4 (lt_rm 4)) (hE : lt_E X 0 0 σ (some .int) (some (.int r.1)) r.2) : ∀ (x1 : Int32) (w : lt_W), fb_X11_copyWishes_0 σ o x1 w = some r → lt_J X 0 0 σ w 0 [(0, .ref (lt_z X + o)), (1, .int x1)] [] := by
  intro x1 w hf
  unfold fb_X11_copyWishes_0 at hf
  refine jr_aload_n hF dX11_copyWishes_0 0 rfl rfl ?_
  refine jr_iload_n hF dX11_copyWishes_1 1 rfl rfl ?_
  refine jr_iconst (v := 0) hF dX11_copyWishes_2 rfl ?_
  refine jr_aload_n hF dX11_copyWishes_3 0 rfl rfl ?_
  refine jr_getRT (cr := 5) hF gf_X11_30 hT h0 rfl rfl dX11_copyWishes_4 (fun th1 => ?_)
  refine jr_getI hF gf_X11_191 th1 dX11_copyWishes_7 ?_
  obtain ⟨q2, hq2, hf⟩ := Option.bind_eq_some_iff.mp hf
  refine jr_cV31 hF ml_X11_136 (c_X11_trayFails hT h0 hq2) h0 ⟨Nat.le_of_ble_eq_true rfl, Nat.le_of_ble_eq_true rfl⟩ (Nat.le_of_ble_eq_true rfl) dX11_copyWishes_10 ?_
  refine jr_istore_n (lv' := [(0, .ref (lt_z X + o)), (1, .int x1), (2, .int q2)]) hF dX11_copyWishes_13 rfl (by decide) [1, 2, 0] rfl ?_
  refine jr_iload_n hF dX11_copyWishes_14 2 rfl rfl ?_
  refine jr_if_eq (tgt := 24) hF dX11_copyWishes_15 rfl hf (fun hf => ?_) (fun hf => ?_)
  · refine jr_iconst (v := 0) hF dX11_copyWishes_24 rfl ?_
    refine jr_istore_n (lv' := [(0, .ref (lt_z X + o)), (1, .int x1), (3, .int 0)]) hF dX11_copyWishes_25 rfl (by decide) [1, 2, 0] rfl ?_
    exact jb_X11_copyWishes_26 hT h0 hF hE lt_fu _ _ _ hf
  · refine jr_aload_n hF dX11_copyWishes_18 0 rfl rfl ?_
    refine jr_iload_n hF dX11_copyWishes_19 2 rfl rfl ?_
    obtain ⟨q3, hq3, hf⟩ := Option.bind_eq_some_iff.mp hf
    refine jr_cV11 hF ml_X11_144 (c_X11_none h0 hq3) h0 ⟨Nat.le_of_ble_eq_true rfl, Nat.le_of_ble_eq_true rfl⟩ (Nat.le_of_ble_eq_true rfl) dX11_copyWishes_20 ?_
    obtain rfl := Option.some.inj hf
    exact jr_ireturn hF hE dX11_copyWishes_23
def f_X11_copyWishes (σ : lt_S) (o : Nat) (x1 : Int32) (w : lt_W) : Option (Int32 × lt_W) := fb_X11_copyWishes_0 σ o x1 w
set_option maxRecDepth 100000 in
theorem c_X11_copyWishes {l : Launch} {D : va_G} {gA : Nat → ClassId} {s0 : State} {σ : lt_S} (hT : lt_Wt σ) {o : Nat} (h0 : lt_c σ o = 11) {x1 : Int32} {w : lt_W} {r : Int32 × lt_W} (hf : f_X11_copyWishes σ o x1 w = some r) : lt_C l D gA s0 yX11_copyWishes cX11_copyWishes 4 (some .int) (lt_rm 4) [.ref (s0.heap.size + o), .int x1] σ w σ (some (.int r.1)) r.2 := by
  refine lt_enter rfl (Nat.le_of_ble_eq_true rfl) (fun X e1 e2 e3 e4 hF hE => ?_)
  subst e1 e2 e3 e4
  exact jb_X11_copyWishes_0 hT h0 hF hE _ _ hf

set_option maxRecDepth 100000 in
def fb_X11_cut_0 (σ : lt_S) (o : Nat) (x1 : Int32) (w : lt_W) : Option (Int32 × lt_W) := Option.bind (f_X5_hasGuest σ (lt_r σ o 5) x1 w) (fun q2 => if q2 = 0 then Option.bind (f_X11_none σ o 1 w) (fun q8 => some (q8.1, q8.2)) else Option.bind (f_X5_cutBy σ (lt_r σ o 5) x1 w) (fun q4 => if q4.1 = 0 then Option.bind (f_X11_none σ o 7 q4.2) (fun q5 => some (q5.1, q5.2)) else Option.bind (f_X11_given σ o (lt_gi q4.2 (lt_r σ o 5) 5) q4.2) (fun q7 => some (q7.1, q7.2))))
set_option maxHeartbeats 4000000 in
set_option maxRecDepth 100000 in
theorem jb_X11_cut_0 {X : lt_X} {σ : lt_S} (hT : lt_Wt σ) {o : Nat} (h0 : lt_c σ o = 11) {r : Int32 × lt_W} (hF : lt_F X cX11_cut RX11 2 (lt_rm 3)) (hE : lt_E X 0 0 σ (some .int) (some (.int r.1)) r.2) : ∀ (x1 : Int32) (w : lt_W), fb_X11_cut_0 σ o x1 w = some r → lt_J X 0 0 σ w 0 [(0, .ref (lt_z X + o)), (1, .int x1)] [] := by
  intro x1 w hf
  unfold fb_X11_cut_0 at hf
  refine jr_aload_n hF dX11_cut_0 0 rfl rfl ?_
  refine jr_getRT (cr := 5) hF gf_X11_30 hT h0 rfl rfl dX11_cut_1 (fun th1 => ?_)
  refine jr_iload_n hF dX11_cut_4 1 rfl rfl ?_
  obtain ⟨q2, hq2, hf⟩ := Option.bind_eq_some_iff.mp hf
  refine jr_cV11 hF ml_X11_251 (c_X5_hasGuest th1 hq2) th1 ⟨Nat.le_of_ble_eq_true rfl, Nat.le_of_ble_eq_true rfl⟩ (Nat.le_of_ble_eq_true rfl) dX11_cut_5 ?_
  refine jr_if_ne (tgt := 17) hF dX11_cut_8 rfl hf (fun hf => ?_) (fun hf => ?_)
  · refine jr_aload_n hF dX11_cut_17 0 rfl rfl ?_
    refine jr_getRT (cr := 5) hF gf_X11_30 hT h0 rfl rfl dX11_cut_18 (fun th3 => ?_)
    refine jr_iload_n hF dX11_cut_21 1 rfl rfl ?_
    obtain ⟨q4, hq4, hf⟩ := Option.bind_eq_some_iff.mp hf
    refine jr_cV11 hF ml_X11_296 (c_X5_cutBy hT th3 hq4) th3 ⟨Nat.le_of_ble_eq_true rfl, Nat.le_of_ble_eq_true rfl⟩ (Nat.le_of_ble_eq_true rfl) dX11_cut_22 ?_
    refine jr_if_eq (tgt := 42) hF dX11_cut_25 rfl hf (fun hf => ?_) (fun hf => ?_)
    · refine jr_aload_n hF dX11_cut_42 0 rfl rfl ?_
      refine jr_bipush (v := 7) hF dX11_cut_43 rfl ?_
      obtain ⟨q5, hq5, hf⟩ := Option.bind_eq_some_iff.mp hf
      refine jr_cV11 hF ml_X11_144 (c_X11_none h0 hq5) h0 ⟨Nat.le_of_ble_eq_true rfl, Nat.le_of_ble_eq_true rfl⟩ (Nat.le_of_ble_eq_true rfl) dX11_cut_45 ?_
      obtain rfl := Option.some.inj hf
      exact jr_ireturn hF hE dX11_cut_48
    · refine jr_aload_n hF dX11_cut_28 0 rfl rfl ?_
      refine jr_aload_n hF dX11_cut_29 0 rfl rfl ?_
      refine jr_getRT (cr := 5) hF gf_X11_30 hT h0 rfl rfl dX11_cut_30 (fun th6 => ?_)
      refine jr_getI hF gf_X11_232 th6 dX11_cut_33 ?_
      obtain ⟨q7, hq7, hf⟩ := Option.bind_eq_some_iff.mp hf
      refine jr_cV11 hF ml_X11_194 (c_X11_given h0 hq7) h0 ⟨Nat.le_of_ble_eq_true rfl, Nat.le_of_ble_eq_true rfl⟩ (Nat.le_of_ble_eq_true rfl) dX11_cut_36 ?_
      refine jr_goto (tgt := 48) hF dX11_cut_39 rfl ?_
      obtain rfl := Option.some.inj hf
      exact jr_ireturn hF hE dX11_cut_48
  · refine jr_aload_n hF dX11_cut_11 0 rfl rfl ?_
    refine jr_iconst (v := 1) hF dX11_cut_12 rfl ?_
    obtain ⟨q8, hq8, hf⟩ := Option.bind_eq_some_iff.mp hf
    refine jr_cV11 hF ml_X11_144 (c_X11_none h0 hq8) h0 ⟨Nat.le_of_ble_eq_true rfl, Nat.le_of_ble_eq_true rfl⟩ (Nat.le_of_ble_eq_true rfl) dX11_cut_13 ?_
    obtain rfl := Option.some.inj hf
    exact jr_ireturn hF hE dX11_cut_16
def f_X11_cut (σ : lt_S) (o : Nat) (x1 : Int32) (w : lt_W) : Option (Int32 × lt_W) := fb_X11_cut_0 σ o x1 w
set_option maxRecDepth 100000 in
theorem c_X11_cut {l : Launch} {D : va_G} {gA : Nat → ClassId} {s0 : State} {σ : lt_S} (hT : lt_Wt σ) {o : Nat} (h0 : lt_c σ o = 11) {x1 : Int32} {w : lt_W} {r : Int32 × lt_W} (hf : f_X11_cut σ o x1 w = some r) : lt_C l D gA s0 yX11_cut cX11_cut 2 (some .int) (lt_rm 3) [.ref (s0.heap.size + o), .int x1] σ w σ (some (.int r.1)) r.2 := by
  refine lt_enter rfl (Nat.le_of_ble_eq_true rfl) (fun X e1 e2 e3 e4 hF hE => ?_)
  subst e1 e2 e3 e4
  exact jb_X11_cut_0 hT h0 hF hE _ _ hf

set_option maxRecDepth 100000 in
def fb_X11_givenIfAny_0 (σ : lt_S) (o : Nat) (x1 : Int32) (w : lt_W) : Option (Int32 × lt_W) := if x1 = (-1) then Option.bind (f_X11_none σ o 6 w) (fun q2 => some (q2.1, q2.2)) else Option.bind (f_X11_given σ o x1 w) (fun q1 => some (q1.1, q1.2))
set_option maxHeartbeats 4000000 in
set_option maxRecDepth 100000 in
theorem jb_X11_givenIfAny_0 {X : lt_X} {σ : lt_S} {o : Nat} (h0 : lt_c σ o = 11) {r : Int32 × lt_W} (hF : lt_F X cX11_givenIfAny RX11 2 (lt_rm 2)) (hE : lt_E X 0 0 σ (some .int) (some (.int r.1)) r.2) : ∀ (x1 : Int32) (w : lt_W), fb_X11_givenIfAny_0 σ o x1 w = some r → lt_J X 0 0 σ w 0 [(0, .ref (lt_z X + o)), (1, .int x1)] [] := by
  intro x1 w hf
  unfold fb_X11_givenIfAny_0 at hf
  refine jr_iload_n hF dX11_givenIfAny_0 1 rfl rfl ?_
  refine jr_iconst (v := (-1)) hF dX11_givenIfAny_1 rfl ?_
  refine jr_icmp_ne (tgt := 14) hF dX11_givenIfAny_2 rfl hf (fun hf => ?_) (fun hf => ?_)
  · refine jr_aload_n hF dX11_givenIfAny_14 0 rfl rfl ?_
    refine jr_iload_n hF dX11_givenIfAny_15 1 rfl rfl ?_
    obtain ⟨q1, hq1, hf⟩ := Option.bind_eq_some_iff.mp hf
    refine jr_cV11 hF ml_X11_194 (c_X11_given h0 hq1) h0 ⟨Nat.le_of_ble_eq_true rfl, Nat.le_of_ble_eq_true rfl⟩ (Nat.le_of_ble_eq_true rfl) dX11_givenIfAny_16 ?_
    obtain rfl := Option.some.inj hf
    exact jr_ireturn hF hE dX11_givenIfAny_19
  · refine jr_aload_n hF dX11_givenIfAny_5 0 rfl rfl ?_
    refine jr_bipush (v := 6) hF dX11_givenIfAny_6 rfl ?_
    obtain ⟨q2, hq2, hf⟩ := Option.bind_eq_some_iff.mp hf
    refine jr_cV11 hF ml_X11_144 (c_X11_none h0 hq2) h0 ⟨Nat.le_of_ble_eq_true rfl, Nat.le_of_ble_eq_true rfl⟩ (Nat.le_of_ble_eq_true rfl) dX11_givenIfAny_8 ?_
    refine jr_goto (tgt := 19) hF dX11_givenIfAny_11 rfl ?_
    obtain rfl := Option.some.inj hf
    exact jr_ireturn hF hE dX11_givenIfAny_19
def f_X11_givenIfAny (σ : lt_S) (o : Nat) (x1 : Int32) (w : lt_W) : Option (Int32 × lt_W) := fb_X11_givenIfAny_0 σ o x1 w
set_option maxRecDepth 100000 in
theorem c_X11_givenIfAny {l : Launch} {D : va_G} {gA : Nat → ClassId} {s0 : State} {σ : lt_S} {o : Nat} (h0 : lt_c σ o = 11) {x1 : Int32} {w : lt_W} {r : Int32 × lt_W} (hf : f_X11_givenIfAny σ o x1 w = some r) : lt_C l D gA s0 yX11_givenIfAny cX11_givenIfAny 2 (some .int) (lt_rm 2) [.ref (s0.heap.size + o), .int x1] σ w σ (some (.int r.1)) r.2 := by
  refine lt_enter rfl (Nat.le_of_ble_eq_true rfl) (fun X e1 e2 e3 e4 hF hE => ?_)
  subst e1 e2 e3 e4
  exact jb_X11_givenIfAny_0 h0 hF hE _ _ hf

set_option maxRecDepth 100000 in
def fb_X11_cutter_0 (σ : lt_S) (o : Nat) (w : lt_W) : Option (Int32 × lt_W) := Option.bind (f_X5_firstCutter σ (lt_r σ o 5) w) (fun q2 => Option.bind (f_X11_givenIfAny σ o q2 w) (fun q3 => some (q3.1, q3.2)))
set_option maxHeartbeats 4000000 in
set_option maxRecDepth 100000 in
theorem jb_X11_cutter_0 {X : lt_X} {σ : lt_S} (hT : lt_Wt σ) {o : Nat} (h0 : lt_c σ o = 11) {r : Int32 × lt_W} (hF : lt_F X cX11_cutter RX11 1 (lt_rm 3)) (hE : lt_E X 0 0 σ (some .int) (some (.int r.1)) r.2) : ∀ (w : lt_W), fb_X11_cutter_0 σ o w = some r → lt_J X 0 0 σ w 0 [(0, .ref (lt_z X + o))] [] := by
  intro w hf
  unfold fb_X11_cutter_0 at hf
  refine jr_aload_n hF dX11_cutter_0 0 rfl rfl ?_
  refine jr_aload_n hF dX11_cutter_1 0 rfl rfl ?_
  refine jr_getRT (cr := 5) hF gf_X11_30 hT h0 rfl rfl dX11_cutter_2 (fun th1 => ?_)
  obtain ⟨q2, hq2, hf⟩ := Option.bind_eq_some_iff.mp hf
  refine jr_cV01 hF ml_X11_281 (c_X5_firstCutter hT th1 hq2) th1 ⟨Nat.le_of_ble_eq_true rfl, Nat.le_of_ble_eq_true rfl⟩ (Nat.le_of_ble_eq_true rfl) dX11_cutter_5 ?_
  obtain ⟨q3, hq3, hf⟩ := Option.bind_eq_some_iff.mp hf
  refine jr_cV11 hF ml_X11_275 (c_X11_givenIfAny h0 hq3) h0 ⟨Nat.le_of_ble_eq_true rfl, Nat.le_of_ble_eq_true rfl⟩ (Nat.le_of_ble_eq_true rfl) dX11_cutter_8 ?_
  obtain rfl := Option.some.inj hf
  exact jr_ireturn hF hE dX11_cutter_11
def f_X11_cutter (σ : lt_S) (o : Nat) (w : lt_W) : Option (Int32 × lt_W) := fb_X11_cutter_0 σ o w
set_option maxRecDepth 100000 in
theorem c_X11_cutter {l : Launch} {D : va_G} {gA : Nat → ClassId} {s0 : State} {σ : lt_S} (hT : lt_Wt σ) {o : Nat} (h0 : lt_c σ o = 11) {w : lt_W} {r : Int32 × lt_W} (hf : f_X11_cutter σ o w = some r) : lt_C l D gA s0 yX11_cutter cX11_cutter 1 (some .int) (lt_rm 3) [.ref (s0.heap.size + o)] σ w σ (some (.int r.1)) r.2 := by
  refine lt_enter rfl (Nat.le_of_ble_eq_true rfl) (fun X e1 e2 e3 e4 hF hE => ?_)
  subst e1 e2 e3 e4
  exact jb_X11_cutter_0 hT h0 hF hE _ hf

set_option maxRecDepth 100000 in
def fb_X11_day_0 (σ : lt_S) (o : Nat) (x1 : Int32) (w : lt_W) : Option (Int32 × lt_W) := Option.bind (f_X11_within x1 1 999) (fun q1 => if q1 = 0 then Option.bind (f_X11_none σ o 1 w) (fun q10 => some (q10.1, q10.2)) else Option.bind (f_X5_mayPass σ (lt_r σ o 5) x1 w) (fun q3 => if q3 = 0 then Option.bind (f_X11_none σ o 7 w) (fun q9 => some (q9.1, q9.2)) else Option.bind (f_X5_passDays σ (lt_r σ o 5) x1 w) (fun q5 => Option.bind (f_X5_countThere σ (lt_r σ o 5) q5) (fun q7 => Option.bind (f_X11_given σ o q7 q5) (fun q8 => some (q8.1, q8.2))))))
set_option maxHeartbeats 4000000 in
set_option maxRecDepth 100000 in
theorem jb_X11_day_0 {X : lt_X} {σ : lt_S} (hT : lt_Wt σ) {o : Nat} (h0 : lt_c σ o = 11) {r : Int32 × lt_W} (hF : lt_F X cX11_day RX11 2 (lt_rm 5)) (hE : lt_E X 0 0 σ (some .int) (some (.int r.1)) r.2) : ∀ (x1 : Int32) (w : lt_W), fb_X11_day_0 σ o x1 w = some r → lt_J X 0 0 σ w 0 [(0, .ref (lt_z X + o)), (1, .int x1)] [] := by
  intro x1 w hf
  unfold fb_X11_day_0 at hf
  refine jr_iload_n hF dX11_day_0 1 rfl rfl ?_
  refine jr_iconst (v := 1) hF dX11_day_1 rfl ?_
  refine jr_sipush (v := 999) hF dX11_day_2 rfl ?_
  obtain ⟨q1, hq1, hf⟩ := Option.bind_eq_some_iff.mp hf
  refine jr_cS31 hF ml_X11_121 (c_X11_within hq1) ⟨Nat.le_of_ble_eq_true rfl, Nat.le_of_ble_eq_true rfl⟩ (Nat.le_of_ble_eq_true rfl) dX11_day_5 ?_
  refine jr_if_ne (tgt := 17) hF dX11_day_8 rfl hf (fun hf => ?_) (fun hf => ?_)
  · refine jr_aload_n hF dX11_day_17 0 rfl rfl ?_
    refine jr_getRT (cr := 5) hF gf_X11_30 hT h0 rfl rfl dX11_day_18 (fun th2 => ?_)
    refine jr_iload_n hF dX11_day_21 1 rfl rfl ?_
    obtain ⟨q3, hq3, hf⟩ := Option.bind_eq_some_iff.mp hf
    refine jr_cV11 hF ml_X11_287 (c_X5_mayPass th2 hq3) th2 ⟨Nat.le_of_ble_eq_true rfl, Nat.le_of_ble_eq_true rfl⟩ (Nat.le_of_ble_eq_true rfl) dX11_day_22 ?_
    refine jr_if_ne (tgt := 35) hF dX11_day_25 rfl hf (fun hf => ?_) (fun hf => ?_)
    · refine jr_aload_n hF dX11_day_35 0 rfl rfl ?_
      refine jr_getRT (cr := 5) hF gf_X11_30 hT h0 rfl rfl dX11_day_36 (fun th4 => ?_)
      refine jr_iload_n hF dX11_day_39 1 rfl rfl ?_
      obtain ⟨q5, hq5, hf⟩ := Option.bind_eq_some_iff.mp hf
      refine jr_cV1v hF ml_X11_290 (c_X5_passDays hT th4 hq5) th4 ⟨Nat.le_of_ble_eq_true rfl, Nat.le_of_ble_eq_true rfl⟩ (Nat.le_of_ble_eq_true rfl) dX11_day_40 ?_
      refine jr_aload_n hF dX11_day_43 0 rfl rfl ?_
      refine jr_aload_n hF dX11_day_44 0 rfl rfl ?_
      refine jr_getRT (cr := 5) hF gf_X11_30 hT h0 rfl rfl dX11_day_45 (fun th6 => ?_)
      obtain ⟨q7, hq7, hf⟩ := Option.bind_eq_some_iff.mp hf
      refine jr_cV01 hF ml_X11_293 (c_X5_countThere th6 hq7) th6 ⟨Nat.le_of_ble_eq_true rfl, Nat.le_of_ble_eq_true rfl⟩ (Nat.le_of_ble_eq_true rfl) dX11_day_48 ?_
      obtain ⟨q8, hq8, hf⟩ := Option.bind_eq_some_iff.mp hf
      refine jr_cV11 hF ml_X11_194 (c_X11_given h0 hq8) h0 ⟨Nat.le_of_ble_eq_true rfl, Nat.le_of_ble_eq_true rfl⟩ (Nat.le_of_ble_eq_true rfl) dX11_day_51 ?_
      obtain rfl := Option.some.inj hf
      exact jr_ireturn hF hE dX11_day_54
    · refine jr_aload_n hF dX11_day_28 0 rfl rfl ?_
      refine jr_bipush (v := 7) hF dX11_day_29 rfl ?_
      obtain ⟨q9, hq9, hf⟩ := Option.bind_eq_some_iff.mp hf
      refine jr_cV11 hF ml_X11_144 (c_X11_none h0 hq9) h0 ⟨Nat.le_of_ble_eq_true rfl, Nat.le_of_ble_eq_true rfl⟩ (Nat.le_of_ble_eq_true rfl) dX11_day_31 ?_
      obtain rfl := Option.some.inj hf
      exact jr_ireturn hF hE dX11_day_34
  · refine jr_aload_n hF dX11_day_11 0 rfl rfl ?_
    refine jr_iconst (v := 1) hF dX11_day_12 rfl ?_
    obtain ⟨q10, hq10, hf⟩ := Option.bind_eq_some_iff.mp hf
    refine jr_cV11 hF ml_X11_144 (c_X11_none h0 hq10) h0 ⟨Nat.le_of_ble_eq_true rfl, Nat.le_of_ble_eq_true rfl⟩ (Nat.le_of_ble_eq_true rfl) dX11_day_13 ?_
    obtain rfl := Option.some.inj hf
    exact jr_ireturn hF hE dX11_day_16
def f_X11_day (σ : lt_S) (o : Nat) (x1 : Int32) (w : lt_W) : Option (Int32 × lt_W) := fb_X11_day_0 σ o x1 w
set_option maxRecDepth 100000 in
theorem c_X11_day {l : Launch} {D : va_G} {gA : Nat → ClassId} {s0 : State} {σ : lt_S} (hT : lt_Wt σ) {o : Nat} (h0 : lt_c σ o = 11) {x1 : Int32} {w : lt_W} {r : Int32 × lt_W} (hf : f_X11_day σ o x1 w = some r) : lt_C l D gA s0 yX11_day cX11_day 2 (some .int) (lt_rm 5) [.ref (s0.heap.size + o), .int x1] σ w σ (some (.int r.1)) r.2 := by
  refine lt_enter rfl (Nat.le_of_ble_eq_true rfl) (fun X e1 e2 e3 e4 hF hE => ?_)
  subst e1 e2 e3 e4
  exact jb_X11_day_0 hT h0 hF hE _ _ hf

set_option maxRecDepth 100000 in
def fb_X11_fault_0 (σ : lt_S) (o : Nat) (w : lt_W) (x1 : Int32) : Option Int32 := if x1 = 0 then some (lt_gi w (lt_r σ o 4) 9) else if x1 = 1 then some (lt_gi w (lt_r σ o 4) 10) else some (-1)
set_option maxHeartbeats 4000000 in
set_option maxRecDepth 100000 in
theorem jb_X11_fault_0 {X : lt_X} {σ : lt_S} (hT : lt_Wt σ) {o : Nat} (h0 : lt_c σ o = 11) {r : Int32} {w : lt_W} (hF : lt_F X cX11_fault RX11 2 (lt_rm 1)) (hE : lt_E X 0 0 σ (some .int) (some (.int r)) w) : ∀ (x1 : Int32), fb_X11_fault_0 σ o w x1 = some r → lt_J X 0 0 σ w 0 [(0, .ref (lt_z X + o)), (1, .int x1)] [] := by
  intro x1 hf
  unfold fb_X11_fault_0 at hf
  refine jr_iload_n hF dX11_fault_0 1 rfl rfl ?_
  refine jr_if_ne (tgt := 12) hF dX11_fault_1 rfl hf (fun hf => ?_) (fun hf => ?_)
  · refine jr_iload_n hF dX11_fault_12 1 rfl rfl ?_
    refine jr_iconst (v := 1) hF dX11_fault_13 rfl ?_
    refine jr_icmp_ne (tgt := 27) hF dX11_fault_14 rfl hf (fun hf => ?_) (fun hf => ?_)
    · refine jr_iconst (v := (-1)) hF dX11_fault_27 rfl ?_
      obtain rfl := Option.some.inj hf
      exact jr_ireturn hF hE dX11_fault_28
    · refine jr_aload_n hF dX11_fault_17 0 rfl rfl ?_
      refine jr_getRT (cr := 7) hF gf_X11_23 hT h0 rfl rfl dX11_fault_18 (fun th1 => ?_)
      refine jr_getI hF gf_X11_217 th1 dX11_fault_21 ?_
      refine jr_goto (tgt := 28) hF dX11_fault_24 rfl ?_
      obtain rfl := Option.some.inj hf
      exact jr_ireturn hF hE dX11_fault_28
  · refine jr_aload_n hF dX11_fault_4 0 rfl rfl ?_
    refine jr_getRT (cr := 7) hF gf_X11_23 hT h0 rfl rfl dX11_fault_5 (fun th2 => ?_)
    refine jr_getI hF gf_X11_214 th2 dX11_fault_8 ?_
    obtain rfl := Option.some.inj hf
    exact jr_ireturn hF hE dX11_fault_11
def f_X11_fault (σ : lt_S) (o : Nat) (x1 : Int32) (w : lt_W) : Option Int32 := fb_X11_fault_0 σ o w x1
set_option maxRecDepth 100000 in
theorem c_X11_fault {l : Launch} {D : va_G} {gA : Nat → ClassId} {s0 : State} {σ : lt_S} (hT : lt_Wt σ) {o : Nat} (h0 : lt_c σ o = 11) {x1 : Int32} {w : lt_W} {r : Int32} (hf : f_X11_fault σ o x1 w = some r) : lt_C l D gA s0 yX11_fault cX11_fault 2 (some .int) (lt_rm 1) [.ref (s0.heap.size + o), .int x1] σ w σ (some (.int r)) w := by
  refine lt_enter rfl (Nat.le_of_ble_eq_true rfl) (fun X e1 e2 e3 e4 hF hE => ?_)
  subst e1 e2 e3 e4
  exact jb_X11_fault_0 hT h0 hF hE _ hf

set_option maxRecDepth 100000 in
def fb_X11_feed_0 (σ : lt_S) (o : Nat) (x1 : Int32) (x2 : Int32) (x3 : Int32) (x4 : Int32) (x5 : Int32) (w : lt_W) : Option (Int32 × lt_W) := if ((lt_gi w (lt_r σ o 4) 1) + 20) ≤ 900 then Option.bind (f_X7_append σ (lt_r σ o 4) x1 w) (fun q3 => Option.bind (f_X7_append σ (lt_r σ o 4) x2 q3) (fun q5 => Option.bind (f_X7_append σ (lt_r σ o 4) x3 q5) (fun q7 => Option.bind (f_X7_append σ (lt_r σ o 4) x4 q7) (fun q9 => Option.bind (f_X7_append σ (lt_r σ o 4) x5 q9) (fun q11 => some (lt_gi q11 (lt_r σ o 4) 1, q11)))))) else some ((-1), w)
set_option maxHeartbeats 4000000 in
set_option maxRecDepth 100000 in
theorem jb_X11_feed_0 {X : lt_X} {σ : lt_S} (hT : lt_Wt σ) {o : Nat} (h0 : lt_c σ o = 11) {r : Int32 × lt_W} (hF : lt_F X cX11_feed RX11 6 (lt_rm 2)) (hE : lt_E X 0 0 σ (some .int) (some (.int r.1)) r.2) : ∀ (x1 : Int32) (x2 : Int32) (x3 : Int32) (x4 : Int32) (x5 : Int32) (w : lt_W), fb_X11_feed_0 σ o x1 x2 x3 x4 x5 w = some r → lt_J X 0 0 σ w 0 [(0, .ref (lt_z X + o)), (1, .int x1), (2, .int x2), (3, .int x3), (4, .int x4), (5, .int x5)] [] := by
  intro x1 x2 x3 x4 x5 w hf
  unfold fb_X11_feed_0 at hf
  refine jr_aload_n hF dX11_feed_0 0 rfl rfl ?_
  refine jr_getRT (cr := 7) hF gf_X11_23 hT h0 rfl rfl dX11_feed_1 (fun th1 => ?_)
  refine jr_getI hF gf_X11_169 th1 dX11_feed_4 ?_
  refine jr_bipush (v := 20) hF dX11_feed_7 rfl ?_
  refine jr_iadd hF dX11_feed_9 ?_
  refine jr_sipush (v := 900) hF dX11_feed_10 rfl ?_
  refine jr_icmp_le (tgt := 18) hF dX11_feed_13 rfl hf (fun hf => ?_) (fun hf => ?_)
  · refine jr_aload_n hF dX11_feed_18 0 rfl rfl ?_
    refine jr_getRT (cr := 7) hF gf_X11_23 hT h0 rfl rfl dX11_feed_19 (fun th2 => ?_)
    refine jr_iload_n hF dX11_feed_22 1 rfl rfl ?_
    obtain ⟨q3, hq3, hf⟩ := Option.bind_eq_some_iff.mp hf
    refine jr_cV1v hF ml_X11_172 (c_X7_append hT th2 hq3) th2 ⟨Nat.le_of_ble_eq_true rfl, Nat.le_of_ble_eq_true rfl⟩ (Nat.le_of_ble_eq_true rfl) dX11_feed_23 ?_
    refine jr_aload_n hF dX11_feed_26 0 rfl rfl ?_
    refine jr_getRT (cr := 7) hF gf_X11_23 hT h0 rfl rfl dX11_feed_27 (fun th4 => ?_)
    refine jr_iload_n hF dX11_feed_30 2 rfl rfl ?_
    obtain ⟨q5, hq5, hf⟩ := Option.bind_eq_some_iff.mp hf
    refine jr_cV1v hF ml_X11_172 (c_X7_append hT th4 hq5) th4 ⟨Nat.le_of_ble_eq_true rfl, Nat.le_of_ble_eq_true rfl⟩ (Nat.le_of_ble_eq_true rfl) dX11_feed_31 ?_
    refine jr_aload_n hF dX11_feed_34 0 rfl rfl ?_
    refine jr_getRT (cr := 7) hF gf_X11_23 hT h0 rfl rfl dX11_feed_35 (fun th6 => ?_)
    refine jr_iload_n hF dX11_feed_38 3 rfl rfl ?_
    obtain ⟨q7, hq7, hf⟩ := Option.bind_eq_some_iff.mp hf
    refine jr_cV1v hF ml_X11_172 (c_X7_append hT th6 hq7) th6 ⟨Nat.le_of_ble_eq_true rfl, Nat.le_of_ble_eq_true rfl⟩ (Nat.le_of_ble_eq_true rfl) dX11_feed_39 ?_
    refine jr_aload_n hF dX11_feed_42 0 rfl rfl ?_
    refine jr_getRT (cr := 7) hF gf_X11_23 hT h0 rfl rfl dX11_feed_43 (fun th8 => ?_)
    refine jr_iload hF dX11_feed_46 4 rfl ?_
    obtain ⟨q9, hq9, hf⟩ := Option.bind_eq_some_iff.mp hf
    refine jr_cV1v hF ml_X11_172 (c_X7_append hT th8 hq9) th8 ⟨Nat.le_of_ble_eq_true rfl, Nat.le_of_ble_eq_true rfl⟩ (Nat.le_of_ble_eq_true rfl) dX11_feed_48 ?_
    refine jr_aload_n hF dX11_feed_51 0 rfl rfl ?_
    refine jr_getRT (cr := 7) hF gf_X11_23 hT h0 rfl rfl dX11_feed_52 (fun th10 => ?_)
    refine jr_iload hF dX11_feed_55 5 rfl ?_
    obtain ⟨q11, hq11, hf⟩ := Option.bind_eq_some_iff.mp hf
    refine jr_cV1v hF ml_X11_172 (c_X7_append hT th10 hq11) th10 ⟨Nat.le_of_ble_eq_true rfl, Nat.le_of_ble_eq_true rfl⟩ (Nat.le_of_ble_eq_true rfl) dX11_feed_57 ?_
    refine jr_aload_n hF dX11_feed_60 0 rfl rfl ?_
    refine jr_getRT (cr := 7) hF gf_X11_23 hT h0 rfl rfl dX11_feed_61 (fun th12 => ?_)
    refine jr_getI hF gf_X11_169 th12 dX11_feed_64 ?_
    obtain rfl := Option.some.inj hf
    exact jr_ireturn hF hE dX11_feed_67
  · refine jr_iconst (v := (-1)) hF dX11_feed_16 rfl ?_
    obtain rfl := Option.some.inj hf
    exact jr_ireturn hF hE dX11_feed_17
def f_X11_feed (σ : lt_S) (o : Nat) (x1 : Int32) (x2 : Int32) (x3 : Int32) (x4 : Int32) (x5 : Int32) (w : lt_W) : Option (Int32 × lt_W) := fb_X11_feed_0 σ o x1 x2 x3 x4 x5 w
set_option maxRecDepth 100000 in
theorem c_X11_feed {l : Launch} {D : va_G} {gA : Nat → ClassId} {s0 : State} {σ : lt_S} (hT : lt_Wt σ) {o : Nat} (h0 : lt_c σ o = 11) {x1 : Int32} {x2 : Int32} {x3 : Int32} {x4 : Int32} {x5 : Int32} {w : lt_W} {r : Int32 × lt_W} (hf : f_X11_feed σ o x1 x2 x3 x4 x5 w = some r) : lt_C l D gA s0 yX11_feed cX11_feed 6 (some .int) (lt_rm 2) [.ref (s0.heap.size + o), .int x1, .int x2, .int x3, .int x4, .int x5] σ w σ (some (.int r.1)) r.2 := by
  refine lt_enter rfl (Nat.le_of_ble_eq_true rfl) (fun X e1 e2 e3 e4 hF hE => ?_)
  subst e1 e2 e3 e4
  exact jb_X11_feed_0 hT h0 hF hE _ _ _ _ _ _ hf

set_option maxRecDepth 100000 in
def fb_X11_game_18 (σ : lt_S) (o : Nat) (w : lt_W) : Option (Int32 × lt_W) := Option.bind (f_X11_none σ o 1 w) (fun q1 => some (q1.1, q1.2))
set_option maxHeartbeats 4000000 in
set_option maxRecDepth 100000 in
theorem jb_X11_game_18 {X : lt_X} {σ : lt_S} (hT : lt_Wt σ) {o : Nat} (h0 : lt_c σ o = 11) {r : Int32 × lt_W} (hF : lt_F X cX11_game RX11 4 (lt_rm 16)) (hE : lt_E X 0 0 σ (some .int) (some (.int r.1)) r.2) : ∀ (w : lt_W), fb_X11_game_18 σ o w = some r → lt_J X 0 0 σ w 18 [(0, .ref (lt_z X + o))] [] := by
  intro w hf
  unfold fb_X11_game_18 at hf
  refine jr_aload_n hF dX11_game_18 0 rfl rfl ?_
  refine jr_iconst (v := 1) hF dX11_game_19 rfl ?_
  obtain ⟨q1, hq1, hf⟩ := Option.bind_eq_some_iff.mp hf
  refine jr_cV11 hF ml_X11_144 (c_X11_none h0 hq1) h0 ⟨Nat.le_of_ble_eq_true rfl, Nat.le_of_ble_eq_true rfl⟩ (Nat.le_of_ble_eq_true rfl) dX11_game_20 ?_
  obtain rfl := Option.some.inj hf
  exact jr_ireturn hF hE dX11_game_23
set_option maxRecDepth 100000 in
def fb_X11_game_0 (σ : lt_S) (o : Nat) (x1 : Int32) (x2 : Int32) (x3 : Int32) (w : lt_W) : Option (Int32 × lt_W) := Option.bind (f_X11_areTwo σ o x1 x2 w) (fun q1 => if q1 = 0 then fb_X11_game_18 σ o w else Option.bind (f_X11_within x3 0 3) (fun q2 => if q2 = 0 then fb_X11_game_18 σ o w else Option.bind (f_X1_outcomeOf σ (lt_r σ o 12) x1 x2 x3 w) (fun q4 => Option.bind (f_X11_given σ o q4.1 q4.2) (fun q5 => some (q5.1, q5.2)))))
set_option maxHeartbeats 4000000 in
set_option maxRecDepth 100000 in
theorem jb_X11_game_0 {X : lt_X} {σ : lt_S} (hT : lt_Wt σ) {o : Nat} (h0 : lt_c σ o = 11) {r : Int32 × lt_W} (hF : lt_F X cX11_game RX11 4 (lt_rm 16)) (hE : lt_E X 0 0 σ (some .int) (some (.int r.1)) r.2) : ∀ (x1 : Int32) (x2 : Int32) (x3 : Int32) (w : lt_W), fb_X11_game_0 σ o x1 x2 x3 w = some r → lt_J X 0 0 σ w 0 [(0, .ref (lt_z X + o)), (1, .int x1), (2, .int x2), (3, .int x3)] [] := by
  intro x1 x2 x3 w hf
  unfold fb_X11_game_0 at hf
  refine jr_aload_n hF dX11_game_0 0 rfl rfl ?_
  refine jr_iload_n hF dX11_game_1 1 rfl rfl ?_
  refine jr_iload_n hF dX11_game_2 2 rfl rfl ?_
  obtain ⟨q1, hq1, hf⟩ := Option.bind_eq_some_iff.mp hf
  refine jr_cV21 hF ml_X11_299 (c_X11_areTwo hT h0 hq1) h0 ⟨Nat.le_of_ble_eq_true rfl, Nat.le_of_ble_eq_true rfl⟩ (Nat.le_of_ble_eq_true rfl) dX11_game_3 ?_
  refine jr_if_eq (tgt := 18) hF dX11_game_6 rfl hf (fun hf => ?_) (fun hf => ?_)
  · refine jr_sub [0] rfl ?_
    exact jb_X11_game_18 hT h0 hF hE _ hf
  · refine jr_iload_n hF dX11_game_9 3 rfl rfl ?_
    refine jr_iconst (v := 0) hF dX11_game_10 rfl ?_
    refine jr_iconst (v := 3) hF dX11_game_11 rfl ?_
    obtain ⟨q2, hq2, hf⟩ := Option.bind_eq_some_iff.mp hf
    refine jr_cS31 hF ml_X11_121 (c_X11_within hq2) ⟨Nat.le_of_ble_eq_true rfl, Nat.le_of_ble_eq_true rfl⟩ (Nat.le_of_ble_eq_true rfl) dX11_game_12 ?_
    refine jr_if_ne (tgt := 24) hF dX11_game_15 rfl hf (fun hf => ?_) (fun hf => ?_)
    · refine jr_aload_n hF dX11_game_24 0 rfl rfl ?_
      refine jr_aload_n hF dX11_game_25 0 rfl rfl ?_
      refine jr_getRT (cr := 1) hF gf_X11_85 hT h0 rfl rfl dX11_game_26 (fun th3 => ?_)
      refine jr_iload_n hF dX11_game_29 1 rfl rfl ?_
      refine jr_iload_n hF dX11_game_30 2 rfl rfl ?_
      refine jr_iload_n hF dX11_game_31 3 rfl rfl ?_
      obtain ⟨q4, hq4, hf⟩ := Option.bind_eq_some_iff.mp hf
      refine jr_cV31 hF ml_X11_373 (c_X1_outcomeOf hT th3 hq4) th3 ⟨Nat.le_of_ble_eq_true rfl, Nat.le_of_ble_eq_true rfl⟩ (Nat.le_of_ble_eq_true rfl) dX11_game_32 ?_
      obtain ⟨q5, hq5, hf⟩ := Option.bind_eq_some_iff.mp hf
      refine jr_cV11 hF ml_X11_194 (c_X11_given h0 hq5) h0 ⟨Nat.le_of_ble_eq_true rfl, Nat.le_of_ble_eq_true rfl⟩ (Nat.le_of_ble_eq_true rfl) dX11_game_35 ?_
      obtain rfl := Option.some.inj hf
      exact jr_ireturn hF hE dX11_game_38
    · refine jr_sub [0] rfl ?_
      exact jb_X11_game_18 hT h0 hF hE _ hf
def f_X11_game (σ : lt_S) (o : Nat) (x1 : Int32) (x2 : Int32) (x3 : Int32) (w : lt_W) : Option (Int32 × lt_W) := fb_X11_game_0 σ o x1 x2 x3 w
set_option maxRecDepth 100000 in
theorem c_X11_game {l : Launch} {D : va_G} {gA : Nat → ClassId} {s0 : State} {σ : lt_S} (hT : lt_Wt σ) {o : Nat} (h0 : lt_c σ o = 11) {x1 : Int32} {x2 : Int32} {x3 : Int32} {w : lt_W} {r : Int32 × lt_W} (hf : f_X11_game σ o x1 x2 x3 w = some r) : lt_C l D gA s0 yX11_game cX11_game 4 (some .int) (lt_rm 16) [.ref (s0.heap.size + o), .int x1, .int x2, .int x3] σ w σ (some (.int r.1)) r.2 := by
  refine lt_enter rfl (Nat.le_of_ble_eq_true rfl) (fun X e1 e2 e3 e4 hF hE => ?_)
  subst e1 e2 e3 e4
  exact jb_X11_game_0 hT h0 hF hE _ _ _ _ hf

set_option maxRecDepth 100000 in
def fb_X11_guest_151 (σ : lt_S) (o : Nat) (y1 : Int32) (w : lt_W) : Option (Int32 × lt_W) := Option.bind (f_X11_given σ o y1 w) (fun q1 => some (q1.1, q1.2))
set_option maxHeartbeats 4000000 in
set_option maxRecDepth 100000 in
theorem jb_X11_guest_151 {X : lt_X} {σ : lt_S} (hT : lt_Wt σ) {o : Nat} (h0 : lt_c σ o = 11) {r : Int32 × lt_W} (hF : lt_F X cX11_guest RX11 3 (lt_rm 3)) (hE : lt_E X 0 0 σ (some .int) (some (.int r.1)) r.2) : ∀ (y1 : Int32) (w : lt_W), fb_X11_guest_151 σ o y1 w = some r → lt_J X 0 0 σ w 151 [(0, .ref (lt_z X + o))] [.int y1, .ref (lt_z X + o)] := by
  intro y1 w hf
  unfold fb_X11_guest_151 at hf
  obtain ⟨q1, hq1, hf⟩ := Option.bind_eq_some_iff.mp hf
  refine jr_cV11 hF ml_X11_194 (c_X11_given h0 hq1) h0 ⟨Nat.le_of_ble_eq_true rfl, Nat.le_of_ble_eq_true rfl⟩ (Nat.le_of_ble_eq_true rfl) dX11_guest_151 ?_
  obtain rfl := Option.some.inj hf
  exact jr_ireturn hF hE dX11_guest_154
set_option maxRecDepth 100000 in
def fb_X11_guest_0 (σ : lt_S) (o : Nat) (x1 : Int32) (x2 : Int32) (w : lt_W) : Option (Int32 × lt_W) := Option.bind (f_X5_hasGuest σ (lt_r σ o 5) x1 w) (fun q2 => if q2 = 0 then Option.bind (f_X11_none σ o 1 w) (fun q35 => some (q35.1, q35.2)) else if x2 = 0 then lt_ck x1 (lt_len σ (lt_r σ (lt_r σ o 5) 10)) (Option.bind (f_X11_given σ o (lt_gi w (lt_r σ (lt_r σ o 5) 10) x1.toNatClampNeg) w) (fun q5 => some (q5.1, q5.2))) else if x2 = 1 then lt_ck x1 (lt_len σ (lt_r σ (lt_r σ o 5) 11)) (Option.bind (f_X11_given σ o (lt_gi w (lt_r σ (lt_r σ o 5) 11) x1.toNatClampNeg) w) (fun q9 => some (q9.1, q9.2))) else if x2 = 2 then lt_ck x1 (lt_len σ (lt_r σ (lt_r σ o 5) 12)) (Option.bind (f_X11_given σ o (lt_gi w (lt_r σ (lt_r σ o 5) 12) x1.toNatClampNeg) w) (fun q13 => some (q13.1, q13.2))) else if x2 = 3 then lt_ck x1 (lt_len σ (lt_r σ (lt_r σ o 5) 13)) (Option.bind (f_X11_given σ o (lt_gi w (lt_r σ (lt_r σ o 5) 13) x1.toNatClampNeg) w) (fun q17 => some (q17.1, q17.2))) else if x2 = 4 then lt_ck x1 (lt_len σ (lt_r σ (lt_r σ o 5) 14)) (Option.bind (f_X11_given σ o (lt_gi w (lt_r σ (lt_r σ o 5) 14) x1.toNatClampNeg) w) (fun q21 => some (q21.1, q21.2))) else if x2 = 5 then Option.bind (f_X5_isThere σ (lt_r σ o 5) x1 w) (fun q24 => if q24 = 0 then fb_X11_guest_151 σ o 0 w else fb_X11_guest_151 σ o 1 w) else if x2 = 6 then lt_ck x1 (lt_len σ (lt_r σ (lt_r σ o 5) 15)) (Option.bind (f_X11_givenIfAny σ o (lt_gi w (lt_r σ (lt_r σ o 5) 15) x1.toNatClampNeg) w) (fun q28 => some (q28.1, q28.2))) else if x2 = 7 then Option.bind (f_X5_passingSet σ (lt_r σ o 5) x1 w) (fun q31 => Option.bind (f_X11_given σ o q31 w) (fun q32 => some (q32.1, q32.2))) else Option.bind (f_X11_none σ o 1 w) (fun q34 => some (q34.1, q34.2)))
set_option maxHeartbeats 4000000 in
set_option maxRecDepth 100000 in
theorem jb_X11_guest_0 {X : lt_X} {σ : lt_S} (hT : lt_Wt σ) {o : Nat} (h0 : lt_c σ o = 11) {r : Int32 × lt_W} (hF : lt_F X cX11_guest RX11 3 (lt_rm 3)) (hE : lt_E X 0 0 σ (some .int) (some (.int r.1)) r.2) : ∀ (x1 : Int32) (x2 : Int32) (w : lt_W), fb_X11_guest_0 σ o x1 x2 w = some r → lt_J X 0 0 σ w 0 [(0, .ref (lt_z X + o)), (1, .int x1), (2, .int x2)] [] := by
  intro x1 x2 w hf
  unfold fb_X11_guest_0 at hf
  refine jr_aload_n hF dX11_guest_0 0 rfl rfl ?_
  refine jr_getRT (cr := 5) hF gf_X11_30 hT h0 rfl rfl dX11_guest_1 (fun th1 => ?_)
  refine jr_iload_n hF dX11_guest_4 1 rfl rfl ?_
  obtain ⟨q2, hq2, hf⟩ := Option.bind_eq_some_iff.mp hf
  refine jr_cV11 hF ml_X11_251 (c_X5_hasGuest th1 hq2) th1 ⟨Nat.le_of_ble_eq_true rfl, Nat.le_of_ble_eq_true rfl⟩ (Nat.le_of_ble_eq_true rfl) dX11_guest_5 ?_
  refine jr_if_ne (tgt := 17) hF dX11_guest_8 rfl hf (fun hf => ?_) (fun hf => ?_)
  · refine jr_iload_n hF dX11_guest_17 2 rfl rfl ?_
    by_cases c6 : x2 = 0
    · rw [if_pos c6] at hf
      refine jr_tableIn (off := 46) (tgt := 64) hF dX11_guest_18 (by rw [c6]; decide) (by rw [c6]; decide) (by rw [c6]; rfl) rfl ?_
      refine jr_aload_n hF dX11_guest_64 0 rfl rfl ?_
      refine jr_aload_n hF dX11_guest_65 0 rfl rfl ?_
      refine jr_getRT (cr := 5) hF gf_X11_30 hT h0 rfl rfl dX11_guest_66 (fun th3 => ?_)
      refine jr_getRT (cr := 50) hF gf_X11_254 hT th3 rfl rfl dX11_guest_69 (fun th4 => ?_)
      refine jr_iload_n hF dX11_guest_72 1 rfl rfl ?_
      refine jr_iaload hF th4 dX11_guest_73 hf (fun hf => ?_)
      obtain ⟨q5, hq5, hf⟩ := Option.bind_eq_some_iff.mp hf
      refine jr_cV11 hF ml_X11_194 (c_X11_given h0 hq5) h0 ⟨Nat.le_of_ble_eq_true rfl, Nat.le_of_ble_eq_true rfl⟩ (Nat.le_of_ble_eq_true rfl) dX11_guest_74 ?_
      obtain rfl := Option.some.inj hf
      exact jr_ireturn hF hE dX11_guest_77
    rw [if_neg c6] at hf
    by_cases c10 : x2 = 1
    · rw [if_pos c10] at hf
      refine jr_tableIn (off := 60) (tgt := 78) hF dX11_guest_18 (by rw [c10]; decide) (by rw [c10]; decide) (by rw [c10]; rfl) rfl ?_
      refine jr_aload_n hF dX11_guest_78 0 rfl rfl ?_
      refine jr_aload_n hF dX11_guest_79 0 rfl rfl ?_
      refine jr_getRT (cr := 5) hF gf_X11_30 hT h0 rfl rfl dX11_guest_80 (fun th7 => ?_)
      refine jr_getRT (cr := 50) hF gf_X11_257 hT th7 rfl rfl dX11_guest_83 (fun th8 => ?_)
      refine jr_iload_n hF dX11_guest_86 1 rfl rfl ?_
      refine jr_iaload hF th8 dX11_guest_87 hf (fun hf => ?_)
      obtain ⟨q9, hq9, hf⟩ := Option.bind_eq_some_iff.mp hf
      refine jr_cV11 hF ml_X11_194 (c_X11_given h0 hq9) h0 ⟨Nat.le_of_ble_eq_true rfl, Nat.le_of_ble_eq_true rfl⟩ (Nat.le_of_ble_eq_true rfl) dX11_guest_88 ?_
      obtain rfl := Option.some.inj hf
      exact jr_ireturn hF hE dX11_guest_91
    rw [if_neg c10] at hf
    by_cases c14 : x2 = 2
    · rw [if_pos c14] at hf
      refine jr_tableIn (off := 74) (tgt := 92) hF dX11_guest_18 (by rw [c14]; decide) (by rw [c14]; decide) (by rw [c14]; rfl) rfl ?_
      refine jr_aload_n hF dX11_guest_92 0 rfl rfl ?_
      refine jr_aload_n hF dX11_guest_93 0 rfl rfl ?_
      refine jr_getRT (cr := 5) hF gf_X11_30 hT h0 rfl rfl dX11_guest_94 (fun th11 => ?_)
      refine jr_getRT (cr := 50) hF gf_X11_260 hT th11 rfl rfl dX11_guest_97 (fun th12 => ?_)
      refine jr_iload_n hF dX11_guest_100 1 rfl rfl ?_
      refine jr_iaload hF th12 dX11_guest_101 hf (fun hf => ?_)
      obtain ⟨q13, hq13, hf⟩ := Option.bind_eq_some_iff.mp hf
      refine jr_cV11 hF ml_X11_194 (c_X11_given h0 hq13) h0 ⟨Nat.le_of_ble_eq_true rfl, Nat.le_of_ble_eq_true rfl⟩ (Nat.le_of_ble_eq_true rfl) dX11_guest_102 ?_
      obtain rfl := Option.some.inj hf
      exact jr_ireturn hF hE dX11_guest_105
    rw [if_neg c14] at hf
    by_cases c18 : x2 = 3
    · rw [if_pos c18] at hf
      refine jr_tableIn (off := 88) (tgt := 106) hF dX11_guest_18 (by rw [c18]; decide) (by rw [c18]; decide) (by rw [c18]; rfl) rfl ?_
      refine jr_aload_n hF dX11_guest_106 0 rfl rfl ?_
      refine jr_aload_n hF dX11_guest_107 0 rfl rfl ?_
      refine jr_getRT (cr := 5) hF gf_X11_30 hT h0 rfl rfl dX11_guest_108 (fun th15 => ?_)
      refine jr_getRT (cr := 50) hF gf_X11_263 hT th15 rfl rfl dX11_guest_111 (fun th16 => ?_)
      refine jr_iload_n hF dX11_guest_114 1 rfl rfl ?_
      refine jr_iaload hF th16 dX11_guest_115 hf (fun hf => ?_)
      obtain ⟨q17, hq17, hf⟩ := Option.bind_eq_some_iff.mp hf
      refine jr_cV11 hF ml_X11_194 (c_X11_given h0 hq17) h0 ⟨Nat.le_of_ble_eq_true rfl, Nat.le_of_ble_eq_true rfl⟩ (Nat.le_of_ble_eq_true rfl) dX11_guest_116 ?_
      obtain rfl := Option.some.inj hf
      exact jr_ireturn hF hE dX11_guest_119
    rw [if_neg c18] at hf
    by_cases c22 : x2 = 4
    · rw [if_pos c22] at hf
      refine jr_tableIn (off := 102) (tgt := 120) hF dX11_guest_18 (by rw [c22]; decide) (by rw [c22]; decide) (by rw [c22]; rfl) rfl ?_
      refine jr_aload_n hF dX11_guest_120 0 rfl rfl ?_
      refine jr_aload_n hF dX11_guest_121 0 rfl rfl ?_
      refine jr_getRT (cr := 5) hF gf_X11_30 hT h0 rfl rfl dX11_guest_122 (fun th19 => ?_)
      refine jr_getRT (cr := 50) hF gf_X11_266 hT th19 rfl rfl dX11_guest_125 (fun th20 => ?_)
      refine jr_iload_n hF dX11_guest_128 1 rfl rfl ?_
      refine jr_iaload hF th20 dX11_guest_129 hf (fun hf => ?_)
      obtain ⟨q21, hq21, hf⟩ := Option.bind_eq_some_iff.mp hf
      refine jr_cV11 hF ml_X11_194 (c_X11_given h0 hq21) h0 ⟨Nat.le_of_ble_eq_true rfl, Nat.le_of_ble_eq_true rfl⟩ (Nat.le_of_ble_eq_true rfl) dX11_guest_130 ?_
      obtain rfl := Option.some.inj hf
      exact jr_ireturn hF hE dX11_guest_133
    rw [if_neg c22] at hf
    by_cases c25 : x2 = 5
    · rw [if_pos c25] at hf
      refine jr_tableIn (off := 116) (tgt := 134) hF dX11_guest_18 (by rw [c25]; decide) (by rw [c25]; decide) (by rw [c25]; rfl) rfl ?_
      refine jr_aload_n hF dX11_guest_134 0 rfl rfl ?_
      refine jr_aload_n hF dX11_guest_135 0 rfl rfl ?_
      refine jr_getRT (cr := 5) hF gf_X11_30 hT h0 rfl rfl dX11_guest_136 (fun th23 => ?_)
      refine jr_iload_n hF dX11_guest_139 1 rfl rfl ?_
      obtain ⟨q24, hq24, hf⟩ := Option.bind_eq_some_iff.mp hf
      refine jr_cV11 hF ml_X11_269 (c_X5_isThere th23 hq24) th23 ⟨Nat.le_of_ble_eq_true rfl, Nat.le_of_ble_eq_true rfl⟩ (Nat.le_of_ble_eq_true rfl) dX11_guest_140 ?_
      refine jr_if_eq (tgt := 150) hF dX11_guest_143 rfl hf (fun hf => ?_) (fun hf => ?_)
      · refine jr_iconst (v := 0) hF dX11_guest_150 rfl ?_
        refine jr_sub [0] rfl ?_
        exact jb_X11_guest_151 hT h0 hF hE _ _ hf
      · refine jr_iconst (v := 1) hF dX11_guest_146 rfl ?_
        refine jr_goto (tgt := 151) hF dX11_guest_147 rfl ?_
        refine jr_sub [0] rfl ?_
        exact jb_X11_guest_151 hT h0 hF hE _ _ hf
    rw [if_neg c25] at hf
    by_cases c29 : x2 = 6
    · rw [if_pos c29] at hf
      refine jr_tableIn (off := 137) (tgt := 155) hF dX11_guest_18 (by rw [c29]; decide) (by rw [c29]; decide) (by rw [c29]; rfl) rfl ?_
      refine jr_aload_n hF dX11_guest_155 0 rfl rfl ?_
      refine jr_aload_n hF dX11_guest_156 0 rfl rfl ?_
      refine jr_getRT (cr := 5) hF gf_X11_30 hT h0 rfl rfl dX11_guest_157 (fun th26 => ?_)
      refine jr_getRT (cr := 50) hF gf_X11_272 hT th26 rfl rfl dX11_guest_160 (fun th27 => ?_)
      refine jr_iload_n hF dX11_guest_163 1 rfl rfl ?_
      refine jr_iaload hF th27 dX11_guest_164 hf (fun hf => ?_)
      obtain ⟨q28, hq28, hf⟩ := Option.bind_eq_some_iff.mp hf
      refine jr_cV11 hF ml_X11_275 (c_X11_givenIfAny h0 hq28) h0 ⟨Nat.le_of_ble_eq_true rfl, Nat.le_of_ble_eq_true rfl⟩ (Nat.le_of_ble_eq_true rfl) dX11_guest_165 ?_
      obtain rfl := Option.some.inj hf
      exact jr_ireturn hF hE dX11_guest_168
    rw [if_neg c29] at hf
    by_cases c33 : x2 = 7
    · rw [if_pos c33] at hf
      refine jr_tableIn (off := 151) (tgt := 169) hF dX11_guest_18 (by rw [c33]; decide) (by rw [c33]; decide) (by rw [c33]; rfl) rfl ?_
      refine jr_aload_n hF dX11_guest_169 0 rfl rfl ?_
      refine jr_aload_n hF dX11_guest_170 0 rfl rfl ?_
      refine jr_getRT (cr := 5) hF gf_X11_30 hT h0 rfl rfl dX11_guest_171 (fun th30 => ?_)
      refine jr_iload_n hF dX11_guest_174 1 rfl rfl ?_
      obtain ⟨q31, hq31, hf⟩ := Option.bind_eq_some_iff.mp hf
      refine jr_cV11 hF ml_X11_278 (c_X5_passingSet hT th30 hq31) th30 ⟨Nat.le_of_ble_eq_true rfl, Nat.le_of_ble_eq_true rfl⟩ (Nat.le_of_ble_eq_true rfl) dX11_guest_175 ?_
      obtain ⟨q32, hq32, hf⟩ := Option.bind_eq_some_iff.mp hf
      refine jr_cV11 hF ml_X11_194 (c_X11_given h0 hq32) h0 ⟨Nat.le_of_ble_eq_true rfl, Nat.le_of_ble_eq_true rfl⟩ (Nat.le_of_ble_eq_true rfl) dX11_guest_178 ?_
      obtain rfl := Option.some.inj hf
      exact jr_ireturn hF hE dX11_guest_181
    rw [if_neg c33] at hf
    refine jr_tableOut (tgt := 182) hF dX11_guest_18 (lt_swd fun kk h1 h2 => by rcases (show kk = 0 ∨ kk = 1 ∨ kk = 2 ∨ kk = 3 ∨ kk = 4 ∨ kk = 5 ∨ kk = 6 ∨ kk = 7 by omega) with rfl | rfl | rfl | rfl | rfl | rfl | rfl | rfl <;> first | exact c6 | exact c10 | exact c14 | exact c18 | exact c22 | exact c25 | exact c29 | exact c33) rfl ?_
    refine jr_aload_n hF dX11_guest_182 0 rfl rfl ?_
    refine jr_iconst (v := 1) hF dX11_guest_183 rfl ?_
    obtain ⟨q34, hq34, hf⟩ := Option.bind_eq_some_iff.mp hf
    refine jr_cV11 hF ml_X11_144 (c_X11_none h0 hq34) h0 ⟨Nat.le_of_ble_eq_true rfl, Nat.le_of_ble_eq_true rfl⟩ (Nat.le_of_ble_eq_true rfl) dX11_guest_184 ?_
    obtain rfl := Option.some.inj hf
    exact jr_ireturn hF hE dX11_guest_187
  · refine jr_aload_n hF dX11_guest_11 0 rfl rfl ?_
    refine jr_iconst (v := 1) hF dX11_guest_12 rfl ?_
    obtain ⟨q35, hq35, hf⟩ := Option.bind_eq_some_iff.mp hf
    refine jr_cV11 hF ml_X11_144 (c_X11_none h0 hq35) h0 ⟨Nat.le_of_ble_eq_true rfl, Nat.le_of_ble_eq_true rfl⟩ (Nat.le_of_ble_eq_true rfl) dX11_guest_13 ?_
    obtain rfl := Option.some.inj hf
    exact jr_ireturn hF hE dX11_guest_16
def f_X11_guest (σ : lt_S) (o : Nat) (x1 : Int32) (x2 : Int32) (w : lt_W) : Option (Int32 × lt_W) := fb_X11_guest_0 σ o x1 x2 w
set_option maxRecDepth 100000 in
theorem c_X11_guest {l : Launch} {D : va_G} {gA : Nat → ClassId} {s0 : State} {σ : lt_S} (hT : lt_Wt σ) {o : Nat} (h0 : lt_c σ o = 11) {x1 : Int32} {x2 : Int32} {w : lt_W} {r : Int32 × lt_W} (hf : f_X11_guest σ o x1 x2 w = some r) : lt_C l D gA s0 yX11_guest cX11_guest 3 (some .int) (lt_rm 3) [.ref (s0.heap.size + o), .int x1, .int x2] σ w σ (some (.int r.1)) r.2 := by
  refine lt_enter rfl (Nat.le_of_ble_eq_true rfl) (fun X e1 e2 e3 e4 hF hE => ?_)
  subst e1 e2 e3 e4
  exact jb_X11_guest_0 hT h0 hF hE _ _ _ hf

set_option maxRecDepth 100000 in
def fb_X11_guestIn_30 (σ : lt_S) (o : Nat) (w : lt_W) : Option (Int32 × lt_W) := Option.bind (f_X11_none σ o 1 w) (fun q1 => some (q1.1, q1.2))
set_option maxHeartbeats 4000000 in
set_option maxRecDepth 100000 in
theorem jb_X11_guestIn_30 {X : lt_X} {σ : lt_S} (hT : lt_Wt σ) {o : Nat} (h0 : lt_c σ o = 11) {r : Int32 × lt_W} (hF : lt_F X cX11_guestIn RX11 5 (lt_rm 6)) (hE : lt_E X 0 0 σ (some .int) (some (.int r.1)) r.2) : ∀ (w : lt_W), fb_X11_guestIn_30 σ o w = some r → lt_J X 0 0 σ w 30 [(0, .ref (lt_z X + o))] [] := by
  intro w hf
  unfold fb_X11_guestIn_30 at hf
  refine jr_aload_n hF dX11_guestIn_30 0 rfl rfl ?_
  refine jr_iconst (v := 1) hF dX11_guestIn_31 rfl ?_
  obtain ⟨q1, hq1, hf⟩ := Option.bind_eq_some_iff.mp hf
  refine jr_cV11 hF ml_X11_144 (c_X11_none h0 hq1) h0 ⟨Nat.le_of_ble_eq_true rfl, Nat.le_of_ble_eq_true rfl⟩ (Nat.le_of_ble_eq_true rfl) dX11_guestIn_32 ?_
  obtain rfl := Option.some.inj hf
  exact jr_ireturn hF hE dX11_guestIn_35
set_option maxRecDepth 100000 in
def fb_X11_guestIn_68 (σ : lt_S) (o : Nat) (y1 : Int32) (w : lt_W) : Option (Int32 × lt_W) := Option.bind (f_X11_given σ o y1 w) (fun q1 => some (q1.1, q1.2))
set_option maxHeartbeats 4000000 in
set_option maxRecDepth 100000 in
theorem jb_X11_guestIn_68 {X : lt_X} {σ : lt_S} (hT : lt_Wt σ) {o : Nat} (h0 : lt_c σ o = 11) {r : Int32 × lt_W} (hF : lt_F X cX11_guestIn RX11 5 (lt_rm 6)) (hE : lt_E X 0 0 σ (some .int) (some (.int r.1)) r.2) : ∀ (y1 : Int32) (w : lt_W), fb_X11_guestIn_68 σ o y1 w = some r → lt_J X 0 0 σ w 68 [(0, .ref (lt_z X + o))] [.int y1, .ref (lt_z X + o)] := by
  intro y1 w hf
  unfold fb_X11_guestIn_68 at hf
  obtain ⟨q1, hq1, hf⟩ := Option.bind_eq_some_iff.mp hf
  refine jr_cV11 hF ml_X11_194 (c_X11_given h0 hq1) h0 ⟨Nat.le_of_ble_eq_true rfl, Nat.le_of_ble_eq_true rfl⟩ (Nat.le_of_ble_eq_true rfl) dX11_guestIn_68 ?_
  obtain rfl := Option.some.inj hf
  exact jr_ireturn hF hE dX11_guestIn_71
set_option maxRecDepth 100000 in
def fb_X11_guestIn_0 (σ : lt_S) (o : Nat) (x1 : Int32) (x2 : Int32) (x3 : Int32) (w : lt_W) : Option (Int32 × lt_W) := Option.bind (f_X5_hasGuest σ (lt_r σ o 5) x1 w) (fun q2 => if q2 = 0 then fb_X11_guestIn_30 σ o w else Option.bind (f_X11_within x2 0 99) (fun q3 => if q3 = 0 then fb_X11_guestIn_30 σ o w else Option.bind (f_X11_within x3 0 1) (fun q4 => if q4 = 0 then fb_X11_guestIn_30 σ o w else Option.bind (f_X0_inDays σ (lt_r σ o 9) x2 w) (fun q6 => if x3 = 0 then lt_ck x1 (lt_len σ (lt_r σ q6.1 10)) (fb_X11_guestIn_68 σ o (lt_gi q6.2 (lt_r σ q6.1 10) x1.toNatClampNeg) q6.2) else lt_ck x1 (lt_len σ (lt_r σ q6.1 14)) (fb_X11_guestIn_68 σ o (lt_gi q6.2 (lt_r σ q6.1 14) x1.toNatClampNeg) q6.2)))))
set_option maxHeartbeats 4000000 in
set_option maxRecDepth 100000 in
theorem jb_X11_guestIn_0 {X : lt_X} {σ : lt_S} (hT : lt_Wt σ) {o : Nat} (h0 : lt_c σ o = 11) {r : Int32 × lt_W} (hF : lt_F X cX11_guestIn RX11 5 (lt_rm 6)) (hE : lt_E X 0 0 σ (some .int) (some (.int r.1)) r.2) : ∀ (x1 : Int32) (x2 : Int32) (x3 : Int32) (w : lt_W), fb_X11_guestIn_0 σ o x1 x2 x3 w = some r → lt_J X 0 0 σ w 0 [(0, .ref (lt_z X + o)), (1, .int x1), (2, .int x2), (3, .int x3)] [] := by
  intro x1 x2 x3 w hf
  unfold fb_X11_guestIn_0 at hf
  refine jr_aload_n hF dX11_guestIn_0 0 rfl rfl ?_
  refine jr_getRT (cr := 5) hF gf_X11_30 hT h0 rfl rfl dX11_guestIn_1 (fun th1 => ?_)
  refine jr_iload_n hF dX11_guestIn_4 1 rfl rfl ?_
  obtain ⟨q2, hq2, hf⟩ := Option.bind_eq_some_iff.mp hf
  refine jr_cV11 hF ml_X11_251 (c_X5_hasGuest th1 hq2) th1 ⟨Nat.le_of_ble_eq_true rfl, Nat.le_of_ble_eq_true rfl⟩ (Nat.le_of_ble_eq_true rfl) dX11_guestIn_5 ?_
  refine jr_if_eq (tgt := 30) hF dX11_guestIn_8 rfl hf (fun hf => ?_) (fun hf => ?_)
  · refine jr_sub [0] rfl ?_
    exact jb_X11_guestIn_30 hT h0 hF hE _ hf
  · refine jr_iload_n hF dX11_guestIn_11 2 rfl rfl ?_
    refine jr_iconst (v := 0) hF dX11_guestIn_12 rfl ?_
    refine jr_bipush (v := 99) hF dX11_guestIn_13 rfl ?_
    obtain ⟨q3, hq3, hf⟩ := Option.bind_eq_some_iff.mp hf
    refine jr_cS31 hF ml_X11_121 (c_X11_within hq3) ⟨Nat.le_of_ble_eq_true rfl, Nat.le_of_ble_eq_true rfl⟩ (Nat.le_of_ble_eq_true rfl) dX11_guestIn_15 ?_
    refine jr_if_eq (tgt := 30) hF dX11_guestIn_18 rfl hf (fun hf => ?_) (fun hf => ?_)
    · refine jr_sub [0] rfl ?_
      exact jb_X11_guestIn_30 hT h0 hF hE _ hf
    · refine jr_iload_n hF dX11_guestIn_21 3 rfl rfl ?_
      refine jr_iconst (v := 0) hF dX11_guestIn_22 rfl ?_
      refine jr_iconst (v := 1) hF dX11_guestIn_23 rfl ?_
      obtain ⟨q4, hq4, hf⟩ := Option.bind_eq_some_iff.mp hf
      refine jr_cS31 hF ml_X11_121 (c_X11_within hq4) ⟨Nat.le_of_ble_eq_true rfl, Nat.le_of_ble_eq_true rfl⟩ (Nat.le_of_ble_eq_true rfl) dX11_guestIn_24 ?_
      refine jr_if_ne (tgt := 36) hF dX11_guestIn_27 rfl hf (fun hf => ?_) (fun hf => ?_)
      · refine jr_aload_n hF dX11_guestIn_36 0 rfl rfl ?_
        refine jr_getRT (cr := 0) hF gf_X11_64 hT h0 rfl rfl dX11_guestIn_37 (fun th5 => ?_)
        refine jr_iload_n hF dX11_guestIn_40 2 rfl rfl ?_
        obtain ⟨q6, hq6, hf⟩ := Option.bind_eq_some_iff.mp hf
        refine jr_cV11 hF ml_X11_309 (c_X0_inDays hT th5 hq6) th5 ⟨Nat.le_of_ble_eq_true rfl, Nat.le_of_ble_eq_true rfl⟩ (Nat.le_of_ble_eq_true rfl) dX11_guestIn_41 ?_
        have th7 := ct_X0_inDays hT th5 hq6
        refine jr_astore (lv' := [(0, .ref (lt_z X + o)), (1, .int x1), (3, .int x3), (4, .ref (lt_z X + q6.1))]) hF dX11_guestIn_44 (by decide) [1, 2, 4, 0] rfl ?_
        refine jr_aload_n hF dX11_guestIn_46 0 rfl rfl ?_
        refine jr_iload_n hF dX11_guestIn_47 2 rfl rfl ?_
        refine jr_if_ne (tgt := 61) hF dX11_guestIn_48 rfl hf (fun hf => ?_) (fun hf => ?_)
        · refine jr_aload hF dX11_guestIn_61 3 rfl ?_
          refine jr_getRT (cr := 50) hF gf_X11_266 hT th7 rfl rfl dX11_guestIn_63 (fun th8 => ?_)
          refine jr_iload_n hF dX11_guestIn_66 1 rfl rfl ?_
          refine jr_iaload hF th8 dX11_guestIn_67 hf (fun hf => ?_)
          refine jr_sub [0] rfl ?_
          exact jb_X11_guestIn_68 hT h0 hF hE _ _ hf
        · refine jr_aload hF dX11_guestIn_51 3 rfl ?_
          refine jr_getRT (cr := 50) hF gf_X11_254 hT th7 rfl rfl dX11_guestIn_53 (fun th9 => ?_)
          refine jr_iload_n hF dX11_guestIn_56 1 rfl rfl ?_
          refine jr_iaload hF th9 dX11_guestIn_57 hf (fun hf => ?_)
          refine jr_goto (tgt := 68) hF dX11_guestIn_58 rfl ?_
          refine jr_sub [0] rfl ?_
          exact jb_X11_guestIn_68 hT h0 hF hE _ _ hf
      · refine jr_sub [0] rfl ?_
        exact jb_X11_guestIn_30 hT h0 hF hE _ hf
def f_X11_guestIn (σ : lt_S) (o : Nat) (x1 : Int32) (x2 : Int32) (x3 : Int32) (w : lt_W) : Option (Int32 × lt_W) := fb_X11_guestIn_0 σ o x1 x2 x3 w
set_option maxRecDepth 100000 in
theorem c_X11_guestIn {l : Launch} {D : va_G} {gA : Nat → ClassId} {s0 : State} {σ : lt_S} (hT : lt_Wt σ) {o : Nat} (h0 : lt_c σ o = 11) {x1 : Int32} {x2 : Int32} {x3 : Int32} {w : lt_W} {r : Int32 × lt_W} (hf : f_X11_guestIn σ o x1 x2 x3 w = some r) : lt_C l D gA s0 yX11_guestIn cX11_guestIn 5 (some .int) (lt_rm 6) [.ref (s0.heap.size + o), .int x1, .int x2, .int x3] σ w σ (some (.int r.1)) r.2 := by
  refine lt_enter rfl (Nat.le_of_ble_eq_true rfl) (fun X e1 e2 e3 e4 hF hE => ?_)
  subst e1 e2 e3 e4
  exact jb_X11_guestIn_0 hT h0 hF hE _ _ _ _ hf

set_option maxRecDepth 100000 in
def fb_X11_hangs_0 (σ : lt_S) (o : Nat) (w : lt_W) : Option (Int32 × lt_W) := Option.bind (f_X0_hangingSet σ (lt_r σ o 9) w) (fun q2 => Option.bind (f_X11_given σ o q2.1 q2.2) (fun q3 => some (q3.1, q3.2)))
set_option maxHeartbeats 4000000 in
set_option maxRecDepth 100000 in
theorem jb_X11_hangs_0 {X : lt_X} {σ : lt_S} (hT : lt_Wt σ) {o : Nat} (h0 : lt_c σ o = 11) {r : Int32 × lt_W} (hF : lt_F X cX11_hangs RX11 1 (lt_rm 7)) (hE : lt_E X 0 0 σ (some .int) (some (.int r.1)) r.2) : ∀ (w : lt_W), fb_X11_hangs_0 σ o w = some r → lt_J X 0 0 σ w 0 [(0, .ref (lt_z X + o))] [] := by
  intro w hf
  unfold fb_X11_hangs_0 at hf
  refine jr_aload_n hF dX11_hangs_0 0 rfl rfl ?_
  refine jr_aload_n hF dX11_hangs_1 0 rfl rfl ?_
  refine jr_getRT (cr := 0) hF gf_X11_64 hT h0 rfl rfl dX11_hangs_2 (fun th1 => ?_)
  obtain ⟨q2, hq2, hf⟩ := Option.bind_eq_some_iff.mp hf
  refine jr_cV01 hF ml_X11_322 (c_X0_hangingSet hT th1 hq2) th1 ⟨Nat.le_of_ble_eq_true rfl, Nat.le_of_ble_eq_true rfl⟩ (Nat.le_of_ble_eq_true rfl) dX11_hangs_5 ?_
  obtain ⟨q3, hq3, hf⟩ := Option.bind_eq_some_iff.mp hf
  refine jr_cV11 hF ml_X11_194 (c_X11_given h0 hq3) h0 ⟨Nat.le_of_ble_eq_true rfl, Nat.le_of_ble_eq_true rfl⟩ (Nat.le_of_ble_eq_true rfl) dX11_hangs_8 ?_
  obtain rfl := Option.some.inj hf
  exact jr_ireturn hF hE dX11_hangs_11
def f_X11_hangs (σ : lt_S) (o : Nat) (w : lt_W) : Option (Int32 × lt_W) := fb_X11_hangs_0 σ o w
set_option maxRecDepth 100000 in
theorem c_X11_hangs {l : Launch} {D : va_G} {gA : Nat → ClassId} {s0 : State} {σ : lt_S} (hT : lt_Wt σ) {o : Nat} (h0 : lt_c σ o = 11) {w : lt_W} {r : Int32 × lt_W} (hf : f_X11_hangs σ o w = some r) : lt_C l D gA s0 yX11_hangs cX11_hangs 1 (some .int) (lt_rm 7) [.ref (s0.heap.size + o)] σ w σ (some (.int r.1)) r.2 := by
  refine lt_enter rfl (Nat.le_of_ble_eq_true rfl) (fun X e1 e2 e3 e4 hF hE => ?_)
  subst e1 e2 e3 e4
  exact jb_X11_hangs_0 hT h0 hF hE _ hf

set_option maxRecDepth 100000 in
def fb_X11_least_0 (σ : lt_S) (o : Nat) (x1 : Int32) (w : lt_W) : Option (Int32 × lt_W) := Option.bind (f_X11_within x1 1 20) (fun q1 => if q1 = 0 then Option.bind (f_X11_none σ o 1 w) (fun q5 => some (q5.1, q5.2)) else Option.bind (f_X0_leastLoaf σ (lt_r σ o 9) x1 w) (fun q3 => Option.bind (f_X11_givenIfAny σ o q3.1 q3.2) (fun q4 => some (q4.1, q4.2))))
set_option maxHeartbeats 4000000 in
set_option maxRecDepth 100000 in
theorem jb_X11_least_0 {X : lt_X} {σ : lt_S} (hT : lt_Wt σ) {o : Nat} (h0 : lt_c σ o = 11) {r : Int32 × lt_W} (hF : lt_F X cX11_least RX11 2 (lt_rm 7)) (hE : lt_E X 0 0 σ (some .int) (some (.int r.1)) r.2) : ∀ (x1 : Int32) (w : lt_W), fb_X11_least_0 σ o x1 w = some r → lt_J X 0 0 σ w 0 [(0, .ref (lt_z X + o)), (1, .int x1)] [] := by
  intro x1 w hf
  unfold fb_X11_least_0 at hf
  refine jr_iload_n hF dX11_least_0 1 rfl rfl ?_
  refine jr_iconst (v := 1) hF dX11_least_1 rfl ?_
  refine jr_bipush (v := 20) hF dX11_least_2 rfl ?_
  obtain ⟨q1, hq1, hf⟩ := Option.bind_eq_some_iff.mp hf
  refine jr_cS31 hF ml_X11_121 (c_X11_within hq1) ⟨Nat.le_of_ble_eq_true rfl, Nat.le_of_ble_eq_true rfl⟩ (Nat.le_of_ble_eq_true rfl) dX11_least_4 ?_
  refine jr_if_ne (tgt := 16) hF dX11_least_7 rfl hf (fun hf => ?_) (fun hf => ?_)
  · refine jr_aload_n hF dX11_least_16 0 rfl rfl ?_
    refine jr_aload_n hF dX11_least_17 0 rfl rfl ?_
    refine jr_getRT (cr := 0) hF gf_X11_64 hT h0 rfl rfl dX11_least_18 (fun th2 => ?_)
    refine jr_iload_n hF dX11_least_21 1 rfl rfl ?_
    obtain ⟨q3, hq3, hf⟩ := Option.bind_eq_some_iff.mp hf
    refine jr_cV11 hF ml_X11_328 (c_X0_leastLoaf hT th2 hq3) th2 ⟨Nat.le_of_ble_eq_true rfl, Nat.le_of_ble_eq_true rfl⟩ (Nat.le_of_ble_eq_true rfl) dX11_least_22 ?_
    obtain ⟨q4, hq4, hf⟩ := Option.bind_eq_some_iff.mp hf
    refine jr_cV11 hF ml_X11_275 (c_X11_givenIfAny h0 hq4) h0 ⟨Nat.le_of_ble_eq_true rfl, Nat.le_of_ble_eq_true rfl⟩ (Nat.le_of_ble_eq_true rfl) dX11_least_25 ?_
    obtain rfl := Option.some.inj hf
    exact jr_ireturn hF hE dX11_least_28
  · refine jr_aload_n hF dX11_least_10 0 rfl rfl ?_
    refine jr_iconst (v := 1) hF dX11_least_11 rfl ?_
    obtain ⟨q5, hq5, hf⟩ := Option.bind_eq_some_iff.mp hf
    refine jr_cV11 hF ml_X11_144 (c_X11_none h0 hq5) h0 ⟨Nat.le_of_ble_eq_true rfl, Nat.le_of_ble_eq_true rfl⟩ (Nat.le_of_ble_eq_true rfl) dX11_least_12 ?_
    obtain rfl := Option.some.inj hf
    exact jr_ireturn hF hE dX11_least_15
def f_X11_least (σ : lt_S) (o : Nat) (x1 : Int32) (w : lt_W) : Option (Int32 × lt_W) := fb_X11_least_0 σ o x1 w
set_option maxRecDepth 100000 in
theorem c_X11_least {l : Launch} {D : va_G} {gA : Nat → ClassId} {s0 : State} {σ : lt_S} (hT : lt_Wt σ) {o : Nat} (h0 : lt_c σ o = 11) {x1 : Int32} {w : lt_W} {r : Int32 × lt_W} (hf : f_X11_least σ o x1 w = some r) : lt_C l D gA s0 yX11_least cX11_least 2 (some .int) (lt_rm 7) [.ref (s0.heap.size + o), .int x1] σ w σ (some (.int r.1)) r.2 := by
  refine lt_enter rfl (Nat.le_of_ble_eq_true rfl) (fun X e1 e2 e3 e4 hF hE => ?_)
  subst e1 e2 e3 e4
  exact jb_X11_least_0 hT h0 hF hE _ _ hf

set_option maxRecDepth 100000 in
def fb_X11_live_146 (σ : lt_S) (o : Nat) (y0 : Nat) (y1 : Int32) (y2 : Int32) (w : lt_W) : Option (Int32 × lt_W) := lt_ck y1 (lt_len σ y0) (lt_let (lt_si w y0 y1.toNatClampNeg y2) (fun w1 => lt_let (lt_si w1 o 15 1) (fun w2 => Option.bind (f_X11_given σ o (lt_gi w2 (lt_r σ o 13) 5) w2) (fun q4 => some (q4.1, q4.2)))))
set_option maxHeartbeats 4000000 in
set_option maxRecDepth 100000 in
theorem jb_X11_live_146 {X : lt_X} {σ : lt_S} (hT : lt_Wt σ) {o : Nat} (h0 : lt_c σ o = 11) {r : Int32 × lt_W} (hF : lt_F X cX11_live RX11 5 (lt_rm 16)) (hE : lt_E X 0 0 σ (some .int) (some (.int r.1)) r.2) : ∀ (y0 : Nat) (y1 : Int32) (y2 : Int32) (w : lt_W), lt_c σ y0 = 50 → fb_X11_live_146 σ o y0 y1 y2 w = some r → lt_J X 0 0 σ w 146 [(0, .ref (lt_z X + o))] [.int y2, .int y1, .ref (lt_z X + y0)] := by
  intro y0 y1 y2 w u0 hf
  unfold fb_X11_live_146 at hf
  refine jr_iastore hF u0 dX11_live_146 hf (fun hf => ?_)
  refine jr_letW hf (fun w1 hf => ?_)
  refine jr_aload_n hF dX11_live_147 0 rfl rfl ?_
  refine jr_iconst (v := 1) hF dX11_live_148 rfl ?_
  refine jr_putZ hF pf_X11_391 h0 (Or.inr rfl) dX11_live_149 ?_
  refine jr_letW hf (fun w2 hf => ?_)
  refine jr_aload_n hF dX11_live_152 0 rfl rfl ?_
  refine jr_aload_n hF dX11_live_153 0 rfl rfl ?_
  refine jr_getRT (cr := 2) hF gf_X11_94 hT h0 rfl rfl dX11_live_154 (fun th3 => ?_)
  refine jr_getI hF gf_X11_394 th3 dX11_live_157 ?_
  obtain ⟨q4, hq4, hf⟩ := Option.bind_eq_some_iff.mp hf
  refine jr_cV11 hF ml_X11_194 (c_X11_given h0 hq4) h0 ⟨Nat.le_of_ble_eq_true rfl, Nat.le_of_ble_eq_true rfl⟩ (Nat.le_of_ble_eq_true rfl) dX11_live_160 ?_
  obtain rfl := Option.some.inj hf
  exact jr_ireturn hF hE dX11_live_163
set_option maxRecDepth 100000 in
def fb_X11_live_0 (σ : lt_S) (o : Nat) (x1 : Int32) (w : lt_W) : Option (Int32 × lt_W) := Option.bind (f_X11_within x1 0 9999) (fun q1 => if q1 = 0 then Option.bind (f_X11_none σ o 1 w) (fun q25 => some (q25.1, q25.2)) else if (lt_gi w (lt_r σ o 6) 0) = 0 then Option.bind (f_X11_none σ o 6 w) (fun q24 => some (q24.1, q24.2)) else Option.bind (f_X5_countThere σ (lt_r σ o 5) w) (fun q6 => Option.bind (f_X2_pass σ (lt_r σ o 13) x1 w) (fun q8 => lt_ck 0 (lt_len σ (lt_r σ o 14)) (lt_let (lt_si q8 (lt_r σ o 14) (0 : Int32).toNatClampNeg (lt_gi q8 (lt_r σ o 13) 6)) (fun w11 => lt_ck 1 (lt_len σ (lt_r σ o 14)) (lt_let (lt_si w11 (lt_r σ o 14) (1 : Int32).toNatClampNeg ((lt_gi w11 (lt_r σ o 5) 6) - (lt_gi w (lt_r σ o 5) 6))) (fun w14 => lt_ck 2 (lt_len σ (lt_r σ o 14)) (lt_let (lt_si w14 (lt_r σ o 14) (2 : Int32).toNatClampNeg ((lt_gi w14 (lt_r σ o 5) 7) - (lt_gi w (lt_r σ o 5) 7))) (fun w17 => Option.bind (f_X5_countThere σ (lt_r σ o 5) w17) (fun q20 => lt_ck 3 (lt_len σ (lt_r σ o 14)) (lt_let (lt_si w17 (lt_r σ o 14) (3 : Int32).toNatClampNeg (q6 - q20)) (fun w21 => if (lt_gi w21 (lt_r σ o 13) 7) = 0 then fb_X11_live_146 σ o (lt_r σ o 14) 4 0 w21 else fb_X11_live_146 σ o (lt_r σ o 14) 4 1 w21))))))))))))
set_option maxHeartbeats 4000000 in
set_option maxRecDepth 100000 in
theorem jb_X11_live_0 {X : lt_X} {σ : lt_S} (hT : lt_Wt σ) {o : Nat} (h0 : lt_c σ o = 11) {r : Int32 × lt_W} (hF : lt_F X cX11_live RX11 5 (lt_rm 16)) (hE : lt_E X 0 0 σ (some .int) (some (.int r.1)) r.2) : ∀ (x1 : Int32) (w : lt_W), fb_X11_live_0 σ o x1 w = some r → lt_J X 0 0 σ w 0 [(0, .ref (lt_z X + o)), (1, .int x1)] [] := by
  intro x1 w hf
  unfold fb_X11_live_0 at hf
  refine jr_iload_n hF dX11_live_0 1 rfl rfl ?_
  refine jr_iconst (v := 0) hF dX11_live_1 rfl ?_
  refine jr_sipush (v := 9999) hF dX11_live_2 rfl ?_
  obtain ⟨q1, hq1, hf⟩ := Option.bind_eq_some_iff.mp hf
  refine jr_cS31 hF ml_X11_121 (c_X11_within hq1) ⟨Nat.le_of_ble_eq_true rfl, Nat.le_of_ble_eq_true rfl⟩ (Nat.le_of_ble_eq_true rfl) dX11_live_5 ?_
  refine jr_if_ne (tgt := 17) hF dX11_live_8 rfl hf (fun hf => ?_) (fun hf => ?_)
  · refine jr_aload_n hF dX11_live_17 0 rfl rfl ?_
    refine jr_getRT (cr := 9) hF gf_X11_37 hT h0 rfl rfl dX11_live_18 (fun th2 => ?_)
    refine jr_getI hF gf_X11_379 th2 dX11_live_21 ?_
    refine jr_if_ne (tgt := 34) hF dX11_live_24 rfl hf (fun hf => ?_) (fun hf => ?_)
    · refine jr_aload_n hF dX11_live_34 0 rfl rfl ?_
      refine jr_getRT (cr := 5) hF gf_X11_30 hT h0 rfl rfl dX11_live_35 (fun th3 => ?_)
      refine jr_getI hF gf_X11_235 th3 dX11_live_38 ?_
      refine jr_istore_n (lv' := [(0, .ref (lt_z X + o)), (1, .int x1), (2, .int (lt_gi w (lt_r σ o 5) 6))]) hF dX11_live_41 rfl (by decide) [1, 2, 0] rfl ?_
      refine jr_aload_n hF dX11_live_42 0 rfl rfl ?_
      refine jr_getRT (cr := 5) hF gf_X11_30 hT h0 rfl rfl dX11_live_43 (fun th4 => ?_)
      refine jr_getI hF gf_X11_238 th4 dX11_live_46 ?_
      refine jr_istore_n (lv' := [(0, .ref (lt_z X + o)), (1, .int x1), (2, .int (lt_gi w (lt_r σ o 5) 6)), (3, .int (lt_gi w (lt_r σ o 5) 7))]) hF dX11_live_49 rfl (by decide) [1, 2, 3, 0] rfl ?_
      refine jr_aload_n hF dX11_live_50 0 rfl rfl ?_
      refine jr_getRT (cr := 5) hF gf_X11_30 hT h0 rfl rfl dX11_live_51 (fun th5 => ?_)
      obtain ⟨q6, hq6, hf⟩ := Option.bind_eq_some_iff.mp hf
      refine jr_cV01 hF ml_X11_293 (c_X5_countThere th5 hq6) th5 ⟨Nat.le_of_ble_eq_true rfl, Nat.le_of_ble_eq_true rfl⟩ (Nat.le_of_ble_eq_true rfl) dX11_live_54 ?_
      refine jr_istore (lv' := [(0, .ref (lt_z X + o)), (1, .int x1), (2, .int (lt_gi w (lt_r σ o 5) 6)), (3, .int (lt_gi w (lt_r σ o 5) 7)), (4, .int q6)]) hF dX11_live_57 (by decide) [1, 2, 3, 4, 0] rfl ?_
      refine jr_aload_n hF dX11_live_59 0 rfl rfl ?_
      refine jr_getRT (cr := 2) hF gf_X11_94 hT h0 rfl rfl dX11_live_60 (fun th7 => ?_)
      refine jr_iload_n hF dX11_live_63 1 rfl rfl ?_
      obtain ⟨q8, hq8, hf⟩ := Option.bind_eq_some_iff.mp hf
      refine jr_cV1v hF ml_X11_382 (c_X2_pass hT th7 hq8) th7 ⟨Nat.le_of_ble_eq_true rfl, Nat.le_of_ble_eq_true rfl⟩ (Nat.le_of_ble_eq_true rfl) dX11_live_64 ?_
      refine jr_aload_n hF dX11_live_67 0 rfl rfl ?_
      refine jr_getRT (cr := 50) hF gf_X11_98 hT h0 rfl rfl dX11_live_68 (fun th9 => ?_)
      refine jr_iconst (v := 0) hF dX11_live_71 rfl ?_
      refine jr_aload_n hF dX11_live_72 0 rfl rfl ?_
      refine jr_getRT (cr := 2) hF gf_X11_94 hT h0 rfl rfl dX11_live_73 (fun th10 => ?_)
      refine jr_getI hF gf_X11_385 th10 dX11_live_76 ?_
      refine jr_iastore hF th9 dX11_live_79 hf (fun hf => ?_)
      refine jr_letW hf (fun w11 hf => ?_)
      refine jr_aload_n hF dX11_live_80 0 rfl rfl ?_
      refine jr_getRT (cr := 50) hF gf_X11_98 hT h0 rfl rfl dX11_live_81 (fun th12 => ?_)
      refine jr_iconst (v := 1) hF dX11_live_84 rfl ?_
      refine jr_aload_n hF dX11_live_85 0 rfl rfl ?_
      refine jr_getRT (cr := 5) hF gf_X11_30 hT h0 rfl rfl dX11_live_86 (fun th13 => ?_)
      refine jr_getI hF gf_X11_235 th13 dX11_live_89 ?_
      refine jr_iload_n hF dX11_live_92 2 rfl rfl ?_
      refine jr_isub hF dX11_live_93 ?_
      refine jr_iastore hF th12 dX11_live_94 hf (fun hf => ?_)
      refine jr_letW hf (fun w14 hf => ?_)
      refine jr_aload_n hF dX11_live_95 0 rfl rfl ?_
      refine jr_getRT (cr := 50) hF gf_X11_98 hT h0 rfl rfl dX11_live_96 (fun th15 => ?_)
      refine jr_iconst (v := 2) hF dX11_live_99 rfl ?_
      refine jr_aload_n hF dX11_live_100 0 rfl rfl ?_
      refine jr_getRT (cr := 5) hF gf_X11_30 hT h0 rfl rfl dX11_live_101 (fun th16 => ?_)
      refine jr_getI hF gf_X11_238 th16 dX11_live_104 ?_
      refine jr_iload_n hF dX11_live_107 3 rfl rfl ?_
      refine jr_isub hF dX11_live_108 ?_
      refine jr_iastore hF th15 dX11_live_109 hf (fun hf => ?_)
      refine jr_letW hf (fun w17 hf => ?_)
      refine jr_aload_n hF dX11_live_110 0 rfl rfl ?_
      refine jr_getRT (cr := 50) hF gf_X11_98 hT h0 rfl rfl dX11_live_111 (fun th18 => ?_)
      refine jr_iconst (v := 3) hF dX11_live_114 rfl ?_
      refine jr_iload hF dX11_live_115 4 rfl ?_
      refine jr_aload_n hF dX11_live_117 0 rfl rfl ?_
      refine jr_getRT (cr := 5) hF gf_X11_30 hT h0 rfl rfl dX11_live_118 (fun th19 => ?_)
      obtain ⟨q20, hq20, hf⟩ := Option.bind_eq_some_iff.mp hf
      refine jr_cV01 hF ml_X11_293 (c_X5_countThere th19 hq20) th19 ⟨Nat.le_of_ble_eq_true rfl, Nat.le_of_ble_eq_true rfl⟩ (Nat.le_of_ble_eq_true rfl) dX11_live_121 ?_
      refine jr_isub hF dX11_live_124 ?_
      refine jr_iastore hF th18 dX11_live_125 hf (fun hf => ?_)
      refine jr_letW hf (fun w21 hf => ?_)
      refine jr_aload_n hF dX11_live_126 0 rfl rfl ?_
      refine jr_getRT (cr := 50) hF gf_X11_98 hT h0 rfl rfl dX11_live_127 (fun th22 => ?_)
      refine jr_iconst (v := 4) hF dX11_live_130 rfl ?_
      refine jr_aload_n hF dX11_live_131 0 rfl rfl ?_
      refine jr_getRT (cr := 2) hF gf_X11_94 hT h0 rfl rfl dX11_live_132 (fun th23 => ?_)
      refine jr_getI hF gf_X11_388 th23 dX11_live_135 ?_
      refine jr_if_eq (tgt := 145) hF dX11_live_138 rfl hf (fun hf => ?_) (fun hf => ?_)
      · refine jr_iconst (v := 0) hF dX11_live_145 rfl ?_
        refine jr_sub [0] rfl ?_
        exact jb_X11_live_146 hT h0 hF hE _ _ _ _ th22 hf
      · refine jr_iconst (v := 1) hF dX11_live_141 rfl ?_
        refine jr_goto (tgt := 146) hF dX11_live_142 rfl ?_
        refine jr_sub [0] rfl ?_
        exact jb_X11_live_146 hT h0 hF hE _ _ _ _ th22 hf
    · refine jr_aload_n hF dX11_live_27 0 rfl rfl ?_
      refine jr_bipush (v := 6) hF dX11_live_28 rfl ?_
      obtain ⟨q24, hq24, hf⟩ := Option.bind_eq_some_iff.mp hf
      refine jr_cV11 hF ml_X11_144 (c_X11_none h0 hq24) h0 ⟨Nat.le_of_ble_eq_true rfl, Nat.le_of_ble_eq_true rfl⟩ (Nat.le_of_ble_eq_true rfl) dX11_live_30 ?_
      obtain rfl := Option.some.inj hf
      exact jr_ireturn hF hE dX11_live_33
  · refine jr_aload_n hF dX11_live_11 0 rfl rfl ?_
    refine jr_iconst (v := 1) hF dX11_live_12 rfl ?_
    obtain ⟨q25, hq25, hf⟩ := Option.bind_eq_some_iff.mp hf
    refine jr_cV11 hF ml_X11_144 (c_X11_none h0 hq25) h0 ⟨Nat.le_of_ble_eq_true rfl, Nat.le_of_ble_eq_true rfl⟩ (Nat.le_of_ble_eq_true rfl) dX11_live_13 ?_
    obtain rfl := Option.some.inj hf
    exact jr_ireturn hF hE dX11_live_16
def f_X11_live (σ : lt_S) (o : Nat) (x1 : Int32) (w : lt_W) : Option (Int32 × lt_W) := fb_X11_live_0 σ o x1 w
set_option maxRecDepth 100000 in
theorem c_X11_live {l : Launch} {D : va_G} {gA : Nat → ClassId} {s0 : State} {σ : lt_S} (hT : lt_Wt σ) {o : Nat} (h0 : lt_c σ o = 11) {x1 : Int32} {w : lt_W} {r : Int32 × lt_W} (hf : f_X11_live σ o x1 w = some r) : lt_C l D gA s0 yX11_live cX11_live 5 (some .int) (lt_rm 16) [.ref (s0.heap.size + o), .int x1] σ w σ (some (.int r.1)) r.2 := by
  refine lt_enter rfl (Nat.le_of_ble_eq_true rfl) (fun X e1 e2 e3 e4 hF hE => ?_)
  subst e1 e2 e3 e4
  exact jb_X11_live_0 hT h0 hF hE _ _ hf

set_option maxRecDepth 100000 in
def fb_X11_lived_0 (σ : lt_S) (o : Nat) (x1 : Int32) (w : lt_W) : Option (Int32 × lt_W) := Option.bind (f_X11_within x1 0 4) (fun q1 => if q1 = 0 then Option.bind (f_X11_none σ o 1 w) (fun q5 => some (q5.1, q5.2)) else if (lt_gi w o 15) = 0 then Option.bind (f_X11_none σ o 6 w) (fun q4 => some (q4.1, q4.2)) else lt_ck x1 (lt_len σ (lt_r σ o 14)) (Option.bind (f_X11_given σ o (lt_gi w (lt_r σ o 14) x1.toNatClampNeg) w) (fun q3 => some (q3.1, q3.2))))
set_option maxHeartbeats 4000000 in
set_option maxRecDepth 100000 in
theorem jb_X11_lived_0 {X : lt_X} {σ : lt_S} (hT : lt_Wt σ) {o : Nat} (h0 : lt_c σ o = 11) {r : Int32 × lt_W} (hF : lt_F X cX11_lived RX11 2 (lt_rm 2)) (hE : lt_E X 0 0 σ (some .int) (some (.int r.1)) r.2) : ∀ (x1 : Int32) (w : lt_W), fb_X11_lived_0 σ o x1 w = some r → lt_J X 0 0 σ w 0 [(0, .ref (lt_z X + o)), (1, .int x1)] [] := by
  intro x1 w hf
  unfold fb_X11_lived_0 at hf
  refine jr_iload_n hF dX11_lived_0 1 rfl rfl ?_
  refine jr_iconst (v := 0) hF dX11_lived_1 rfl ?_
  refine jr_iconst (v := 4) hF dX11_lived_2 rfl ?_
  obtain ⟨q1, hq1, hf⟩ := Option.bind_eq_some_iff.mp hf
  refine jr_cS31 hF ml_X11_121 (c_X11_within hq1) ⟨Nat.le_of_ble_eq_true rfl, Nat.le_of_ble_eq_true rfl⟩ (Nat.le_of_ble_eq_true rfl) dX11_lived_3 ?_
  refine jr_if_ne (tgt := 15) hF dX11_lived_6 rfl hf (fun hf => ?_) (fun hf => ?_)
  · refine jr_aload_n hF dX11_lived_15 0 rfl rfl ?_
    refine jr_getI hF gf_X11_391 h0 dX11_lived_16 ?_
    refine jr_if_ne (tgt := 29) hF dX11_lived_19 rfl hf (fun hf => ?_) (fun hf => ?_)
    · refine jr_aload_n hF dX11_lived_29 0 rfl rfl ?_
      refine jr_aload_n hF dX11_lived_30 0 rfl rfl ?_
      refine jr_getRT (cr := 50) hF gf_X11_98 hT h0 rfl rfl dX11_lived_31 (fun th2 => ?_)
      refine jr_iload_n hF dX11_lived_34 1 rfl rfl ?_
      refine jr_iaload hF th2 dX11_lived_35 hf (fun hf => ?_)
      obtain ⟨q3, hq3, hf⟩ := Option.bind_eq_some_iff.mp hf
      refine jr_cV11 hF ml_X11_194 (c_X11_given h0 hq3) h0 ⟨Nat.le_of_ble_eq_true rfl, Nat.le_of_ble_eq_true rfl⟩ (Nat.le_of_ble_eq_true rfl) dX11_lived_36 ?_
      obtain rfl := Option.some.inj hf
      exact jr_ireturn hF hE dX11_lived_39
    · refine jr_aload_n hF dX11_lived_22 0 rfl rfl ?_
      refine jr_bipush (v := 6) hF dX11_lived_23 rfl ?_
      obtain ⟨q4, hq4, hf⟩ := Option.bind_eq_some_iff.mp hf
      refine jr_cV11 hF ml_X11_144 (c_X11_none h0 hq4) h0 ⟨Nat.le_of_ble_eq_true rfl, Nat.le_of_ble_eq_true rfl⟩ (Nat.le_of_ble_eq_true rfl) dX11_lived_25 ?_
      obtain rfl := Option.some.inj hf
      exact jr_ireturn hF hE dX11_lived_28
  · refine jr_aload_n hF dX11_lived_9 0 rfl rfl ?_
    refine jr_iconst (v := 1) hF dX11_lived_10 rfl ?_
    obtain ⟨q5, hq5, hf⟩ := Option.bind_eq_some_iff.mp hf
    refine jr_cV11 hF ml_X11_144 (c_X11_none h0 hq5) h0 ⟨Nat.le_of_ble_eq_true rfl, Nat.le_of_ble_eq_true rfl⟩ (Nat.le_of_ble_eq_true rfl) dX11_lived_11 ?_
    obtain rfl := Option.some.inj hf
    exact jr_ireturn hF hE dX11_lived_14
def f_X11_lived (σ : lt_S) (o : Nat) (x1 : Int32) (w : lt_W) : Option (Int32 × lt_W) := fb_X11_lived_0 σ o x1 w
set_option maxRecDepth 100000 in
theorem c_X11_lived {l : Launch} {D : va_G} {gA : Nat → ClassId} {s0 : State} {σ : lt_S} (hT : lt_Wt σ) {o : Nat} (h0 : lt_c σ o = 11) {x1 : Int32} {w : lt_W} {r : Int32 × lt_W} (hf : f_X11_lived σ o x1 w = some r) : lt_C l D gA s0 yX11_lived cX11_lived 2 (some .int) (lt_rm 2) [.ref (s0.heap.size + o), .int x1] σ w σ (some (.int r.1)) r.2 := by
  refine lt_enter rfl (Nat.le_of_ble_eq_true rfl) (fun X e1 e2 e3 e4 hF hE => ?_)
  subst e1 e2 e3 e4
  exact jb_X11_lived_0 hT h0 hF hE _ _ hf
