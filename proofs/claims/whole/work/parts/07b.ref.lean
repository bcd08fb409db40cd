set_option maxRecDepth 100000 in
def fb_X12_isFrom_0 (x0 : Int64) (x2 : Int64) (x4 : Int64) : Option Int32 := if (lg_cmp x0 x2) < 0 then some 0 else if 0 < (lg_cmp x0 x4) then some 0 else some 1
set_option maxHeartbeats 4000000 in
set_option maxRecDepth 100000 in
theorem jb_X12_isFrom_0 {X : lt_X} {σ : lt_S} {r : Int32} {w : lt_W} (hF : lt_F X cX12_isFrom RX12 6 (lt_rm 1)) (hE : lt_E X 0 0 σ (some .boolean) (some (.int r)) w) : ∀ (x0 : Int64) (x2 : Int64) (x4 : Int64), fb_X12_isFrom_0 x0 x2 x4 = some r → lt_J X 0 0 σ w 0 [(0, .long x0), (2, .long x2), (4, .long x4)] [] := by
  intro x0 x2 x4 hf
  unfold fb_X12_isFrom_0 at hf
  refine jr_lload_n hF dX12_isFrom_0 0 rfl rfl ?_
  refine jr_lload_n hF dX12_isFrom_1 1 rfl rfl ?_
  refine jr_lcmp hF dX12_isFrom_2 ?_
  refine jr_if_lt (tgt := 17) hF dX12_isFrom_3 rfl hf (fun hf => ?_) (fun hf => ?_)
  · refine jr_iconst (v := 0) hF dX12_isFrom_17 rfl ?_
    obtain rfl := Option.some.inj hf
    exact jr_zreturn hF hE (Or.inl rfl) dX12_isFrom_18
  · refine jr_lload_n hF dX12_isFrom_6 0 rfl rfl ?_
    refine jr_lload hF dX12_isFrom_7 2 rfl ?_
    refine jr_lcmp hF dX12_isFrom_9 ?_
    refine jr_if_gt (tgt := 17) hF dX12_isFrom_10 rfl hf (fun hf => ?_) (fun hf => ?_)
    · refine jr_iconst (v := 0) hF dX12_isFrom_17 rfl ?_
      obtain rfl := Option.some.inj hf
      exact jr_zreturn hF hE (Or.inl rfl) dX12_isFrom_18
    · refine jr_iconst (v := 1) hF dX12_isFrom_13 rfl ?_
      refine jr_goto (tgt := 18) hF dX12_isFrom_14 rfl ?_
      obtain rfl := Option.some.inj hf
      exact jr_zreturn hF hE (Or.inr rfl) dX12_isFrom_18
def f_X12_isFrom (x0 : Int64) (x2 : Int64) (x4 : Int64) : Option Int32 := fb_X12_isFrom_0 x0 x2 x4
set_option maxRecDepth 100000 in
theorem c_X12_isFrom {l : Launch} {D : va_G} {gA : Nat → ClassId} {s0 : State} {σ : lt_S} {x0 : Int64} {x2 : Int64} {x4 : Int64} {w : lt_W} {r : Int32} (hf : f_X12_isFrom x0 x2 x4 = some r) : lt_C l D gA s0 yX12_isFrom cX12_isFrom 6 (some .boolean) (lt_rm 1) [.long x0, .long x2, .long x4] σ w σ (some (.int r)) w := by
  refine lt_enter rfl (Nat.le_of_ble_eq_true rfl) (fun X e1 e2 e3 e4 hF hE => ?_)
  subst e1 e2 e3 e4
  exact jb_X12_isFrom_0 hF hE _ _ _ hf

set_option maxRecDepth 100000 in
def fb_X12_wrongSeen_28 (σ : lt_S) (o : Nat) (w : lt_W) : Nat → Int32 → Int32 → Int32 → Option Int32
  | 0, _, _, _ => none
  | n + 1, x1, x2, x3 => if x2 ≤ x3 then some 0 else lt_ck ((60 * x1) + (2 * x3)) (lt_len σ (lt_r σ o 7)) (Option.bind (f_X12_isFrom (lt_gl w (lt_r σ o 7) ((60 * x1) + (2 * x3)).toNatClampNeg) 0 20) (fun q2 => if q2 = 0 then some 5 else lt_ck (((60 * x1) + (2 * x3)) + 1) (lt_len σ (lt_r σ o 7)) (Option.bind (f_X12_isFrom (lt_gl w (lt_r σ o 7) (((60 * x1) + (2 * x3)) + 1).toNatClampNeg) 0 7) (fun q4 => if q4 = 0 then some 5 else fb_X12_wrongSeen_28 σ o w n x1 x2 (x3 + 1)))))
set_option maxHeartbeats 4000000 in
set_option maxRecDepth 100000 in
theorem jb_X12_wrongSeen_28 {X : lt_X} {σ : lt_S} (hT : lt_Wt σ) {o : Nat} (h0 : lt_c σ o = 12) {r : Int32} {w : lt_W} (hF : lt_F X cX12_wrongSeen RX12 5 (lt_rm 2)) (hE : lt_E X 0 0 σ (some .int) (some (.int r)) w) (n : Nat) : ∀ (x1 : Int32) (x2 : Int32) (x3 : Int32), fb_X12_wrongSeen_28 σ o w n x1 x2 x3 = some r → lt_J X 0 0 σ w 28 [(0, .ref (lt_z X + o)), (1, .int x1), (2, .int x2), (3, .int x3)] [] := by
  induction n with
  | zero => intro x1 x2 x3 hf; rw [fb_X12_wrongSeen_28] at hf; cases hf
  | succ n ih =>
    intro x1 x2 x3 hf
    rw [fb_X12_wrongSeen_28] at hf
    refine jr_iload_n hF dX12_wrongSeen_28 3 rfl rfl ?_
    refine jr_iload_n hF dX12_wrongSeen_29 2 rfl rfl ?_
    refine jr_icmp_ge (tgt := 87) hF dX12_wrongSeen_30 rfl hf (fun hf => ?_) (fun hf => ?_)
    · refine jr_iconst (v := 0) hF dX12_wrongSeen_87 rfl ?_
      obtain rfl := Option.some.inj hf
      exact jr_ireturn hF hE dX12_wrongSeen_88
    · refine jr_bipush (v := 60) hF dX12_wrongSeen_33 rfl ?_
      refine jr_iload_n hF dX12_wrongSeen_35 1 rfl rfl ?_
      refine jr_imul hF dX12_wrongSeen_36 ?_
      refine jr_iconst (v := 2) hF dX12_wrongSeen_37 rfl ?_
      refine jr_iload_n hF dX12_wrongSeen_38 3 rfl rfl ?_
      refine jr_imul hF dX12_wrongSeen_39 ?_
      refine jr_iadd hF dX12_wrongSeen_40 ?_
      refine jr_istore (lv' := [(0, .ref (lt_z X + o)), (1, .int x1), (2, .int x2), (3, .int x3), (4, .int ((60 * x1) + (2 * x3)))]) hF dX12_wrongSeen_41 (by decide) [1, 2, 3, 4, 0] rfl ?_
      refine jr_aload_n hF dX12_wrongSeen_43 0 rfl rfl ?_
      refine jr_getRT (cr := 51) hF gf_X12_27 hT h0 rfl rfl dX12_wrongSeen_44 (fun th1 => ?_)
      refine jr_iload hF dX12_wrongSeen_47 4 rfl ?_
      refine jr_laload hF th1 dX12_wrongSeen_49 hf (fun hf => ?_)
      refine jr_lconst (v := 0) hF dX12_wrongSeen_50 rfl ?_
      refine jr_ldc2 (v := 20) hF dX12_wrongSeen_51 kc_X12_328 ?_
      obtain ⟨q2, hq2, hf⟩ := Option.bind_eq_some_iff.mp hf
      refine jr_cS31 hF ml_X12_307 (c_X12_isFrom hq2) ⟨Nat.le_of_ble_eq_true rfl, Nat.le_of_ble_eq_true rfl⟩ (Nat.le_of_ble_eq_true rfl) dX12_wrongSeen_54 ?_
      refine jr_if_eq (tgt := 79) hF dX12_wrongSeen_57 rfl hf (fun hf => ?_) (fun hf => ?_)
      · refine jr_iconst (v := 5) hF dX12_wrongSeen_79 rfl ?_
        obtain rfl := Option.some.inj hf
        exact jr_ireturn hF hE dX12_wrongSeen_80
      · refine jr_aload_n hF dX12_wrongSeen_60 0 rfl rfl ?_
        refine jr_getRT (cr := 51) hF gf_X12_27 hT h0 rfl rfl dX12_wrongSeen_61 (fun th3 => ?_)
        refine jr_iload hF dX12_wrongSeen_64 4 rfl ?_
        refine jr_iconst (v := 1) hF dX12_wrongSeen_66 rfl ?_
        refine jr_iadd hF dX12_wrongSeen_67 ?_
        refine jr_laload hF th3 dX12_wrongSeen_68 hf (fun hf => ?_)
        refine jr_lconst (v := 0) hF dX12_wrongSeen_69 rfl ?_
        refine jr_ldc2 (v := 7) hF dX12_wrongSeen_70 kc_X12_351 ?_
        obtain ⟨q4, hq4, hf⟩ := Option.bind_eq_some_iff.mp hf
        refine jr_cS31 hF ml_X12_307 (c_X12_isFrom hq4) ⟨Nat.le_of_ble_eq_true rfl, Nat.le_of_ble_eq_true rfl⟩ (Nat.le_of_ble_eq_true rfl) dX12_wrongSeen_73 ?_
        refine jr_if_ne (tgt := 81) hF dX12_wrongSeen_76 rfl hf (fun hf => ?_) (fun hf => ?_)
        · refine jr_iinc (v := x3 + 1) (lv' := [(0, .ref (lt_z X + o)), (1, .int x1), (2, .int x2), (3, .int (x3 + 1)), (4, .int ((60 * x1) + (2 * x3)))]) hF dX12_wrongSeen_81 3 rfl rfl (by decide) [1, 2, 3, 0, 4] rfl ?_
          refine jr_goto (tgt := 28) hF dX12_wrongSeen_84 rfl ?_
          refine jr_sub [0, 1, 2, 3] rfl ?_
          exact ih _ _ _ hf
        · refine jr_iconst (v := 5) hF dX12_wrongSeen_79 rfl ?_
          obtain rfl := Option.some.inj hf
          exact jr_ireturn hF hE dX12_wrongSeen_80
set_option maxRecDepth 100000 in
def fb_X12_wrongSeen_0 (σ : lt_S) (o : Nat) (w : lt_W) (x1 : Int32) (x2 : Int32) : Option Int32 := lt_ck x1 (lt_len σ (lt_r σ o 6)) (if (lt_gi w (lt_r σ o 6) x1.toNatClampNeg) = (-1) then some 2 else lt_ck x1 (lt_len σ (lt_r σ o 6)) (if (2 * x2) ≤ (lt_gi w (lt_r σ o 6) x1.toNatClampNeg) then fb_X12_wrongSeen_28 σ o w lt_fu x1 x2 0 else some 3))
set_option maxHeartbeats 4000000 in
set_option maxRecDepth 100000 in
theorem jb_X12_wrongSeen_0 {X : lt_X} {σ : lt_S} (hT : lt_Wt σ) {o : Nat} (h0 : lt_c σ o = 12) {r : Int32} {w : lt_W} (hF : lt_F X cX12_wrongSeen RX12 5 (lt_rm 2)) (hE : lt_E X 0 0 σ (some .int) (some (.int r)) w) : ∀ (x1 : Int32) (x2 : Int32), fb_X12_wrongSeen_0 σ o w x1 x2 = some r → lt_J X 0 0 σ w 0 [(0, .ref (lt_z X + o)), (1, .int x1), (2, .int x2)] [] := by
  intro x1 x2 hf
  unfold fb_X12_wrongSeen_0 at hf
  refine jr_aload_n hF dX12_wrongSeen_0 0 rfl rfl ?_
  refine jr_getRT (cr := 50) hF gf_X12_24 hT h0 rfl rfl dX12_wrongSeen_1 (fun th1 => ?_)
  refine jr_iload_n hF dX12_wrongSeen_4 1 rfl rfl ?_
  refine jr_iaload hF th1 dX12_wrongSeen_5 hf (fun hf => ?_)
  refine jr_iconst (v := (-1)) hF dX12_wrongSeen_6 rfl ?_
  refine jr_icmp_ne (tgt := 12) hF dX12_wrongSeen_7 rfl hf (fun hf => ?_) (fun hf => ?_)
  · refine jr_aload_n hF dX12_wrongSeen_12 0 rfl rfl ?_
    refine jr_getRT (cr := 50) hF gf_X12_24 hT h0 rfl rfl dX12_wrongSeen_13 (fun th2 => ?_)
    refine jr_iload_n hF dX12_wrongSeen_16 1 rfl rfl ?_
    refine jr_iaload hF th2 dX12_wrongSeen_17 hf (fun hf => ?_)
    refine jr_iconst (v := 2) hF dX12_wrongSeen_18 rfl ?_
    refine jr_iload_n hF dX12_wrongSeen_19 2 rfl rfl ?_
    refine jr_imul hF dX12_wrongSeen_20 ?_
    refine jr_icmp_ge (tgt := 26) hF dX12_wrongSeen_21 rfl hf (fun hf => ?_) (fun hf => ?_)
    · refine jr_iconst (v := 0) hF dX12_wrongSeen_26 rfl ?_
      refine jr_istore_n (lv' := [(0, .ref (lt_z X + o)), (1, .int x1), (2, .int x2), (3, .int 0)]) hF dX12_wrongSeen_27 rfl (by decide) [1, 2, 3, 0] rfl ?_
      exact jb_X12_wrongSeen_28 hT h0 hF hE lt_fu _ _ _ hf
    · refine jr_iconst (v := 3) hF dX12_wrongSeen_24 rfl ?_
      obtain rfl := Option.some.inj hf
      exact jr_ireturn hF hE dX12_wrongSeen_25
  · refine jr_iconst (v := 2) hF dX12_wrongSeen_10 rfl ?_
    obtain rfl := Option.some.inj hf
    exact jr_ireturn hF hE dX12_wrongSeen_11
def f_X12_wrongSeen (σ : lt_S) (o : Nat) (x1 : Int32) (x2 : Int32) (w : lt_W) : Option Int32 := fb_X12_wrongSeen_0 σ o w x1 x2
set_option maxRecDepth 100000 in
theorem c_X12_wrongSeen {l : Launch} {D : va_G} {gA : Nat → ClassId} {s0 : State} {σ : lt_S} (hT : lt_Wt σ) {o : Nat} (h0 : lt_c σ o = 12) {x1 : Int32} {x2 : Int32} {w : lt_W} {r : Int32} (hf : f_X12_wrongSeen σ o x1 x2 w = some r) : lt_C l D gA s0 yX12_wrongSeen cX12_wrongSeen 5 (some .int) (lt_rm 2) [.ref (s0.heap.size + o), .int x1, .int x2] σ w σ (some (.int r)) w := by
  refine lt_enter rfl (Nat.le_of_ble_eq_true rfl) (fun X e1 e2 e3 e4 hF hE => ?_)
  subst e1 e2 e3 e4
  exact jb_X12_wrongSeen_0 hT h0 hF hE _ _ hf

set_option maxRecDepth 100000 in
def fb_X12_wrongCall_0 (σ : lt_S) (o : Nat) (w : lt_W) (x1 : Int32) (x2 : Int32) (x3 : Int32) : Option Int32 := Option.bind (f_X12_isGuest σ o x1 w) (fun q1 => if q1 = 0 then some 1 else Option.bind (f_X12_isTray x2) (fun q2 => if q2 = 0 then some 1 else Option.bind (f_X12_isFrom x3.toInt64 0 20) (fun q3 => if q3 = 0 then some 1 else Option.bind (f_X12_wrongSeen σ o x2 x3 w) (fun q4 => some q4))))
set_option maxHeartbeats 4000000 in
set_option maxRecDepth 100000 in
theorem jb_X12_wrongCall_0 {X : lt_X} {σ : lt_S} (hT : lt_Wt σ) {o : Nat} (h0 : lt_c σ o = 12) {r : Int32} {w : lt_W} (hF : lt_F X cX12_wrongCall RX12 4 (lt_rm 3)) (hE : lt_E X 0 0 σ (some .int) (some (.int r)) w) : ∀ (x1 : Int32) (x2 : Int32) (x3 : Int32), fb_X12_wrongCall_0 σ o w x1 x2 x3 = some r → lt_J X 0 0 σ w 0 [(0, .ref (lt_z X + o)), (1, .int x1), (2, .int x2), (3, .int x3)] [] := by
  intro x1 x2 x3 hf
  unfold fb_X12_wrongCall_0 at hf
  refine jr_aload_n hF dX12_wrongCall_0 0 rfl rfl ?_
  refine jr_iload_n hF dX12_wrongCall_1 1 rfl rfl ?_
  obtain ⟨q1, hq1, hf⟩ := Option.bind_eq_some_iff.mp hf
  refine jr_cV11 hF ml_X12_266 (c_X12_isGuest hT h0 hq1) h0 ⟨Nat.le_of_ble_eq_true rfl, Nat.le_of_ble_eq_true rfl⟩ (Nat.le_of_ble_eq_true rfl) dX12_wrongCall_2 ?_
  refine jr_if_eq (tgt := 27) hF dX12_wrongCall_5 rfl hf (fun hf => ?_) (fun hf => ?_)
  · refine jr_iconst (v := 1) hF dX12_wrongCall_27 rfl ?_
    obtain rfl := Option.some.inj hf
    exact jr_ireturn hF hE dX12_wrongCall_28
  · refine jr_iload_n hF dX12_wrongCall_8 2 rfl rfl ?_
    obtain ⟨q2, hq2, hf⟩ := Option.bind_eq_some_iff.mp hf
    refine jr_cS11 hF ml_X12_108 (c_X12_isTray hq2) ⟨Nat.le_of_ble_eq_true rfl, Nat.le_of_ble_eq_true rfl⟩ (Nat.le_of_ble_eq_true rfl) dX12_wrongCall_9 ?_
    refine jr_if_eq (tgt := 27) hF dX12_wrongCall_12 rfl hf (fun hf => ?_) (fun hf => ?_)
    · refine jr_iconst (v := 1) hF dX12_wrongCall_27 rfl ?_
      obtain rfl := Option.some.inj hf
      exact jr_ireturn hF hE dX12_wrongCall_28
    · refine jr_iload_n hF dX12_wrongCall_15 3 rfl rfl ?_
      refine jr_i2l hF dX12_wrongCall_16 ?_
      refine jr_lconst (v := 0) hF dX12_wrongCall_17 rfl ?_
      refine jr_ldc2 (v := 20) hF dX12_wrongCall_18 kc_X12_328 ?_
      obtain ⟨q3, hq3, hf⟩ := Option.bind_eq_some_iff.mp hf
      refine jr_cS31 hF ml_X12_307 (c_X12_isFrom hq3) ⟨Nat.le_of_ble_eq_true rfl, Nat.le_of_ble_eq_true rfl⟩ (Nat.le_of_ble_eq_true rfl) dX12_wrongCall_21 ?_
      refine jr_if_ne (tgt := 29) hF dX12_wrongCall_24 rfl hf (fun hf => ?_) (fun hf => ?_)
      · refine jr_aload_n hF dX12_wrongCall_29 0 rfl rfl ?_
        refine jr_iload_n hF dX12_wrongCall_30 2 rfl rfl ?_
        refine jr_iload_n hF dX12_wrongCall_31 3 rfl rfl ?_
        obtain ⟨q4, hq4, hf⟩ := Option.bind_eq_some_iff.mp hf
        refine jr_cV21 hF ml_X12_357 (c_X12_wrongSeen hT h0 hq4) h0 ⟨Nat.le_of_ble_eq_true rfl, Nat.le_of_ble_eq_true rfl⟩ (Nat.le_of_ble_eq_true rfl) dX12_wrongCall_32 ?_
        obtain rfl := Option.some.inj hf
        exact jr_ireturn hF hE dX12_wrongCall_35
      · refine jr_iconst (v := 1) hF dX12_wrongCall_27 rfl ?_
        obtain rfl := Option.some.inj hf
        exact jr_ireturn hF hE dX12_wrongCall_28
def f_X12_wrongCall (σ : lt_S) (o : Nat) (x1 : Int32) (x2 : Int32) (x3 : Int32) (w : lt_W) : Option Int32 := fb_X12_wrongCall_0 σ o w x1 x2 x3
set_option maxRecDepth 100000 in
theorem c_X12_wrongCall {l : Launch} {D : va_G} {gA : Nat → ClassId} {s0 : State} {σ : lt_S} (hT : lt_Wt σ) {o : Nat} (h0 : lt_c σ o = 12) {x1 : Int32} {x2 : Int32} {x3 : Int32} {w : lt_W} {r : Int32} (hf : f_X12_wrongCall σ o x1 x2 x3 w = some r) : lt_C l D gA s0 yX12_wrongCall cX12_wrongCall 4 (some .int) (lt_rm 3) [.ref (s0.heap.size + o), .int x1, .int x2, .int x3] σ w σ (some (.int r)) w := by
  refine lt_enter rfl (Nat.le_of_ble_eq_true rfl) (fun X e1 e2 e3 e4 hF hE => ?_)
  subst e1 e2 e3 e4
  exact jb_X12_wrongCall_0 hT h0 hF hE _ _ _ hf

set_option maxRecDepth 100000 in
def fb_X12_refuse_0 (σ : lt_S) (o : Nat) (x1 : Int32) (w : lt_W) : Option (Int32 × lt_W) := lt_let (lt_si w o 2 x1) (fun w1 => some ((-1), w1))
set_option maxHeartbeats 4000000 in
set_option maxRecDepth 100000 in
theorem jb_X12_refuse_0 {X : lt_X} {σ : lt_S} {o : Nat} (h0 : lt_c σ o = 12) {r : Int32 × lt_W} (hF : lt_F X cX12_refuse RX12 2 (lt_rm 1)) (hE : lt_E X 0 0 σ (some .int) (some (.int r.1)) r.2) : ∀ (x1 : Int32) (w : lt_W), fb_X12_refuse_0 σ o x1 w = some r → lt_J X 0 0 σ w 0 [(0, .ref (lt_z X + o)), (1, .int x1)] [] := by
  intro x1 w hf
  unfold fb_X12_refuse_0 at hf
  refine jr_aload_n hF dX12_refuse_0 0 rfl rfl ?_
  refine jr_iload_n hF dX12_refuse_1 1 rfl rfl ?_
  refine jr_putI hF pf_X12_91 h0 dX12_refuse_2 ?_
  refine jr_letW hf (fun w1 hf => ?_)
  refine jr_iconst (v := (-1)) hF dX12_refuse_5 rfl ?_
  obtain rfl := Option.some.inj hf
  exact jr_ireturn hF hE dX12_refuse_6
def f_X12_refuse (σ : lt_S) (o : Nat) (x1 : Int32) (w : lt_W) : Option (Int32 × lt_W) := fb_X12_refuse_0 σ o x1 w
set_option maxRecDepth 100000 in
theorem c_X12_refuse {l : Launch} {D : va_G} {gA : Nat → ClassId} {s0 : State} {σ : lt_S} {o : Nat} (h0 : lt_c σ o = 12) {x1 : Int32} {w : lt_W} {r : Int32 × lt_W} (hf : f_X12_refuse σ o x1 w = some r) : lt_C l D gA s0 yX12_refuse cX12_refuse 2 (some .int) (lt_rm 1) [.ref (s0.heap.size + o), .int x1] σ w σ (some (.int r.1)) r.2 := by
  refine lt_enter rfl (Nat.le_of_ble_eq_true rfl) (fun X e1 e2 e3 e4 hF hE => ?_)
  subst e1 e2 e3 e4
  exact jb_X12_refuse_0 h0 hF hE _ _ hf

set_option maxRecDepth 100000 in
def fb_X12_keeps_2 (σ : lt_S) (o : Nat) : Nat → Int32 → Int32 → lt_W → Option lt_W
  | 0, _, _, _ => none
  | n + 1, x1, x2, w => if 60 ≤ x2 then some w else lt_ck x2 (lt_len σ (lt_r σ o 0)) (lt_ck (x1 + x2) (lt_len σ (lt_r σ o 0)) (lt_let (lt_si w (lt_r σ o 0) (x1 + x2).toNatClampNeg (lt_gi w (lt_r σ o 0) x2.toNatClampNeg)) (fun w3 => fb_X12_keeps_2 σ o n x1 (x2 + 1) w3)))
set_option maxHeartbeats 4000000 in
set_option maxRecDepth 100000 in
theorem jb_X12_keeps_2 {X : lt_X} {σ : lt_S} (hT : lt_Wt σ) {o : Nat} (h0 : lt_c σ o = 12) {r : lt_W} (hF : lt_F X cX12_keeps RX12 3 (lt_rm 1)) (hE : lt_E X 0 0 σ none none r) (n : Nat) : ∀ (x1 : Int32) (x2 : Int32) (w : lt_W), fb_X12_keeps_2 σ o n x1 x2 w = some r → lt_J X 0 0 σ w 2 [(0, .ref (lt_z X + o)), (1, .int x1), (2, .int x2)] [] := by
  induction n with
  | zero => intro x1 x2 w hf; rw [fb_X12_keeps_2] at hf; cases hf
  | succ n ih =>
    intro x1 x2 w hf
    rw [fb_X12_keeps_2] at hf
    refine jr_iload_n hF dX12_keeps_2 2 rfl rfl ?_
    refine jr_bipush (v := 60) hF dX12_keeps_3 rfl ?_
    refine jr_icmp_ge (tgt := 28) hF dX12_keeps_5 rfl hf (fun hf => ?_) (fun hf => ?_)
    · obtain rfl := Option.some.inj hf
      exact jr_return hF hE dX12_keeps_28
    · refine jr_aload_n hF dX12_keeps_8 0 rfl rfl ?_
      refine jr_getRT (cr := 50) hF gf_X12_7 hT h0 rfl rfl dX12_keeps_9 (fun th1 => ?_)
      refine jr_iload_n hF dX12_keeps_12 1 rfl rfl ?_
      refine jr_iload_n hF dX12_keeps_13 2 rfl rfl ?_
      refine jr_iadd hF dX12_keeps_14 ?_
      refine jr_aload_n hF dX12_keeps_15 0 rfl rfl ?_
      refine jr_getRT (cr := 50) hF gf_X12_7 hT h0 rfl rfl dX12_keeps_16 (fun th2 => ?_)
      refine jr_iload_n hF dX12_keeps_19 2 rfl rfl ?_
      refine jr_iaload hF th2 dX12_keeps_20 hf (fun hf => ?_)
      refine jr_iastore hF th1 dX12_keeps_21 hf (fun hf => ?_)
      refine jr_letW hf (fun w3 hf => ?_)
      refine jr_iinc (v := x2 + 1) (lv' := [(0, .ref (lt_z X + o)), (1, .int x1), (2, .int (x2 + 1))]) hF dX12_keeps_22 2 rfl rfl (by decide) [1, 2, 0] rfl ?_
      refine jr_goto (tgt := 2) hF dX12_keeps_25 rfl ?_
      exact ih _ _ _ hf
set_option maxRecDepth 100000 in
def fb_X12_keeps_0 (σ : lt_S) (o : Nat) (x1 : Int32) (w : lt_W) : Option lt_W := fb_X12_keeps_2 σ o lt_fu x1 0 w
set_option maxHeartbeats 4000000 in
set_option maxRecDepth 100000 in
theorem jb_X12_keeps_0 {X : lt_X} {σ : lt_S} (hT : lt_Wt σ) {o : Nat} (h0 : lt_c σ o = 12) {r : lt_W} (hF : lt_F X cX12_keeps RX12 3 (lt_rm 1)) (hE : lt_E X 0 0 σ none none r) : ∀ (x1 : Int32) (w : lt_W), fb_X12_keeps_0 σ o x1 w = some r → lt_J X 0 0 σ w 0 [(0, .ref (lt_z X + o)), (1, .int x1)] [] := by
  intro x1 w hf
  unfold fb_X12_keeps_0 at hf
  refine jr_iconst (v := 0) hF dX12_keeps_0 rfl ?_
  refine jr_istore_n (lv' := [(0, .ref (lt_z X + o)), (1, .int x1), (2, .int 0)]) hF dX12_keeps_1 rfl (by decide) [1, 2, 0] rfl ?_
  exact jb_X12_keeps_2 hT h0 hF hE lt_fu _ _ _ hf
def f_X12_keeps (σ : lt_S) (o : Nat) (x1 : Int32) (w : lt_W) : Option lt_W := fb_X12_keeps_0 σ o x1 w
set_option maxRecDepth 100000 in
theorem c_X12_keeps {l : Launch} {D : va_G} {gA : Nat → ClassId} {s0 : State} {σ : lt_S} (hT : lt_Wt σ) {o : Nat} (h0 : lt_c σ o = 12) {x1 : Int32} {w : lt_W} {r : lt_W} (hf : f_X12_keeps σ o x1 w = some r) : lt_C l D gA s0 yX12_keeps cX12_keeps 3 none (lt_rm 1) [.ref (s0.heap.size + o), .int x1] σ w σ none r := by
  refine lt_enter rfl (Nat.le_of_ble_eq_true rfl) (fun X e1 e2 e3 e4 hF hE => ?_)
  subst e1 e2 e3 e4
  exact jb_X12_keeps_0 hT h0 hF hE _ _ hf

set_option maxRecDepth 100000 in
def fb_X12_bits_4 : Nat → Int32 → Int32 → Option Int32
  | 0, _, _ => none
  | n + 1, x1, x2 => if x2 = 0 then some x1 else fb_X12_bits_4 n (x1 + 1) (x2 &&& (x2 - 1))
set_option maxHeartbeats 4000000 in
set_option maxRecDepth 100000 in
theorem jb_X12_bits_4 {X : lt_X} {σ : lt_S} {r : Int32} {w : lt_W} (hF : lt_F X cX12_bits RX12 3 (lt_rm 1)) (hE : lt_E X 0 0 σ (some .int) (some (.int r)) w) (n : Nat) : ∀ (x1 : Int32) (x2 : Int32), fb_X12_bits_4 n x1 x2 = some r → lt_J X 0 0 σ w 4 [(1, .int x1), (2, .int x2)] [] := by
  induction n with
  | zero => intro x1 x2 hf; rw [fb_X12_bits_4] at hf; cases hf
  | succ n ih =>
    intro x1 x2 hf
    rw [fb_X12_bits_4] at hf
    refine jr_iload_n hF dX12_bits_4 1 rfl rfl ?_
    refine jr_if_eq (tgt := 20) hF dX12_bits_5 rfl hf (fun hf => ?_) (fun hf => ?_)
    · refine jr_iload_n hF dX12_bits_20 0 rfl rfl ?_
      obtain rfl := Option.some.inj hf
      exact jr_ireturn hF hE dX12_bits_21
    · refine jr_iinc (v := x1 + 1) (lv' := [(1, .int (x1 + 1)), (2, .int x2)]) hF dX12_bits_8 0 rfl rfl (by decide) [0, 1] rfl ?_
      refine jr_iload_n hF dX12_bits_11 1 rfl rfl ?_
      refine jr_iload_n hF dX12_bits_12 1 rfl rfl ?_
      refine jr_iconst (v := 1) hF dX12_bits_13 rfl ?_
      refine jr_isub hF dX12_bits_14 ?_
      refine jr_iand hF dX12_bits_15 ?_
      refine jr_istore_n (lv' := [(1, .int (x1 + 1)), (2, .int (x2 &&& (x2 - 1)))]) hF dX12_bits_16 rfl (by decide) [1, 0] rfl ?_
      refine jr_goto (tgt := 4) hF dX12_bits_17 rfl ?_
      exact ih _ _ hf
set_option maxRecDepth 100000 in
def fb_X12_bits_0 (x0 : Int32) : Option Int32 := fb_X12_bits_4 lt_fu 0 x0
set_option maxHeartbeats 4000000 in
set_option maxRecDepth 100000 in
theorem jb_X12_bits_0 {X : lt_X} {σ : lt_S} {r : Int32} {w : lt_W} (hF : lt_F X cX12_bits RX12 3 (lt_rm 1)) (hE : lt_E X 0 0 σ (some .int) (some (.int r)) w) : ∀ (x0 : Int32), fb_X12_bits_0 x0 = some r → lt_J X 0 0 σ w 0 [(0, .int x0)] [] := by
  intro x0 hf
  unfold fb_X12_bits_0 at hf
  refine jr_iconst (v := 0) hF dX12_bits_0 rfl ?_
  refine jr_istore_n (lv' := [(0, .int x0), (1, .int 0)]) hF dX12_bits_1 rfl (by decide) [1, 0] rfl ?_
  refine jr_iload_n hF dX12_bits_2 0 rfl rfl ?_
  refine jr_istore_n (lv' := [(1, .int 0), (2, .int x0)]) hF dX12_bits_3 rfl (by decide) [2, 0] rfl ?_
  exact jb_X12_bits_4 hF hE lt_fu _ _ hf
def f_X12_bits (x0 : Int32) : Option Int32 := fb_X12_bits_0 x0
set_option maxRecDepth 100000 in
theorem c_X12_bits {l : Launch} {D : va_G} {gA : Nat → ClassId} {s0 : State} {σ : lt_S} {x0 : Int32} {w : lt_W} {r : Int32} (hf : f_X12_bits x0 = some r) : lt_C l D gA s0 yX12_bits cX12_bits 3 (some .int) (lt_rm 1) [.int x0] σ w σ (some (.int r)) w := by
  refine lt_enter rfl (Nat.le_of_ble_eq_true rfl) (fun X e1 e2 e3 e4 hF hE => ?_)
  subst e1 e2 e3 e4
  exact jb_X12_bits_0 hF hE _ hf

set_option maxRecDepth 100000 in
def fb_X12_firstCutter_4 (σ : lt_S) (o : Nat) (w : lt_W) : Nat → Int32 → Int32 → Option Int32
  | 0, _, _ => none
  | n + 1, x1, x2 => lt_ck 0 (lt_len σ (lt_r σ o 0)) (if (lt_gi w (lt_r σ o 0) (0 : Int32).toNatClampNeg) ≤ x2 then some x1 else lt_ck 5 (lt_len σ (lt_r σ o 0)) (if (lt_gi w (lt_r σ o 0) (5 : Int32).toNatClampNeg) = 0 then Option.bind (f_X12_isHere σ o x2 w) (fun q3 => if q3 = 0 then fb_X12_firstCutter_4 σ o w n x1 (x2 + 1) else Option.bind (f_X12_guestOf σ o x2 0 w) (fun q4 => lt_ck 2 (lt_len σ (lt_r σ o 0)) (if (lt_gi w (lt_r σ o 0) (2 : Int32).toNatClampNeg) ≤ q4 then if x1 = (-1) then fb_X12_firstCutter_4 σ o w n x2 (x2 + 1) else Option.bind (f_X12_guestOf σ o x2 0 w) (fun q6 => Option.bind (f_X12_guestOf σ o x1 0 w) (fun q7 => if q6 ≤ q7 then fb_X12_firstCutter_4 σ o w n x1 (x2 + 1) else fb_X12_firstCutter_4 σ o w n x2 (x2 + 1))) else fb_X12_firstCutter_4 σ o w n x1 (x2 + 1)))) else some x1))
set_option maxHeartbeats 4000000 in
set_option maxRecDepth 100000 in
theorem jb_X12_firstCutter_4 {X : lt_X} {σ : lt_S} (hT : lt_Wt σ) {o : Nat} (h0 : lt_c σ o = 12) {r : Int32} {w : lt_W} (hF : lt_F X cX12_firstCutter RX12 3 (lt_rm 4)) (hE : lt_E X 0 0 σ (some .int) (some (.int r)) w) (n : Nat) : ∀ (x1 : Int32) (x2 : Int32), fb_X12_firstCutter_4 σ o w n x1 x2 = some r → lt_J X 0 0 σ w 4 [(0, .ref (lt_z X + o)), (1, .int x1), (2, .int x2)] [] := by
  induction n with
  | zero => intro x1 x2 hf; rw [fb_X12_firstCutter_4] at hf; cases hf
  | succ n ih =>
    intro x1 x2 hf
    rw [fb_X12_firstCutter_4] at hf
    refine jr_iload_n hF dX12_firstCutter_4 2 rfl rfl ?_
    refine jr_aload_n hF dX12_firstCutter_5 0 rfl rfl ?_
    refine jr_getRT (cr := 50) hF gf_X12_7 hT h0 rfl rfl dX12_firstCutter_6 (fun th1 => ?_)
    refine jr_iconst (v := 0) hF dX12_firstCutter_9 rfl ?_
    refine jr_iaload hF th1 dX12_firstCutter_10 hf (fun hf => ?_)
    refine jr_icmp_ge (tgt := 77) hF dX12_firstCutter_11 rfl hf (fun hf => ?_) (fun hf => ?_)
    · refine jr_iload_n hF dX12_firstCutter_77 1 rfl rfl ?_
      obtain rfl := Option.some.inj hf
      exact jr_ireturn hF hE dX12_firstCutter_78
    · refine jr_aload_n hF dX12_firstCutter_14 0 rfl rfl ?_
      refine jr_getRT (cr := 50) hF gf_X12_7 hT h0 rfl rfl dX12_firstCutter_15 (fun th2 => ?_)
      refine jr_iconst (v := 5) hF dX12_firstCutter_18 rfl ?_
      refine jr_iaload hF th2 dX12_firstCutter_19 hf (fun hf => ?_)
      refine jr_if_ne (tgt := 77) hF dX12_firstCutter_20 rfl hf (fun hf => ?_) (fun hf => ?_)
      · refine jr_iload_n hF dX12_firstCutter_77 1 rfl rfl ?_
        obtain rfl := Option.some.inj hf
        exact jr_ireturn hF hE dX12_firstCutter_78
      · refine jr_aload_n hF dX12_firstCutter_23 0 rfl rfl ?_
        refine jr_iload_n hF dX12_firstCutter_24 2 rfl rfl ?_
        obtain ⟨q3, hq3, hf⟩ := Option.bind_eq_some_iff.mp hf
        refine jr_cV11 hF ml_X12_272 (c_X12_isHere hT h0 hq3) h0 ⟨Nat.le_of_ble_eq_true rfl, Nat.le_of_ble_eq_true rfl⟩ (Nat.le_of_ble_eq_true rfl) dX12_firstCutter_25 ?_
        refine jr_if_eq (tgt := 71) hF dX12_firstCutter_28 rfl hf (fun hf => ?_) (fun hf => ?_)
        · refine jr_iinc (v := x2 + 1) (lv' := [(0, .ref (lt_z X + o)), (1, .int x1), (2, .int (x2 + 1))]) hF dX12_firstCutter_71 2 rfl rfl (by decide) [1, 2, 0] rfl ?_
          refine jr_goto (tgt := 4) hF dX12_firstCutter_74 rfl ?_
          exact ih _ _ hf
        · refine jr_aload_n hF dX12_firstCutter_31 0 rfl rfl ?_
          refine jr_iload_n hF dX12_firstCutter_32 2 rfl rfl ?_
          refine jr_iconst (v := 0) hF dX12_firstCutter_33 rfl ?_
          obtain ⟨q4, hq4, hf⟩ := Option.bind_eq_some_iff.mp hf
          refine jr_cV21 hF ml_X12_269 (c_X12_guestOf hT h0 hq4) h0 ⟨Nat.le_of_ble_eq_true rfl, Nat.le_of_ble_eq_true rfl⟩ (Nat.le_of_ble_eq_true rfl) dX12_firstCutter_34 ?_
          refine jr_aload_n hF dX12_firstCutter_37 0 rfl rfl ?_
          refine jr_getRT (cr := 50) hF gf_X12_7 hT h0 rfl rfl dX12_firstCutter_38 (fun th5 => ?_)
          refine jr_iconst (v := 2) hF dX12_firstCutter_41 rfl ?_
          refine jr_iaload hF th5 dX12_firstCutter_42 hf (fun hf => ?_)
          refine jr_icmp_ge (tgt := 49) hF dX12_firstCutter_43 rfl hf (fun hf => ?_) (fun hf => ?_)
          · refine jr_iload_n hF dX12_firstCutter_49 1 rfl rfl ?_
            refine jr_iconst (v := (-1)) hF dX12_firstCutter_50 rfl ?_
            refine jr_icmp_eq (tgt := 69) hF dX12_firstCutter_51 rfl hf (fun hf => ?_) (fun hf => ?_)
            · refine jr_iload_n hF dX12_firstCutter_69 2 rfl rfl ?_
              refine jr_istore_n (lv' := [(0, .ref (lt_z X + o)), (1, .int x2), (2, .int x2)]) hF dX12_firstCutter_70 rfl (by decide) [1, 0, 2] rfl ?_
              refine jr_iinc (v := x2 + 1) (lv' := [(0, .ref (lt_z X + o)), (1, .int x2), (2, .int (x2 + 1))]) hF dX12_firstCutter_71 2 rfl rfl (by decide) [1, 2, 0] rfl ?_
              refine jr_goto (tgt := 4) hF dX12_firstCutter_74 rfl ?_
              exact ih _ _ hf
            · refine jr_aload_n hF dX12_firstCutter_54 0 rfl rfl ?_
              refine jr_iload_n hF dX12_firstCutter_55 2 rfl rfl ?_
              refine jr_iconst (v := 0) hF dX12_firstCutter_56 rfl ?_
              obtain ⟨q6, hq6, hf⟩ := Option.bind_eq_some_iff.mp hf
              refine jr_cV21 hF ml_X12_269 (c_X12_guestOf hT h0 hq6) h0 ⟨Nat.le_of_ble_eq_true rfl, Nat.le_of_ble_eq_true rfl⟩ (Nat.le_of_ble_eq_true rfl) dX12_firstCutter_57 ?_
              refine jr_aload_n hF dX12_firstCutter_60 0 rfl rfl ?_
              refine jr_iload_n hF dX12_firstCutter_61 1 rfl rfl ?_
              refine jr_iconst (v := 0) hF dX12_firstCutter_62 rfl ?_
              obtain ⟨q7, hq7, hf⟩ := Option.bind_eq_some_iff.mp hf
              refine jr_cV21 hF ml_X12_269 (c_X12_guestOf hT h0 hq7) h0 ⟨Nat.le_of_ble_eq_true rfl, Nat.le_of_ble_eq_true rfl⟩ (Nat.le_of_ble_eq_true rfl) dX12_firstCutter_63 ?_
              refine jr_icmp_le (tgt := 71) hF dX12_firstCutter_66 rfl hf (fun hf => ?_) (fun hf => ?_)
              · refine jr_iinc (v := x2 + 1) (lv' := [(0, .ref (lt_z X + o)), (1, .int x1), (2, .int (x2 + 1))]) hF dX12_firstCutter_71 2 rfl rfl (by decide) [1, 2, 0] rfl ?_
                refine jr_goto (tgt := 4) hF dX12_firstCutter_74 rfl ?_
                exact ih _ _ hf
              · refine jr_iload_n hF dX12_firstCutter_69 2 rfl rfl ?_
                refine jr_istore_n (lv' := [(0, .ref (lt_z X + o)), (1, .int x2), (2, .int x2)]) hF dX12_firstCutter_70 rfl (by decide) [1, 0, 2] rfl ?_
                refine jr_iinc (v := x2 + 1) (lv' := [(0, .ref (lt_z X + o)), (1, .int x2), (2, .int (x2 + 1))]) hF dX12_firstCutter_71 2 rfl rfl (by decide) [1, 2, 0] rfl ?_
                refine jr_goto (tgt := 4) hF dX12_firstCutter_74 rfl ?_
                exact ih _ _ hf
          · refine jr_goto (tgt := 71) hF dX12_firstCutter_46 rfl ?_
            refine jr_iinc (v := x2 + 1) (lv' := [(0, .ref (lt_z X + o)), (1, .int x1), (2, .int (x2 + 1))]) hF dX12_firstCutter_71 2 rfl rfl (by decide) [1, 2, 0] rfl ?_
            refine jr_goto (tgt := 4) hF dX12_firstCutter_74 rfl ?_
            exact ih _ _ hf
set_option maxRecDepth 100000 in
def fb_X12_firstCutter_0 (σ : lt_S) (o : Nat) (w : lt_W) : Option Int32 := fb_X12_firstCutter_4 σ o w lt_fu (-1) 0
set_option maxHeartbeats 4000000 in
set_option maxRecDepth 100000 in
theorem jb_X12_firstCutter_0 {X : lt_X} {σ : lt_S} (hT : lt_Wt σ) {o : Nat} (h0 : lt_c σ o = 12) {r : Int32} {w : lt_W} (hF : lt_F X cX12_firstCutter RX12 3 (lt_rm 4)) (hE : lt_E X 0 0 σ (some .int) (some (.int r)) w) : fb_X12_firstCutter_0 σ o w = some r → lt_J X 0 0 σ w 0 [(0, .ref (lt_z X + o))] [] := by
  intro  hf
  unfold fb_X12_firstCutter_0 at hf
  refine jr_iconst (v := (-1)) hF dX12_firstCutter_0 rfl ?_
  refine jr_istore_n (lv' := [(0, .ref (lt_z X + o)), (1, .int (-1))]) hF dX12_firstCutter_1 rfl (by decide) [1, 0] rfl ?_
  refine jr_iconst (v := 0) hF dX12_firstCutter_2 rfl ?_
  refine jr_istore_n (lv' := [(0, .ref (lt_z X + o)), (1, .int (-1)), (2, .int 0)]) hF dX12_firstCutter_3 rfl (by decide) [1, 2, 0] rfl ?_
  exact jb_X12_firstCutter_4 hT h0 hF hE lt_fu _ _ hf
def f_X12_firstCutter (σ : lt_S) (o : Nat) (w : lt_W) : Option Int32 := fb_X12_firstCutter_0 σ o w
set_option maxRecDepth 100000 in
theorem c_X12_firstCutter {l : Launch} {D : va_G} {gA : Nat → ClassId} {s0 : State} {σ : lt_S} (hT : lt_Wt σ) {o : Nat} (h0 : lt_c σ o = 12) {w : lt_W} {r : Int32} (hf : f_X12_firstCutter σ o w = some r) : lt_C l D gA s0 yX12_firstCutter cX12_firstCutter 3 (some .int) (lt_rm 4) [.ref (s0.heap.size + o)] σ w σ (some (.int r)) w := by
  refine lt_enter rfl (Nat.le_of_ble_eq_true rfl) (fun X e1 e2 e3 e4 hF hE => ?_)
  subst e1 e2 e3 e4
  exact jb_X12_firstCutter_0 hT h0 hF hE hf

set_option maxRecDepth 100000 in
def fb_X12_cuts1_43 (σ : lt_S) (o : Nat) (x2 : Int32) (x3 : Int32) (y0 : Nat) (y1 : Int32) (y2 : Int32) (w : lt_W) : Option (Int32 × lt_W) := lt_ck y1 (lt_len σ y0) (lt_let (lt_si w y0 y1.toNatClampNeg y2) (fun w1 => lt_ck 7 (lt_len σ (lt_r σ o 0)) (lt_ck 7 (lt_len σ (lt_r σ o 0)) (lt_let (lt_si w1 (lt_r σ o 0) (7 : Int32).toNatClampNeg ((lt_gi w1 (lt_r σ o 0) (7 : Int32).toNatClampNeg) + 1)) (fun w3 => if x3 = 1 then lt_ck x2 (lt_len σ (lt_r σ o 0)) (lt_let (lt_si w3 (lt_r σ o 0) x2.toNatClampNeg 0) (fun w7 => some (0, w7))) else lt_ck (x2 + 5) (lt_len σ (lt_r σ o 0)) (lt_let (lt_si w3 (lt_r σ o 0) (x2 + 5).toNatClampNeg 0) (fun w5 => some (1, w5))))))))
set_option maxHeartbeats 4000000 in
set_option maxRecDepth 100000 in
theorem jb_X12_cuts1_43 {X : lt_X} {σ : lt_S} (hT : lt_Wt σ) {o : Nat} (h0 : lt_c σ o = 12) {r : Int32 × lt_W} (hF : lt_F X cX12_cuts1 RX12 4 (lt_rm 2)) (hE : lt_E X 0 0 σ (some .int) (some (.int r.1)) r.2) : ∀ (x2 : Int32) (x3 : Int32) (y0 : Nat) (y1 : Int32) (y2 : Int32) (w : lt_W), lt_c σ y0 = 50 → fb_X12_cuts1_43 σ o x2 x3 y0 y1 y2 w = some r → lt_J X 0 0 σ w 43 [(0, .ref (lt_z X + o)), (2, .int x2), (3, .int x3)] [.int y2, .int y1, .ref (lt_z X + y0)] := by
  intro x2 x3 y0 y1 y2 w u0 hf
  unfold fb_X12_cuts1_43 at hf
  refine jr_iastore hF u0 dX12_cuts1_43 hf (fun hf => ?_)
  refine jr_letW hf (fun w1 hf => ?_)
  refine jr_aload_n hF dX12_cuts1_44 0 rfl rfl ?_
  refine jr_getRT (cr := 50) hF gf_X12_7 hT h0 rfl rfl dX12_cuts1_45 (fun th2 => ?_)
  refine jr_bipush (v := 7) hF dX12_cuts1_48 rfl ?_
  refine jr_dup2 hF dX12_cuts1_50 rfl rfl ?_
  refine jr_iaload hF th2 dX12_cuts1_51 hf (fun hf => ?_)
  refine jr_iconst (v := 1) hF dX12_cuts1_52 rfl ?_
  refine jr_iadd hF dX12_cuts1_53 ?_
  refine jr_iastore hF th2 dX12_cuts1_54 hf (fun hf => ?_)
  refine jr_letW hf (fun w3 hf => ?_)
  refine jr_iload_n hF dX12_cuts1_55 2 rfl rfl ?_
  refine jr_iconst (v := 1) hF dX12_cuts1_56 rfl ?_
  refine jr_icmp_ne (tgt := 69) hF dX12_cuts1_57 rfl hf (fun hf => ?_) (fun hf => ?_)
  · refine jr_aload_n hF dX12_cuts1_69 0 rfl rfl ?_
    refine jr_getRT (cr := 50) hF gf_X12_7 hT h0 rfl rfl dX12_cuts1_70 (fun th4 => ?_)
    refine jr_iload_n hF dX12_cuts1_73 1 rfl rfl ?_
    refine jr_iconst (v := 5) hF dX12_cuts1_74 rfl ?_
    refine jr_iadd hF dX12_cuts1_75 ?_
    refine jr_iconst (v := 0) hF dX12_cuts1_76 rfl ?_
    refine jr_iastore hF th4 dX12_cuts1_77 hf (fun hf => ?_)
    refine jr_letW hf (fun w5 hf => ?_)
    refine jr_iconst (v := 1) hF dX12_cuts1_78 rfl ?_
    obtain rfl := Option.some.inj hf
    exact jr_ireturn hF hE dX12_cuts1_79
  · refine jr_aload_n hF dX12_cuts1_60 0 rfl rfl ?_
    refine jr_getRT (cr := 50) hF gf_X12_7 hT h0 rfl rfl dX12_cuts1_61 (fun th6 => ?_)
    refine jr_iload_n hF dX12_cuts1_64 1 rfl rfl ?_
    refine jr_iconst (v := 0) hF dX12_cuts1_65 rfl ?_
    refine jr_iastore hF th6 dX12_cuts1_66 hf (fun hf => ?_)
    refine jr_letW hf (fun w7 hf => ?_)
    refine jr_iconst (v := 0) hF dX12_cuts1_67 rfl ?_
    obtain rfl := Option.some.inj hf
    exact jr_ireturn hF hE dX12_cuts1_68
set_option maxRecDepth 100000 in
def fb_X12_cuts1_0 (σ : lt_S) (o : Nat) (x1 : Int32) (w : lt_W) : Option (Int32 × lt_W) := Option.bind (f_X12_guestRow x1) (fun q1 => lt_ck (q1 + 3) (lt_len σ (lt_r σ o 0)) (lt_let (lt_gi w (lt_r σ o 0) (q1 + 3).toNatClampNeg) (fun z3 => if z3 = 2 then lt_ck 4 (lt_len σ (lt_r σ o 0)) (fb_X12_cuts1_43 σ o q1 z3 (lt_r σ o 0) 5 (((lt_gi w (lt_r σ o 0) (4 : Int32).toNatClampNeg) + 1) / 2) w) else lt_ck 4 (lt_len σ (lt_r σ o 0)) (fb_X12_cuts1_43 σ o q1 z3 (lt_r σ o 0) 5 (lt_gi w (lt_r σ o 0) (4 : Int32).toNatClampNeg) w))))
set_option maxHeartbeats 4000000 in
set_option maxRecDepth 100000 in
theorem jb_X12_cuts1_0 {X : lt_X} {σ : lt_S} (hT : lt_Wt σ) {o : Nat} (h0 : lt_c σ o = 12) {r : Int32 × lt_W} (hF : lt_F X cX12_cuts1 RX12 4 (lt_rm 2)) (hE : lt_E X 0 0 σ (some .int) (some (.int r.1)) r.2) : ∀ (x1 : Int32) (w : lt_W), fb_X12_cuts1_0 σ o x1 w = some r → lt_J X 0 0 σ w 0 [(0, .ref (lt_z X + o)), (1, .int x1)] [] := by
  intro x1 w hf
  unfold fb_X12_cuts1_0 at hf
  refine jr_iload_n hF dX12_cuts1_0 1 rfl rfl ?_
  obtain ⟨q1, hq1, hf⟩ := Option.bind_eq_some_iff.mp hf
  refine jr_cS11 hF ml_X12_192 (c_X12_guestRow hq1) ⟨Nat.le_of_ble_eq_true rfl, Nat.le_of_ble_eq_true rfl⟩ (Nat.le_of_ble_eq_true rfl) dX12_cuts1_1 ?_
  refine jr_istore_n (lv' := [(0, .ref (lt_z X + o)), (2, .int q1)]) hF dX12_cuts1_4 rfl (by decide) [1, 0] rfl ?_
  refine jr_aload_n hF dX12_cuts1_5 0 rfl rfl ?_
  refine jr_getRT (cr := 50) hF gf_X12_7 hT h0 rfl rfl dX12_cuts1_6 (fun th2 => ?_)
  refine jr_iload_n hF dX12_cuts1_9 1 rfl rfl ?_
  refine jr_iconst (v := 3) hF dX12_cuts1_10 rfl ?_
  refine jr_iadd hF dX12_cuts1_11 ?_
  refine jr_iaload hF th2 dX12_cuts1_12 hf (fun hf => ?_)
  refine jr_letI hf (fun z3 hf => ?_)
  refine jr_istore_n (lv' := [(0, .ref (lt_z X + o)), (2, .int q1), (3, .int z3)]) hF dX12_cuts1_13 rfl (by decide) [1, 2, 0] rfl ?_
  refine jr_aload_n hF dX12_cuts1_14 0 rfl rfl ?_
  refine jr_getRT (cr := 50) hF gf_X12_7 hT h0 rfl rfl dX12_cuts1_15 (fun th4 => ?_)
  refine jr_iconst (v := 5) hF dX12_cuts1_18 rfl ?_
  refine jr_iload_n hF dX12_cuts1_19 2 rfl rfl ?_
  refine jr_iconst (v := 2) hF dX12_cuts1_20 rfl ?_
  refine jr_icmp_ne (tgt := 37) hF dX12_cuts1_21 rfl hf (fun hf => ?_) (fun hf => ?_)
  · refine jr_aload_n hF dX12_cuts1_37 0 rfl rfl ?_
    refine jr_getRT (cr := 50) hF gf_X12_7 hT h0 rfl rfl dX12_cuts1_38 (fun th5 => ?_)
    refine jr_iconst (v := 4) hF dX12_cuts1_41 rfl ?_
    refine jr_iaload hF th5 dX12_cuts1_42 hf (fun hf => ?_)
    exact jb_X12_cuts1_43 hT h0 hF hE _ _ _ _ _ _ th4 hf
  · refine jr_aload_n hF dX12_cuts1_24 0 rfl rfl ?_
    refine jr_getRT (cr := 50) hF gf_X12_7 hT h0 rfl rfl dX12_cuts1_25 (fun th6 => ?_)
    refine jr_iconst (v := 4) hF dX12_cuts1_28 rfl ?_
    refine jr_iaload hF th6 dX12_cuts1_29 hf (fun hf => ?_)
    refine jr_iconst (v := 1) hF dX12_cuts1_30 rfl ?_
    refine jr_iadd hF dX12_cuts1_31 ?_
    refine jr_iconst (v := 2) hF dX12_cuts1_32 rfl ?_
    refine jr_idivc hF dX12_cuts1_33 (by decide) ?_
    refine jr_goto (tgt := 43) hF dX12_cuts1_34 rfl ?_
    exact jb_X12_cuts1_43 hT h0 hF hE _ _ _ _ _ _ th4 hf
def f_X12_cuts1 (σ : lt_S) (o : Nat) (x1 : Int32) (w : lt_W) : Option (Int32 × lt_W) := fb_X12_cuts1_0 σ o x1 w
set_option maxRecDepth 100000 in
theorem c_X12_cuts1 {l : Launch} {D : va_G} {gA : Nat → ClassId} {s0 : State} {σ : lt_S} (hT : lt_Wt σ) {o : Nat} (h0 : lt_c σ o = 12) {x1 : Int32} {w : lt_W} {r : Int32 × lt_W} (hf : f_X12_cuts1 σ o x1 w = some r) : lt_C l D gA s0 yX12_cuts1 cX12_cuts1 4 (some .int) (lt_rm 2) [.ref (s0.heap.size + o), .int x1] σ w σ (some (.int r.1)) r.2 := by
  refine lt_enter rfl (Nat.le_of_ble_eq_true rfl) (fun X e1 e2 e3 e4 hF hE => ?_)
  subst e1 e2 e3 e4
  exact jb_X12_cuts1_0 hT h0 hF hE _ _ hf

set_option maxRecDepth 100000 in
def fb_X12_passTo_4 (σ : lt_S) (o : Nat) (w : lt_W) : Nat → Int32 → Int32 → Int32 → Option Int32
  | 0, _, _, _ => none
  | n + 1, x1, x2, x3 => lt_ck 0 (lt_len σ (lt_r σ o 0)) (if (lt_gi w (lt_r σ o 0) (0 : Int32).toNatClampNeg) ≤ x3 then some x2 else Option.bind (f_X12_isHere σ o x3 w) (fun q2 => if q2 = 0 then fb_X12_passTo_4 σ o w n x1 (x2 ||| 0) (x3 + 1) else Option.bind (f_X12_guestOf σ o x3 6 w) (fun q3 => if q3 = x1 then lt_let (x2 ||| (1 <<< (x3 &&& 31))) (fun z4 => fb_X12_passTo_4 σ o w n x1 z4 (x3 + 1)) else fb_X12_passTo_4 σ o w n x1 (x2 ||| 0) (x3 + 1))))
set_option maxHeartbeats 4000000 in
set_option maxRecDepth 100000 in
theorem jb_X12_passTo_4 {X : lt_X} {σ : lt_S} (hT : lt_Wt σ) {o : Nat} (h0 : lt_c σ o = 12) {r : Int32} {w : lt_W} (hF : lt_F X cX12_passTo RX12 4 (lt_rm 4)) (hE : lt_E X 0 0 σ (some .int) (some (.int r)) w) (n : Nat) : ∀ (x1 : Int32) (x2 : Int32) (x3 : Int32), fb_X12_passTo_4 σ o w n x1 x2 x3 = some r → lt_J X 0 0 σ w 4 [(0, .ref (lt_z X + o)), (1, .int x1), (2, .int x2), (3, .int x3)] [] := by
  induction n with
  | zero => intro x1 x2 x3 hf; rw [fb_X12_passTo_4] at hf; cases hf
  | succ n ih =>
    intro x1 x2 x3 hf
    rw [fb_X12_passTo_4] at hf
    refine jr_iload_n hF dX12_passTo_4 3 rfl rfl ?_
    refine jr_aload_n hF dX12_passTo_5 0 rfl rfl ?_
    refine jr_getRT (cr := 50) hF gf_X12_7 hT h0 rfl rfl dX12_passTo_6 (fun th1 => ?_)
    refine jr_iconst (v := 0) hF dX12_passTo_9 rfl ?_
    refine jr_iaload hF th1 dX12_passTo_10 hf (fun hf => ?_)
    refine jr_icmp_ge (tgt := 49) hF dX12_passTo_11 rfl hf (fun hf => ?_) (fun hf => ?_)
    · refine jr_iload_n hF dX12_passTo_49 2 rfl rfl ?_
      obtain rfl := Option.some.inj hf
      exact jr_ireturn hF hE dX12_passTo_50
    · refine jr_iload_n hF dX12_passTo_14 2 rfl rfl ?_
      refine jr_aload_n hF dX12_passTo_15 0 rfl rfl ?_
      refine jr_iload_n hF dX12_passTo_16 3 rfl rfl ?_
      obtain ⟨q2, hq2, hf⟩ := Option.bind_eq_some_iff.mp hf
      refine jr_cV11 hF ml_X12_272 (c_X12_isHere hT h0 hq2) h0 ⟨Nat.le_of_ble_eq_true rfl, Nat.le_of_ble_eq_true rfl⟩ (Nat.le_of_ble_eq_true rfl) dX12_passTo_17 ?_
      refine jr_if_eq (tgt := 40) hF dX12_passTo_20 rfl hf (fun hf => ?_) (fun hf => ?_)
      · refine jr_iconst (v := 0) hF dX12_passTo_40 rfl ?_
        refine jr_ior hF dX12_passTo_41 ?_
        refine jr_istore_n (lv' := [(0, .ref (lt_z X + o)), (1, .int x1), (2, .int (x2 ||| 0)), (3, .int x3)]) hF dX12_passTo_42 rfl (by decide) [1, 2, 0, 3] rfl ?_
        refine jr_iinc (v := x3 + 1) (lv' := [(0, .ref (lt_z X + o)), (1, .int x1), (2, .int (x2 ||| 0)), (3, .int (x3 + 1))]) hF dX12_passTo_43 3 rfl rfl (by decide) [1, 2, 3, 0] rfl ?_
        refine jr_goto (tgt := 4) hF dX12_passTo_46 rfl ?_
        exact ih _ _ _ hf
      · refine jr_aload_n hF dX12_passTo_23 0 rfl rfl ?_
        refine jr_iload_n hF dX12_passTo_24 3 rfl rfl ?_
        refine jr_bipush (v := 6) hF dX12_passTo_25 rfl ?_
        obtain ⟨q3, hq3, hf⟩ := Option.bind_eq_some_iff.mp hf
        refine jr_cV21 hF ml_X12_269 (c_X12_guestOf hT h0 hq3) h0 ⟨Nat.le_of_ble_eq_true rfl, Nat.le_of_ble_eq_true rfl⟩ (Nat.le_of_ble_eq_true rfl) dX12_passTo_27 ?_
        refine jr_iload_n hF dX12_passTo_30 1 rfl rfl ?_
        refine jr_icmp_ne (tgt := 40) hF dX12_passTo_31 rfl hf (fun hf => ?_) (fun hf => ?_)
        · refine jr_iconst (v := 0) hF dX12_passTo_40 rfl ?_
          refine jr_ior hF dX12_passTo_41 ?_
          refine jr_istore_n (lv' := [(0, .ref (lt_z X + o)), (1, .int x1), (2, .int (x2 ||| 0)), (3, .int x3)]) hF dX12_passTo_42 rfl (by decide) [1, 2, 0, 3] rfl ?_
          refine jr_iinc (v := x3 + 1) (lv' := [(0, .ref (lt_z X + o)), (1, .int x1), (2, .int (x2 ||| 0)), (3, .int (x3 + 1))]) hF dX12_passTo_43 3 rfl rfl (by decide) [1, 2, 3, 0] rfl ?_
          refine jr_goto (tgt := 4) hF dX12_passTo_46 rfl ?_
          exact ih _ _ _ hf
        · refine jr_iconst (v := 1) hF dX12_passTo_34 rfl ?_
          refine jr_iload_n hF dX12_passTo_35 3 rfl rfl ?_
          refine jr_ishl hF dX12_passTo_36 ?_
          refine jr_goto (tgt := 41) hF dX12_passTo_37 rfl ?_
          refine jr_ior hF dX12_passTo_41 ?_
          refine jr_letI hf (fun z4 hf => ?_)
          refine jr_istore_n (lv' := [(0, .ref (lt_z X + o)), (1, .int x1), (2, .int z4), (3, .int x3)]) hF dX12_passTo_42 rfl (by decide) [1, 2, 0, 3] rfl ?_
          refine jr_iinc (v := x3 + 1) (lv' := [(0, .ref (lt_z X + o)), (1, .int x1), (2, .int z4), (3, .int (x3 + 1))]) hF dX12_passTo_43 3 rfl rfl (by decide) [1, 2, 3, 0] rfl ?_
          refine jr_goto (tgt := 4) hF dX12_passTo_46 rfl ?_
          exact ih _ _ _ hf
set_option maxRecDepth 100000 in
def fb_X12_passTo_0 (σ : lt_S) (o : Nat) (w : lt_W) (x1 : Int32) : Option Int32 := fb_X12_passTo_4 σ o w lt_fu x1 0 0
set_option maxHeartbeats 4000000 in
set_option maxRecDepth 100000 in
theorem jb_X12_passTo_0 {X : lt_X} {σ : lt_S} (hT : lt_Wt σ) {o : Nat} (h0 : lt_c σ o = 12) {r : Int32} {w : lt_W} (hF : lt_F X cX12_passTo RX12 4 (lt_rm 4)) (hE : lt_E X 0 0 σ (some .int) (some (.int r)) w) : ∀ (x1 : Int32), fb_X12_passTo_0 σ o w x1 = some r → lt_J X 0 0 σ w 0 [(0, .ref (lt_z X + o)), (1, .int x1)] [] := by
  intro x1 hf
  unfold fb_X12_passTo_0 at hf
  refine jr_iconst (v := 0) hF dX12_passTo_0 rfl ?_
  refine jr_istore_n (lv' := [(0, .ref (lt_z X + o)), (1, .int x1), (2, .int 0)]) hF dX12_passTo_1 rfl (by decide) [1, 2, 0] rfl ?_
  refine jr_iconst (v := 0) hF dX12_passTo_2 rfl ?_
  refine jr_istore_n (lv' := [(0, .ref (lt_z X + o)), (1, .int x1), (2, .int 0), (3, .int 0)]) hF dX12_passTo_3 rfl (by decide) [1, 2, 3, 0] rfl ?_
  exact jb_X12_passTo_4 hT h0 hF hE lt_fu _ _ _ hf
def f_X12_passTo (σ : lt_S) (o : Nat) (x1 : Int32) (w : lt_W) : Option Int32 := fb_X12_passTo_0 σ o w x1
set_option maxRecDepth 100000 in
theorem c_X12_passTo {l : Launch} {D : va_G} {gA : Nat → ClassId} {s0 : State} {σ : lt_S} (hT : lt_Wt σ) {o : Nat} (h0 : lt_c σ o = 12) {x1 : Int32} {w : lt_W} {r : Int32} (hf : f_X12_passTo σ o x1 w = some r) : lt_C l D gA s0 yX12_passTo cX12_passTo 4 (some .int) (lt_rm 4) [.ref (s0.heap.size + o), .int x1] σ w σ (some (.int r)) w := by
  refine lt_enter rfl (Nat.le_of_ble_eq_true rfl) (fun X e1 e2 e3 e4 hF hE => ?_)
  subst e1 e2 e3 e4
  exact jb_X12_passTo_0 hT h0 hF hE _ hf

set_option maxRecDepth 100000 in
def fb_X12_eats_91 (σ : lt_S) (o : Nat) (k2 : Int32 → lt_W → Option lt_W) (x1 : Int32) (y0 : Nat) (y1 : Int32) (y2 : Int32) (w : lt_W) : Option lt_W := lt_ck y1 (lt_len σ y0) (lt_let (lt_si w y0 y1.toNatClampNeg y2) (fun w1 => k2 (x1 + 1) w1))
set_option maxHeartbeats 4000000 in
set_option maxRecDepth 100000 in
theorem jb_X12_eats_91 {X : lt_X} {σ : lt_S} (hT : lt_Wt σ) {o : Nat} (h0 : lt_c σ o = 12) {r : lt_W} {k2 : Int32 → lt_W → Option lt_W} (hF : lt_F X cX12_eats RX12 4 (lt_rm 5)) (hE : lt_E X 0 0 σ none none r) (hk2 : ∀ (x1 : Int32) (w : lt_W), k2 x1 w = some r → lt_J X 0 0 σ w 2 [(0, .ref (lt_z X + o)), (1, .int x1)] []) : ∀ (x1 : Int32) (y0 : Nat) (y1 : Int32) (y2 : Int32) (w : lt_W), lt_c σ y0 = 50 → fb_X12_eats_91 σ o k2 x1 y0 y1 y2 w = some r → lt_J X 0 0 σ w 91 [(0, .ref (lt_z X + o)), (1, .int x1)] [.int y2, .int y1, .ref (lt_z X + y0)] := by
  intro x1 y0 y1 y2 w u0 hf
  unfold fb_X12_eats_91 at hf
  refine jr_iastore hF u0 dX12_eats_91 hf (fun hf => ?_)
  refine jr_letW hf (fun w1 hf => ?_)
  refine jr_iinc (v := x1 + 1) (lv' := [(0, .ref (lt_z X + o)), (1, .int (x1 + 1))]) hF dX12_eats_92 1 rfl rfl (by decide) [1, 0] rfl ?_
  refine jr_goto (tgt := 2) hF dX12_eats_95 rfl ?_
  exact hk2 _ _ hf
set_option maxRecDepth 100000 in
def fb_X12_eats_59 (σ : lt_S) (o : Nat) (k2 : Int32 → lt_W → Option lt_W) (x1 : Int32) (x2 : Int32) (x3 : Int32) (y0 : Nat) (y1 : Int32) (y2 : Int32) (y3 : Int32) (w : lt_W) : Option lt_W := lt_ck y1 (lt_len σ y0) (lt_let (lt_si w y0 y1.toNatClampNeg (y2 - y3)) (fun w1 => if x3 = 0 then lt_ck (x2 + 4) (lt_len σ (lt_r σ o 0)) (fb_X12_eats_91 σ o k2 x1 (lt_r σ o 0) (x2 + 4) (lt_min 99 ((lt_gi w1 (lt_r σ o 0) (x2 + 4).toNatClampNeg) + 1)) w1) else fb_X12_eats_91 σ o k2 x1 (lt_r σ o 0) (x2 + 4) 0 w1))
set_option maxHeartbeats 4000000 in
set_option maxRecDepth 100000 in
theorem jb_X12_eats_59 {X : lt_X} {σ : lt_S} (hT : lt_Wt σ) {o : Nat} (h0 : lt_c σ o = 12) {r : lt_W} {k2 : Int32 → lt_W → Option lt_W} (hF : lt_F X cX12_eats RX12 4 (lt_rm 5)) (hE : lt_E X 0 0 σ none none r) (hk2 : ∀ (x1 : Int32) (w : lt_W), k2 x1 w = some r → lt_J X 0 0 σ w 2 [(0, .ref (lt_z X + o)), (1, .int x1)] []) : ∀ (x1 : Int32) (x2 : Int32) (x3 : Int32) (y0 : Nat) (y1 : Int32) (y2 : Int32) (y3 : Int32) (w : lt_W), lt_c σ y0 = 50 → fb_X12_eats_59 σ o k2 x1 x2 x3 y0 y1 y2 y3 w = some r → lt_J X 0 0 σ w 59 [(0, .ref (lt_z X + o)), (1, .int x1), (2, .int x2), (3, .int x3)] [.int y3, .int y2, .int y1, .ref (lt_z X + y0)] := by
  intro x1 x2 x3 y0 y1 y2 y3 w u0 hf
  unfold fb_X12_eats_59 at hf
  refine jr_isub hF dX12_eats_59 ?_
  refine jr_iastore hF u0 dX12_eats_60 hf (fun hf => ?_)
  refine jr_letW hf (fun w1 hf => ?_)
  refine jr_aload_n hF dX12_eats_61 0 rfl rfl ?_
  refine jr_getRT (cr := 50) hF gf_X12_7 hT h0 rfl rfl dX12_eats_62 (fun th2 => ?_)
  refine jr_iload_n hF dX12_eats_65 2 rfl rfl ?_
  refine jr_iconst (v := 4) hF dX12_eats_66 rfl ?_
  refine jr_iadd hF dX12_eats_67 ?_
  refine jr_iload_n hF dX12_eats_68 3 rfl rfl ?_
  refine jr_if_eq (tgt := 76) hF dX12_eats_69 rfl hf (fun hf => ?_) (fun hf => ?_)
  · refine jr_bipush (v := 99) hF dX12_eats_76 rfl ?_
    refine jr_aload_n hF dX12_eats_78 0 rfl rfl ?_
    refine jr_getRT (cr := 50) hF gf_X12_7 hT h0 rfl rfl dX12_eats_79 (fun th3 => ?_)
    refine jr_iload_n hF dX12_eats_82 2 rfl rfl ?_
    refine jr_iconst (v := 4) hF dX12_eats_83 rfl ?_
    refine jr_iadd hF dX12_eats_84 ?_
    refine jr_iaload hF th3 dX12_eats_85 hf (fun hf => ?_)
    refine jr_iconst (v := 1) hF dX12_eats_86 rfl ?_
    refine jr_iadd hF dX12_eats_87 ?_
    refine jr_min hF mm_X12_152 ⟨Nat.le_of_ble_eq_true rfl, Nat.le_of_ble_eq_true rfl, Nat.zero_le _, Nat.zero_le _⟩ dX12_eats_88 ?_
    refine jr_sub [0, 1] rfl ?_
    exact jb_X12_eats_91 hT h0 hF hE hk2 _ _ _ _ _ th2 hf
  · refine jr_iconst (v := 0) hF dX12_eats_72 rfl ?_
    refine jr_goto (tgt := 91) hF dX12_eats_73 rfl ?_
    refine jr_sub [0, 1] rfl ?_
    exact jb_X12_eats_91 hT h0 hF hE hk2 _ _ _ _ _ th2 hf
set_option maxRecDepth 100000 in
def fb_X12_eats_42 (σ : lt_S) (o : Nat) (k2 : Int32 → lt_W → Option lt_W) (x1 : Int32) (x2 : Int32) (y0 : Int32) (w : lt_W) : Option lt_W := lt_ck 5 (lt_len σ (lt_r σ o 0)) (if y0 = 0 then fb_X12_eats_59 σ o k2 x1 x2 y0 (lt_r σ o 0) 5 (lt_gi w (lt_r σ o 0) (5 : Int32).toNatClampNeg) 0 w else fb_X12_eats_59 σ o k2 x1 x2 y0 (lt_r σ o 0) 5 (lt_gi w (lt_r σ o 0) (5 : Int32).toNatClampNeg) 1 w)
set_option maxHeartbeats 4000000 in
set_option maxRecDepth 100000 in
theorem jb_X12_eats_42 {X : lt_X} {σ : lt_S} (hT : lt_Wt σ) {o : Nat} (h0 : lt_c σ o = 12) {r : lt_W} {k2 : Int32 → lt_W → Option lt_W} (hF : lt_F X cX12_eats RX12 4 (lt_rm 5)) (hE : lt_E X 0 0 σ none none r) (hk2 : ∀ (x1 : Int32) (w : lt_W), k2 x1 w = some r → lt_J X 0 0 σ w 2 [(0, .ref (lt_z X + o)), (1, .int x1)] []) : ∀ (x1 : Int32) (x2 : Int32) (y0 : Int32) (w : lt_W), fb_X12_eats_42 σ o k2 x1 x2 y0 w = some r → lt_J X 0 0 σ w 42 [(0, .ref (lt_z X + o)), (1, .int x1), (2, .int x2)] [.int y0] := by
  intro x1 x2 y0 w hf
  unfold fb_X12_eats_42 at hf
  refine jr_istore_n (lv' := [(0, .ref (lt_z X + o)), (1, .int x1), (2, .int x2), (3, .int y0)]) hF dX12_eats_42 rfl (by decide) [1, 2, 3, 0] rfl ?_
  refine jr_aload_n hF dX12_eats_43 0 rfl rfl ?_
  refine jr_getRT (cr := 50) hF gf_X12_7 hT h0 rfl rfl dX12_eats_44 (fun th1 => ?_)
  refine jr_iconst (v := 5) hF dX12_eats_47 rfl ?_
  refine jr_dup2 hF dX12_eats_48 rfl rfl ?_
  refine jr_iaload hF th1 dX12_eats_49 hf (fun hf => ?_)
  refine jr_iload_n hF dX12_eats_50 3 rfl rfl ?_
  refine jr_if_eq (tgt := 58) hF dX12_eats_51 rfl hf (fun hf => ?_) (fun hf => ?_)
  · refine jr_iconst (v := 0) hF dX12_eats_58 rfl ?_
    exact jb_X12_eats_59 hT h0 hF hE hk2 _ _ _ _ _ _ _ _ th1 hf
  · refine jr_iconst (v := 1) hF dX12_eats_54 rfl ?_
    refine jr_goto (tgt := 59) hF dX12_eats_55 rfl ?_
    exact jb_X12_eats_59 hT h0 hF hE hk2 _ _ _ _ _ _ _ _ th1 hf
set_option maxRecDepth 100000 in
def fb_X12_eats_172 (σ : lt_S) (o : Nat) (k100 : Int32 → lt_W → Option lt_W) (x1 : Int32) (x2 : Int32) (y0 : Int32) (y1 : Int32) (w : lt_W) : Option lt_W := lt_ck x2 (lt_len σ (lt_r σ o 0)) (lt_ck x2 (lt_len σ (lt_r σ o 0)) (lt_let (lt_si w (lt_r σ o 0) x2.toNatClampNeg (lt_min 20 ((lt_gi w (lt_r σ o 0) x2.toNatClampNeg) + (y0 + y1)))) (fun w3 => k100 (x1 + 1) w3)))
set_option maxHeartbeats 4000000 in
set_option maxRecDepth 100000 in
theorem jb_X12_eats_172 {X : lt_X} {σ : lt_S} (hT : lt_Wt σ) {o : Nat} (h0 : lt_c σ o = 12) {r : lt_W} {k100 : Int32 → lt_W → Option lt_W} (hF : lt_F X cX12_eats RX12 4 (lt_rm 5)) (hE : lt_E X 0 0 σ none none r) (hk100 : ∀ (x1 : Int32) (w : lt_W), k100 x1 w = some r → lt_J X 0 0 σ w 100 [(0, .ref (lt_z X + o)), (1, .int x1)] []) : ∀ (x1 : Int32) (x2 : Int32) (y0 : Int32) (y1 : Int32) (w : lt_W), fb_X12_eats_172 σ o k100 x1 x2 y0 y1 w = some r → lt_J X 0 0 σ w 172 [(0, .ref (lt_z X + o)), (1, .int x1), (2, .int x2)] [.int y1, .int y0] := by
  intro x1 x2 y0 y1 w hf
  unfold fb_X12_eats_172 at hf
  refine jr_iadd hF dX12_eats_172 ?_
  refine jr_istore_n (lv' := [(0, .ref (lt_z X + o)), (1, .int x1), (2, .int x2), (3, .int (y0 + y1))]) hF dX12_eats_173 rfl (by decide) [1, 2, 3, 0] rfl ?_
  refine jr_aload_n hF dX12_eats_174 0 rfl rfl ?_
  refine jr_getRT (cr := 50) hF gf_X12_7 hT h0 rfl rfl dX12_eats_175 (fun th1 => ?_)
  refine jr_iload_n hF dX12_eats_178 2 rfl rfl ?_
  refine jr_bipush (v := 20) hF dX12_eats_179 rfl ?_
  refine jr_aload_n hF dX12_eats_181 0 rfl rfl ?_
  refine jr_getRT (cr := 50) hF gf_X12_7 hT h0 rfl rfl dX12_eats_182 (fun th2 => ?_)
  refine jr_iload_n hF dX12_eats_185 2 rfl rfl ?_
  refine jr_iaload hF th2 dX12_eats_186 hf (fun hf => ?_)
  refine jr_iload_n hF dX12_eats_187 3 rfl rfl ?_
  refine jr_iadd hF dX12_eats_188 ?_
  refine jr_min hF mm_X12_152 ⟨Nat.le_of_ble_eq_true rfl, Nat.le_of_ble_eq_true rfl, Nat.zero_le _, Nat.zero_le _⟩ dX12_eats_189 ?_
  refine jr_iastore hF th1 dX12_eats_192 hf (fun hf => ?_)
  refine jr_letW hf (fun w3 hf => ?_)
  refine jr_iinc (v := x1 + 1) (lv' := [(0, .ref (lt_z X + o)), (1, .int (x1 + 1)), (2, .int x2), (3, .int (y0 + y1))]) hF dX12_eats_193 1 rfl rfl (by decide) [1, 0, 2, 3] rfl ?_
  refine jr_goto (tgt := 100) hF dX12_eats_196 rfl ?_
  refine jr_sub [0, 1] rfl ?_
  exact hk100 _ _ hf
set_option maxRecDepth 100000 in
def fb_X12_eats_142 (σ : lt_S) (o : Nat) (k100 : Int32 → lt_W → Option lt_W) (x1 : Int32) (x2 : Int32) (y0 : Int32) (w : lt_W) : Option lt_W := Option.bind (f_X12_passTo σ o x1 w) (fun q1 => Option.bind (f_X12_bits (q1 &&& ((1 <<< (x1 &&& 31)) ^^^ (-1)))) (fun q2 => lt_ck 3 (lt_len σ (lt_r σ o 0)) (if q2 < (lt_gi w (lt_r σ o 0) (3 : Int32).toNatClampNeg) then fb_X12_eats_172 σ o k100 x1 x2 y0 0 w else fb_X12_eats_172 σ o k100 x1 x2 y0 1 w)))
set_option maxHeartbeats 4000000 in
set_option maxRecDepth 100000 in
theorem jb_X12_eats_142 {X : lt_X} {σ : lt_S} (hT : lt_Wt σ) {o : Nat} (h0 : lt_c σ o = 12) {r : lt_W} {k100 : Int32 → lt_W → Option lt_W} (hF : lt_F X cX12_eats RX12 4 (lt_rm 5)) (hE : lt_E X 0 0 σ none none r) (hk100 : ∀ (x1 : Int32) (w : lt_W), k100 x1 w = some r → lt_J X 0 0 σ w 100 [(0, .ref (lt_z X + o)), (1, .int x1)] []) : ∀ (x1 : Int32) (x2 : Int32) (y0 : Int32) (w : lt_W), fb_X12_eats_142 σ o k100 x1 x2 y0 w = some r → lt_J X 0 0 σ w 142 [(0, .ref (lt_z X + o)), (1, .int x1), (2, .int x2)] [.int y0] := by
  intro x1 x2 y0 w hf
  unfold fb_X12_eats_142 at hf
  refine jr_istore_n (lv' := [(0, .ref (lt_z X + o)), (1, .int x1), (2, .int x2), (3, .int y0)]) hF dX12_eats_142 rfl (by decide) [1, 2, 3, 0] rfl ?_
  refine jr_iload_n hF dX12_eats_143 3 rfl rfl ?_
  refine jr_aload_n hF dX12_eats_144 0 rfl rfl ?_
  refine jr_iload_n hF dX12_eats_145 1 rfl rfl ?_
  obtain ⟨q1, hq1, hf⟩ := Option.bind_eq_some_iff.mp hf
  refine jr_cV11 hF ml_X12_287 (c_X12_passTo hT h0 hq1) h0 ⟨Nat.le_of_ble_eq_true rfl, Nat.le_of_ble_eq_true rfl⟩ (Nat.le_of_ble_eq_true rfl) dX12_eats_146 ?_
  refine jr_iconst (v := 1) hF dX12_eats_149 rfl ?_
  refine jr_iload_n hF dX12_eats_150 1 rfl rfl ?_
  refine jr_ishl hF dX12_eats_151 ?_
  refine jr_iconst (v := (-1)) hF dX12_eats_152 rfl ?_
  refine jr_ixor hF dX12_eats_153 ?_
  refine jr_iand hF dX12_eats_154 ?_
  obtain ⟨q2, hq2, hf⟩ := Option.bind_eq_some_iff.mp hf
  refine jr_cS11 hF ml_X12_293 (c_X12_bits hq2) ⟨Nat.le_of_ble_eq_true rfl, Nat.le_of_ble_eq_true rfl⟩ (Nat.le_of_ble_eq_true rfl) dX12_eats_155 ?_
  refine jr_aload_n hF dX12_eats_158 0 rfl rfl ?_
  refine jr_getRT (cr := 50) hF gf_X12_7 hT h0 rfl rfl dX12_eats_159 (fun th3 => ?_)
  refine jr_iconst (v := 3) hF dX12_eats_162 rfl ?_
  refine jr_iaload hF th3 dX12_eats_163 hf (fun hf => ?_)
  refine jr_icmp_lt (tgt := 171) hF dX12_eats_164 rfl hf (fun hf => ?_) (fun hf => ?_)
  · refine jr_iconst (v := 0) hF dX12_eats_171 rfl ?_
    refine jr_sub [0, 1, 2] rfl ?_
    exact jb_X12_eats_172 hT h0 hF hE hk100 _ _ _ _ _ hf
  · refine jr_iconst (v := 1) hF dX12_eats_167 rfl ?_
    refine jr_goto (tgt := 172) hF dX12_eats_168 rfl ?_
    refine jr_sub [0, 1, 2] rfl ?_
    exact jb_X12_eats_172 hT h0 hF hE hk100 _ _ _ _ _ hf
set_option maxRecDepth 100000 in
def fb_X12_eats_100 (σ : lt_S) (o : Nat) : Nat → Int32 → lt_W → Option lt_W
  | 0, _, _ => none
  | n + 1, x1, w => lt_ck 0 (lt_len σ (lt_r σ o 0)) (if (lt_gi w (lt_r σ o 0) (0 : Int32).toNatClampNeg) ≤ x1 then lt_ck 6 (lt_len σ (lt_r σ o 0)) (lt_ck 6 (lt_len σ (lt_r σ o 0)) (lt_let (lt_si w (lt_r σ o 0) (6 : Int32).toNatClampNeg ((lt_gi w (lt_r σ o 0) (6 : Int32).toNatClampNeg) + 1)) (fun w3 => some w3))) else Option.bind (f_X12_isHere σ o x1 w) (fun q4 => if q4 = 0 then fb_X12_eats_100 σ o n (x1 + 1) w else Option.bind (f_X12_guestRow x1) (fun q5 => lt_ck (q5 + 4) (lt_len σ (lt_r σ o 0)) (if (lt_gi w (lt_r σ o 0) (q5 + 4).toNatClampNeg) ≤ 0 then fb_X12_eats_142 σ o (fun x1 w => fb_X12_eats_100 σ o n x1 w) x1 q5 0 w else fb_X12_eats_142 σ o (fun x1 w => fb_X12_eats_100 σ o n x1 w) x1 q5 1 w))))
set_option maxHeartbeats 4000000 in
set_option maxRecDepth 100000 in
theorem jb_X12_eats_100 {X : lt_X} {σ : lt_S} (hT : lt_Wt σ) {o : Nat} (h0 : lt_c σ o = 12) {r : lt_W} (hF : lt_F X cX12_eats RX12 4 (lt_rm 5)) (hE : lt_E X 0 0 σ none none r) (n : Nat) : ∀ (x1 : Int32) (w : lt_W), fb_X12_eats_100 σ o n x1 w = some r → lt_J X 0 0 σ w 100 [(0, .ref (lt_z X + o)), (1, .int x1)] [] := by
  induction n with
  | zero => intro x1 w hf; rw [fb_X12_eats_100] at hf; cases hf
  | succ n ih =>
    intro x1 w hf
    rw [fb_X12_eats_100] at hf
    refine jr_iload_n hF dX12_eats_100 1 rfl rfl ?_
    refine jr_aload_n hF dX12_eats_101 0 rfl rfl ?_
    refine jr_getRT (cr := 50) hF gf_X12_7 hT h0 rfl rfl dX12_eats_102 (fun th1 => ?_)
    refine jr_iconst (v := 0) hF dX12_eats_105 rfl ?_
    refine jr_iaload hF th1 dX12_eats_106 hf (fun hf => ?_)
    refine jr_icmp_ge (tgt := 199) hF dX12_eats_107 rfl hf (fun hf => ?_) (fun hf => ?_)
    · refine jr_aload_n hF dX12_eats_199 0 rfl rfl ?_
      refine jr_getRT (cr := 50) hF gf_X12_7 hT h0 rfl rfl dX12_eats_200 (fun th2 => ?_)
      refine jr_bipush (v := 6) hF dX12_eats_203 rfl ?_
      refine jr_dup2 hF dX12_eats_205 rfl rfl ?_
      refine jr_iaload hF th2 dX12_eats_206 hf (fun hf => ?_)
      refine jr_iconst (v := 1) hF dX12_eats_207 rfl ?_
      refine jr_iadd hF dX12_eats_208 ?_
      refine jr_iastore hF th2 dX12_eats_209 hf (fun hf => ?_)
      refine jr_letW hf (fun w3 hf => ?_)
      obtain rfl := Option.some.inj hf
      exact jr_return hF hE dX12_eats_210
    · refine jr_aload_n hF dX12_eats_110 0 rfl rfl ?_
      refine jr_iload_n hF dX12_eats_111 1 rfl rfl ?_
      obtain ⟨q4, hq4, hf⟩ := Option.bind_eq_some_iff.mp hf
      refine jr_cV11 hF ml_X12_272 (c_X12_isHere hT h0 hq4) h0 ⟨Nat.le_of_ble_eq_true rfl, Nat.le_of_ble_eq_true rfl⟩ (Nat.le_of_ble_eq_true rfl) dX12_eats_112 ?_
      refine jr_if_ne (tgt := 121) hF dX12_eats_115 rfl hf (fun hf => ?_) (fun hf => ?_)
      · refine jr_iload_n hF dX12_eats_121 1 rfl rfl ?_
        obtain ⟨q5, hq5, hf⟩ := Option.bind_eq_some_iff.mp hf
        refine jr_cS11 hF ml_X12_192 (c_X12_guestRow hq5) ⟨Nat.le_of_ble_eq_true rfl, Nat.le_of_ble_eq_true rfl⟩ (Nat.le_of_ble_eq_true rfl) dX12_eats_122 ?_
        refine jr_istore_n (lv' := [(0, .ref (lt_z X + o)), (1, .int x1), (2, .int q5)]) hF dX12_eats_125 rfl (by decide) [1, 2, 0] rfl ?_
        refine jr_aload_n hF dX12_eats_126 0 rfl rfl ?_
        refine jr_getRT (cr := 50) hF gf_X12_7 hT h0 rfl rfl dX12_eats_127 (fun th6 => ?_)
        refine jr_iload_n hF dX12_eats_130 2 rfl rfl ?_
        refine jr_iconst (v := 4) hF dX12_eats_131 rfl ?_
        refine jr_iadd hF dX12_eats_132 ?_
        refine jr_iaload hF th6 dX12_eats_133 hf (fun hf => ?_)
        refine jr_if_le (tgt := 141) hF dX12_eats_134 rfl hf (fun hf => ?_) (fun hf => ?_)
        · refine jr_iconst (v := 0) hF dX12_eats_141 rfl ?_
          exact jb_X12_eats_142 hT h0 hF hE ih _ _ _ _ hf
        · refine jr_iconst (v := 1) hF dX12_eats_137 rfl ?_
          refine jr_goto (tgt := 142) hF dX12_eats_138 rfl ?_
          exact jb_X12_eats_142 hT h0 hF hE ih _ _ _ _ hf
      · refine jr_goto (tgt := 193) hF dX12_eats_118 rfl ?_
        refine jr_iinc (v := x1 + 1) (lv' := [(0, .ref (lt_z X + o)), (1, .int (x1 + 1))]) hF dX12_eats_193 1 rfl rfl (by decide) [1, 0] rfl ?_
        refine jr_goto (tgt := 100) hF dX12_eats_196 rfl ?_
        exact ih _ _ hf
set_option maxRecDepth 100000 in
def fb_X12_eats_2 (σ : lt_S) (o : Nat) : Nat → Int32 → lt_W → Option lt_W
  | 0, _, _ => none
  | n + 1, x1, w => lt_ck 0 (lt_len σ (lt_r σ o 0)) (if (lt_gi w (lt_r σ o 0) (0 : Int32).toNatClampNeg) ≤ x1 then fb_X12_eats_100 σ o lt_fu 0 w else Option.bind (f_X12_isHere σ o x1 w) (fun q2 => if q2 = 0 then fb_X12_eats_2 σ o n (x1 + 1) w else Option.bind (f_X12_guestRow x1) (fun q3 => lt_ck 5 (lt_len σ (lt_r σ o 0)) (if (lt_gi w (lt_r σ o 0) (5 : Int32).toNatClampNeg) ≤ 0 then fb_X12_eats_42 σ o (fun x1 w => fb_X12_eats_2 σ o n x1 w) x1 q3 0 w else fb_X12_eats_42 σ o (fun x1 w => fb_X12_eats_2 σ o n x1 w) x1 q3 1 w))))
set_option maxHeartbeats 4000000 in
set_option maxRecDepth 100000 in
theorem jb_X12_eats_2 {X : lt_X} {σ : lt_S} (hT : lt_Wt σ) {o : Nat} (h0 : lt_c σ o = 12) {r : lt_W} (hF : lt_F X cX12_eats RX12 4 (lt_rm 5)) (hE : lt_E X 0 0 σ none none r) (n : Nat) : ∀ (x1 : Int32) (w : lt_W), fb_X12_eats_2 σ o n x1 w = some r → lt_J X 0 0 σ w 2 [(0, .ref (lt_z X + o)), (1, .int x1)] [] := by
  induction n with
  | zero => intro x1 w hf; rw [fb_X12_eats_2] at hf; cases hf
  | succ n ih =>
    intro x1 w hf
    rw [fb_X12_eats_2] at hf
    refine jr_iload_n hF dX12_eats_2 1 rfl rfl ?_
    refine jr_aload_n hF dX12_eats_3 0 rfl rfl ?_
    refine jr_getRT (cr := 50) hF gf_X12_7 hT h0 rfl rfl dX12_eats_4 (fun th1 => ?_)
    refine jr_iconst (v := 0) hF dX12_eats_7 rfl ?_
    refine jr_iaload hF th1 dX12_eats_8 hf (fun hf => ?_)
    refine jr_icmp_ge (tgt := 98) hF dX12_eats_9 rfl hf (fun hf => ?_) (fun hf => ?_)
    · refine jr_iconst (v := 0) hF dX12_eats_98 rfl ?_
      refine jr_istore_n (lv' := [(0, .ref (lt_z X + o)), (1, .int 0)]) hF dX12_eats_99 rfl (by decide) [1, 0] rfl ?_
      exact jb_X12_eats_100 hT h0 hF hE lt_fu _ _ hf
    · refine jr_aload_n hF dX12_eats_12 0 rfl rfl ?_
      refine jr_iload_n hF dX12_eats_13 1 rfl rfl ?_
      obtain ⟨q2, hq2, hf⟩ := Option.bind_eq_some_iff.mp hf
      refine jr_cV11 hF ml_X12_272 (c_X12_isHere hT h0 hq2) h0 ⟨Nat.le_of_ble_eq_true rfl, Nat.le_of_ble_eq_true rfl⟩ (Nat.le_of_ble_eq_true rfl) dX12_eats_14 ?_
      refine jr_if_ne (tgt := 23) hF dX12_eats_17 rfl hf (fun hf => ?_) (fun hf => ?_)
      · refine jr_iload_n hF dX12_eats_23 1 rfl rfl ?_
        obtain ⟨q3, hq3, hf⟩ := Option.bind_eq_some_iff.mp hf
        refine jr_cS11 hF ml_X12_192 (c_X12_guestRow hq3) ⟨Nat.le_of_ble_eq_true rfl, Nat.le_of_ble_eq_true rfl⟩ (Nat.le_of_ble_eq_true rfl) dX12_eats_24 ?_
        refine jr_istore_n (lv' := [(0, .ref (lt_z X + o)), (1, .int x1), (2, .int q3)]) hF dX12_eats_27 rfl (by decide) [1, 2, 0] rfl ?_
        refine jr_aload_n hF dX12_eats_28 0 rfl rfl ?_
        refine jr_getRT (cr := 50) hF gf_X12_7 hT h0 rfl rfl dX12_eats_29 (fun th4 => ?_)
        refine jr_iconst (v := 5) hF dX12_eats_32 rfl ?_
        refine jr_iaload hF th4 dX12_eats_33 hf (fun hf => ?_)
        refine jr_if_le (tgt := 41) hF dX12_eats_34 rfl hf (fun hf => ?_) (fun hf => ?_)
        · refine jr_iconst (v := 0) hF dX12_eats_41 rfl ?_
          exact jb_X12_eats_42 hT h0 hF hE ih _ _ _ _ hf
        · refine jr_iconst (v := 1) hF dX12_eats_37 rfl ?_
          refine jr_goto (tgt := 42) hF dX12_eats_38 rfl ?_
          exact jb_X12_eats_42 hT h0 hF hE ih _ _ _ _ hf
      · refine jr_goto (tgt := 92) hF dX12_eats_20 rfl ?_
        refine jr_iinc (v := x1 + 1) (lv' := [(0, .ref (lt_z X + o)), (1, .int (x1 + 1))]) hF dX12_eats_92 1 rfl rfl (by decide) [1, 0] rfl ?_
        refine jr_goto (tgt := 2) hF dX12_eats_95 rfl ?_
        exact ih _ _ hf
set_option maxRecDepth 100000 in
def fb_X12_eats_0 (σ : lt_S) (o : Nat) (w : lt_W) : Option lt_W := fb_X12_eats_2 σ o lt_fu 0 w
set_option maxHeartbeats 4000000 in
set_option maxRecDepth 100000 in
theorem jb_X12_eats_0 {X : lt_X} {σ : lt_S} (hT : lt_Wt σ) {o : Nat} (h0 : lt_c σ o = 12) {r : lt_W} (hF : lt_F X cX12_eats RX12 4 (lt_rm 5)) (hE : lt_E X 0 0 σ none none r) : ∀ (w : lt_W), fb_X12_eats_0 σ o w = some r → lt_J X 0 0 σ w 0 [(0, .ref (lt_z X + o))] [] := by
  intro w hf
  unfold fb_X12_eats_0 at hf
  refine jr_iconst (v := 0) hF dX12_eats_0 rfl ?_
  refine jr_istore_n (lv' := [(0, .ref (lt_z X + o)), (1, .int 0)]) hF dX12_eats_1 rfl (by decide) [1, 0] rfl ?_
  exact jb_X12_eats_2 hT h0 hF hE lt_fu _ _ hf
def f_X12_eats (σ : lt_S) (o : Nat) (w : lt_W) : Option lt_W := fb_X12_eats_0 σ o w
set_option maxRecDepth 100000 in
theorem c_X12_eats {l : Launch} {D : va_G} {gA : Nat → ClassId} {s0 : State} {σ : lt_S} (hT : lt_Wt σ) {o : Nat} (h0 : lt_c σ o = 12) {w : lt_W} {r : lt_W} (hf : f_X12_eats σ o w = some r) : lt_C l D gA s0 yX12_eats cX12_eats 4 none (lt_rm 5) [.ref (s0.heap.size + o)] σ w σ none r := by
  refine lt_enter rfl (Nat.le_of_ble_eq_true rfl) (fun X e1 e2 e3 e4 hF hE => ?_)
  subst e1 e2 e3 e4
  exact jb_X12_eats_0 hT h0 hF hE _ hf

set_option maxRecDepth 100000 in
def fb_X12_dayGoes_16 (σ : lt_S) (o : Nat) (x1 : Int32) (w : lt_W) : Option (Int32 × lt_W) := Option.bind (f_X12_eats σ o w) (fun q1 => some (x1, q1))
set_option maxHeartbeats 4000000 in
set_option maxRecDepth 100000 in
theorem jb_X12_dayGoes_16 {X : lt_X} {σ : lt_S} (hT : lt_Wt σ) {o : Nat} (h0 : lt_c σ o = 12) {r : Int32 × lt_W} (hF : lt_F X cX12_dayGoes RX12 2 (lt_rm 6)) (hE : lt_E X 0 0 σ (some .int) (some (.int r.1)) r.2) : ∀ (x1 : Int32) (w : lt_W), fb_X12_dayGoes_16 σ o x1 w = some r → lt_J X 0 0 σ w 16 [(0, .ref (lt_z X + o)), (1, .int x1)] [] := by
  intro x1 w hf
  unfold fb_X12_dayGoes_16 at hf
  refine jr_aload_n hF dX12_dayGoes_16 0 rfl rfl ?_
  obtain ⟨q1, hq1, hf⟩ := Option.bind_eq_some_iff.mp hf
  refine jr_cV0v hF ml_X12_299 (c_X12_eats hT h0 hq1) h0 ⟨Nat.le_of_ble_eq_true rfl, Nat.le_of_ble_eq_true rfl⟩ (Nat.le_of_ble_eq_true rfl) dX12_dayGoes_17 ?_
  refine jr_iload_n hF dX12_dayGoes_20 1 rfl rfl ?_
  obtain rfl := Option.some.inj hf
  exact jr_ireturn hF hE dX12_dayGoes_21
set_option maxRecDepth 100000 in
def fb_X12_dayGoes_0 (σ : lt_S) (o : Nat) (w : lt_W) : Option (Int32 × lt_W) := Option.bind (f_X12_firstCutter σ o w) (fun q1 => if q1 = (-1) then fb_X12_dayGoes_16 σ o q1 w else Option.bind (f_X12_cuts1 σ o q1 w) (fun q2 => fb_X12_dayGoes_16 σ o q1 q2.2))
set_option maxHeartbeats 4000000 in
set_option maxRecDepth 100000 in
theorem jb_X12_dayGoes_0 {X : lt_X} {σ : lt_S} (hT : lt_Wt σ) {o : Nat} (h0 : lt_c σ o = 12) {r : Int32 × lt_W} (hF : lt_F X cX12_dayGoes RX12 2 (lt_rm 6)) (hE : lt_E X 0 0 σ (some .int) (some (.int r.1)) r.2) : ∀ (w : lt_W), fb_X12_dayGoes_0 σ o w = some r → lt_J X 0 0 σ w 0 [(0, .ref (lt_z X + o))] [] := by
  intro w hf
  unfold fb_X12_dayGoes_0 at hf
  refine jr_aload_n hF dX12_dayGoes_0 0 rfl rfl ?_
  obtain ⟨q1, hq1, hf⟩ := Option.bind_eq_some_iff.mp hf
  refine jr_cV01 hF ml_X12_290 (c_X12_firstCutter hT h0 hq1) h0 ⟨Nat.le_of_ble_eq_true rfl, Nat.le_of_ble_eq_true rfl⟩ (Nat.le_of_ble_eq_true rfl) dX12_dayGoes_1 ?_
  refine jr_istore_n (lv' := [(0, .ref (lt_z X + o)), (1, .int q1)]) hF dX12_dayGoes_4 rfl (by decide) [1, 0] rfl ?_
  refine jr_iload_n hF dX12_dayGoes_5 1 rfl rfl ?_
  refine jr_iconst (v := (-1)) hF dX12_dayGoes_6 rfl ?_
  refine jr_icmp_eq (tgt := 16) hF dX12_dayGoes_7 rfl hf (fun hf => ?_) (fun hf => ?_)
  · exact jb_X12_dayGoes_16 hT h0 hF hE _ _ hf
  · refine jr_aload_n hF dX12_dayGoes_10 0 rfl rfl ?_
    refine jr_iload_n hF dX12_dayGoes_11 1 rfl rfl ?_
    obtain ⟨q2, hq2, hf⟩ := Option.bind_eq_some_iff.mp hf
    refine jr_cV11 hF ml_X12_296 (c_X12_cuts1 hT h0 hq2) h0 ⟨Nat.le_of_ble_eq_true rfl, Nat.le_of_ble_eq_true rfl⟩ (Nat.le_of_ble_eq_true rfl) dX12_dayGoes_12 ?_
    refine jr_pop hF dX12_dayGoes_15 rfl ?_
    exact jb_X12_dayGoes_16 hT h0 hF hE _ _ hf
def f_X12_dayGoes (σ : lt_S) (o : Nat) (w : lt_W) : Option (Int32 × lt_W) := fb_X12_dayGoes_0 σ o w
set_option maxRecDepth 100000 in
theorem c_X12_dayGoes {l : Launch} {D : va_G} {gA : Nat → ClassId} {s0 : State} {σ : lt_S} (hT : lt_Wt σ) {o : Nat} (h0 : lt_c σ o = 12) {w : lt_W} {r : Int32 × lt_W} (hf : f_X12_dayGoes σ o w = some r) : lt_C l D gA s0 yX12_dayGoes cX12_dayGoes 2 (some .int) (lt_rm 6) [.ref (s0.heap.size + o)] σ w σ (some (.int r.1)) r.2 := by
  refine lt_enter rfl (Nat.le_of_ble_eq_true rfl) (fun X e1 e2 e3 e4 hF hE => ?_)
  subst e1 e2 e3 e4
  exact jb_X12_dayGoes_0 hT h0 hF hE _ hf

set_option maxRecDepth 100000 in
def fb_X12_brings_2 (σ : lt_S) (o : Nat) : Nat → Int32 → Int32 → lt_W → Option lt_W
  | 0, _, _, _ => none
  | n + 1, x1, x2, w => if 60 ≤ x2 then some w else lt_ck (x1 + x2) (lt_len σ (lt_r σ o 0)) (lt_ck x2 (lt_len σ (lt_r σ o 0)) (lt_let (lt_si w (lt_r σ o 0) x2.toNatClampNeg (lt_gi w (lt_r σ o 0) (x1 + x2).toNatClampNeg)) (fun w3 => fb_X12_brings_2 σ o n x1 (x2 + 1) w3)))
set_option maxHeartbeats 4000000 in
set_option maxRecDepth 100000 in
theorem jb_X12_brings_2 {X : lt_X} {σ : lt_S} (hT : lt_Wt σ) {o : Nat} (h0 : lt_c σ o = 12) {r : lt_W} (hF : lt_F X cX12_brings RX12 3 (lt_rm 1)) (hE : lt_E X 0 0 σ none none r) (n : Nat) : ∀ (x1 : Int32) (x2 : Int32) (w : lt_W), fb_X12_brings_2 σ o n x1 x2 w = some r → lt_J X 0 0 σ w 2 [(0, .ref (lt_z X + o)), (1, .int x1), (2, .int x2)] [] := by
  induction n with
  | zero => intro x1 x2 w hf; rw [fb_X12_brings_2] at hf; cases hf
  | succ n ih =>
    intro x1 x2 w hf
    rw [fb_X12_brings_2] at hf
    refine jr_iload_n hF dX12_brings_2 2 rfl rfl ?_
    refine jr_bipush (v := 60) hF dX12_brings_3 rfl ?_
    refine jr_icmp_ge (tgt := 28) hF dX12_brings_5 rfl hf (fun hf => ?_) (fun hf => ?_)
    · obtain rfl := Option.some.inj hf
      exact jr_return hF hE dX12_brings_28
    · refine jr_aload_n hF dX12_brings_8 0 rfl rfl ?_
      refine jr_getRT (cr := 50) hF gf_X12_7 hT h0 rfl rfl dX12_brings_9 (fun th1 => ?_)
      refine jr_iload_n hF dX12_brings_12 2 rfl rfl ?_
      refine jr_aload_n hF dX12_brings_13 0 rfl rfl ?_
      refine jr_getRT (cr := 50) hF gf_X12_7 hT h0 rfl rfl dX12_brings_14 (fun th2 => ?_)
      refine jr_iload_n hF dX12_brings_17 1 rfl rfl ?_
      refine jr_iload_n hF dX12_brings_18 2 rfl rfl ?_
      refine jr_iadd hF dX12_brings_19 ?_
      refine jr_iaload hF th2 dX12_brings_20 hf (fun hf => ?_)
      refine jr_iastore hF th1 dX12_brings_21 hf (fun hf => ?_)
      refine jr_letW hf (fun w3 hf => ?_)
      refine jr_iinc (v := x2 + 1) (lv' := [(0, .ref (lt_z X + o)), (1, .int x1), (2, .int (x2 + 1))]) hF dX12_brings_22 2 rfl rfl (by decide) [1, 2, 0] rfl ?_
      refine jr_goto (tgt := 2) hF dX12_brings_25 rfl ?_
      exact ih _ _ _ hf
set_option maxRecDepth 100000 in
def fb_X12_brings_0 (σ : lt_S) (o : Nat) (x1 : Int32) (w : lt_W) : Option lt_W := fb_X12_brings_2 σ o lt_fu x1 0 w
set_option maxHeartbeats 4000000 in
set_option maxRecDepth 100000 in
theorem jb_X12_brings_0 {X : lt_X} {σ : lt_S} (hT : lt_Wt σ) {o : Nat} (h0 : lt_c σ o = 12) {r : lt_W} (hF : lt_F X cX12_brings RX12 3 (lt_rm 1)) (hE : lt_E X 0 0 σ none none r) : ∀ (x1 : Int32) (w : lt_W), fb_X12_brings_0 σ o x1 w = some r → lt_J X 0 0 σ w 0 [(0, .ref (lt_z X + o)), (1, .int x1)] [] := by
  intro x1 w hf
  unfold fb_X12_brings_0 at hf
  refine jr_iconst (v := 0) hF dX12_brings_0 rfl ?_
  refine jr_istore_n (lv' := [(0, .ref (lt_z X + o)), (1, .int x1), (2, .int 0)]) hF dX12_brings_1 rfl (by decide) [1, 2, 0] rfl ?_
  exact jb_X12_brings_2 hT h0 hF hE lt_fu _ _ _ hf
def f_X12_brings (σ : lt_S) (o : Nat) (x1 : Int32) (w : lt_W) : Option lt_W := fb_X12_brings_0 σ o x1 w
set_option maxRecDepth 100000 in
theorem c_X12_brings {l : Launch} {D : va_G} {gA : Nat → ClassId} {s0 : State} {σ : lt_S} (hT : lt_Wt σ) {o : Nat} (h0 : lt_c σ o = 12) {x1 : Int32} {w : lt_W} {r : lt_W} (hf : f_X12_brings σ o x1 w = some r) : lt_C l D gA s0 yX12_brings cX12_brings 3 none (lt_rm 1) [.ref (s0.heap.size + o), .int x1] σ w σ none r := by
  refine lt_enter rfl (Nat.le_of_ble_eq_true rfl) (fun X e1 e2 e3 e4 hF hE => ?_)
  subst e1 e2 e3 e4
  exact jb_X12_brings_0 hT h0 hF hE _ _ hf

set_option maxRecDepth 100000 in
def fb_X12_laysHere_32 (σ : lt_S) (o : Nat) : Nat → Int32 → lt_W → Option lt_W
  | 0, _, _ => none
  | n + 1, x3, w => if 20 < x3 then Option.bind (f_X12_brings σ o 2140 w) (fun q1 => some q1) else Option.bind (f_X12_areHere σ o w) (fun q3 => Option.bind (f_X12_bits q3) (fun q4 => lt_ck x3 (lt_len σ (lt_r σ o 27)) (lt_let (lt_si w (lt_r σ o 27) x3.toNatClampNeg q4) (fun w5 => Option.bind (f_X12_dayGoes σ o w5) (fun q6 => fb_X12_laysHere_32 σ o n (x3 + 1) q6.2)))))
set_option maxHeartbeats 4000000 in
set_option maxRecDepth 100000 in
theorem jb_X12_laysHere_32 {X : lt_X} {σ : lt_S} (hT : lt_Wt σ) {o : Nat} (h0 : lt_c σ o = 12) {r : lt_W} (hF : lt_F X cX12_laysHere RX12 4 (lt_rm 7)) (hE : lt_E X 0 0 σ none none r) (n : Nat) : ∀ (x3 : Int32) (w : lt_W), fb_X12_laysHere_32 σ o n x3 w = some r → lt_J X 0 0 σ w 32 [(0, .ref (lt_z X + o)), (3, .int x3)] [] := by
  induction n with
  | zero => intro x3 w hf; rw [fb_X12_laysHere_32] at hf; cases hf
  | succ n ih =>
    intro x3 w hf
    rw [fb_X12_laysHere_32] at hf
    refine jr_iload_n hF dX12_laysHere_32 1 rfl rfl ?_
    refine jr_bipush (v := 20) hF dX12_laysHere_33 rfl ?_
    refine jr_icmp_gt (tgt := 62) hF dX12_laysHere_35 rfl hf (fun hf => ?_) (fun hf => ?_)
    · refine jr_aload_n hF dX12_laysHere_62 0 rfl rfl ?_
      refine jr_sipush (v := 2140) hF dX12_laysHere_63 rfl ?_
      obtain ⟨q1, hq1, hf⟩ := Option.bind_eq_some_iff.mp hf
      refine jr_cV1v hF ml_X12_337 (c_X12_brings hT h0 hq1) h0 ⟨Nat.le_of_ble_eq_true rfl, Nat.le_of_ble_eq_true rfl⟩ (Nat.le_of_ble_eq_true rfl) dX12_laysHere_66 ?_
      obtain rfl := Option.some.inj hf
      exact jr_return hF hE dX12_laysHere_69
    · refine jr_aload_n hF dX12_laysHere_38 0 rfl rfl ?_
      refine jr_getRT (cr := 50) hF gf_X12_56 hT h0 rfl rfl dX12_laysHere_39 (fun th2 => ?_)
      refine jr_iload_n hF dX12_laysHere_42 1 rfl rfl ?_
      refine jr_aload_n hF dX12_laysHere_43 0 rfl rfl ?_
      obtain ⟨q3, hq3, hf⟩ := Option.bind_eq_some_iff.mp hf
      refine jr_cV01 hF ml_X12_275 (c_X12_areHere hT h0 hq3) h0 ⟨Nat.le_of_ble_eq_true rfl, Nat.le_of_ble_eq_true rfl⟩ (Nat.le_of_ble_eq_true rfl) dX12_laysHere_44 ?_
      obtain ⟨q4, hq4, hf⟩ := Option.bind_eq_some_iff.mp hf
      refine jr_cS11 hF ml_X12_293 (c_X12_bits hq4) ⟨Nat.le_of_ble_eq_true rfl, Nat.le_of_ble_eq_true rfl⟩ (Nat.le_of_ble_eq_true rfl) dX12_laysHere_47 ?_
      refine jr_iastore hF th2 dX12_laysHere_50 hf (fun hf => ?_)
      refine jr_letW hf (fun w5 hf => ?_)
      refine jr_aload_n hF dX12_laysHere_51 0 rfl rfl ?_
      obtain ⟨q6, hq6, hf⟩ := Option.bind_eq_some_iff.mp hf
      refine jr_cV01 hF ml_X12_302 (c_X12_dayGoes hT h0 hq6) h0 ⟨Nat.le_of_ble_eq_true rfl, Nat.le_of_ble_eq_true rfl⟩ (Nat.le_of_ble_eq_true rfl) dX12_laysHere_52 ?_
      refine jr_pop hF dX12_laysHere_55 rfl ?_
      refine jr_iinc (v := x3 + 1) (lv' := [(0, .ref (lt_z X + o)), (3, .int (x3 + 1))]) hF dX12_laysHere_56 1 rfl rfl (by decide) [1, 0] rfl ?_
      refine jr_goto (tgt := 32) hF dX12_laysHere_59 rfl ?_
      exact ih _ _ hf
set_option maxRecDepth 100000 in
def fb_X12_laysHere_0 (σ : lt_S) (o : Nat) (x1 : Int32) (x2 : Int32) (w : lt_W) : Option lt_W := Option.bind (f_X12_keeps σ o 2140 w) (fun q1 => lt_ck 2 (lt_len σ (lt_r σ o 0)) (lt_let (lt_si q1 (lt_r σ o 0) (2 : Int32).toNatClampNeg (x2 / 10)) (fun w3 => Option.bind (f_X12_guestRow x1) (fun q5 => lt_ck q5 (lt_len σ (lt_r σ o 0)) (lt_let (lt_si w3 (lt_r σ o 0) q5.toNatClampNeg (x2 - x2 / 10 * 10)) (fun w6 => fb_X12_laysHere_32 σ o lt_fu 0 w6))))))
set_option maxHeartbeats 4000000 in
set_option maxRecDepth 100000 in
theorem jb_X12_laysHere_0 {X : lt_X} {σ : lt_S} (hT : lt_Wt σ) {o : Nat} (h0 : lt_c σ o = 12) {r : lt_W} (hF : lt_F X cX12_laysHere RX12 4 (lt_rm 7)) (hE : lt_E X 0 0 σ none none r) : ∀ (x1 : Int32) (x2 : Int32) (w : lt_W), fb_X12_laysHere_0 σ o x1 x2 w = some r → lt_J X 0 0 σ w 0 [(0, .ref (lt_z X + o)), (1, .int x1), (2, .int x2)] [] := by
  intro x1 x2 w hf
  unfold fb_X12_laysHere_0 at hf
  refine jr_aload_n hF dX12_laysHere_0 0 rfl rfl ?_
  refine jr_sipush (v := 2140) hF dX12_laysHere_1 rfl ?_
  obtain ⟨q1, hq1, hf⟩ := Option.bind_eq_some_iff.mp hf
  refine jr_cV1v hF ml_X12_334 (c_X12_keeps hT h0 hq1) h0 ⟨Nat.le_of_ble_eq_true rfl, Nat.le_of_ble_eq_true rfl⟩ (Nat.le_of_ble_eq_true rfl) dX12_laysHere_4 ?_
  refine jr_aload_n hF dX12_laysHere_7 0 rfl rfl ?_
  refine jr_getRT (cr := 50) hF gf_X12_7 hT h0 rfl rfl dX12_laysHere_8 (fun th2 => ?_)
  refine jr_iconst (v := 2) hF dX12_laysHere_11 rfl ?_
  refine jr_iload_n hF dX12_laysHere_12 2 rfl rfl ?_
  refine jr_bipush (v := 10) hF dX12_laysHere_13 rfl ?_
  refine jr_idivc hF dX12_laysHere_15 (by decide) ?_
  refine jr_iastore hF th2 dX12_laysHere_16 hf (fun hf => ?_)
  refine jr_letW hf (fun w3 hf => ?_)
  refine jr_aload_n hF dX12_laysHere_17 0 rfl rfl ?_
  refine jr_getRT (cr := 50) hF gf_X12_7 hT h0 rfl rfl dX12_laysHere_18 (fun th4 => ?_)
  refine jr_iload_n hF dX12_laysHere_21 1 rfl rfl ?_
  obtain ⟨q5, hq5, hf⟩ := Option.bind_eq_some_iff.mp hf
  refine jr_cS11 hF ml_X12_192 (c_X12_guestRow hq5) ⟨Nat.le_of_ble_eq_true rfl, Nat.le_of_ble_eq_true rfl⟩ (Nat.le_of_ble_eq_true rfl) dX12_laysHere_22 ?_
  refine jr_iload_n hF dX12_laysHere_25 2 rfl rfl ?_
  refine jr_bipush (v := 10) hF dX12_laysHere_26 rfl ?_
  refine jr_iremc hF dX12_laysHere_28 (by decide) ?_
  refine jr_iastore hF th4 dX12_laysHere_29 hf (fun hf => ?_)
  refine jr_letW hf (fun w6 hf => ?_)
  refine jr_iconst (v := 0) hF dX12_laysHere_30 rfl ?_
  refine jr_istore_n (lv' := [(0, .ref (lt_z X + o)), (3, .int 0)]) hF dX12_laysHere_31 rfl (by decide) [1, 0] rfl ?_
  exact jb_X12_laysHere_32 hT h0 hF hE lt_fu _ _ hf
def f_X12_laysHere (σ : lt_S) (o : Nat) (x1 : Int32) (x2 : Int32) (w : lt_W) : Option lt_W := fb_X12_laysHere_0 σ o x1 x2 w
set_option maxRecDepth 100000 in
theorem c_X12_laysHere {l : Launch} {D : va_G} {gA : Nat → ClassId} {s0 : State} {σ : lt_S} (hT : lt_Wt σ) {o : Nat} (h0 : lt_c σ o = 12) {x1 : Int32} {x2 : Int32} {w : lt_W} {r : lt_W} (hf : f_X12_laysHere σ o x1 x2 w = some r) : lt_C l D gA s0 yX12_laysHere cX12_laysHere 4 none (lt_rm 7) [.ref (s0.heap.size + o), .int x1, .int x2] σ w σ none r := by
  refine lt_enter rfl (Nat.le_of_ble_eq_true rfl) (fun X e1 e2 e3 e4 hF hE => ?_)
  subst e1 e2 e3 e4
  exact jb_X12_laysHere_0 hT h0 hF hE _ _ _ hf

set_option maxRecDepth 100000 in
def fb_X12_laysSeen_92 (σ : lt_S) (o : Nat) (k7 : Int32 → Int32 → Int32 → Int32 → Int32 → lt_W → Option (Int32 × lt_W)) : Nat → Int32 → Int32 → Int32 → Int32 → Int32 → Int32 → Int32 → lt_W → Option (Int32 × lt_W)
  | 0, _, _, _, _, _, _, _, _ => none
  | n + 1, x1, x2, x3, x4, x5, x6, x7, w => if 20 < x7 then lt_ck x5 (lt_len σ (lt_r σ o 29)) (lt_let (lt_si w (lt_r σ o 29) x5.toNatClampNeg (vp_nar .boolean x6)) (fun w2 => if x6 = 0 then k7 x1 x2 x3 (x4 + 0) (x5 + 1) w2 else k7 x1 x2 x3 (x4 + 1) (x5 + 1) w2)) else lt_ck x7 (lt_len σ (lt_r σ o 27)) (lt_ck ((21 * x5) + x7) (lt_len σ (lt_r σ o 30)) (lt_let (lt_si w (lt_r σ o 30) ((21 * x5) + x7).toNatClampNeg (lt_gi w (lt_r σ o 27) x7.toNatClampNeg)) (fun w5 => fb_X12_laysSeen_92 σ o k7 n x1 x2 x3 x4 x5 x6 (x7 + 1) w5)))
set_option maxHeartbeats 4000000 in
set_option maxRecDepth 100000 in
theorem jb_X12_laysSeen_92 {X : lt_X} {σ : lt_S} (hT : lt_Wt σ) {o : Nat} (h0 : lt_c σ o = 12) {r : Int32 × lt_W} {k7 : Int32 → Int32 → Int32 → Int32 → Int32 → lt_W → Option (Int32 × lt_W)} (hF : lt_F X cX12_laysSeen RX12 9 (lt_rm 8)) (hE : lt_E X 0 0 σ (some .int) (some (.int r.1)) r.2) (hk7 : ∀ (x1 : Int32) (x2 : Int32) (x3 : Int32) (x4 : Int32) (x5 : Int32) (w : lt_W), k7 x1 x2 x3 x4 x5 w = some r → lt_J X 0 0 σ w 7 [(0, .ref (lt_z X + o)), (1, .int x1), (2, .int x2), (3, .int x3), (4, .int x4), (5, .int x5)] []) (n : Nat) : ∀ (x1 : Int32) (x2 : Int32) (x3 : Int32) (x4 : Int32) (x5 : Int32) (x6 : Int32) (x7 : Int32) (w : lt_W), fb_X12_laysSeen_92 σ o k7 n x1 x2 x3 x4 x5 x6 x7 w = some r → lt_J X 0 0 σ w 92 [(0, .ref (lt_z X + o)), (1, .int x1), (2, .int x2), (3, .int x3), (4, .int x4), (5, .int x5), (6, .int x6), (7, .int x7)] [] := by
  induction n with
  | zero => intro x1 x2 x3 x4 x5 x6 x7 w hf; rw [fb_X12_laysSeen_92] at hf; cases hf
  | succ n ih =>
    intro x1 x2 x3 x4 x5 x6 x7 w hf
    rw [fb_X12_laysSeen_92] at hf
    refine jr_iload hF dX12_laysSeen_92 7 rfl ?_
    refine jr_bipush (v := 20) hF dX12_laysSeen_94 rfl ?_
    refine jr_icmp_gt (tgt := 125) hF dX12_laysSeen_96 rfl hf (fun hf => ?_) (fun hf => ?_)
    · refine jr_aload_n hF dX12_laysSeen_125 0 rfl rfl ?_
      refine jr_getRT (cr := 53) hF gf_X12_62 hT h0 rfl rfl dX12_laysSeen_126 (fun th1 => ?_)
      refine jr_iload hF dX12_laysSeen_129 5 rfl ?_
      refine jr_iload hF dX12_laysSeen_131 6 rfl ?_
      refine jr_bastoreZ hF th1 dX12_laysSeen_133 hf (fun hf => ?_)
      refine jr_letW hf (fun w2 hf => ?_)
      refine jr_iload hF dX12_laysSeen_134 4 rfl ?_
      refine jr_iload hF dX12_laysSeen_136 6 rfl ?_
      refine jr_if_eq (tgt := 145) hF dX12_laysSeen_138 rfl hf (fun hf => ?_) (fun hf => ?_)
      · refine jr_iconst (v := 0) hF dX12_laysSeen_145 rfl ?_
        refine jr_iadd hF dX12_laysSeen_146 ?_
        refine jr_istore (lv' := [(0, .ref (lt_z X + o)), (1, .int x1), (2, .int x2), (3, .int x3), (4, .int (x4 + 0)), (5, .int x5)]) hF dX12_laysSeen_147 (by decide) [1, 2, 3, 4, 0, 5] rfl ?_
        refine jr_iinc (v := x5 + 1) (lv' := [(0, .ref (lt_z X + o)), (1, .int x1), (2, .int x2), (3, .int x3), (4, .int (x4 + 0)), (5, .int (x5 + 1))]) hF dX12_laysSeen_149 5 rfl rfl (by decide) [1, 2, 3, 4, 5, 0] rfl ?_
        refine jr_goto (tgt := 7) hF dX12_laysSeen_152 rfl ?_
        exact hk7 _ _ _ _ _ _ hf
      · refine jr_iconst (v := 1) hF dX12_laysSeen_141 rfl ?_
        refine jr_goto (tgt := 146) hF dX12_laysSeen_142 rfl ?_
        refine jr_iadd hF dX12_laysSeen_146 ?_
        refine jr_istore (lv' := [(0, .ref (lt_z X + o)), (1, .int x1), (2, .int x2), (3, .int x3), (4, .int (x4 + 1)), (5, .int x5)]) hF dX12_laysSeen_147 (by decide) [1, 2, 3, 4, 0, 5] rfl ?_
        refine jr_iinc (v := x5 + 1) (lv' := [(0, .ref (lt_z X + o)), (1, .int x1), (2, .int x2), (3, .int x3), (4, .int (x4 + 1)), (5, .int (x5 + 1))]) hF dX12_laysSeen_149 5 rfl rfl (by decide) [1, 2, 3, 4, 5, 0] rfl ?_
        refine jr_goto (tgt := 7) hF dX12_laysSeen_152 rfl ?_
        exact hk7 _ _ _ _ _ _ hf
    · refine jr_aload_n hF dX12_laysSeen_99 0 rfl rfl ?_
      refine jr_getRT (cr := 50) hF gf_X12_66 hT h0 rfl rfl dX12_laysSeen_100 (fun th3 => ?_)
      refine jr_bipush (v := 21) hF dX12_laysSeen_103 rfl ?_
      refine jr_iload hF dX12_laysSeen_105 5 rfl ?_
      refine jr_imul hF dX12_laysSeen_107 ?_
      refine jr_iload hF dX12_laysSeen_108 7 rfl ?_
      refine jr_iadd hF dX12_laysSeen_110 ?_
      refine jr_aload_n hF dX12_laysSeen_111 0 rfl rfl ?_
      refine jr_getRT (cr := 50) hF gf_X12_56 hT h0 rfl rfl dX12_laysSeen_112 (fun th4 => ?_)
      refine jr_iload hF dX12_laysSeen_115 7 rfl ?_
      refine jr_iaload hF th4 dX12_laysSeen_117 hf (fun hf => ?_)
      refine jr_iastore hF th3 dX12_laysSeen_118 hf (fun hf => ?_)
      refine jr_letW hf (fun w5 hf => ?_)
      refine jr_iinc (v := x7 + 1) (lv' := [(0, .ref (lt_z X + o)), (1, .int x1), (2, .int x2), (3, .int x3), (4, .int x4), (5, .int x5), (6, .int x6), (7, .int (x7 + 1))]) hF dX12_laysSeen_119 7 rfl rfl (by decide) [1, 2, 3, 4, 5, 6, 7, 0] rfl ?_
      refine jr_goto (tgt := 92) hF dX12_laysSeen_122 rfl ?_
      exact ih _ _ _ _ _ _ _ _ hf
set_option maxRecDepth 100000 in
def fb_X12_laysSeen_27 (σ : lt_S) (o : Nat) (k7 : Int32 → Int32 → Int32 → Int32 → Int32 → lt_W → Option (Int32 × lt_W)) : Nat → Int32 → Int32 → Int32 → Int32 → Int32 → Int32 → Int32 → lt_W → Option (Int32 × lt_W)
  | 0, _, _, _, _, _, _, _, _ => none
  | n + 1, x1, x2, x3, x4, x5, x6, x7, w => if x3 ≤ x7 then fb_X12_laysSeen_92 σ o k7 lt_fu x1 x2 x3 x4 x5 x6 0 w else if x6 = 0 then fb_X12_laysSeen_27 σ o k7 n x1 x2 x3 x4 x5 0 (x7 + 1) w else lt_ck ((60 * x2) + (2 * x7)) (lt_len σ (lt_r σ o 7)) (lt_ck ((lt_gl w (lt_r σ o 7) ((60 * x2) + (2 * x7)).toNatClampNeg).toInt32) (lt_len σ (lt_r σ o 27)) (lt_ck (((60 * x2) + (2 * x7)) + 1) (lt_len σ (lt_r σ o 7)) (if (lg_cmp ((lt_gi w (lt_r σ o 27) ((lt_gl w (lt_r σ o 7) ((60 * x2) + (2 * x7)).toNatClampNeg).toInt32).toNatClampNeg).toInt64) (lt_gl w (lt_r σ o 7) (((60 * x2) + (2 * x7)) + 1).toNatClampNeg)) = 0 then fb_X12_laysSeen_27 σ o k7 n x1 x2 x3 x4 x5 1 (x7 + 1) w else fb_X12_laysSeen_27 σ o k7 n x1 x2 x3 x4 x5 0 (x7 + 1) w)))
set_option maxHeartbeats 4000000 in
set_option maxRecDepth 100000 in
theorem jb_X12_laysSeen_27 {X : lt_X} {σ : lt_S} (hT : lt_Wt σ) {o : Nat} (h0 : lt_c σ o = 12) {r : Int32 × lt_W} {k7 : Int32 → Int32 → Int32 → Int32 → Int32 → lt_W → Option (Int32 × lt_W)} (hF : lt_F X cX12_laysSeen RX12 9 (lt_rm 8)) (hE : lt_E X 0 0 σ (some .int) (some (.int r.1)) r.2) (hk7 : ∀ (x1 : Int32) (x2 : Int32) (x3 : Int32) (x4 : Int32) (x5 : Int32) (w : lt_W), k7 x1 x2 x3 x4 x5 w = some r → lt_J X 0 0 σ w 7 [(0, .ref (lt_z X + o)), (1, .int x1), (2, .int x2), (3, .int x3), (4, .int x4), (5, .int x5)] []) (n : Nat) : ∀ (x1 : Int32) (x2 : Int32) (x3 : Int32) (x4 : Int32) (x5 : Int32) (x6 : Int32) (x7 : Int32) (w : lt_W), fb_X12_laysSeen_27 σ o k7 n x1 x2 x3 x4 x5 x6 x7 w = some r → lt_J X 0 0 σ w 27 [(0, .ref (lt_z X + o)), (1, .int x1), (2, .int x2), (3, .int x3), (4, .int x4), (5, .int x5), (6, .int x6), (7, .int x7)] [] := by
  induction n with
  | zero => intro x1 x2 x3 x4 x5 x6 x7 w hf; rw [fb_X12_laysSeen_27] at hf; cases hf
  | succ n ih =>
    intro x1 x2 x3 x4 x5 x6 x7 w hf
    rw [fb_X12_laysSeen_27] at hf
    refine jr_iload hF dX12_laysSeen_27 7 rfl ?_
    refine jr_iload_n hF dX12_laysSeen_29 3 rfl rfl ?_
    refine jr_icmp_ge (tgt := 89) hF dX12_laysSeen_30 rfl hf (fun hf => ?_) (fun hf => ?_)
    · refine jr_iconst (v := 0) hF dX12_laysSeen_89 rfl ?_
      refine jr_istore (lv' := [(0, .ref (lt_z X + o)), (1, .int x1), (2, .int x2), (3, .int x3), (4, .int x4), (5, .int x5), (6, .int x6), (7, .int 0)]) hF dX12_laysSeen_90 (by decide) [1, 2, 3, 4, 5, 6, 7, 0] rfl ?_
      exact jb_X12_laysSeen_92 hT h0 hF hE hk7 lt_fu _ _ _ _ _ _ _ _ hf
    · refine jr_bipush (v := 60) hF dX12_laysSeen_33 rfl ?_
      refine jr_iload_n hF dX12_laysSeen_35 2 rfl rfl ?_
      refine jr_imul hF dX12_laysSeen_36 ?_
      refine jr_iconst (v := 2) hF dX12_laysSeen_37 rfl ?_
      refine jr_iload hF dX12_laysSeen_38 7 rfl ?_
      refine jr_imul hF dX12_laysSeen_40 ?_
      refine jr_iadd hF dX12_laysSeen_41 ?_
      refine jr_istore (lv' := [(0, .ref (lt_z X + o)), (1, .int x1), (2, .int x2), (3, .int x3), (4, .int x4), (5, .int x5), (6, .int x6), (7, .int x7), (8, .int ((60 * x2) + (2 * x7)))]) hF dX12_laysSeen_42 (by decide) [1, 2, 3, 4, 5, 6, 7, 8, 0] rfl ?_
      refine jr_iload hF dX12_laysSeen_44 6 rfl ?_
      refine jr_if_eq (tgt := 80) hF dX12_laysSeen_46 rfl hf (fun hf => ?_) (fun hf => ?_)
      · refine jr_iconst (v := 0) hF dX12_laysSeen_80 rfl ?_
        refine jr_istore (lv' := [(0, .ref (lt_z X + o)), (1, .int x1), (2, .int x2), (3, .int x3), (4, .int x4), (5, .int x5), (6, .int 0), (7, .int x7)]) hF dX12_laysSeen_81 (by decide) [1, 2, 3, 4, 5, 6, 0, 7] rfl ?_
        refine jr_iinc (v := x7 + 1) (lv' := [(0, .ref (lt_z X + o)), (1, .int x1), (2, .int x2), (3, .int x3), (4, .int x4), (5, .int x5), (6, .int 0), (7, .int (x7 + 1))]) hF dX12_laysSeen_83 7 rfl rfl (by decide) [1, 2, 3, 4, 5, 6, 7, 0] rfl ?_
        refine jr_goto (tgt := 27) hF dX12_laysSeen_86 rfl ?_
        exact ih _ _ _ _ _ _ _ _ hf
      · refine jr_aload_n hF dX12_laysSeen_49 0 rfl rfl ?_
        refine jr_getRT (cr := 50) hF gf_X12_56 hT h0 rfl rfl dX12_laysSeen_50 (fun th1 => ?_)
        refine jr_aload_n hF dX12_laysSeen_53 0 rfl rfl ?_
        refine jr_getRT (cr := 51) hF gf_X12_27 hT h0 rfl rfl dX12_laysSeen_54 (fun th2 => ?_)
        refine jr_iload hF dX12_laysSeen_57 8 rfl ?_
        refine jr_laload hF th2 dX12_laysSeen_59 hf (fun hf => ?_)
        refine jr_l2i hF dX12_laysSeen_60 ?_
        refine jr_iaload hF th1 dX12_laysSeen_61 hf (fun hf => ?_)
        refine jr_i2l hF dX12_laysSeen_62 ?_
        refine jr_aload_n hF dX12_laysSeen_63 0 rfl rfl ?_
        refine jr_getRT (cr := 51) hF gf_X12_27 hT h0 rfl rfl dX12_laysSeen_64 (fun th3 => ?_)
        refine jr_iload hF dX12_laysSeen_67 8 rfl ?_
        refine jr_iconst (v := 1) hF dX12_laysSeen_69 rfl ?_
        refine jr_iadd hF dX12_laysSeen_70 ?_
        refine jr_laload hF th3 dX12_laysSeen_71 hf (fun hf => ?_)
        refine jr_lcmp hF dX12_laysSeen_72 ?_
        refine jr_if_ne (tgt := 80) hF dX12_laysSeen_73 rfl hf (fun hf => ?_) (fun hf => ?_)
        · refine jr_iconst (v := 0) hF dX12_laysSeen_80 rfl ?_
          refine jr_istore (lv' := [(0, .ref (lt_z X + o)), (1, .int x1), (2, .int x2), (3, .int x3), (4, .int x4), (5, .int x5), (6, .int 0), (7, .int x7)]) hF dX12_laysSeen_81 (by decide) [1, 2, 3, 4, 5, 6, 0, 7] rfl ?_
          refine jr_iinc (v := x7 + 1) (lv' := [(0, .ref (lt_z X + o)), (1, .int x1), (2, .int x2), (3, .int x3), (4, .int x4), (5, .int x5), (6, .int 0), (7, .int (x7 + 1))]) hF dX12_laysSeen_83 7 rfl rfl (by decide) [1, 2, 3, 4, 5, 6, 7, 0] rfl ?_
          refine jr_goto (tgt := 27) hF dX12_laysSeen_86 rfl ?_
          exact ih _ _ _ _ _ _ _ _ hf
        · refine jr_iconst (v := 1) hF dX12_laysSeen_76 rfl ?_
          refine jr_goto (tgt := 81) hF dX12_laysSeen_77 rfl ?_
          refine jr_istore (lv' := [(0, .ref (lt_z X + o)), (1, .int x1), (2, .int x2), (3, .int x3), (4, .int x4), (5, .int x5), (6, .int 1), (7, .int x7)]) hF dX12_laysSeen_81 (by decide) [1, 2, 3, 4, 5, 6, 0, 7] rfl ?_
          refine jr_iinc (v := x7 + 1) (lv' := [(0, .ref (lt_z X + o)), (1, .int x1), (2, .int x2), (3, .int x3), (4, .int x4), (5, .int x5), (6, .int 1), (7, .int (x7 + 1))]) hF dX12_laysSeen_83 7 rfl rfl (by decide) [1, 2, 3, 4, 5, 6, 7, 0] rfl ?_
          refine jr_goto (tgt := 27) hF dX12_laysSeen_86 rfl ?_
          exact ih _ _ _ _ _ _ _ _ hf
set_option maxRecDepth 100000 in
def fb_X12_laysSeen_7 (σ : lt_S) (o : Nat) : Nat → Int32 → Int32 → Int32 → Int32 → Int32 → lt_W → Option (Int32 × lt_W)
  | 0, _, _, _, _, _, _ => none
  | n + 1, x1, x2, x3, x4, x5, w => if 100 ≤ x5 then some (x4, w) else Option.bind (f_X12_laysHere σ o x1 x5 w) (fun q1 => fb_X12_laysSeen_27 σ o (fun x1 x2 x3 x4 x5 w => fb_X12_laysSeen_7 σ o n x1 x2 x3 x4 x5 w) lt_fu x1 x2 x3 x4 x5 1 0 q1)
set_option maxHeartbeats 4000000 in
set_option maxRecDepth 100000 in
theorem jb_X12_laysSeen_7 {X : lt_X} {σ : lt_S} (hT : lt_Wt σ) {o : Nat} (h0 : lt_c σ o = 12) {r : Int32 × lt_W} (hF : lt_F X cX12_laysSeen RX12 9 (lt_rm 8)) (hE : lt_E X 0 0 σ (some .int) (some (.int r.1)) r.2) (n : Nat) : ∀ (x1 : Int32) (x2 : Int32) (x3 : Int32) (x4 : Int32) (x5 : Int32) (w : lt_W), fb_X12_laysSeen_7 σ o n x1 x2 x3 x4 x5 w = some r → lt_J X 0 0 σ w 7 [(0, .ref (lt_z X + o)), (1, .int x1), (2, .int x2), (3, .int x3), (4, .int x4), (5, .int x5)] [] := by
  induction n with
  | zero => intro x1 x2 x3 x4 x5 w hf; rw [fb_X12_laysSeen_7] at hf; cases hf
  | succ n ih =>
    intro x1 x2 x3 x4 x5 w hf
    rw [fb_X12_laysSeen_7] at hf
    refine jr_iload hF dX12_laysSeen_7 5 rfl ?_
    refine jr_bipush (v := 100) hF dX12_laysSeen_9 rfl ?_
    refine jr_icmp_ge (tgt := 155) hF dX12_laysSeen_11 rfl hf (fun hf => ?_) (fun hf => ?_)
    · refine jr_iload hF dX12_laysSeen_155 4 rfl ?_
      obtain rfl := Option.some.inj hf
      exact jr_ireturn hF hE dX12_laysSeen_157
    · refine jr_iconst (v := 1) hF dX12_laysSeen_14 rfl ?_
      refine jr_istore (lv' := [(0, .ref (lt_z X + o)), (1, .int x1), (2, .int x2), (3, .int x3), (4, .int x4), (5, .int x5), (6, .int 1)]) hF dX12_laysSeen_15 (by decide) [1, 2, 3, 4, 5, 6, 0] rfl ?_
      refine jr_aload_n hF dX12_laysSeen_17 0 rfl rfl ?_
      refine jr_iload_n hF dX12_laysSeen_18 1 rfl rfl ?_
      refine jr_iload hF dX12_laysSeen_19 5 rfl ?_
      obtain ⟨q1, hq1, hf⟩ := Option.bind_eq_some_iff.mp hf
      refine jr_cV2v hF ml_X12_353 (c_X12_laysHere hT h0 hq1) h0 ⟨Nat.le_of_ble_eq_true rfl, Nat.le_of_ble_eq_true rfl⟩ (Nat.le_of_ble_eq_true rfl) dX12_laysSeen_21 ?_
      refine jr_iconst (v := 0) hF dX12_laysSeen_24 rfl ?_
      refine jr_istore (lv' := [(0, .ref (lt_z X + o)), (1, .int x1), (2, .int x2), (3, .int x3), (4, .int x4), (5, .int x5), (6, .int 1), (7, .int 0)]) hF dX12_laysSeen_25 (by decide) [1, 2, 3, 4, 5, 6, 7, 0] rfl ?_
      exact jb_X12_laysSeen_27 hT h0 hF hE ih lt_fu _ _ _ _ _ _ _ _ hf
set_option maxRecDepth 100000 in
def fb_X12_laysSeen_0 (σ : lt_S) (o : Nat) (x1 : Int32) (x2 : Int32) (x3 : Int32) (w : lt_W) : Option (Int32 × lt_W) := fb_X12_laysSeen_7 σ o lt_fu x1 x2 x3 0 10 w
set_option maxHeartbeats 4000000 in
set_option maxRecDepth 100000 in
theorem jb_X12_laysSeen_0 {X : lt_X} {σ : lt_S} (hT : lt_Wt σ) {o : Nat} (h0 : lt_c σ o = 12) {r : Int32 × lt_W} (hF : lt_F X cX12_laysSeen RX12 9 (lt_rm 8)) (hE : lt_E X 0 0 σ (some .int) (some (.int r.1)) r.2) : ∀ (x1 : Int32) (x2 : Int32) (x3 : Int32) (w : lt_W), fb_X12_laysSeen_0 σ o x1 x2 x3 w = some r → lt_J X 0 0 σ w 0 [(0, .ref (lt_z X + o)), (1, .int x1), (2, .int x2), (3, .int x3)] [] := by
  intro x1 x2 x3 w hf
  unfold fb_X12_laysSeen_0 at hf
  refine jr_iconst (v := 0) hF dX12_laysSeen_0 rfl ?_
  refine jr_istore (lv' := [(0, .ref (lt_z X + o)), (1, .int x1), (2, .int x2), (3, .int x3), (4, .int 0)]) hF dX12_laysSeen_1 (by decide) [1, 2, 3, 4, 0] rfl ?_
  refine jr_bipush (v := 10) hF dX12_laysSeen_3 rfl ?_
  refine jr_istore (lv' := [(0, .ref (lt_z X + o)), (1, .int x1), (2, .int x2), (3, .int x3), (4, .int 0), (5, .int 10)]) hF dX12_laysSeen_5 (by decide) [1, 2, 3, 4, 5, 0] rfl ?_
  exact jb_X12_laysSeen_7 hT h0 hF hE lt_fu _ _ _ _ _ _ hf
def f_X12_laysSeen (σ : lt_S) (o : Nat) (x1 : Int32) (x2 : Int32) (x3 : Int32) (w : lt_W) : Option (Int32 × lt_W) := fb_X12_laysSeen_0 σ o x1 x2 x3 w
set_option maxRecDepth 100000 in
theorem c_X12_laysSeen {l : Launch} {D : va_G} {gA : Nat → ClassId} {s0 : State} {σ : lt_S} (hT : lt_Wt σ) {o : Nat} (h0 : lt_c σ o = 12) {x1 : Int32} {x2 : Int32} {x3 : Int32} {w : lt_W} {r : Int32 × lt_W} (hf : f_X12_laysSeen σ o x1 x2 x3 w = some r) : lt_C l D gA s0 yX12_laysSeen cX12_laysSeen 9 (some .int) (lt_rm 8) [.ref (s0.heap.size + o), .int x1, .int x2, .int x3] σ w σ (some (.int r.1)) r.2 := by
  refine lt_enter rfl (Nat.le_of_ble_eq_true rfl) (fun X e1 e2 e3 e4 hF hE => ?_)
  subst e1 e2 e3 e4
  exact jb_X12_laysSeen_0 hT h0 hF hE _ _ _ _ hf

set_option maxRecDepth 100000 in
def fb_X12_mostAlike_69 (σ : lt_S) (o : Nat) : Nat → Int32 → Int32 → lt_W → Option (Int32 × lt_W)
  | 0, _, _, _ => none
  | n + 1, x2, x3, w => if 8 ≤ x3 then some (x2, w) else lt_ck x3 (lt_len σ (lt_r σ o 28)) (lt_let (lt_max x2 (lt_gi w (lt_r σ o 28) x3.toNatClampNeg)) (fun z2 => fb_X12_mostAlike_69 σ o n z2 (x3 + 1) w))
set_option maxHeartbeats 4000000 in
set_option maxRecDepth 100000 in
theorem jb_X12_mostAlike_69 {X : lt_X} {σ : lt_S} (hT : lt_Wt σ) {o : Nat} (h0 : lt_c σ o = 12) {r : Int32 × lt_W} (hF : lt_F X cX12_mostAlike RX12 4 (lt_rm 2)) (hE : lt_E X 0 0 σ (some .int) (some (.int r.1)) r.2) (n : Nat) : ∀ (x2 : Int32) (x3 : Int32) (w : lt_W), fb_X12_mostAlike_69 σ o n x2 x3 w = some r → lt_J X 0 0 σ w 69 [(0, .ref (lt_z X + o)), (2, .int x2), (3, .int x3)] [] := by
  induction n with
  | zero => intro x2 x3 w hf; rw [fb_X12_mostAlike_69] at hf; cases hf
  | succ n ih =>
    intro x2 x3 w hf
    rw [fb_X12_mostAlike_69] at hf
    refine jr_iload_n hF dX12_mostAlike_69 2 rfl rfl ?_
    refine jr_bipush (v := 8) hF dX12_mostAlike_70 rfl ?_
    refine jr_icmp_ge (tgt := 92) hF dX12_mostAlike_72 rfl hf (fun hf => ?_) (fun hf => ?_)
    · refine jr_iload_n hF dX12_mostAlike_92 1 rfl rfl ?_
      obtain rfl := Option.some.inj hf
      exact jr_ireturn hF hE dX12_mostAlike_93
    · refine jr_iload_n hF dX12_mostAlike_75 1 rfl rfl ?_
      refine jr_aload_n hF dX12_mostAlike_76 0 rfl rfl ?_
      refine jr_getRT (cr := 50) hF gf_X12_59 hT h0 rfl rfl dX12_mostAlike_77 (fun th1 => ?_)
      refine jr_iload_n hF dX12_mostAlike_80 2 rfl rfl ?_
      refine jr_iaload hF th1 dX12_mostAlike_81 hf (fun hf => ?_)
      refine jr_max hF mm_X12_367 ⟨Nat.le_of_ble_eq_true rfl, Nat.le_of_ble_eq_true rfl, Nat.zero_le _, Nat.zero_le _⟩ dX12_mostAlike_82 ?_
      refine jr_letI hf (fun z2 hf => ?_)
      refine jr_istore_n (lv' := [(0, .ref (lt_z X + o)), (2, .int z2), (3, .int x3)]) hF dX12_mostAlike_85 rfl (by decide) [1, 0, 2] rfl ?_
      refine jr_iinc (v := x3 + 1) (lv' := [(0, .ref (lt_z X + o)), (2, .int z2), (3, .int (x3 + 1))]) hF dX12_mostAlike_86 2 rfl rfl (by decide) [1, 2, 0] rfl ?_
      refine jr_goto (tgt := 69) hF dX12_mostAlike_89 rfl ?_
      exact ih _ _ _ hf
set_option maxRecDepth 100000 in
def fb_X12_mostAlike_26 (σ : lt_S) (o : Nat) : Nat → Int32 → Int32 → Int32 → lt_W → Option (Int32 × lt_W)
  | 0, _, _, _, _ => none
  | n + 1, x1, x2, x3, w => if 100 ≤ x3 then fb_X12_mostAlike_69 σ o lt_fu x2 0 w else lt_ck x3 (lt_len σ (lt_r σ o 29)) (if (lt_gi w (lt_r σ o 29) x3.toNatClampNeg) = 0 then fb_X12_mostAlike_26 σ o n x1 x2 (x3 + 1) w else lt_ck ((21 * x3) + x1) (lt_len σ (lt_r σ o 30)) (lt_ck (lt_gi w (lt_r σ o 30) ((21 * x3) + x1).toNatClampNeg) (lt_len σ (lt_r σ o 28)) (lt_ck (lt_gi w (lt_r σ o 30) ((21 * x3) + x1).toNatClampNeg) (lt_len σ (lt_r σ o 28)) (lt_let (lt_si w (lt_r σ o 28) (lt_gi w (lt_r σ o 30) ((21 * x3) + x1).toNatClampNeg).toNatClampNeg ((lt_gi w (lt_r σ o 28) (lt_gi w (lt_r σ o 30) ((21 * x3) + x1).toNatClampNeg).toNatClampNeg) + 1)) (fun w4 => fb_X12_mostAlike_26 σ o n x1 x2 (x3 + 1) w4)))))
set_option maxHeartbeats 4000000 in
set_option maxRecDepth 100000 in
theorem jb_X12_mostAlike_26 {X : lt_X} {σ : lt_S} (hT : lt_Wt σ) {o : Nat} (h0 : lt_c σ o = 12) {r : Int32 × lt_W} (hF : lt_F X cX12_mostAlike RX12 4 (lt_rm 2)) (hE : lt_E X 0 0 σ (some .int) (some (.int r.1)) r.2) (n : Nat) : ∀ (x1 : Int32) (x2 : Int32) (x3 : Int32) (w : lt_W), fb_X12_mostAlike_26 σ o n x1 x2 x3 w = some r → lt_J X 0 0 σ w 26 [(0, .ref (lt_z X + o)), (1, .int x1), (2, .int x2), (3, .int x3)] [] := by
  induction n with
  | zero => intro x1 x2 x3 w hf; rw [fb_X12_mostAlike_26] at hf; cases hf
  | succ n ih =>
    intro x1 x2 x3 w hf
    rw [fb_X12_mostAlike_26] at hf
    refine jr_iload_n hF dX12_mostAlike_26 3 rfl rfl ?_
    refine jr_bipush (v := 100) hF dX12_mostAlike_27 rfl ?_
    refine jr_icmp_ge (tgt := 67) hF dX12_mostAlike_29 rfl hf (fun hf => ?_) (fun hf => ?_)
    · refine jr_iconst (v := 0) hF dX12_mostAlike_67 rfl ?_
      refine jr_istore_n (lv' := [(0, .ref (lt_z X + o)), (2, .int x2), (3, .int 0)]) hF dX12_mostAlike_68 rfl (by decide) [1, 3, 0] rfl ?_
      exact jb_X12_mostAlike_69 hT h0 hF hE lt_fu _ _ _ hf
    · refine jr_aload_n hF dX12_mostAlike_32 0 rfl rfl ?_
      refine jr_getRT (cr := 53) hF gf_X12_62 hT h0 rfl rfl dX12_mostAlike_33 (fun th1 => ?_)
      refine jr_iload_n hF dX12_mostAlike_36 3 rfl rfl ?_
      refine jr_baloadZ hF th1 dX12_mostAlike_37 hf (fun hf => ?_)
      refine jr_if_eq (tgt := 61) hF dX12_mostAlike_38 rfl hf (fun hf => ?_) (fun hf => ?_)
      · refine jr_iinc (v := x3 + 1) (lv' := [(0, .ref (lt_z X + o)), (1, .int x1), (2, .int x2), (3, .int (x3 + 1))]) hF dX12_mostAlike_61 3 rfl rfl (by decide) [1, 2, 3, 0] rfl ?_
        refine jr_goto (tgt := 26) hF dX12_mostAlike_64 rfl ?_
        exact ih _ _ _ _ hf
      · refine jr_aload_n hF dX12_mostAlike_41 0 rfl rfl ?_
        refine jr_getRT (cr := 50) hF gf_X12_59 hT h0 rfl rfl dX12_mostAlike_42 (fun th2 => ?_)
        refine jr_aload_n hF dX12_mostAlike_45 0 rfl rfl ?_
        refine jr_getRT (cr := 50) hF gf_X12_66 hT h0 rfl rfl dX12_mostAlike_46 (fun th3 => ?_)
        refine jr_bipush (v := 21) hF dX12_mostAlike_49 rfl ?_
        refine jr_iload_n hF dX12_mostAlike_51 3 rfl rfl ?_
        refine jr_imul hF dX12_mostAlike_52 ?_
        refine jr_iload_n hF dX12_mostAlike_53 1 rfl rfl ?_
        refine jr_iadd hF dX12_mostAlike_54 ?_
        refine jr_iaload hF th3 dX12_mostAlike_55 hf (fun hf => ?_)
        refine jr_dup2 hF dX12_mostAlike_56 rfl rfl ?_
        refine jr_iaload hF th2 dX12_mostAlike_57 hf (fun hf => ?_)
        refine jr_iconst (v := 1) hF dX12_mostAlike_58 rfl ?_
        refine jr_iadd hF dX12_mostAlike_59 ?_
        refine jr_iastore hF th2 dX12_mostAlike_60 hf (fun hf => ?_)
        refine jr_letW hf (fun w4 hf => ?_)
        refine jr_iinc (v := x3 + 1) (lv' := [(0, .ref (lt_z X + o)), (1, .int x1), (2, .int x2), (3, .int (x3 + 1))]) hF dX12_mostAlike_61 3 rfl rfl (by decide) [1, 2, 3, 0] rfl ?_
        refine jr_goto (tgt := 26) hF dX12_mostAlike_64 rfl ?_
        exact ih _ _ _ _ hf
set_option maxRecDepth 100000 in
def fb_X12_mostAlike_4 (σ : lt_S) (o : Nat) : Nat → Int32 → Int32 → Int32 → lt_W → Option (Int32 × lt_W)
  | 0, _, _, _, _ => none
  | n + 1, x1, x2, x3, w => if 8 ≤ x3 then fb_X12_mostAlike_26 σ o lt_fu x1 x2 10 w else lt_ck x3 (lt_len σ (lt_r σ o 28)) (lt_let (lt_si w (lt_r σ o 28) x3.toNatClampNeg 0) (fun w2 => fb_X12_mostAlike_4 σ o n x1 x2 (x3 + 1) w2))
set_option maxHeartbeats 4000000 in
set_option maxRecDepth 100000 in
theorem jb_X12_mostAlike_4 {X : lt_X} {σ : lt_S} (hT : lt_Wt σ) {o : Nat} (h0 : lt_c σ o = 12) {r : Int32 × lt_W} (hF : lt_F X cX12_mostAlike RX12 4 (lt_rm 2)) (hE : lt_E X 0 0 σ (some .int) (some (.int r.1)) r.2) (n : Nat) : ∀ (x1 : Int32) (x2 : Int32) (x3 : Int32) (w : lt_W), fb_X12_mostAlike_4 σ o n x1 x2 x3 w = some r → lt_J X 0 0 σ w 4 [(0, .ref (lt_z X + o)), (1, .int x1), (2, .int x2), (3, .int x3)] [] := by
  induction n with
  | zero => intro x1 x2 x3 w hf; rw [fb_X12_mostAlike_4] at hf; cases hf
  | succ n ih =>
    intro x1 x2 x3 w hf
    rw [fb_X12_mostAlike_4] at hf
    refine jr_iload_n hF dX12_mostAlike_4 3 rfl rfl ?_
    refine jr_bipush (v := 8) hF dX12_mostAlike_5 rfl ?_
    refine jr_icmp_ge (tgt := 23) hF dX12_mostAlike_7 rfl hf (fun hf => ?_) (fun hf => ?_)
    · refine jr_bipush (v := 10) hF dX12_mostAlike_23 rfl ?_
      refine jr_istore_n (lv' := [(0, .ref (lt_z X + o)), (1, .int x1), (2, .int x2), (3, .int 10)]) hF dX12_mostAlike_25 rfl (by decide) [1, 2, 3, 0] rfl ?_
      exact jb_X12_mostAlike_26 hT h0 hF hE lt_fu _ _ _ _ hf
    · refine jr_aload_n hF dX12_mostAlike_10 0 rfl rfl ?_
      refine jr_getRT (cr := 50) hF gf_X12_59 hT h0 rfl rfl dX12_mostAlike_11 (fun th1 => ?_)
      refine jr_iload_n hF dX12_mostAlike_14 3 rfl rfl ?_
      refine jr_iconst (v := 0) hF dX12_mostAlike_15 rfl ?_
      refine jr_iastore hF th1 dX12_mostAlike_16 hf (fun hf => ?_)
      refine jr_letW hf (fun w2 hf => ?_)
      refine jr_iinc (v := x3 + 1) (lv' := [(0, .ref (lt_z X + o)), (1, .int x1), (2, .int x2), (3, .int (x3 + 1))]) hF dX12_mostAlike_17 3 rfl rfl (by decide) [1, 2, 3, 0] rfl ?_
      refine jr_goto (tgt := 4) hF dX12_mostAlike_20 rfl ?_
      exact ih _ _ _ _ hf
set_option maxRecDepth 100000 in
def fb_X12_mostAlike_0 (σ : lt_S) (o : Nat) (x1 : Int32) (w : lt_W) : Option (Int32 × lt_W) := fb_X12_mostAlike_4 σ o lt_fu x1 0 0 w
set_option maxHeartbeats 4000000 in
set_option maxRecDepth 100000 in
theorem jb_X12_mostAlike_0 {X : lt_X} {σ : lt_S} (hT : lt_Wt σ) {o : Nat} (h0 : lt_c σ o = 12) {r : Int32 × lt_W} (hF : lt_F X cX12_mostAlike RX12 4 (lt_rm 2)) (hE : lt_E X 0 0 σ (some .int) (some (.int r.1)) r.2) : ∀ (x1 : Int32) (w : lt_W), fb_X12_mostAlike_0 σ o x1 w = some r → lt_J X 0 0 σ w 0 [(0, .ref (lt_z X + o)), (1, .int x1)] [] := by
  intro x1 w hf
  unfold fb_X12_mostAlike_0 at hf
  refine jr_iconst (v := 0) hF dX12_mostAlike_0 rfl ?_
  refine jr_istore_n (lv' := [(0, .ref (lt_z X + o)), (1, .int x1), (2, .int 0)]) hF dX12_mostAlike_1 rfl (by decide) [1, 2, 0] rfl ?_
  refine jr_iconst (v := 0) hF dX12_mostAlike_2 rfl ?_
  refine jr_istore_n (lv' := [(0, .ref (lt_z X + o)), (1, .int x1), (2, .int 0), (3, .int 0)]) hF dX12_mostAlike_3 rfl (by decide) [1, 2, 3, 0] rfl ?_
  exact jb_X12_mostAlike_4 hT h0 hF hE lt_fu _ _ _ _ hf
def f_X12_mostAlike (σ : lt_S) (o : Nat) (x1 : Int32) (w : lt_W) : Option (Int32 × lt_W) := fb_X12_mostAlike_0 σ o x1 w
set_option maxRecDepth 100000 in
theorem c_X12_mostAlike {l : Launch} {D : va_G} {gA : Nat → ClassId} {s0 : State} {σ : lt_S} (hT : lt_Wt σ) {o : Nat} (h0 : lt_c σ o = 12) {x1 : Int32} {w : lt_W} {r : Int32 × lt_W} (hf : f_X12_mostAlike σ o x1 w = some r) : lt_C l D gA s0 yX12_mostAlike cX12_mostAlike 4 (some .int) (lt_rm 2) [.ref (s0.heap.size + o), .int x1] σ w σ (some (.int r.1)) r.2 := by
  refine lt_enter rfl (Nat.le_of_ble_eq_true rfl) (fun X e1 e2 e3 e4 hF hE => ?_)
  subst e1 e2 e3 e4
  exact jb_X12_mostAlike_0 hT h0 hF hE _ _ hf

set_option maxRecDepth 100000 in
def fb_X12_gives_0 (σ : lt_S) (o : Nat) (x1 : Int32) (w : lt_W) : Option (Int32 × lt_W) := lt_let (lt_si w o 2 0) (fun w1 => some (x1, w1))
set_option maxHeartbeats 4000000 in
set_option maxRecDepth 100000 in
theorem jb_X12_gives_0 {X : lt_X} {σ : lt_S} {o : Nat} (h0 : lt_c σ o = 12) {r : Int32 × lt_W} (hF : lt_F X cX12_gives RX12 2 (lt_rm 1)) (hE : lt_E X 0 0 σ (some .int) (some (.int r.1)) r.2) : ∀ (x1 : Int32) (w : lt_W), fb_X12_gives_0 σ o x1 w = some r → lt_J X 0 0 σ w 0 [(0, .ref (lt_z X + o)), (1, .int x1)] [] := by
  intro x1 w hf
  unfold fb_X12_gives_0 at hf
  refine jr_aload_n hF dX12_gives_0 0 rfl rfl ?_
  refine jr_iconst (v := 0) hF dX12_gives_1 rfl ?_
  refine jr_putI hF pf_X12_91 h0 dX12_gives_2 ?_
  refine jr_letW hf (fun w1 hf => ?_)
  refine jr_iload_n hF dX12_gives_5 1 rfl rfl ?_
  obtain rfl := Option.some.inj hf
  exact jr_ireturn hF hE dX12_gives_6
def f_X12_gives (σ : lt_S) (o : Nat) (x1 : Int32) (w : lt_W) : Option (Int32 × lt_W) := fb_X12_gives_0 σ o x1 w
set_option maxRecDepth 100000 in
theorem c_X12_gives {l : Launch} {D : va_G} {gA : Nat → ClassId} {s0 : State} {σ : lt_S} {o : Nat} (h0 : lt_c σ o = 12) {x1 : Int32} {w : lt_W} {r : Int32 × lt_W} (hf : f_X12_gives σ o x1 w = some r) : lt_C l D gA s0 yX12_gives cX12_gives 2 (some .int) (lt_rm 1) [.ref (s0.heap.size + o), .int x1] σ w σ (some (.int r.1)) r.2 := by
  refine lt_enter rfl (Nat.le_of_ble_eq_true rfl) (fun X e1 e2 e3 e4 hF hE => ?_)
  subst e1 e2 e3 e4
  exact jb_X12_gives_0 h0 hF hE _ _ hf

set_option maxRecDepth 100000 in
def fb_X12_ask_45 (σ : lt_S) (o : Nat) : Nat → Int32 → Int32 → lt_W → Option (Int32 × lt_W)
  | 0, _, _, _ => none
  | n + 1, x5, x6, w => if 20 < x6 then Option.bind (f_X12_gives σ o x5 w) (fun q1 => some (q1.1, q1.2)) else Option.bind (f_X12_mostAlike σ o x6 w) (fun q2 => Option.bind (f_X12_mostAlike σ o x5 q2.2) (fun q3 => if q3.1 ≤ q2.1 then fb_X12_ask_45 σ o n x5 (x6 + 1) q3.2 else fb_X12_ask_45 σ o n x6 (x6 + 1) q3.2))
set_option maxHeartbeats 4000000 in
set_option maxRecDepth 100000 in
theorem jb_X12_ask_45 {X : lt_X} {σ : lt_S} (hT : lt_Wt σ) {o : Nat} (h0 : lt_c σ o = 12) {r : Int32 × lt_W} (hF : lt_F X cX12_ask RX12 7 (lt_rm 9)) (hE : lt_E X 0 0 σ (some .int) (some (.int r.1)) r.2) (n : Nat) : ∀ (x5 : Int32) (x6 : Int32) (w : lt_W), fb_X12_ask_45 σ o n x5 x6 w = some r → lt_J X 0 0 σ w 45 [(0, .ref (lt_z X + o)), (5, .int x5), (6, .int x6)] [] := by
  induction n with
  | zero => intro x5 x6 w hf; rw [fb_X12_ask_45] at hf; cases hf
  | succ n ih =>
    intro x5 x6 w hf
    rw [fb_X12_ask_45] at hf
    refine jr_iload hF dX12_ask_45 2 rfl ?_
    refine jr_bipush (v := 20) hF dX12_ask_47 rfl ?_
    refine jr_icmp_gt (tgt := 77) hF dX12_ask_49 rfl hf (fun hf => ?_) (fun hf => ?_)
    · refine jr_aload_n hF dX12_ask_77 0 rfl rfl ?_
      refine jr_iload hF dX12_ask_78 1 rfl ?_
      obtain ⟨q1, hq1, hf⟩ := Option.bind_eq_some_iff.mp hf
      refine jr_cV11 hF ml_X12_101 (c_X12_gives h0 hq1) h0 ⟨Nat.le_of_ble_eq_true rfl, Nat.le_of_ble_eq_true rfl⟩ (Nat.le_of_ble_eq_true rfl) dX12_ask_80 ?_
      obtain rfl := Option.some.inj hf
      exact jr_ireturn hF hE dX12_ask_83
    · refine jr_aload_n hF dX12_ask_52 0 rfl rfl ?_
      refine jr_iload hF dX12_ask_53 2 rfl ?_
      obtain ⟨q2, hq2, hf⟩ := Option.bind_eq_some_iff.mp hf
      refine jr_cV11 hF ml_X12_370 (c_X12_mostAlike hT h0 hq2) h0 ⟨Nat.le_of_ble_eq_true rfl, Nat.le_of_ble_eq_true rfl⟩ (Nat.le_of_ble_eq_true rfl) dX12_ask_55 ?_
      refine jr_aload_n hF dX12_ask_58 0 rfl rfl ?_
      refine jr_iload hF dX12_ask_59 1 rfl ?_
      obtain ⟨q3, hq3, hf⟩ := Option.bind_eq_some_iff.mp hf
      refine jr_cV11 hF ml_X12_370 (c_X12_mostAlike hT h0 hq3) h0 ⟨Nat.le_of_ble_eq_true rfl, Nat.le_of_ble_eq_true rfl⟩ (Nat.le_of_ble_eq_true rfl) dX12_ask_61 ?_
      refine jr_icmp_ge (tgt := 71) hF dX12_ask_64 rfl hf (fun hf => ?_) (fun hf => ?_)
      · refine jr_iinc (v := x6 + 1) (lv' := [(0, .ref (lt_z X + o)), (5, .int x5), (6, .int (x6 + 1))]) hF dX12_ask_71 2 rfl rfl (by decide) [1, 2, 0] rfl ?_
        refine jr_goto (tgt := 45) hF dX12_ask_74 rfl ?_
        exact ih _ _ _ hf
      · refine jr_iload hF dX12_ask_67 2 rfl ?_
        refine jr_istore (lv' := [(0, .ref (lt_z X + o)), (5, .int x6), (6, .int x6)]) hF dX12_ask_69 (by decide) [1, 0, 2] rfl ?_
        refine jr_iinc (v := x6 + 1) (lv' := [(0, .ref (lt_z X + o)), (5, .int x6), (6, .int (x6 + 1))]) hF dX12_ask_71 2 rfl rfl (by decide) [1, 2, 0] rfl ?_
        refine jr_goto (tgt := 45) hF dX12_ask_74 rfl ?_
        exact ih _ _ _ hf
set_option maxRecDepth 100000 in
def fb_X12_ask_0 (σ : lt_S) (o : Nat) (x1 : Int32) (x2 : Int32) (x3 : Int32) (w : lt_W) : Option (Int32 × lt_W) := Option.bind (f_X12_wrongCall σ o x1 x2 x3 w) (fun q1 => if q1 ≤ 0 then Option.bind (f_X12_laysSeen σ o x1 x2 x3 w) (fun q2 => if 2 ≤ q2.1 then fb_X12_ask_45 σ o lt_fu 0 1 q2.2 else Option.bind (f_X12_refuse σ o 6 q2.2) (fun q3 => some (q3.1, q3.2))) else Option.bind (f_X12_refuse σ o q1 w) (fun q4 => some (q4.1, q4.2)))
set_option maxHeartbeats 4000000 in
set_option maxRecDepth 100000 in
theorem jb_X12_ask_0 {X : lt_X} {σ : lt_S} (hT : lt_Wt σ) {o : Nat} (h0 : lt_c σ o = 12) {r : Int32 × lt_W} (hF : lt_F X cX12_ask RX12 7 (lt_rm 9)) (hE : lt_E X 0 0 σ (some .int) (some (.int r.1)) r.2) : ∀ (x1 : Int32) (x2 : Int32) (x3 : Int32) (w : lt_W), fb_X12_ask_0 σ o x1 x2 x3 w = some r → lt_J X 0 0 σ w 0 [(0, .ref (lt_z X + o)), (1, .int x1), (2, .int x2), (3, .int x3)] [] := by
  intro x1 x2 x3 w hf
  unfold fb_X12_ask_0 at hf
  refine jr_aload_n hF dX12_ask_0 0 rfl rfl ?_
  refine jr_iload_n hF dX12_ask_1 1 rfl rfl ?_
  refine jr_iload_n hF dX12_ask_2 2 rfl rfl ?_
  refine jr_iload_n hF dX12_ask_3 3 rfl rfl ?_
  obtain ⟨q1, hq1, hf⟩ := Option.bind_eq_some_iff.mp hf
  refine jr_cV31 hF ml_X12_360 (c_X12_wrongCall hT h0 hq1) h0 ⟨Nat.le_of_ble_eq_true rfl, Nat.le_of_ble_eq_true rfl⟩ (Nat.le_of_ble_eq_true rfl) dX12_ask_4 ?_
  refine jr_istore (lv' := [(0, .ref (lt_z X + o)), (1, .int x1), (2, .int x2), (3, .int x3), (4, .int q1)]) hF dX12_ask_7 (by decide) [1, 2, 3, 4, 0] rfl ?_
  refine jr_iload hF dX12_ask_9 4 rfl ?_
  refine jr_if_le (tgt := 21) hF dX12_ask_11 rfl hf (fun hf => ?_) (fun hf => ?_)
  · refine jr_aload_n hF dX12_ask_21 0 rfl rfl ?_
    refine jr_iload_n hF dX12_ask_22 1 rfl rfl ?_
    refine jr_iload_n hF dX12_ask_23 2 rfl rfl ?_
    refine jr_iload_n hF dX12_ask_24 3 rfl rfl ?_
    obtain ⟨q2, hq2, hf⟩ := Option.bind_eq_some_iff.mp hf
    refine jr_cV31 hF ml_X12_364 (c_X12_laysSeen hT h0 hq2) h0 ⟨Nat.le_of_ble_eq_true rfl, Nat.le_of_ble_eq_true rfl⟩ (Nat.le_of_ble_eq_true rfl) dX12_ask_25 ?_
    refine jr_iconst (v := 2) hF dX12_ask_28 rfl ?_
    refine jr_icmp_ge (tgt := 39) hF dX12_ask_29 rfl hf (fun hf => ?_) (fun hf => ?_)
    · refine jr_iconst (v := 0) hF dX12_ask_39 rfl ?_
      refine jr_istore (lv' := [(0, .ref (lt_z X + o)), (5, .int 0)]) hF dX12_ask_40 (by decide) [1, 0] rfl ?_
      refine jr_iconst (v := 1) hF dX12_ask_42 rfl ?_
      refine jr_istore (lv' := [(0, .ref (lt_z X + o)), (5, .int 0), (6, .int 1)]) hF dX12_ask_43 (by decide) [1, 2, 0] rfl ?_
      exact jb_X12_ask_45 hT h0 hF hE lt_fu _ _ _ hf
    · refine jr_aload_n hF dX12_ask_32 0 rfl rfl ?_
      refine jr_bipush (v := 6) hF dX12_ask_33 rfl ?_
      obtain ⟨q3, hq3, hf⟩ := Option.bind_eq_some_iff.mp hf
      refine jr_cV11 hF ml_X12_97 (c_X12_refuse h0 hq3) h0 ⟨Nat.le_of_ble_eq_true rfl, Nat.le_of_ble_eq_true rfl⟩ (Nat.le_of_ble_eq_true rfl) dX12_ask_35 ?_
      obtain rfl := Option.some.inj hf
      exact jr_ireturn hF hE dX12_ask_38
  · refine jr_aload_n hF dX12_ask_14 0 rfl rfl ?_
    refine jr_iload hF dX12_ask_15 4 rfl ?_
    obtain ⟨q4, hq4, hf⟩ := Option.bind_eq_some_iff.mp hf
    refine jr_cV11 hF ml_X12_97 (c_X12_refuse h0 hq4) h0 ⟨Nat.le_of_ble_eq_true rfl, Nat.le_of_ble_eq_true rfl⟩ (Nat.le_of_ble_eq_true rfl) dX12_ask_17 ?_
    obtain rfl := Option.some.inj hf
    exact jr_ireturn hF hE dX12_ask_20
def f_X12_ask (σ : lt_S) (o : Nat) (x1 : Int32) (x2 : Int32) (x3 : Int32) (w : lt_W) : Option (Int32 × lt_W) := fb_X12_ask_0 σ o x1 x2 x3 w
set_option maxRecDepth 100000 in
theorem c_X12_ask {l : Launch} {D : va_G} {gA : Nat → ClassId} {s0 : State} {σ : lt_S} (hT : lt_Wt σ) {o : Nat} (h0 : lt_c σ o = 12) {x1 : Int32} {x2 : Int32} {x3 : Int32} {w : lt_W} {r : Int32 × lt_W} (hf : f_X12_ask σ o x1 x2 x3 w = some r) : lt_C l D gA s0 yX12_ask cX12_ask 7 (some .int) (lt_rm 9) [.ref (s0.heap.size + o), .int x1, .int x2, .int x3] σ w σ (some (.int r.1)) r.2 := by
  refine lt_enter rfl (Nat.le_of_ble_eq_true rfl) (fun X e1 e2 e3 e4 hF hE => ?_)
  subst e1 e2 e3 e4
  exact jb_X12_ask_0 hT h0 hF hE _ _ _ _ hf

set_option maxRecDepth 100000 in
def fb_X12_bake_0 (σ : lt_S) (o : Nat) (x1 : Int32) (w : lt_W) : Option (Int32 × lt_W) := Option.bind (f_X12_isFrom x1.toInt64 1 60) (fun q1 => if q1 = 0 then Option.bind (f_X12_refuse σ o 1 w) (fun q7 => some (q7.1, q7.2)) else lt_ck 4 (lt_len σ (lt_r σ o 0)) (lt_let (lt_gi w (lt_r σ o 0) (4 : Int32).toNatClampNeg) (fun z3 => lt_ck 4 (lt_len σ (lt_r σ o 0)) (lt_let (lt_si w (lt_r σ o 0) (4 : Int32).toNatClampNeg x1) (fun w5 => Option.bind (f_X12_gives σ o z3 w5) (fun q6 => some (q6.1, q6.2)))))))
set_option maxHeartbeats 4000000 in
set_option maxRecDepth 100000 in
theorem jb_X12_bake_0 {X : lt_X} {σ : lt_S} (hT : lt_Wt σ) {o : Nat} (h0 : lt_c σ o = 12) {r : Int32 × lt_W} (hF : lt_F X cX12_bake RX12 3 (lt_rm 2)) (hE : lt_E X 0 0 σ (some .int) (some (.int r.1)) r.2) : ∀ (x1 : Int32) (w : lt_W), fb_X12_bake_0 σ o x1 w = some r → lt_J X 0 0 σ w 0 [(0, .ref (lt_z X + o)), (1, .int x1)] [] := by
  intro x1 w hf
  unfold fb_X12_bake_0 at hf
  refine jr_iload_n hF dX12_bake_0 1 rfl rfl ?_
  refine jr_i2l hF dX12_bake_1 ?_
  refine jr_lconst (v := 1) hF dX12_bake_2 rfl ?_
  refine jr_ldc2 (v := 60) hF dX12_bake_3 kc_X12_326 ?_
  obtain ⟨q1, hq1, hf⟩ := Option.bind_eq_some_iff.mp hf
  refine jr_cS31 hF ml_X12_307 (c_X12_isFrom hq1) ⟨Nat.le_of_ble_eq_true rfl, Nat.le_of_ble_eq_true rfl⟩ (Nat.le_of_ble_eq_true rfl) dX12_bake_6 ?_
  refine jr_if_ne (tgt := 18) hF dX12_bake_9 rfl hf (fun hf => ?_) (fun hf => ?_)
  · refine jr_aload_n hF dX12_bake_18 0 rfl rfl ?_
    refine jr_getRT (cr := 50) hF gf_X12_7 hT h0 rfl rfl dX12_bake_19 (fun th2 => ?_)
    refine jr_iconst (v := 4) hF dX12_bake_22 rfl ?_
    refine jr_iaload hF th2 dX12_bake_23 hf (fun hf => ?_)
    refine jr_letI hf (fun z3 hf => ?_)
    refine jr_istore_n (lv' := [(0, .ref (lt_z X + o)), (1, .int x1), (2, .int z3)]) hF dX12_bake_24 rfl (by decide) [1, 2, 0] rfl ?_
    refine jr_aload_n hF dX12_bake_25 0 rfl rfl ?_
    refine jr_getRT (cr := 50) hF gf_X12_7 hT h0 rfl rfl dX12_bake_26 (fun th4 => ?_)
    refine jr_iconst (v := 4) hF dX12_bake_29 rfl ?_
    refine jr_iload_n hF dX12_bake_30 1 rfl rfl ?_
    refine jr_iastore hF th4 dX12_bake_31 hf (fun hf => ?_)
    refine jr_letW hf (fun w5 hf => ?_)
    refine jr_aload_n hF dX12_bake_32 0 rfl rfl ?_
    refine jr_iload_n hF dX12_bake_33 2 rfl rfl ?_
    obtain ⟨q6, hq6, hf⟩ := Option.bind_eq_some_iff.mp hf
    refine jr_cV11 hF ml_X12_101 (c_X12_gives h0 hq6) h0 ⟨Nat.le_of_ble_eq_true rfl, Nat.le_of_ble_eq_true rfl⟩ (Nat.le_of_ble_eq_true rfl) dX12_bake_34 ?_
    obtain rfl := Option.some.inj hf
    exact jr_ireturn hF hE dX12_bake_37
  · refine jr_aload_n hF dX12_bake_12 0 rfl rfl ?_
    refine jr_iconst (v := 1) hF dX12_bake_13 rfl ?_
    obtain ⟨q7, hq7, hf⟩ := Option.bind_eq_some_iff.mp hf
    refine jr_cV11 hF ml_X12_97 (c_X12_refuse h0 hq7) h0 ⟨Nat.le_of_ble_eq_true rfl, Nat.le_of_ble_eq_true rfl⟩ (Nat.le_of_ble_eq_true rfl) dX12_bake_14 ?_
    obtain rfl := Option.some.inj hf
    exact jr_ireturn hF hE dX12_bake_17
def f_X12_bake (σ : lt_S) (o : Nat) (x1 : Int32) (w : lt_W) : Option (Int32 × lt_W) := fb_X12_bake_0 σ o x1 w
set_option maxRecDepth 100000 in
theorem c_X12_bake {l : Launch} {D : va_G} {gA : Nat → ClassId} {s0 : State} {σ : lt_S} (hT : lt_Wt σ) {o : Nat} (h0 : lt_c σ o = 12) {x1 : Int32} {w : lt_W} {r : Int32 × lt_W} (hf : f_X12_bake σ o x1 w = some r) : lt_C l D gA s0 yX12_bake cX12_bake 3 (some .int) (lt_rm 2) [.ref (s0.heap.size + o), .int x1] σ w σ (some (.int r.1)) r.2 := by
  refine lt_enter rfl (Nat.le_of_ble_eq_true rfl) (fun X e1 e2 e3 e4 hF hE => ?_)
  subst e1 e2 e3 e4
  exact jb_X12_bake_0 hT h0 hF hE _ _ hf

set_option maxRecDepth 100000 in
def fb_X12_bakes_15 (σ : lt_S) (o : Nat) (x1 : Int32) (y0 : Int32) (w : lt_W) : Option (Int32 × lt_W) := lt_ck 4 (lt_len σ (lt_r σ o 0)) (lt_let (lt_si w (lt_r σ o 0) (4 : Int32).toNatClampNeg x1) (fun w2 => lt_bz y0 (some (y0, w2))))
set_option maxHeartbeats 4000000 in
set_option maxRecDepth 100000 in
theorem jb_X12_bakes_15 {X : lt_X} {σ : lt_S} (hT : lt_Wt σ) {o : Nat} (h0 : lt_c σ o = 12) {r : Int32 × lt_W} (hF : lt_F X cX12_bakes RX12 3 (lt_rm 1)) (hE : lt_E X 0 0 σ (some .boolean) (some (.int r.1)) r.2) : ∀ (x1 : Int32) (y0 : Int32) (w : lt_W), fb_X12_bakes_15 σ o x1 y0 w = some r → lt_J X 0 0 σ w 15 [(0, .ref (lt_z X + o)), (1, .int x1)] [.int y0] := by
  intro x1 y0 w hf
  unfold fb_X12_bakes_15 at hf
  refine jr_istore_n (lv' := [(0, .ref (lt_z X + o)), (1, .int x1), (2, .int y0)]) hF dX12_bakes_15 rfl (by decide) [1, 2, 0] rfl ?_
  refine jr_aload_n hF dX12_bakes_16 0 rfl rfl ?_
  refine jr_getRT (cr := 50) hF gf_X12_7 hT h0 rfl rfl dX12_bakes_17 (fun th1 => ?_)
  refine jr_iconst (v := 4) hF dX12_bakes_20 rfl ?_
  refine jr_iload_n hF dX12_bakes_21 1 rfl rfl ?_
  refine jr_iastore hF th1 dX12_bakes_22 hf (fun hf => ?_)
  refine jr_letW hf (fun w2 hf => ?_)
  refine jr_iload_n hF dX12_bakes_23 2 rfl rfl ?_
  obtain ⟨b3, hf⟩ := lt_bzE hf
  obtain rfl := Option.some.inj hf
  exact jr_zreturn hF hE b3 dX12_bakes_24
set_option maxRecDepth 100000 in
def fb_X12_bakes_0 (σ : lt_S) (o : Nat) (x1 : Int32) (w : lt_W) : Option (Int32 × lt_W) := lt_ck 4 (lt_len σ (lt_r σ o 0)) (if (lt_gi w (lt_r σ o 0) (4 : Int32).toNatClampNeg) = x1 then fb_X12_bakes_15 σ o x1 0 w else fb_X12_bakes_15 σ o x1 1 w)
set_option maxHeartbeats 4000000 in
set_option maxRecDepth 100000 in
theorem jb_X12_bakes_0 {X : lt_X} {σ : lt_S} (hT : lt_Wt σ) {o : Nat} (h0 : lt_c σ o = 12) {r : Int32 × lt_W} (hF : lt_F X cX12_bakes RX12 3 (lt_rm 1)) (hE : lt_E X 0 0 σ (some .boolean) (some (.int r.1)) r.2) : ∀ (x1 : Int32) (w : lt_W), fb_X12_bakes_0 σ o x1 w = some r → lt_J X 0 0 σ w 0 [(0, .ref (lt_z X + o)), (1, .int x1)] [] := by
  intro x1 w hf
  unfold fb_X12_bakes_0 at hf
  refine jr_aload_n hF dX12_bakes_0 0 rfl rfl ?_
  refine jr_getRT (cr := 50) hF gf_X12_7 hT h0 rfl rfl dX12_bakes_1 (fun th1 => ?_)
  refine jr_iconst (v := 4) hF dX12_bakes_4 rfl ?_
  refine jr_iaload hF th1 dX12_bakes_5 hf (fun hf => ?_)
  refine jr_iload_n hF dX12_bakes_6 1 rfl rfl ?_
  refine jr_icmp_eq (tgt := 14) hF dX12_bakes_7 rfl hf (fun hf => ?_) (fun hf => ?_)
  · refine jr_iconst (v := 0) hF dX12_bakes_14 rfl ?_
    exact jb_X12_bakes_15 hT h0 hF hE _ _ _ hf
  · refine jr_iconst (v := 1) hF dX12_bakes_10 rfl ?_
    refine jr_goto (tgt := 15) hF dX12_bakes_11 rfl ?_
    exact jb_X12_bakes_15 hT h0 hF hE _ _ _ hf
def f_X12_bakes (σ : lt_S) (o : Nat) (x1 : Int32) (w : lt_W) : Option (Int32 × lt_W) := fb_X12_bakes_0 σ o x1 w
set_option maxRecDepth 100000 in
theorem c_X12_bakes {l : Launch} {D : va_G} {gA : Nat → ClassId} {s0 : State} {σ : lt_S} (hT : lt_Wt σ) {o : Nat} (h0 : lt_c σ o = 12) {x1 : Int32} {w : lt_W} {r : Int32 × lt_W} (hf : f_X12_bakes σ o x1 w = some r) : lt_C l D gA s0 yX12_bakes cX12_bakes 3 (some .boolean) (lt_rm 1) [.ref (s0.heap.size + o), .int x1] σ w σ (some (.int r.1)) r.2 := by
  refine lt_enter rfl (Nat.le_of_ble_eq_true rfl) (fun X e1 e2 e3 e4 hF hE => ?_)
  subst e1 e2 e3 e4
  exact jb_X12_bakes_0 hT h0 hF hE _ _ hf

set_option maxRecDepth 100000 in
def fb_X12_begins_26 (σ : lt_S) (o : Nat) : Nat → Int32 → Int32 → lt_W → Option (Int32 × lt_W)
  | 0, _, _, _ => none
  | n + 1, x1, x3, w => if x1 ≤ x3 then lt_let (lt_si w o 10 0) (fun w1 => lt_let (lt_si w1 o 18 0) (fun w2 => lt_let (lt_si w2 o 17 (-1)) (fun w3 => lt_let (lt_si w3 o 14 0) (fun w4 => lt_let (lt_si w4 o 19 0) (fun w5 => Option.bind (f_X12_ahead σ o w5) (fun q6 => some (1, q6))))))) else lt_ck x3 (lt_len σ (lt_r σ o 8)) (lt_ck x3 (lt_len σ (lt_r σ o 9)) (lt_let (lt_si w (lt_r σ o 9) x3.toNatClampNeg (vp_nar .byte (lt_gi w (lt_r σ o 8) x3.toNatClampNeg))) (fun w9 => fb_X12_begins_26 σ o n x1 (x3 + 1) w9)))
set_option maxHeartbeats 4000000 in
set_option maxRecDepth 100000 in
theorem jb_X12_begins_26 {X : lt_X} {σ : lt_S} (hT : lt_Wt σ) {o : Nat} (h0 : lt_c σ o = 12) {r : Int32 × lt_W} (hF : lt_F X cX12_begins RX12 4 (lt_rm 3)) (hE : lt_E X 0 0 σ (some .boolean) (some (.int r.1)) r.2) (n : Nat) : ∀ (x1 : Int32) (x3 : Int32) (w : lt_W), fb_X12_begins_26 σ o n x1 x3 w = some r → lt_J X 0 0 σ w 26 [(0, .ref (lt_z X + o)), (1, .int x1), (3, .int x3)] [] := by
  induction n with
  | zero => intro x1 x3 w hf; rw [fb_X12_begins_26] at hf; cases hf
  | succ n ih =>
    intro x1 x3 w hf
    rw [fb_X12_begins_26] at hf
    refine jr_iload_n hF dX12_begins_26 2 rfl rfl ?_
    refine jr_iload_n hF dX12_begins_27 1 rfl rfl ?_
    refine jr_icmp_ge (tgt := 49) hF dX12_begins_28 rfl hf (fun hf => ?_) (fun hf => ?_)
    · refine jr_aload_n hF dX12_begins_49 0 rfl rfl ?_
      refine jr_iconst (v := 0) hF dX12_begins_50 rfl ?_
      refine jr_putI hF pf_X12_121 h0 dX12_begins_51 ?_
      refine jr_letW hf (fun w1 hf => ?_)
      refine jr_aload_n hF dX12_begins_54 0 rfl rfl ?_
      refine jr_iconst (v := 0) hF dX12_begins_55 rfl ?_
      refine jr_putI hF pf_X12_167 h0 dX12_begins_56 ?_
      refine jr_letW hf (fun w2 hf => ?_)
      refine jr_aload_n hF dX12_begins_59 0 rfl rfl ?_
      refine jr_iconst (v := (-1)) hF dX12_begins_60 rfl ?_
      refine jr_putI hF pf_X12_41 h0 dX12_begins_61 ?_
      refine jr_letW hf (fun w3 hf => ?_)
      refine jr_aload_n hF dX12_begins_64 0 rfl rfl ?_
      refine jr_iconst (v := 0) hF dX12_begins_65 rfl ?_
      refine jr_putI hF pf_X12_130 h0 dX12_begins_66 ?_
      refine jr_letW hf (fun w4 hf => ?_)
      refine jr_aload_n hF dX12_begins_69 0 rfl rfl ?_
      refine jr_iconst (v := 0) hF dX12_begins_70 rfl ?_
      refine jr_putI hF pf_X12_170 h0 dX12_begins_71 ?_
      refine jr_letW hf (fun w5 hf => ?_)
      refine jr_aload_n hF dX12_begins_74 0 rfl rfl ?_
      obtain ⟨q6, hq6, hf⟩ := Option.bind_eq_some_iff.mp hf
      refine jr_cV0v hF ml_X12_173 (c_X12_ahead hT h0 hq6) h0 ⟨Nat.le_of_ble_eq_true rfl, Nat.le_of_ble_eq_true rfl⟩ (Nat.le_of_ble_eq_true rfl) dX12_begins_75 ?_
      refine jr_iconst (v := 1) hF dX12_begins_78 rfl ?_
      obtain rfl := Option.some.inj hf
      exact jr_zreturn hF hE (Or.inr rfl) dX12_begins_79
    · refine jr_aload_n hF dX12_begins_31 0 rfl rfl ?_
      refine jr_getRT (cr := 52) hF gf_X12_34 hT h0 rfl rfl dX12_begins_32 (fun th7 => ?_)
      refine jr_iload_n hF dX12_begins_35 2 rfl rfl ?_
      refine jr_aload_n hF dX12_begins_36 0 rfl rfl ?_
      refine jr_getRT (cr := 52) hF gf_X12_30 hT h0 rfl rfl dX12_begins_37 (fun th8 => ?_)
      refine jr_iload_n hF dX12_begins_40 2 rfl rfl ?_
      refine jr_baloadB hF th8 dX12_begins_41 hf (fun hf => ?_)
      refine jr_bastoreB hF th7 dX12_begins_42 hf (fun hf => ?_)
      refine jr_letW hf (fun w9 hf => ?_)
      refine jr_iinc (v := x3 + 1) (lv' := [(0, .ref (lt_z X + o)), (1, .int x1), (3, .int (x3 + 1))]) hF dX12_begins_43 2 rfl rfl (by decide) [1, 2, 0] rfl ?_
      refine jr_goto (tgt := 26) hF dX12_begins_46 rfl ?_
      exact ih _ _ _ hf
set_option maxRecDepth 100000 in
def fb_X12_begins_0 (σ : lt_S) (o : Nat) (x1 : Int32) (x2 : Int32) (w : lt_W) : Option (Int32 × lt_W) := if x1 < 0 then some (0, w) else if (lt_gi w o 10) < x1 then some (0, w) else if x1 ≤ x2 then lt_let (lt_si w o 11 x1) (fun w1 => fb_X12_begins_26 σ o lt_fu x1 0 w1) else some (0, w)
set_option maxHeartbeats 4000000 in
set_option maxRecDepth 100000 in
theorem jb_X12_begins_0 {X : lt_X} {σ : lt_S} (hT : lt_Wt σ) {o : Nat} (h0 : lt_c σ o = 12) {r : Int32 × lt_W} (hF : lt_F X cX12_begins RX12 4 (lt_rm 3)) (hE : lt_E X 0 0 σ (some .boolean) (some (.int r.1)) r.2) : ∀ (x1 : Int32) (x2 : Int32) (w : lt_W), fb_X12_begins_0 σ o x1 x2 w = some r → lt_J X 0 0 σ w 0 [(0, .ref (lt_z X + o)), (1, .int x1), (2, .int x2)] [] := by
  intro x1 x2 w hf
  unfold fb_X12_begins_0 at hf
  refine jr_iload_n hF dX12_begins_0 1 rfl rfl ?_
  refine jr_if_lt (tgt := 17) hF dX12_begins_1 rfl hf (fun hf => ?_) (fun hf => ?_)
  · refine jr_iconst (v := 0) hF dX12_begins_17 rfl ?_
    obtain rfl := Option.some.inj hf
    exact jr_zreturn hF hE (Or.inl rfl) dX12_begins_18
  · refine jr_iload_n hF dX12_begins_4 1 rfl rfl ?_
    refine jr_aload_n hF dX12_begins_5 0 rfl rfl ?_
    refine jr_getI hF gf_X12_121 h0 dX12_begins_6 ?_
    refine jr_icmp_gt (tgt := 17) hF dX12_begins_9 rfl hf (fun hf => ?_) (fun hf => ?_)
    · refine jr_iconst (v := 0) hF dX12_begins_17 rfl ?_
      obtain rfl := Option.some.inj hf
      exact jr_zreturn hF hE (Or.inl rfl) dX12_begins_18
    · refine jr_iload_n hF dX12_begins_12 1 rfl rfl ?_
      refine jr_iload_n hF dX12_begins_13 2 rfl rfl ?_
      refine jr_icmp_le (tgt := 19) hF dX12_begins_14 rfl hf (fun hf => ?_) (fun hf => ?_)
      · refine jr_aload_n hF dX12_begins_19 0 rfl rfl ?_
        refine jr_iload_n hF dX12_begins_20 1 rfl rfl ?_
        refine jr_putI hF pf_X12_127 h0 dX12_begins_21 ?_
        refine jr_letW hf (fun w1 hf => ?_)
        refine jr_iconst (v := 0) hF dX12_begins_24 rfl ?_
        refine jr_istore_n (lv' := [(0, .ref (lt_z X + o)), (1, .int x1), (3, .int 0)]) hF dX12_begins_25 rfl (by decide) [1, 2, 0] rfl ?_
        exact jb_X12_begins_26 hT h0 hF hE lt_fu _ _ _ hf
      · refine jr_iconst (v := 0) hF dX12_begins_17 rfl ?_
        obtain rfl := Option.some.inj hf
        exact jr_zreturn hF hE (Or.inl rfl) dX12_begins_18
def f_X12_begins (σ : lt_S) (o : Nat) (x1 : Int32) (x2 : Int32) (w : lt_W) : Option (Int32 × lt_W) := fb_X12_begins_0 σ o x1 x2 w
set_option maxRecDepth 100000 in
theorem c_X12_begins {l : Launch} {D : va_G} {gA : Nat → ClassId} {s0 : State} {σ : lt_S} (hT : lt_Wt σ) {o : Nat} (h0 : lt_c σ o = 12) {x1 : Int32} {x2 : Int32} {w : lt_W} {r : Int32 × lt_W} (hf : f_X12_begins σ o x1 x2 w = some r) : lt_C l D gA s0 yX12_begins cX12_begins 4 (some .boolean) (lt_rm 3) [.ref (s0.heap.size + o), .int x1, .int x2] σ w σ (some (.int r.1)) r.2 := by
  refine lt_enter rfl (Nat.le_of_ble_eq_true rfl) (fun X e1 e2 e3 e4 hF hE => ?_)
  subst e1 e2 e3 e4
  exact jb_X12_begins_0 hT h0 hF hE _ _ _ hf

set_option maxRecDepth 100000 in
def fb_X12_levelAt_0 (x0 : Int32) : Option Int32 := some (2200 + (60 * x0))
set_option maxHeartbeats 4000000 in
set_option maxRecDepth 100000 in
theorem jb_X12_levelAt_0 {X : lt_X} {σ : lt_S} {r : Int32} {w : lt_W} (hF : lt_F X cX12_levelAt RX12 1 (lt_rm 1)) (hE : lt_E X 0 0 σ (some .int) (some (.int r)) w) : ∀ (x0 : Int32), fb_X12_levelAt_0 x0 = some r → lt_J X 0 0 σ w 0 [(0, .int x0)] [] := by
  intro x0 hf
  unfold fb_X12_levelAt_0 at hf
  refine jr_sipush (v := 2200) hF dX12_levelAt_0 rfl ?_
  refine jr_bipush (v := 60) hF dX12_levelAt_3 rfl ?_
  refine jr_iload_n hF dX12_levelAt_5 0 rfl rfl ?_
  refine jr_imul hF dX12_levelAt_6 ?_
  refine jr_iadd hF dX12_levelAt_7 ?_
  obtain rfl := Option.some.inj hf
  exact jr_ireturn hF hE dX12_levelAt_8
def f_X12_levelAt (x0 : Int32) : Option Int32 := fb_X12_levelAt_0 x0
set_option maxRecDepth 100000 in
theorem c_X12_levelAt {l : Launch} {D : va_G} {gA : Nat → ClassId} {s0 : State} {σ : lt_S} {x0 : Int32} {w : lt_W} {r : Int32} (hf : f_X12_levelAt x0 = some r) : lt_C l D gA s0 yX12_levelAt cX12_levelAt 1 (some .int) (lt_rm 1) [.int x0] σ w σ (some (.int r)) w := by
  refine lt_enter rfl (Nat.le_of_ble_eq_true rfl) (fun X e1 e2 e3 e4 hF hE => ?_)
  subst e1 e2 e3 e4
  exact jb_X12_levelAt_0 hF hE _ hf

set_option maxRecDepth 100000 in
def fb_X12_beginsAt_0 (σ : lt_S) (o : Nat) (x1 : Int32) (w : lt_W) : Option lt_W := Option.bind (f_X12_levelAt x1) (fun q1 => Option.bind (f_X12_keeps σ o q1 w) (fun q2 => lt_ck x1 (lt_len σ (lt_r σ o 24)) (lt_let (lt_si q2 (lt_r σ o 24) x1.toNatClampNeg (-1)) (fun w4 => lt_ck x1 (lt_len σ (lt_r σ o 33)) (lt_let (lt_si w4 (lt_r σ o 33) x1.toNatClampNeg (-1)) (fun w6 => some w6))))))
set_option maxHeartbeats 4000000 in
set_option maxRecDepth 100000 in
theorem jb_X12_beginsAt_0 {X : lt_X} {σ : lt_S} (hT : lt_Wt σ) {o : Nat} (h0 : lt_c σ o = 12) {r : lt_W} (hF : lt_F X cX12_beginsAt RX12 2 (lt_rm 2)) (hE : lt_E X 0 0 σ none none r) : ∀ (x1 : Int32) (w : lt_W), fb_X12_beginsAt_0 σ o x1 w = some r → lt_J X 0 0 σ w 0 [(0, .ref (lt_z X + o)), (1, .int x1)] [] := by
  intro x1 w hf
  unfold fb_X12_beginsAt_0 at hf
  refine jr_aload_n hF dX12_beginsAt_0 0 rfl rfl ?_
  refine jr_iload_n hF dX12_beginsAt_1 1 rfl rfl ?_
  obtain ⟨q1, hq1, hf⟩ := Option.bind_eq_some_iff.mp hf
  refine jr_cS11 hF ml_X12_343 (c_X12_levelAt hq1) ⟨Nat.le_of_ble_eq_true rfl, Nat.le_of_ble_eq_true rfl⟩ (Nat.le_of_ble_eq_true rfl) dX12_beginsAt_2 ?_
  obtain ⟨q2, hq2, hf⟩ := Option.bind_eq_some_iff.mp hf
  refine jr_cV1v hF ml_X12_334 (c_X12_keeps hT h0 hq2) h0 ⟨Nat.le_of_ble_eq_true rfl, Nat.le_of_ble_eq_true rfl⟩ (Nat.le_of_ble_eq_true rfl) dX12_beginsAt_5 ?_
  refine jr_aload_n hF dX12_beginsAt_8 0 rfl rfl ?_
  refine jr_getRT (cr := 50) hF gf_X12_47 hT h0 rfl rfl dX12_beginsAt_9 (fun th3 => ?_)
  refine jr_iload_n hF dX12_beginsAt_12 1 rfl rfl ?_
  refine jr_iconst (v := (-1)) hF dX12_beginsAt_13 rfl ?_
  refine jr_iastore hF th3 dX12_beginsAt_14 hf (fun hf => ?_)
  refine jr_letW hf (fun w4 hf => ?_)
  refine jr_aload_n hF dX12_beginsAt_15 0 rfl rfl ?_
  refine jr_getRT (cr := 50) hF gf_X12_75 hT h0 rfl rfl dX12_beginsAt_16 (fun th5 => ?_)
  refine jr_iload_n hF dX12_beginsAt_19 1 rfl rfl ?_
  refine jr_iconst (v := (-1)) hF dX12_beginsAt_20 rfl ?_
  refine jr_iastore hF th5 dX12_beginsAt_21 hf (fun hf => ?_)
  refine jr_letW hf (fun w6 hf => ?_)
  obtain rfl := Option.some.inj hf
  exact jr_return hF hE dX12_beginsAt_22
def f_X12_beginsAt (σ : lt_S) (o : Nat) (x1 : Int32) (w : lt_W) : Option lt_W := fb_X12_beginsAt_0 σ o x1 w
set_option maxRecDepth 100000 in
theorem c_X12_beginsAt {l : Launch} {D : va_G} {gA : Nat → ClassId} {s0 : State} {σ : lt_S} (hT : lt_Wt σ) {o : Nat} (h0 : lt_c σ o = 12) {x1 : Int32} {w : lt_W} {r : lt_W} (hf : f_X12_beginsAt σ o x1 w = some r) : lt_C l D gA s0 yX12_beginsAt cX12_beginsAt 2 none (lt_rm 2) [.ref (s0.heap.size + o), .int x1] σ w σ none r := by
  refine lt_enter rfl (Nat.le_of_ble_eq_true rfl) (fun X e1 e2 e3 e4 hF hE => ?_)
  subst e1 e2 e3 e4
  exact jb_X12_beginsAt_0 hT h0 hF hE _ _ hf

set_option maxRecDepth 100000 in
def fb_X12_behindEnds_95 (σ : lt_S) (o : Nat) (k2 : Int32 → lt_W → Option (Int32 × lt_W)) (x2 : Int32) (x3 : Int32) (x4 : Int32) (y0 : Nat) (y1 : Int32) (y2 : Int32) (y3 : Int32) (w : lt_W) : Option (Int32 × lt_W) := lt_ck y1 (lt_len σ y0) (lt_let (lt_si w y0 y1.toNatClampNeg (y2 - y3)) (fun w1 => if x4 = 0 then k2 (x2 + 1) w1 else k2 (x3 + 1) w1))
set_option maxHeartbeats 4000000 in
set_option maxRecDepth 100000 in
theorem jb_X12_behindEnds_95 {X : lt_X} {σ : lt_S} (hT : lt_Wt σ) {o : Nat} (h0 : lt_c σ o = 12) {r : Int32 × lt_W} {k2 : Int32 → lt_W → Option (Int32 × lt_W)} (hF : lt_F X cX12_behindEnds RX12 5 (lt_rm 1)) (hE : lt_E X 0 0 σ (some .int) (some (.int r.1)) r.2) (hk2 : ∀ (x2 : Int32) (w : lt_W), k2 x2 w = some r → lt_J X 0 0 σ w 2 [(0, .ref (lt_z X + o)), (2, .int x2)] []) : ∀ (x2 : Int32) (x3 : Int32) (x4 : Int32) (y0 : Nat) (y1 : Int32) (y2 : Int32) (y3 : Int32) (w : lt_W), lt_c σ y0 = 50 → fb_X12_behindEnds_95 σ o k2 x2 x3 x4 y0 y1 y2 y3 w = some r → lt_J X 0 0 σ w 95 [(0, .ref (lt_z X + o)), (2, .int x2), (3, .int x3), (4, .int x4)] [.int y3, .int y2, .int y1, .ref (lt_z X + y0)] := by
  intro x2 x3 x4 y0 y1 y2 y3 w u0 hf
  unfold fb_X12_behindEnds_95 at hf
  refine jr_isub hF dX12_behindEnds_95 ?_
  refine jr_iastore hF u0 dX12_behindEnds_96 hf (fun hf => ?_)
  refine jr_letW hf (fun w1 hf => ?_)
  refine jr_iload hF dX12_behindEnds_97 3 rfl ?_
  refine jr_if_eq (tgt := 108) hF dX12_behindEnds_99 rfl hf (fun hf => ?_) (fun hf => ?_)
  · refine jr_iload_n hF dX12_behindEnds_108 1 rfl rfl ?_
    refine jr_iconst (v := 1) hF dX12_behindEnds_109 rfl ?_
    refine jr_iadd hF dX12_behindEnds_110 ?_
    refine jr_istore_n (lv' := [(0, .ref (lt_z X + o)), (2, .int (x2 + 1))]) hF dX12_behindEnds_111 rfl (by decide) [1, 0] rfl ?_
    refine jr_goto (tgt := 2) hF dX12_behindEnds_112 rfl ?_
    exact hk2 _ _ hf
  · refine jr_iload_n hF dX12_behindEnds_102 2 rfl rfl ?_
    refine jr_iconst (v := 1) hF dX12_behindEnds_103 rfl ?_
    refine jr_iadd hF dX12_behindEnds_104 ?_
    refine jr_goto (tgt := 111) hF dX12_behindEnds_105 rfl ?_
    refine jr_istore_n (lv' := [(0, .ref (lt_z X + o)), (2, .int (x3 + 1))]) hF dX12_behindEnds_111 rfl (by decide) [1, 0] rfl ?_
    refine jr_goto (tgt := 2) hF dX12_behindEnds_112 rfl ?_
    exact hk2 _ _ hf
set_option maxRecDepth 100000 in
def fb_X12_behindEnds_76 (σ : lt_S) (o : Nat) (k2 : Int32 → lt_W → Option (Int32 × lt_W)) (x2 : Int32) (x3 : Int32) (y0 : Int32) (w : lt_W) : Option (Int32 × lt_W) := lt_ck x3 (lt_len σ (lt_r σ o 36)) (if y0 = 0 then fb_X12_behindEnds_95 σ o k2 x2 x3 y0 (lt_r σ o 36) x3 (lt_gi w (lt_r σ o 36) x3.toNatClampNeg) 0 w else fb_X12_behindEnds_95 σ o k2 x2 x3 y0 (lt_r σ o 36) x3 (lt_gi w (lt_r σ o 36) x3.toNatClampNeg) 1 w)
set_option maxHeartbeats 4000000 in
set_option maxRecDepth 100000 in
theorem jb_X12_behindEnds_76 {X : lt_X} {σ : lt_S} (hT : lt_Wt σ) {o : Nat} (h0 : lt_c σ o = 12) {r : Int32 × lt_W} {k2 : Int32 → lt_W → Option (Int32 × lt_W)} (hF : lt_F X cX12_behindEnds RX12 5 (lt_rm 1)) (hE : lt_E X 0 0 σ (some .int) (some (.int r.1)) r.2) (hk2 : ∀ (x2 : Int32) (w : lt_W), k2 x2 w = some r → lt_J X 0 0 σ w 2 [(0, .ref (lt_z X + o)), (2, .int x2)] []) : ∀ (x2 : Int32) (x3 : Int32) (y0 : Int32) (w : lt_W), fb_X12_behindEnds_76 σ o k2 x2 x3 y0 w = some r → lt_J X 0 0 σ w 76 [(0, .ref (lt_z X + o)), (2, .int x2), (3, .int x3)] [.int y0] := by
  intro x2 x3 y0 w hf
  unfold fb_X12_behindEnds_76 at hf
  refine jr_istore (lv' := [(0, .ref (lt_z X + o)), (2, .int x2), (3, .int x3), (4, .int y0)]) hF dX12_behindEnds_76 (by decide) [1, 2, 3, 0] rfl ?_
  refine jr_aload_n hF dX12_behindEnds_78 0 rfl rfl ?_
  refine jr_getRT (cr := 50) hF gf_X12_78 hT h0 rfl rfl dX12_behindEnds_79 (fun th1 => ?_)
  refine jr_iload_n hF dX12_behindEnds_82 2 rfl rfl ?_
  refine jr_dup2 hF dX12_behindEnds_83 rfl rfl ?_
  refine jr_iaload hF th1 dX12_behindEnds_84 hf (fun hf => ?_)
  refine jr_iload hF dX12_behindEnds_85 3 rfl ?_
  refine jr_if_eq (tgt := 94) hF dX12_behindEnds_87 rfl hf (fun hf => ?_) (fun hf => ?_)
  · refine jr_iconst (v := 0) hF dX12_behindEnds_94 rfl ?_
    exact jb_X12_behindEnds_95 hT h0 hF hE hk2 _ _ _ _ _ _ _ _ th1 hf
  · refine jr_iconst (v := 1) hF dX12_behindEnds_90 rfl ?_
    refine jr_goto (tgt := 95) hF dX12_behindEnds_91 rfl ?_
    exact jb_X12_behindEnds_95 hT h0 hF hE hk2 _ _ _ _ _ _ _ _ th1 hf
set_option maxRecDepth 100000 in
def fb_X12_behindEnds_75 (σ : lt_S) (o : Nat) (k2 : Int32 → lt_W → Option (Int32 × lt_W)) (x2 : Int32) (x3 : Int32) (w : lt_W) : Option (Int32 × lt_W) := fb_X12_behindEnds_76 σ o k2 x2 x3 0 w
set_option maxHeartbeats 4000000 in
set_option maxRecDepth 100000 in
theorem jb_X12_behindEnds_75 {X : lt_X} {σ : lt_S} (hT : lt_Wt σ) {o : Nat} (h0 : lt_c σ o = 12) {r : Int32 × lt_W} {k2 : Int32 → lt_W → Option (Int32 × lt_W)} (hF : lt_F X cX12_behindEnds RX12 5 (lt_rm 1)) (hE : lt_E X 0 0 σ (some .int) (some (.int r.1)) r.2) (hk2 : ∀ (x2 : Int32) (w : lt_W), k2 x2 w = some r → lt_J X 0 0 σ w 2 [(0, .ref (lt_z X + o)), (2, .int x2)] []) : ∀ (x2 : Int32) (x3 : Int32) (w : lt_W), fb_X12_behindEnds_75 σ o k2 x2 x3 w = some r → lt_J X 0 0 σ w 75 [(0, .ref (lt_z X + o)), (2, .int x2), (3, .int x3)] [] := by
  intro x2 x3 w hf
  unfold fb_X12_behindEnds_75 at hf
  refine jr_iconst (v := 0) hF dX12_behindEnds_75 rfl ?_
  exact jb_X12_behindEnds_76 hT h0 hF hE hk2 _ _ _ _ hf
set_option maxRecDepth 100000 in
def fb_X12_behindEnds_2 (σ : lt_S) (o : Nat) : Nat → Int32 → lt_W → Option (Int32 × lt_W)
  | 0, _, _ => none
  | n + 1, x2, w => lt_ck 8 (lt_len σ (lt_r σ o 0)) (if (lt_gi w (lt_r σ o 0) (8 : Int32).toNatClampNeg) ≤ x2 then some (x2, w) else lt_ck (60 + (6 * x2)) (lt_len σ (lt_r σ o 0)) (if (lt_gi w (lt_r σ o 0) (60 + (6 * x2)).toNatClampNeg) = 18 then lt_ck ((60 + (6 * x2)) + 4) (lt_len σ (lt_r σ o 0)) (lt_let (lt_gi w (lt_r σ o 0) ((60 + (6 * x2)) + 4).toNatClampNeg) (fun z4 => lt_ck (60 + (6 * z4)) (lt_len σ (lt_r σ o 0)) (if (lt_gi w (lt_r σ o 0) (60 + (6 * z4)).toNatClampNeg) = 17 then lt_ck z4 (lt_len σ (lt_r σ o 36)) (if (lt_gi w (lt_r σ o 36) z4.toNatClampNeg) ≤ 0 then fb_X12_behindEnds_75 σ o (fun x2 w => fb_X12_behindEnds_2 σ o n x2 w) x2 z4 w else fb_X12_behindEnds_76 σ o (fun x2 w => fb_X12_behindEnds_2 σ o n x2 w) x2 z4 1 w) else fb_X12_behindEnds_75 σ o (fun x2 w => fb_X12_behindEnds_2 σ o n x2 w) x2 z4 w))) else some (x2, w)))
set_option maxHeartbeats 4000000 in
set_option maxRecDepth 100000 in
theorem jb_X12_behindEnds_2 {X : lt_X} {σ : lt_S} (hT : lt_Wt σ) {o : Nat} (h0 : lt_c σ o = 12) {r : Int32 × lt_W} (hF : lt_F X cX12_behindEnds RX12 5 (lt_rm 1)) (hE : lt_E X 0 0 σ (some .int) (some (.int r.1)) r.2) (n : Nat) : ∀ (x2 : Int32) (w : lt_W), fb_X12_behindEnds_2 σ o n x2 w = some r → lt_J X 0 0 σ w 2 [(0, .ref (lt_z X + o)), (2, .int x2)] [] := by
  induction n with
  | zero => intro x2 w hf; rw [fb_X12_behindEnds_2] at hf; cases hf
  | succ n ih =>
    intro x2 w hf
    rw [fb_X12_behindEnds_2] at hf
    refine jr_iload_n hF dX12_behindEnds_2 1 rfl rfl ?_
    refine jr_aload_n hF dX12_behindEnds_3 0 rfl rfl ?_
    refine jr_getRT (cr := 50) hF gf_X12_7 hT h0 rfl rfl dX12_behindEnds_4 (fun th1 => ?_)
    refine jr_bipush (v := 8) hF dX12_behindEnds_7 rfl ?_
    refine jr_iaload hF th1 dX12_behindEnds_9 hf (fun hf => ?_)
    refine jr_icmp_ge (tgt := 115) hF dX12_behindEnds_10 rfl hf (fun hf => ?_) (fun hf => ?_)
    · refine jr_iload_n hF dX12_behindEnds_115 1 rfl rfl ?_
      obtain rfl := Option.some.inj hf
      exact jr_ireturn hF hE dX12_behindEnds_116
    · refine jr_aload_n hF dX12_behindEnds_13 0 rfl rfl ?_
      refine jr_getRT (cr := 50) hF gf_X12_7 hT h0 rfl rfl dX12_behindEnds_14 (fun th2 => ?_)
      refine jr_bipush (v := 60) hF dX12_behindEnds_17 rfl ?_
      refine jr_bipush (v := 6) hF dX12_behindEnds_19 rfl ?_
      refine jr_iload_n hF dX12_behindEnds_21 1 rfl rfl ?_
      refine jr_imul hF dX12_behindEnds_22 ?_
      refine jr_iadd hF dX12_behindEnds_23 ?_
      refine jr_iaload hF th2 dX12_behindEnds_24 hf (fun hf => ?_)
      refine jr_bipush (v := 18) hF dX12_behindEnds_25 rfl ?_
      refine jr_icmp_ne (tgt := 115) hF dX12_behindEnds_27 rfl hf (fun hf => ?_) (fun hf => ?_)
      · refine jr_iload_n hF dX12_behindEnds_115 1 rfl rfl ?_
        obtain rfl := Option.some.inj hf
        exact jr_ireturn hF hE dX12_behindEnds_116
      · refine jr_aload_n hF dX12_behindEnds_30 0 rfl rfl ?_
        refine jr_getRT (cr := 50) hF gf_X12_7 hT h0 rfl rfl dX12_behindEnds_31 (fun th3 => ?_)
        refine jr_bipush (v := 60) hF dX12_behindEnds_34 rfl ?_
        refine jr_bipush (v := 6) hF dX12_behindEnds_36 rfl ?_
        refine jr_iload_n hF dX12_behindEnds_38 1 rfl rfl ?_
        refine jr_imul hF dX12_behindEnds_39 ?_
        refine jr_iadd hF dX12_behindEnds_40 ?_
        refine jr_iconst (v := 4) hF dX12_behindEnds_41 rfl ?_
        refine jr_iadd hF dX12_behindEnds_42 ?_
        refine jr_iaload hF th3 dX12_behindEnds_43 hf (fun hf => ?_)
        refine jr_letI hf (fun z4 hf => ?_)
        refine jr_istore_n (lv' := [(0, .ref (lt_z X + o)), (2, .int x2), (3, .int z4)]) hF dX12_behindEnds_44 rfl (by decide) [1, 2, 0] rfl ?_
        refine jr_aload_n hF dX12_behindEnds_45 0 rfl rfl ?_
        refine jr_getRT (cr := 50) hF gf_X12_7 hT h0 rfl rfl dX12_behindEnds_46 (fun th5 => ?_)
        refine jr_bipush (v := 60) hF dX12_behindEnds_49 rfl ?_
        refine jr_bipush (v := 6) hF dX12_behindEnds_51 rfl ?_
        refine jr_iload_n hF dX12_behindEnds_53 2 rfl rfl ?_
        refine jr_imul hF dX12_behindEnds_54 ?_
        refine jr_iadd hF dX12_behindEnds_55 ?_
        refine jr_iaload hF th5 dX12_behindEnds_56 hf (fun hf => ?_)
        refine jr_bipush (v := 17) hF dX12_behindEnds_57 rfl ?_
        refine jr_icmp_ne (tgt := 75) hF dX12_behindEnds_59 rfl hf (fun hf => ?_) (fun hf => ?_)
        · exact jb_X12_behindEnds_75 hT h0 hF hE ih _ _ _ hf
        · refine jr_aload_n hF dX12_behindEnds_62 0 rfl rfl ?_
          refine jr_getRT (cr := 50) hF gf_X12_78 hT h0 rfl rfl dX12_behindEnds_63 (fun th6 => ?_)
          refine jr_iload_n hF dX12_behindEnds_66 2 rfl rfl ?_
          refine jr_iaload hF th6 dX12_behindEnds_67 hf (fun hf => ?_)
          refine jr_if_le (tgt := 75) hF dX12_behindEnds_68 rfl hf (fun hf => ?_) (fun hf => ?_)
          · exact jb_X12_behindEnds_75 hT h0 hF hE ih _ _ _ hf
          · refine jr_iconst (v := 1) hF dX12_behindEnds_71 rfl ?_
            refine jr_goto (tgt := 76) hF dX12_behindEnds_72 rfl ?_
            exact jb_X12_behindEnds_76 hT h0 hF hE ih _ _ _ _ hf
set_option maxRecDepth 100000 in
def fb_X12_behindEnds_0 (σ : lt_S) (o : Nat) (x1 : Int32) (w : lt_W) : Option (Int32 × lt_W) := fb_X12_behindEnds_2 σ o lt_fu x1 w
set_option maxHeartbeats 4000000 in
set_option maxRecDepth 100000 in
theorem jb_X12_behindEnds_0 {X : lt_X} {σ : lt_S} (hT : lt_Wt σ) {o : Nat} (h0 : lt_c σ o = 12) {r : Int32 × lt_W} (hF : lt_F X cX12_behindEnds RX12 5 (lt_rm 1)) (hE : lt_E X 0 0 σ (some .int) (some (.int r.1)) r.2) : ∀ (x1 : Int32) (w : lt_W), fb_X12_behindEnds_0 σ o x1 w = some r → lt_J X 0 0 σ w 0 [(0, .ref (lt_z X + o)), (1, .int x1)] [] := by
  intro x1 w hf
  unfold fb_X12_behindEnds_0 at hf
  refine jr_iload_n hF dX12_behindEnds_0 1 rfl rfl ?_
  refine jr_istore_n (lv' := [(0, .ref (lt_z X + o)), (2, .int x1)]) hF dX12_behindEnds_1 rfl (by decide) [1, 0] rfl ?_
  exact jb_X12_behindEnds_2 hT h0 hF hE lt_fu _ _ hf
def f_X12_behindEnds (σ : lt_S) (o : Nat) (x1 : Int32) (w : lt_W) : Option (Int32 × lt_W) := fb_X12_behindEnds_0 σ o x1 w
set_option maxRecDepth 100000 in
theorem c_X12_behindEnds {l : Launch} {D : va_G} {gA : Nat → ClassId} {s0 : State} {σ : lt_S} (hT : lt_Wt σ) {o : Nat} (h0 : lt_c σ o = 12) {x1 : Int32} {w : lt_W} {r : Int32 × lt_W} (hf : f_X12_behindEnds σ o x1 w = some r) : lt_C l D gA s0 yX12_behindEnds cX12_behindEnds 5 (some .int) (lt_rm 1) [.ref (s0.heap.size + o), .int x1] σ w σ (some (.int r.1)) r.2 := by
  refine lt_enter rfl (Nat.le_of_ble_eq_true rfl) (fun X e1 e2 e3 e4 hF hE => ?_)
  subst e1 e2 e3 e4
  exact jb_X12_behindEnds_0 hT h0 hF hE _ _ hf

set_option maxRecDepth 100000 in
def fb_X12_bottom_0 (σ : lt_S) (o : Nat) (w : lt_W) : Option Int64 := some (lt_gl w o 4)
set_option maxHeartbeats 4000000 in
set_option maxRecDepth 100000 in
theorem jb_X12_bottom_0 {X : lt_X} {σ : lt_S} {o : Nat} (h0 : lt_c σ o = 12) {r : Int64} {w : lt_W} (hF : lt_F X cX12_bottom RX12 1 (lt_rm 1)) (hE : lt_E X 0 0 σ (some .long) (some (.long r)) w) : fb_X12_bottom_0 σ o w = some r → lt_J X 0 0 σ w 0 [(0, .ref (lt_z X + o))] [] := by
  intro  hf
  unfold fb_X12_bottom_0 at hf
  refine jr_aload_n hF dX12_bottom_0 0 rfl rfl ?_
  refine jr_getL hF gf_X12_17 h0 dX12_bottom_1 ?_
  obtain rfl := Option.some.inj hf
  exact jr_lreturn hF hE dX12_bottom_4
def f_X12_bottom (σ : lt_S) (o : Nat) (w : lt_W) : Option Int64 := fb_X12_bottom_0 σ o w
set_option maxRecDepth 100000 in
theorem c_X12_bottom {l : Launch} {D : va_G} {gA : Nat → ClassId} {s0 : State} {σ : lt_S} {o : Nat} (h0 : lt_c σ o = 12) {w : lt_W} {r : Int64} (hf : f_X12_bottom σ o w = some r) : lt_C l D gA s0 yX12_bottom cX12_bottom 1 (some .long) (lt_rm 1) [.ref (s0.heap.size + o)] σ w σ (some (.long r)) w := by
  refine lt_enter rfl (Nat.le_of_ble_eq_true rfl) (fun X e1 e2 e3 e4 hF hE => ?_)
  subst e1 e2 e3 e4
  exact jb_X12_bottom_0 h0 hF hE hf

set_option maxRecDepth 100000 in
def fb_X12_passes_16 (σ : lt_S) (o : Nat) (x1 : Int32) (x2 : Int32) (y0 : Int32) (w : lt_W) : Option (Int32 × lt_W) := Option.bind (f_X12_guestRow x1) (fun q2 => lt_ck (q2 + 6) (lt_len σ (lt_r σ o 0)) (lt_let (lt_si w (lt_r σ o 0) (q2 + 6).toNatClampNeg x2) (fun w3 => lt_bz y0 (some (y0, w3)))))
set_option maxHeartbeats 4000000 in
set_option maxRecDepth 100000 in
theorem jb_X12_passes_16 {X : lt_X} {σ : lt_S} (hT : lt_Wt σ) {o : Nat} (h0 : lt_c σ o = 12) {r : Int32 × lt_W} (hF : lt_F X cX12_passes RX12 4 (lt_rm 3)) (hE : lt_E X 0 0 σ (some .boolean) (some (.int r.1)) r.2) : ∀ (x1 : Int32) (x2 : Int32) (y0 : Int32) (w : lt_W), fb_X12_passes_16 σ o x1 x2 y0 w = some r → lt_J X 0 0 σ w 16 [(0, .ref (lt_z X + o)), (1, .int x1), (2, .int x2)] [.int y0] := by
  intro x1 x2 y0 w hf
  unfold fb_X12_passes_16 at hf
  refine jr_istore_n (lv' := [(0, .ref (lt_z X + o)), (1, .int x1), (2, .int x2), (3, .int y0)]) hF dX12_passes_16 rfl (by decide) [1, 2, 3, 0] rfl ?_
  refine jr_aload_n hF dX12_passes_17 0 rfl rfl ?_
  refine jr_getRT (cr := 50) hF gf_X12_7 hT h0 rfl rfl dX12_passes_18 (fun th1 => ?_)
  refine jr_iload_n hF dX12_passes_21 1 rfl rfl ?_
  obtain ⟨q2, hq2, hf⟩ := Option.bind_eq_some_iff.mp hf
  refine jr_cS11 hF ml_X12_192 (c_X12_guestRow hq2) ⟨Nat.le_of_ble_eq_true rfl, Nat.le_of_ble_eq_true rfl⟩ (Nat.le_of_ble_eq_true rfl) dX12_passes_22 ?_
  refine jr_bipush (v := 6) hF dX12_passes_25 rfl ?_
  refine jr_iadd hF dX12_passes_27 ?_
  refine jr_iload_n hF dX12_passes_28 2 rfl rfl ?_
  refine jr_iastore hF th1 dX12_passes_29 hf (fun hf => ?_)
  refine jr_letW hf (fun w3 hf => ?_)
  refine jr_iload_n hF dX12_passes_30 3 rfl rfl ?_
  obtain ⟨b4, hf⟩ := lt_bzE hf
  obtain rfl := Option.some.inj hf
  exact jr_zreturn hF hE b4 dX12_passes_31
set_option maxRecDepth 100000 in
def fb_X12_passes_0 (σ : lt_S) (o : Nat) (x1 : Int32) (x2 : Int32) (w : lt_W) : Option (Int32 × lt_W) := Option.bind (f_X12_guestOf σ o x1 6 w) (fun q1 => if q1 = x2 then fb_X12_passes_16 σ o x1 x2 0 w else fb_X12_passes_16 σ o x1 x2 1 w)
set_option maxHeartbeats 4000000 in
set_option maxRecDepth 100000 in
theorem jb_X12_passes_0 {X : lt_X} {σ : lt_S} (hT : lt_Wt σ) {o : Nat} (h0 : lt_c σ o = 12) {r : Int32 × lt_W} (hF : lt_F X cX12_passes RX12 4 (lt_rm 3)) (hE : lt_E X 0 0 σ (some .boolean) (some (.int r.1)) r.2) : ∀ (x1 : Int32) (x2 : Int32) (w : lt_W), fb_X12_passes_0 σ o x1 x2 w = some r → lt_J X 0 0 σ w 0 [(0, .ref (lt_z X + o)), (1, .int x1), (2, .int x2)] [] := by
  intro x1 x2 w hf
  unfold fb_X12_passes_0 at hf
  refine jr_aload_n hF dX12_passes_0 0 rfl rfl ?_
  refine jr_iload_n hF dX12_passes_1 1 rfl rfl ?_
  refine jr_bipush (v := 6) hF dX12_passes_2 rfl ?_
  obtain ⟨q1, hq1, hf⟩ := Option.bind_eq_some_iff.mp hf
  refine jr_cV21 hF ml_X12_269 (c_X12_guestOf hT h0 hq1) h0 ⟨Nat.le_of_ble_eq_true rfl, Nat.le_of_ble_eq_true rfl⟩ (Nat.le_of_ble_eq_true rfl) dX12_passes_4 ?_
  refine jr_iload_n hF dX12_passes_7 2 rfl rfl ?_
  refine jr_icmp_eq (tgt := 15) hF dX12_passes_8 rfl hf (fun hf => ?_) (fun hf => ?_)
  · refine jr_iconst (v := 0) hF dX12_passes_15 rfl ?_
    exact jb_X12_passes_16 hT h0 hF hE _ _ _ _ hf
  · refine jr_iconst (v := 1) hF dX12_passes_11 rfl ?_
    refine jr_goto (tgt := 16) hF dX12_passes_12 rfl ?_
    exact jb_X12_passes_16 hT h0 hF hE _ _ _ _ hf
def f_X12_passes (σ : lt_S) (o : Nat) (x1 : Int32) (x2 : Int32) (w : lt_W) : Option (Int32 × lt_W) := fb_X12_passes_0 σ o x1 x2 w
set_option maxRecDepth 100000 in
theorem c_X12_passes {l : Launch} {D : va_G} {gA : Nat → ClassId} {s0 : State} {σ : lt_S} (hT : lt_Wt σ) {o : Nat} (h0 : lt_c σ o = 12) {x1 : Int32} {x2 : Int32} {w : lt_W} {r : Int32 × lt_W} (hf : f_X12_passes σ o x1 x2 w = some r) : lt_C l D gA s0 yX12_passes cX12_passes 4 (some .boolean) (lt_rm 3) [.ref (s0.heap.size + o), .int x1, .int x2] σ w σ (some (.int r.1)) r.2 := by
  refine lt_enter rfl (Nat.le_of_ble_eq_true rfl) (fun X e1 e2 e3 e4 hF hE => ?_)
  subst e1 e2 e3 e4
  exact jb_X12_passes_0 hT h0 hF hE _ _ _ hf
