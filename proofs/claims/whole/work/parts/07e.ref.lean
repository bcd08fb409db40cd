set_option maxRecDepth 100000 in
def fb_X12_wrongPlace_0 (σ : lt_S) (o : Nat) (w : lt_W) (x1 : Int32) (x2 : Int32) : Option Int32 := Option.bind (f_X12_isTray x1) (fun q1 => if q1 = 0 then some 1 else lt_ck x1 (lt_len σ (lt_r σ o 6)) (if (lt_gi w (lt_r σ o 6) x1.toNatClampNeg) = (-1) then some 2 else if x2 < 0 then some 3 else lt_ck x1 (lt_len σ (lt_r σ o 6)) (if x2 < (lt_gi w (lt_r σ o 6) x1.toNatClampNeg) then some 0 else some 3)))
set_option maxHeartbeats 4000000 in
set_option maxRecDepth 100000 in
theorem jb_X12_wrongPlace_0 {X : lt_X} {σ : lt_S} (hT : lt_Wt σ) {o : Nat} (h0 : lt_c σ o = 12) {r : Int32} {w : lt_W} (hF : lt_F X cX12_wrongPlace RX12 3 (lt_rm 2)) (hE : lt_E X 0 0 σ (some .int) (some (.int r)) w) : ∀ (x1 : Int32) (x2 : Int32), fb_X12_wrongPlace_0 σ o w x1 x2 = some r → lt_J X 0 0 σ w 0 [(0, .ref (lt_z X + o)), (1, .int x1), (2, .int x2)] [] := by
  intro x1 x2 hf
  unfold fb_X12_wrongPlace_0 at hf
  refine jr_iload_n hF dX12_wrongPlace_0 1 rfl rfl ?_
  obtain ⟨q1, hq1, hf⟩ := Option.bind_eq_some_iff.mp hf
  refine jr_cS11 hF ml_X12_108 (c_X12_isTray hq1) ⟨Nat.le_of_ble_eq_true rfl, Nat.le_of_ble_eq_true rfl⟩ (Nat.le_of_ble_eq_true rfl) dX12_wrongPlace_1 ?_
  refine jr_if_ne (tgt := 11) hF dX12_wrongPlace_4 rfl hf (fun hf => ?_) (fun hf => ?_)
  · refine jr_aload_n hF dX12_wrongPlace_11 0 rfl rfl ?_
    refine jr_getRT (cr := 50) hF gf_X12_24 hT h0 rfl rfl dX12_wrongPlace_12 (fun th2 => ?_)
    refine jr_iload_n hF dX12_wrongPlace_15 1 rfl rfl ?_
    refine jr_iaload hF th2 dX12_wrongPlace_16 hf (fun hf => ?_)
    refine jr_iconst (v := (-1)) hF dX12_wrongPlace_17 rfl ?_
    refine jr_icmp_ne (tgt := 25) hF dX12_wrongPlace_18 rfl hf (fun hf => ?_) (fun hf => ?_)
    · refine jr_iload_n hF dX12_wrongPlace_25 2 rfl rfl ?_
      refine jr_if_lt (tgt := 39) hF dX12_wrongPlace_26 rfl hf (fun hf => ?_) (fun hf => ?_)
      · refine jr_iconst (v := 3) hF dX12_wrongPlace_39 rfl ?_
        refine jr_goto (tgt := 44) hF dX12_wrongPlace_40 rfl ?_
        obtain rfl := Option.some.inj hf
        exact jr_ireturn hF hE dX12_wrongPlace_44
      · refine jr_iload_n hF dX12_wrongPlace_29 2 rfl rfl ?_
        refine jr_aload_n hF dX12_wrongPlace_30 0 rfl rfl ?_
        refine jr_getRT (cr := 50) hF gf_X12_24 hT h0 rfl rfl dX12_wrongPlace_31 (fun th3 => ?_)
        refine jr_iload_n hF dX12_wrongPlace_34 1 rfl rfl ?_
        refine jr_iaload hF th3 dX12_wrongPlace_35 hf (fun hf => ?_)
        refine jr_icmp_lt (tgt := 43) hF dX12_wrongPlace_36 rfl hf (fun hf => ?_) (fun hf => ?_)
        · refine jr_iconst (v := 0) hF dX12_wrongPlace_43 rfl ?_
          obtain rfl := Option.some.inj hf
          exact jr_ireturn hF hE dX12_wrongPlace_44
        · refine jr_iconst (v := 3) hF dX12_wrongPlace_39 rfl ?_
          refine jr_goto (tgt := 44) hF dX12_wrongPlace_40 rfl ?_
          obtain rfl := Option.some.inj hf
          exact jr_ireturn hF hE dX12_wrongPlace_44
    · refine jr_iconst (v := 2) hF dX12_wrongPlace_21 rfl ?_
      refine jr_goto (tgt := 44) hF dX12_wrongPlace_22 rfl ?_
      obtain rfl := Option.some.inj hf
      exact jr_ireturn hF hE dX12_wrongPlace_44
  · refine jr_iconst (v := 1) hF dX12_wrongPlace_7 rfl ?_
    refine jr_goto (tgt := 44) hF dX12_wrongPlace_8 rfl ?_
    obtain rfl := Option.some.inj hf
    exact jr_ireturn hF hE dX12_wrongPlace_44
def f_X12_wrongPlace (σ : lt_S) (o : Nat) (x1 : Int32) (x2 : Int32) (w : lt_W) : Option Int32 := fb_X12_wrongPlace_0 σ o w x1 x2
set_option maxRecDepth 100000 in
theorem c_X12_wrongPlace {l : Launch} {D : va_G} {gA : Nat → ClassId} {s0 : State} {σ : lt_S} (hT : lt_Wt σ) {o : Nat} (h0 : lt_c σ o = 12) {x1 : Int32} {x2 : Int32} {w : lt_W} {r : Int32} (hf : f_X12_wrongPlace σ o x1 x2 w = some r) : lt_C l D gA s0 yX12_wrongPlace cX12_wrongPlace 3 (some .int) (lt_rm 2) [.ref (s0.heap.size + o), .int x1, .int x2] σ w σ (some (.int r)) w := by
  refine lt_enter rfl (Nat.le_of_ble_eq_true rfl) (fun X e1 e2 e3 e4 hF hE => ?_)
  subst e1 e2 e3 e4
  exact jb_X12_wrongPlace_0 hT h0 hF hE _ _ hf

set_option maxRecDepth 100000 in
def fb_X12_read_0 (σ : lt_S) (o : Nat) (x1 : Int32) (x2 : Int32) (w : lt_W) : Option (Int64 × lt_W) := Option.bind (f_X12_wrongPlace σ o x1 x2 w) (fun q1 => lt_let (lt_si w o 2 q1) (fun w2 => if (lt_gi w2 o 2) ≤ 0 then lt_ck ((60 * x1) + x2) (lt_len σ (lt_r σ o 7)) (some (lt_gl w2 (lt_r σ o 7) ((60 * x1) + x2).toNatClampNeg, w2)) else some ((-1), w2)))
set_option maxHeartbeats 4000000 in
set_option maxRecDepth 100000 in
theorem jb_X12_read_0 {X : lt_X} {σ : lt_S} (hT : lt_Wt σ) {o : Nat} (h0 : lt_c σ o = 12) {r : Int64 × lt_W} (hF : lt_F X cX12_read RX12 3 (lt_rm 3)) (hE : lt_E X 0 0 σ (some .long) (some (.long r.1)) r.2) : ∀ (x1 : Int32) (x2 : Int32) (w : lt_W), fb_X12_read_0 σ o x1 x2 w = some r → lt_J X 0 0 σ w 0 [(0, .ref (lt_z X + o)), (1, .int x1), (2, .int x2)] [] := by
  intro x1 x2 w hf
  unfold fb_X12_read_0 at hf
  refine jr_aload_n hF dX12_read_0 0 rfl rfl ?_
  refine jr_aload_n hF dX12_read_1 0 rfl rfl ?_
  refine jr_iload_n hF dX12_read_2 1 rfl rfl ?_
  refine jr_iload_n hF dX12_read_3 2 rfl rfl ?_
  obtain ⟨q1, hq1, hf⟩ := Option.bind_eq_some_iff.mp hf
  refine jr_cV21 hF ml_X12_111 (c_X12_wrongPlace hT h0 hq1) h0 ⟨Nat.le_of_ble_eq_true rfl, Nat.le_of_ble_eq_true rfl⟩ (Nat.le_of_ble_eq_true rfl) dX12_read_4 ?_
  refine jr_putI hF pf_X12_91 h0 dX12_read_7 ?_
  refine jr_letW hf (fun w2 hf => ?_)
  refine jr_aload_n hF dX12_read_10 0 rfl rfl ?_
  refine jr_getI hF gf_X12_91 h0 dX12_read_11 ?_
  refine jr_if_le (tgt := 23) hF dX12_read_14 rfl hf (fun hf => ?_) (fun hf => ?_)
  · refine jr_aload_n hF dX12_read_23 0 rfl rfl ?_
    refine jr_getRT (cr := 51) hF gf_X12_27 hT h0 rfl rfl dX12_read_24 (fun th3 => ?_)
    refine jr_bipush (v := 60) hF dX12_read_27 rfl ?_
    refine jr_iload_n hF dX12_read_29 1 rfl rfl ?_
    refine jr_imul hF dX12_read_30 ?_
    refine jr_iload_n hF dX12_read_31 2 rfl rfl ?_
    refine jr_iadd hF dX12_read_32 ?_
    refine jr_laload hF th3 dX12_read_33 hf (fun hf => ?_)
    obtain rfl := Option.some.inj hf
    exact jr_lreturn hF hE dX12_read_34
  · refine jr_ldc2 (v := (-1)) hF dX12_read_17 kc_X12_119 ?_
    refine jr_goto (tgt := 34) hF dX12_read_20 rfl ?_
    obtain rfl := Option.some.inj hf
    exact jr_lreturn hF hE dX12_read_34
def f_X12_read (σ : lt_S) (o : Nat) (x1 : Int32) (x2 : Int32) (w : lt_W) : Option (Int64 × lt_W) := fb_X12_read_0 σ o x1 x2 w
set_option maxRecDepth 100000 in
theorem c_X12_read {l : Launch} {D : va_G} {gA : Nat → ClassId} {s0 : State} {σ : lt_S} (hT : lt_Wt σ) {o : Nat} (h0 : lt_c σ o = 12) {x1 : Int32} {x2 : Int32} {w : lt_W} {r : Int64 × lt_W} (hf : f_X12_read σ o x1 x2 w = some r) : lt_C l D gA s0 yX12_read cX12_read 3 (some .long) (lt_rm 3) [.ref (s0.heap.size + o), .int x1, .int x2] σ w σ (some (.long r.1)) r.2 := by
  refine lt_enter rfl (Nat.le_of_ble_eq_true rfl) (fun X e1 e2 e3 e4 hF hE => ?_)
  subst e1 e2 e3 e4
  exact jb_X12_read_0 hT h0 hF hE _ _ _ hf

set_option maxRecDepth 100000 in
def fb_X12_rule_28 (σ : lt_S) (o : Nat) (w : lt_W) : Option (Int32 × lt_W) := Option.bind (f_X12_is σ o 1 w) (fun q1 => lt_bz q1.1 (some (q1.1, q1.2)))
set_option maxHeartbeats 4000000 in
set_option maxRecDepth 100000 in
theorem jb_X12_rule_28 {X : lt_X} {σ : lt_S} (hT : lt_Wt σ) {o : Nat} (h0 : lt_c σ o = 12) {r : Int32 × lt_W} (hF : lt_F X cX12_rule RX12 3 (lt_rm 2)) (hE : lt_E X 0 0 σ (some .boolean) (some (.int r.1)) r.2) : ∀ (w : lt_W), fb_X12_rule_28 σ o w = some r → lt_J X 0 0 σ w 28 [(0, .ref (lt_z X + o))] [] := by
  intro w hf
  unfold fb_X12_rule_28 at hf
  refine jr_aload_n hF dX12_rule_28 0 rfl rfl ?_
  refine jr_iconst (v := 1) hF dX12_rule_29 rfl ?_
  obtain ⟨q1, hq1, hf⟩ := Option.bind_eq_some_iff.mp hf
  refine jr_cV11 hF ml_X12_104 (c_X12_is h0 hq1) h0 ⟨Nat.le_of_ble_eq_true rfl, Nat.le_of_ble_eq_true rfl⟩ (Nat.le_of_ble_eq_true rfl) dX12_rule_30 ?_
  obtain ⟨b2, hf⟩ := lt_bzE hf
  obtain rfl := Option.some.inj hf
  exact jr_zreturn hF hE b2 dX12_rule_33
set_option maxRecDepth 100000 in
def fb_X12_rule_0 (σ : lt_S) (o : Nat) (x1 : Int32) (x2 : Int32) (w : lt_W) : Option (Int32 × lt_W) := if x1 < 1 then fb_X12_rule_28 σ o w else if 3 < x1 then fb_X12_rule_28 σ o w else Option.bind (f_X12_leastOf x1) (fun q1 => Option.bind (f_X12_mostOf x1) (fun q2 => Option.bind (f_X12_isFrom x2.toInt64 q1.toInt64 q2.toInt64) (fun q3 => if q3 = 0 then fb_X12_rule_28 σ o w else lt_ck x1 (lt_len σ (lt_r σ o 0)) (lt_let (lt_si w (lt_r σ o 0) x1.toNatClampNeg x2) (fun w5 => Option.bind (f_X12_is σ o 0 w5) (fun q6 => lt_bz q6.1 (some (q6.1, q6.2))))))))
set_option maxHeartbeats 4000000 in
set_option maxRecDepth 100000 in
theorem jb_X12_rule_0 {X : lt_X} {σ : lt_S} (hT : lt_Wt σ) {o : Nat} (h0 : lt_c σ o = 12) {r : Int32 × lt_W} (hF : lt_F X cX12_rule RX12 3 (lt_rm 2)) (hE : lt_E X 0 0 σ (some .boolean) (some (.int r.1)) r.2) : ∀ (x1 : Int32) (x2 : Int32) (w : lt_W), fb_X12_rule_0 σ o x1 x2 w = some r → lt_J X 0 0 σ w 0 [(0, .ref (lt_z X + o)), (1, .int x1), (2, .int x2)] [] := by
  intro x1 x2 w hf
  unfold fb_X12_rule_0 at hf
  refine jr_iload_n hF dX12_rule_0 1 rfl rfl ?_
  refine jr_iconst (v := 1) hF dX12_rule_1 rfl ?_
  refine jr_icmp_lt (tgt := 28) hF dX12_rule_2 rfl hf (fun hf => ?_) (fun hf => ?_)
  · refine jr_sub [0] rfl ?_
    exact jb_X12_rule_28 hT h0 hF hE _ hf
  · refine jr_iload_n hF dX12_rule_5 1 rfl rfl ?_
    refine jr_iconst (v := 3) hF dX12_rule_6 rfl ?_
    refine jr_icmp_gt (tgt := 28) hF dX12_rule_7 rfl hf (fun hf => ?_) (fun hf => ?_)
    · refine jr_sub [0] rfl ?_
      exact jb_X12_rule_28 hT h0 hF hE _ hf
    · refine jr_iload_n hF dX12_rule_10 2 rfl rfl ?_
      refine jr_i2l hF dX12_rule_11 ?_
      refine jr_iload_n hF dX12_rule_12 1 rfl rfl ?_
      obtain ⟨q1, hq1, hf⟩ := Option.bind_eq_some_iff.mp hf
      refine jr_cS11 hF ml_X12_236 (c_X12_leastOf hq1) ⟨Nat.le_of_ble_eq_true rfl, Nat.le_of_ble_eq_true rfl⟩ (Nat.le_of_ble_eq_true rfl) dX12_rule_13 ?_
      refine jr_i2l hF dX12_rule_16 ?_
      refine jr_iload_n hF dX12_rule_17 1 rfl rfl ?_
      obtain ⟨q2, hq2, hf⟩ := Option.bind_eq_some_iff.mp hf
      refine jr_cS11 hF ml_X12_239 (c_X12_mostOf hq2) ⟨Nat.le_of_ble_eq_true rfl, Nat.le_of_ble_eq_true rfl⟩ (Nat.le_of_ble_eq_true rfl) dX12_rule_18 ?_
      refine jr_i2l hF dX12_rule_21 ?_
      obtain ⟨q3, hq3, hf⟩ := Option.bind_eq_some_iff.mp hf
      refine jr_cS31 hF ml_X12_307 (c_X12_isFrom hq3) ⟨Nat.le_of_ble_eq_true rfl, Nat.le_of_ble_eq_true rfl⟩ (Nat.le_of_ble_eq_true rfl) dX12_rule_22 ?_
      refine jr_if_ne (tgt := 34) hF dX12_rule_25 rfl hf (fun hf => ?_) (fun hf => ?_)
      · refine jr_aload_n hF dX12_rule_34 0 rfl rfl ?_
        refine jr_getRT (cr := 50) hF gf_X12_7 hT h0 rfl rfl dX12_rule_35 (fun th4 => ?_)
        refine jr_iload_n hF dX12_rule_38 1 rfl rfl ?_
        refine jr_iload_n hF dX12_rule_39 2 rfl rfl ?_
        refine jr_iastore hF th4 dX12_rule_40 hf (fun hf => ?_)
        refine jr_letW hf (fun w5 hf => ?_)
        refine jr_aload_n hF dX12_rule_41 0 rfl rfl ?_
        refine jr_iconst (v := 0) hF dX12_rule_42 rfl ?_
        obtain ⟨q6, hq6, hf⟩ := Option.bind_eq_some_iff.mp hf
        refine jr_cV11 hF ml_X12_104 (c_X12_is h0 hq6) h0 ⟨Nat.le_of_ble_eq_true rfl, Nat.le_of_ble_eq_true rfl⟩ (Nat.le_of_ble_eq_true rfl) dX12_rule_43 ?_
        obtain ⟨b7, hf⟩ := lt_bzE hf
        obtain rfl := Option.some.inj hf
        exact jr_zreturn hF hE b7 dX12_rule_46
      · refine jr_sub [0] rfl ?_
        exact jb_X12_rule_28 hT h0 hF hE _ hf
def f_X12_rule (σ : lt_S) (o : Nat) (x1 : Int32) (x2 : Int32) (w : lt_W) : Option (Int32 × lt_W) := fb_X12_rule_0 σ o x1 x2 w
set_option maxRecDepth 100000 in
theorem c_X12_rule {l : Launch} {D : va_G} {gA : Nat → ClassId} {s0 : State} {σ : lt_S} (hT : lt_Wt σ) {o : Nat} (h0 : lt_c σ o = 12) {x1 : Int32} {x2 : Int32} {w : lt_W} {r : Int32 × lt_W} (hf : f_X12_rule σ o x1 x2 w = some r) : lt_C l D gA s0 yX12_rule cX12_rule 3 (some .boolean) (lt_rm 2) [.ref (s0.heap.size + o), .int x1, .int x2] σ w σ (some (.int r.1)) r.2 := by
  refine lt_enter rfl (Nat.le_of_ble_eq_true rfl) (fun X e1 e2 e3 e4 hF hE => ?_)
  subst e1 e2 e3 e4
  exact jb_X12_rule_0 hT h0 hF hE _ _ _ hf

set_option maxRecDepth 100000 in
def fb_X12_seen_0 (σ : lt_S) (o : Nat) (x1 : Int32) (x2 : Int32) (x3 : Int32) (w : lt_W) : Option (Int32 × lt_W) := Option.bind (f_X12_wrongCall σ o x1 x2 x3 w) (fun q1 => if q1 ≤ 0 then Option.bind (f_X12_laysSeen σ o x1 x2 x3 w) (fun q2 => Option.bind (f_X12_gives σ o q2.1 q2.2) (fun q3 => some (q3.1, q3.2))) else Option.bind (f_X12_refuse σ o q1 w) (fun q4 => some (q4.1, q4.2)))
set_option maxHeartbeats 4000000 in
set_option maxRecDepth 100000 in
theorem jb_X12_seen_0 {X : lt_X} {σ : lt_S} (hT : lt_Wt σ) {o : Nat} (h0 : lt_c σ o = 12) {r : Int32 × lt_W} (hF : lt_F X cX12_seen RX12 5 (lt_rm 9)) (hE : lt_E X 0 0 σ (some .int) (some (.int r.1)) r.2) : ∀ (x1 : Int32) (x2 : Int32) (x3 : Int32) (w : lt_W), fb_X12_seen_0 σ o x1 x2 x3 w = some r → lt_J X 0 0 σ w 0 [(0, .ref (lt_z X + o)), (1, .int x1), (2, .int x2), (3, .int x3)] [] := by
  intro x1 x2 x3 w hf
  unfold fb_X12_seen_0 at hf
  refine jr_aload_n hF dX12_seen_0 0 rfl rfl ?_
  refine jr_iload_n hF dX12_seen_1 1 rfl rfl ?_
  refine jr_iload_n hF dX12_seen_2 2 rfl rfl ?_
  refine jr_iload_n hF dX12_seen_3 3 rfl rfl ?_
  obtain ⟨q1, hq1, hf⟩ := Option.bind_eq_some_iff.mp hf
  refine jr_cV31 hF ml_X12_360 (c_X12_wrongCall hT h0 hq1) h0 ⟨Nat.le_of_ble_eq_true rfl, Nat.le_of_ble_eq_true rfl⟩ (Nat.le_of_ble_eq_true rfl) dX12_seen_4 ?_
  refine jr_istore (lv' := [(0, .ref (lt_z X + o)), (1, .int x1), (2, .int x2), (3, .int x3), (4, .int q1)]) hF dX12_seen_7 (by decide) [1, 2, 3, 4, 0] rfl ?_
  refine jr_iload hF dX12_seen_9 4 rfl ?_
  refine jr_if_le (tgt := 23) hF dX12_seen_11 rfl hf (fun hf => ?_) (fun hf => ?_)
  · refine jr_aload_n hF dX12_seen_23 0 rfl rfl ?_
    refine jr_aload_n hF dX12_seen_24 0 rfl rfl ?_
    refine jr_iload_n hF dX12_seen_25 1 rfl rfl ?_
    refine jr_iload_n hF dX12_seen_26 2 rfl rfl ?_
    refine jr_iload_n hF dX12_seen_27 3 rfl rfl ?_
    obtain ⟨q2, hq2, hf⟩ := Option.bind_eq_some_iff.mp hf
    refine jr_cV31 hF ml_X12_364 (c_X12_laysSeen hT h0 hq2) h0 ⟨Nat.le_of_ble_eq_true rfl, Nat.le_of_ble_eq_true rfl⟩ (Nat.le_of_ble_eq_true rfl) dX12_seen_28 ?_
    obtain ⟨q3, hq3, hf⟩ := Option.bind_eq_some_iff.mp hf
    refine jr_cV11 hF ml_X12_101 (c_X12_gives h0 hq3) h0 ⟨Nat.le_of_ble_eq_true rfl, Nat.le_of_ble_eq_true rfl⟩ (Nat.le_of_ble_eq_true rfl) dX12_seen_31 ?_
    obtain rfl := Option.some.inj hf
    exact jr_ireturn hF hE dX12_seen_34
  · refine jr_aload_n hF dX12_seen_14 0 rfl rfl ?_
    refine jr_iload hF dX12_seen_15 4 rfl ?_
    obtain ⟨q4, hq4, hf⟩ := Option.bind_eq_some_iff.mp hf
    refine jr_cV11 hF ml_X12_97 (c_X12_refuse h0 hq4) h0 ⟨Nat.le_of_ble_eq_true rfl, Nat.le_of_ble_eq_true rfl⟩ (Nat.le_of_ble_eq_true rfl) dX12_seen_17 ?_
    refine jr_goto (tgt := 34) hF dX12_seen_20 rfl ?_
    obtain rfl := Option.some.inj hf
    exact jr_ireturn hF hE dX12_seen_34
def f_X12_seen (σ : lt_S) (o : Nat) (x1 : Int32) (x2 : Int32) (x3 : Int32) (w : lt_W) : Option (Int32 × lt_W) := fb_X12_seen_0 σ o x1 x2 x3 w
set_option maxRecDepth 100000 in
theorem c_X12_seen {l : Launch} {D : va_G} {gA : Nat → ClassId} {s0 : State} {σ : lt_S} (hT : lt_Wt σ) {o : Nat} (h0 : lt_c σ o = 12) {x1 : Int32} {x2 : Int32} {x3 : Int32} {w : lt_W} {r : Int32 × lt_W} (hf : f_X12_seen σ o x1 x2 x3 w = some r) : lt_C l D gA s0 yX12_seen cX12_seen 5 (some .int) (lt_rm 9) [.ref (s0.heap.size + o), .int x1, .int x2, .int x3] σ w σ (some (.int r.1)) r.2 := by
  refine lt_enter rfl (Nat.le_of_ble_eq_true rfl) (fun X e1 e2 e3 e4 hF hE => ?_)
  subst e1 e2 e3 e4
  exact jb_X12_seen_0 hT h0 hF hE _ _ _ _ hf

set_option maxRecDepth 100000 in
def fb_X12_seenAs_84 (σ : lt_S) (o : Nat) (y1 : Int32) (w : lt_W) : Option (Int32 × lt_W) := Option.bind (f_X12_gives σ o y1 w) (fun q1 => some (q1.1, q1.2))
set_option maxHeartbeats 4000000 in
set_option maxRecDepth 100000 in
theorem jb_X12_seenAs_84 {X : lt_X} {σ : lt_S} (hT : lt_Wt σ) {o : Nat} (h0 : lt_c σ o = 12) {r : Int32 × lt_W} (hF : lt_F X cX12_seenAs RX12 7 (lt_rm 9)) (hE : lt_E X 0 0 σ (some .int) (some (.int r.1)) r.2) : ∀ (y1 : Int32) (w : lt_W), fb_X12_seenAs_84 σ o y1 w = some r → lt_J X 0 0 σ w 84 [(0, .ref (lt_z X + o))] [.int y1, .ref (lt_z X + o)] := by
  intro y1 w hf
  unfold fb_X12_seenAs_84 at hf
  obtain ⟨q1, hq1, hf⟩ := Option.bind_eq_some_iff.mp hf
  refine jr_cV11 hF ml_X12_101 (c_X12_gives h0 hq1) h0 ⟨Nat.le_of_ble_eq_true rfl, Nat.le_of_ble_eq_true rfl⟩ (Nat.le_of_ble_eq_true rfl) dX12_seenAs_84 ?_
  obtain rfl := Option.some.inj hf
  exact jr_ireturn hF hE dX12_seenAs_87
set_option maxRecDepth 100000 in
def fb_X12_seenAs_48 (σ : lt_S) (o : Nat) : Nat → Int32 → Int32 → lt_W → Option (Int32 × lt_W)
  | 0, _, _, _ => none
  | n + 1, x4, x6, w => if 100 ≤ x6 then Option.bind (f_X12_refuse σ o 6 w) (fun q1 => some (q1.1, q1.2)) else lt_ck x6 (lt_len σ (lt_r σ o 29)) (if (lt_gi w (lt_r σ o 29) x6.toNatClampNeg) = 0 then fb_X12_seenAs_48 σ o n x4 (x6 + 1) w else if x4 = 0 then fb_X12_seenAs_84 σ o (x6 / 10) w else fb_X12_seenAs_84 σ o (x6 - x6 / 10 * 10) w)
set_option maxHeartbeats 4000000 in
set_option maxRecDepth 100000 in
theorem jb_X12_seenAs_48 {X : lt_X} {σ : lt_S} (hT : lt_Wt σ) {o : Nat} (h0 : lt_c σ o = 12) {r : Int32 × lt_W} (hF : lt_F X cX12_seenAs RX12 7 (lt_rm 9)) (hE : lt_E X 0 0 σ (some .int) (some (.int r.1)) r.2) (n : Nat) : ∀ (x4 : Int32) (x6 : Int32) (w : lt_W), fb_X12_seenAs_48 σ o n x4 x6 w = some r → lt_J X 0 0 σ w 48 [(0, .ref (lt_z X + o)), (4, .int x4), (6, .int x6)] [] := by
  induction n with
  | zero => intro x4 x6 w hf; rw [fb_X12_seenAs_48] at hf; cases hf
  | succ n ih =>
    intro x4 x6 w hf
    rw [fb_X12_seenAs_48] at hf
    refine jr_iload hF dX12_seenAs_48 2 rfl ?_
    refine jr_bipush (v := 100) hF dX12_seenAs_50 rfl ?_
    refine jr_icmp_ge (tgt := 94) hF dX12_seenAs_52 rfl hf (fun hf => ?_) (fun hf => ?_)
    · refine jr_aload_n hF dX12_seenAs_94 0 rfl rfl ?_
      refine jr_bipush (v := 6) hF dX12_seenAs_95 rfl ?_
      obtain ⟨q1, hq1, hf⟩ := Option.bind_eq_some_iff.mp hf
      refine jr_cV11 hF ml_X12_97 (c_X12_refuse h0 hq1) h0 ⟨Nat.le_of_ble_eq_true rfl, Nat.le_of_ble_eq_true rfl⟩ (Nat.le_of_ble_eq_true rfl) dX12_seenAs_97 ?_
      obtain rfl := Option.some.inj hf
      exact jr_ireturn hF hE dX12_seenAs_100
    · refine jr_aload_n hF dX12_seenAs_55 0 rfl rfl ?_
      refine jr_getRT (cr := 53) hF gf_X12_62 hT h0 rfl rfl dX12_seenAs_56 (fun th2 => ?_)
      refine jr_iload hF dX12_seenAs_59 2 rfl ?_
      refine jr_baloadZ hF th2 dX12_seenAs_61 hf (fun hf => ?_)
      refine jr_if_eq (tgt := 88) hF dX12_seenAs_62 rfl hf (fun hf => ?_) (fun hf => ?_)
      · refine jr_iinc (v := x6 + 1) (lv' := [(0, .ref (lt_z X + o)), (4, .int x4), (6, .int (x6 + 1))]) hF dX12_seenAs_88 2 rfl rfl (by decide) [1, 2, 0] rfl ?_
        refine jr_goto (tgt := 48) hF dX12_seenAs_91 rfl ?_
        exact ih _ _ _ hf
      · refine jr_aload_n hF dX12_seenAs_65 0 rfl rfl ?_
        refine jr_iload hF dX12_seenAs_66 1 rfl ?_
        refine jr_if_ne (tgt := 79) hF dX12_seenAs_68 rfl hf (fun hf => ?_) (fun hf => ?_)
        · refine jr_iload hF dX12_seenAs_79 2 rfl ?_
          refine jr_bipush (v := 10) hF dX12_seenAs_81 rfl ?_
          refine jr_iremc hF dX12_seenAs_83 (by decide) ?_
          refine jr_sub [0] rfl ?_
          exact jb_X12_seenAs_84 hT h0 hF hE _ _ hf
        · refine jr_iload hF dX12_seenAs_71 2 rfl ?_
          refine jr_bipush (v := 10) hF dX12_seenAs_73 rfl ?_
          refine jr_idivc hF dX12_seenAs_75 (by decide) ?_
          refine jr_goto (tgt := 84) hF dX12_seenAs_76 rfl ?_
          refine jr_sub [0] rfl ?_
          exact jb_X12_seenAs_84 hT h0 hF hE _ _ hf
set_option maxRecDepth 100000 in
def fb_X12_seenAs_22 (σ : lt_S) (o : Nat) (x1 : Int32) (x2 : Int32) (x3 : Int32) (x4 : Int32) (y0 : Int32) (w : lt_W) : Option (Int32 × lt_W) := if y0 ≤ 0 then Option.bind (f_X12_laysSeen σ o x1 x2 x3 w) (fun q1 => fb_X12_seenAs_48 σ o lt_fu x4 10 q1.2) else Option.bind (f_X12_refuse σ o y0 w) (fun q2 => some (q2.1, q2.2))
set_option maxHeartbeats 4000000 in
set_option maxRecDepth 100000 in
theorem jb_X12_seenAs_22 {X : lt_X} {σ : lt_S} (hT : lt_Wt σ) {o : Nat} (h0 : lt_c σ o = 12) {r : Int32 × lt_W} (hF : lt_F X cX12_seenAs RX12 7 (lt_rm 9)) (hE : lt_E X 0 0 σ (some .int) (some (.int r.1)) r.2) : ∀ (x1 : Int32) (x2 : Int32) (x3 : Int32) (x4 : Int32) (y0 : Int32) (w : lt_W), fb_X12_seenAs_22 σ o x1 x2 x3 x4 y0 w = some r → lt_J X 0 0 σ w 22 [(0, .ref (lt_z X + o)), (1, .int x1), (2, .int x2), (3, .int x3), (4, .int x4)] [.int y0] := by
  intro x1 x2 x3 x4 y0 w hf
  unfold fb_X12_seenAs_22 at hf
  refine jr_istore (lv' := [(0, .ref (lt_z X + o)), (1, .int x1), (2, .int x2), (3, .int x3), (4, .int x4), (5, .int y0)]) hF dX12_seenAs_22 (by decide) [1, 2, 3, 4, 5, 0] rfl ?_
  refine jr_iload hF dX12_seenAs_24 5 rfl ?_
  refine jr_if_le (tgt := 36) hF dX12_seenAs_26 rfl hf (fun hf => ?_) (fun hf => ?_)
  · refine jr_aload_n hF dX12_seenAs_36 0 rfl rfl ?_
    refine jr_iload_n hF dX12_seenAs_37 1 rfl rfl ?_
    refine jr_iload_n hF dX12_seenAs_38 2 rfl rfl ?_
    refine jr_iload_n hF dX12_seenAs_39 3 rfl rfl ?_
    obtain ⟨q1, hq1, hf⟩ := Option.bind_eq_some_iff.mp hf
    refine jr_cV31 hF ml_X12_364 (c_X12_laysSeen hT h0 hq1) h0 ⟨Nat.le_of_ble_eq_true rfl, Nat.le_of_ble_eq_true rfl⟩ (Nat.le_of_ble_eq_true rfl) dX12_seenAs_40 ?_
    refine jr_pop hF dX12_seenAs_43 rfl ?_
    refine jr_bipush (v := 10) hF dX12_seenAs_44 rfl ?_
    refine jr_istore (lv' := [(0, .ref (lt_z X + o)), (4, .int x4), (6, .int 10)]) hF dX12_seenAs_46 (by decide) [1, 5, 0] rfl ?_
    exact jb_X12_seenAs_48 hT h0 hF hE lt_fu _ _ _ hf
  · refine jr_aload_n hF dX12_seenAs_29 0 rfl rfl ?_
    refine jr_iload hF dX12_seenAs_30 5 rfl ?_
    obtain ⟨q2, hq2, hf⟩ := Option.bind_eq_some_iff.mp hf
    refine jr_cV11 hF ml_X12_97 (c_X12_refuse h0 hq2) h0 ⟨Nat.le_of_ble_eq_true rfl, Nat.le_of_ble_eq_true rfl⟩ (Nat.le_of_ble_eq_true rfl) dX12_seenAs_32 ?_
    obtain rfl := Option.some.inj hf
    exact jr_ireturn hF hE dX12_seenAs_35
set_option maxRecDepth 100000 in
def fb_X12_seenAs_0 (σ : lt_S) (o : Nat) (x1 : Int32) (x2 : Int32) (x3 : Int32) (x4 : Int32) (w : lt_W) : Option (Int32 × lt_W) := if x4 < 0 then fb_X12_seenAs_22 σ o x1 x2 x3 x4 1 w else if x4 ≤ 1 then Option.bind (f_X12_wrongCall σ o x1 x2 x3 w) (fun q1 => fb_X12_seenAs_22 σ o x1 x2 x3 x4 q1 w) else fb_X12_seenAs_22 σ o x1 x2 x3 x4 1 w
set_option maxHeartbeats 4000000 in
set_option maxRecDepth 100000 in
theorem jb_X12_seenAs_0 {X : lt_X} {σ : lt_S} (hT : lt_Wt σ) {o : Nat} (h0 : lt_c σ o = 12) {r : Int32 × lt_W} (hF : lt_F X cX12_seenAs RX12 7 (lt_rm 9)) (hE : lt_E X 0 0 σ (some .int) (some (.int r.1)) r.2) : ∀ (x1 : Int32) (x2 : Int32) (x3 : Int32) (x4 : Int32) (w : lt_W), fb_X12_seenAs_0 σ o x1 x2 x3 x4 w = some r → lt_J X 0 0 σ w 0 [(0, .ref (lt_z X + o)), (1, .int x1), (2, .int x2), (3, .int x3), (4, .int x4)] [] := by
  intro x1 x2 x3 x4 w hf
  unfold fb_X12_seenAs_0 at hf
  refine jr_iload hF dX12_seenAs_0 4 rfl ?_
  refine jr_if_lt (tgt := 11) hF dX12_seenAs_2 rfl hf (fun hf => ?_) (fun hf => ?_)
  · refine jr_iconst (v := 1) hF dX12_seenAs_11 rfl ?_
    refine jr_goto (tgt := 22) hF dX12_seenAs_12 rfl ?_
    exact jb_X12_seenAs_22 hT h0 hF hE _ _ _ _ _ _ hf
  · refine jr_iload hF dX12_seenAs_5 4 rfl ?_
    refine jr_iconst (v := 1) hF dX12_seenAs_7 rfl ?_
    refine jr_icmp_le (tgt := 15) hF dX12_seenAs_8 rfl hf (fun hf => ?_) (fun hf => ?_)
    · refine jr_aload_n hF dX12_seenAs_15 0 rfl rfl ?_
      refine jr_iload_n hF dX12_seenAs_16 1 rfl rfl ?_
      refine jr_iload_n hF dX12_seenAs_17 2 rfl rfl ?_
      refine jr_iload_n hF dX12_seenAs_18 3 rfl rfl ?_
      obtain ⟨q1, hq1, hf⟩ := Option.bind_eq_some_iff.mp hf
      refine jr_cV31 hF ml_X12_360 (c_X12_wrongCall hT h0 hq1) h0 ⟨Nat.le_of_ble_eq_true rfl, Nat.le_of_ble_eq_true rfl⟩ (Nat.le_of_ble_eq_true rfl) dX12_seenAs_19 ?_
      exact jb_X12_seenAs_22 hT h0 hF hE _ _ _ _ _ _ hf
    · refine jr_iconst (v := 1) hF dX12_seenAs_11 rfl ?_
      refine jr_goto (tgt := 22) hF dX12_seenAs_12 rfl ?_
      exact jb_X12_seenAs_22 hT h0 hF hE _ _ _ _ _ _ hf
def f_X12_seenAs (σ : lt_S) (o : Nat) (x1 : Int32) (x2 : Int32) (x3 : Int32) (x4 : Int32) (w : lt_W) : Option (Int32 × lt_W) := fb_X12_seenAs_0 σ o x1 x2 x3 x4 w
set_option maxRecDepth 100000 in
theorem c_X12_seenAs {l : Launch} {D : va_G} {gA : Nat → ClassId} {s0 : State} {σ : lt_S} (hT : lt_Wt σ) {o : Nat} (h0 : lt_c σ o = 12) {x1 : Int32} {x2 : Int32} {x3 : Int32} {x4 : Int32} {w : lt_W} {r : Int32 × lt_W} (hf : f_X12_seenAs σ o x1 x2 x3 x4 w = some r) : lt_C l D gA s0 yX12_seenAs cX12_seenAs 7 (some .int) (lt_rm 9) [.ref (s0.heap.size + o), .int x1, .int x2, .int x3, .int x4] σ w σ (some (.int r.1)) r.2 := by
  refine lt_enter rfl (Nat.le_of_ble_eq_true rfl) (fun X e1 e2 e3 e4 hF hE => ?_)
  subst e1 e2 e3 e4
  exact jb_X12_seenAs_0 hT h0 hF hE _ _ _ _ _ hf

set_option maxRecDepth 100000 in
def fb_X12_share_18 (σ : lt_S) (o : Nat) : Nat → Int32 → Int32 → Int32 → lt_W → Option (Int32 × lt_W)
  | 0, _, _, _, _ => none
  | n + 1, x1, x2, x3, w => lt_ck 0 (lt_len σ (lt_r σ o 0)) (if (lt_gi w (lt_r σ o 0) (0 : Int32).toNatClampNeg) ≤ x3 then if x2 = 0 then Option.bind (f_X12_is σ o 6 w) (fun q8 => lt_bz q8.1 (some (q8.1, q8.2))) else Option.bind (f_X12_isHere σ o x1 w) (fun q2 => if q2 = 0 then Option.bind (f_X12_is σ o 7 w) (fun q3 => lt_bz q3.1 (some (q3.1, q3.2))) else Option.bind (f_X12_guestOf σ o x1 2 w) (fun q5 => Option.bind (f_X12_tellsBy σ o q5.toInt64 x2.toInt64 w) (fun q6 => lt_bz q6.1 (some (q6.1, q6.2))))) else Option.bind (f_X12_isHere σ o x3 w) (fun q10 => if q10 = 0 then fb_X12_share_18 σ o n x1 (x2 + 0) (x3 + 1) w else Option.bind (f_X12_guestOf σ o x3 2 w) (fun q11 => fb_X12_share_18 σ o n x1 (x2 + q11) (x3 + 1) w)))
set_option maxHeartbeats 4000000 in
set_option maxRecDepth 100000 in
theorem jb_X12_share_18 {X : lt_X} {σ : lt_S} (hT : lt_Wt σ) {o : Nat} (h0 : lt_c σ o = 12) {r : Int32 × lt_W} (hF : lt_F X cX12_share RX12 4 (lt_rm 4)) (hE : lt_E X 0 0 σ (some .boolean) (some (.int r.1)) r.2) (n : Nat) : ∀ (x1 : Int32) (x2 : Int32) (x3 : Int32) (w : lt_W), fb_X12_share_18 σ o n x1 x2 x3 w = some r → lt_J X 0 0 σ w 18 [(0, .ref (lt_z X + o)), (1, .int x1), (2, .int x2), (3, .int x3)] [] := by
  induction n with
  | zero => intro x1 x2 x3 w hf; rw [fb_X12_share_18] at hf; cases hf
  | succ n ih =>
    intro x1 x2 x3 w hf
    rw [fb_X12_share_18] at hf
    refine jr_iload_n hF dX12_share_18 3 rfl rfl ?_
    refine jr_aload_n hF dX12_share_19 0 rfl rfl ?_
    refine jr_getRT (cr := 50) hF gf_X12_7 hT h0 rfl rfl dX12_share_20 (fun th1 => ?_)
    refine jr_iconst (v := 0) hF dX12_share_23 rfl ?_
    refine jr_iaload hF th1 dX12_share_24 hf (fun hf => ?_)
    refine jr_icmp_ge (tgt := 55) hF dX12_share_25 rfl hf (fun hf => ?_) (fun hf => ?_)
    · refine jr_iload_n hF dX12_share_55 2 rfl rfl ?_
      refine jr_if_ne (tgt := 66) hF dX12_share_56 rfl hf (fun hf => ?_) (fun hf => ?_)
      · refine jr_aload_n hF dX12_share_66 0 rfl rfl ?_
        refine jr_iload_n hF dX12_share_67 1 rfl rfl ?_
        obtain ⟨q2, hq2, hf⟩ := Option.bind_eq_some_iff.mp hf
        refine jr_cV11 hF ml_X12_272 (c_X12_isHere hT h0 hq2) h0 ⟨Nat.le_of_ble_eq_true rfl, Nat.le_of_ble_eq_true rfl⟩ (Nat.le_of_ble_eq_true rfl) dX12_share_68 ?_
        refine jr_if_eq (tgt := 90) hF dX12_share_71 rfl hf (fun hf => ?_) (fun hf => ?_)
        · refine jr_aload_n hF dX12_share_90 0 rfl rfl ?_
          refine jr_bipush (v := 7) hF dX12_share_91 rfl ?_
          obtain ⟨q3, hq3, hf⟩ := Option.bind_eq_some_iff.mp hf
          refine jr_cV11 hF ml_X12_104 (c_X12_is h0 hq3) h0 ⟨Nat.le_of_ble_eq_true rfl, Nat.le_of_ble_eq_true rfl⟩ (Nat.le_of_ble_eq_true rfl) dX12_share_93 ?_
          obtain ⟨b4, hf⟩ := lt_bzE hf
          obtain rfl := Option.some.inj hf
          exact jr_zreturn hF hE b4 dX12_share_96
        · refine jr_aload_n hF dX12_share_74 0 rfl rfl ?_
          refine jr_aload_n hF dX12_share_75 0 rfl rfl ?_
          refine jr_iload_n hF dX12_share_76 1 rfl rfl ?_
          refine jr_iconst (v := 2) hF dX12_share_77 rfl ?_
          obtain ⟨q5, hq5, hf⟩ := Option.bind_eq_some_iff.mp hf
          refine jr_cV21 hF ml_X12_269 (c_X12_guestOf hT h0 hq5) h0 ⟨Nat.le_of_ble_eq_true rfl, Nat.le_of_ble_eq_true rfl⟩ (Nat.le_of_ble_eq_true rfl) dX12_share_78 ?_
          refine jr_i2l hF dX12_share_81 ?_
          refine jr_iload_n hF dX12_share_82 2 rfl rfl ?_
          refine jr_i2l hF dX12_share_83 ?_
          obtain ⟨q6, hq6, hf⟩ := Option.bind_eq_some_iff.mp hf
          refine jr_cV21 hF ml_X12_373 (c_X12_tellsBy h0 hq6) h0 ⟨Nat.le_of_ble_eq_true rfl, Nat.le_of_ble_eq_true rfl⟩ (Nat.le_of_ble_eq_true rfl) dX12_share_84 ?_
          refine jr_goto (tgt := 96) hF dX12_share_87 rfl ?_
          obtain ⟨b7, hf⟩ := lt_bzE hf
          obtain rfl := Option.some.inj hf
          exact jr_zreturn hF hE b7 dX12_share_96
      · refine jr_aload_n hF dX12_share_59 0 rfl rfl ?_
        refine jr_bipush (v := 6) hF dX12_share_60 rfl ?_
        obtain ⟨q8, hq8, hf⟩ := Option.bind_eq_some_iff.mp hf
        refine jr_cV11 hF ml_X12_104 (c_X12_is h0 hq8) h0 ⟨Nat.le_of_ble_eq_true rfl, Nat.le_of_ble_eq_true rfl⟩ (Nat.le_of_ble_eq_true rfl) dX12_share_62 ?_
        obtain ⟨b9, hf⟩ := lt_bzE hf
        obtain rfl := Option.some.inj hf
        exact jr_zreturn hF hE b9 dX12_share_65
    · refine jr_iload_n hF dX12_share_28 2 rfl rfl ?_
      refine jr_aload_n hF dX12_share_29 0 rfl rfl ?_
      refine jr_iload_n hF dX12_share_30 3 rfl rfl ?_
      obtain ⟨q10, hq10, hf⟩ := Option.bind_eq_some_iff.mp hf
      refine jr_cV11 hF ml_X12_272 (c_X12_isHere hT h0 hq10) h0 ⟨Nat.le_of_ble_eq_true rfl, Nat.le_of_ble_eq_true rfl⟩ (Nat.le_of_ble_eq_true rfl) dX12_share_31 ?_
      refine jr_if_eq (tgt := 46) hF dX12_share_34 rfl hf (fun hf => ?_) (fun hf => ?_)
      · refine jr_iconst (v := 0) hF dX12_share_46 rfl ?_
        refine jr_iadd hF dX12_share_47 ?_
        refine jr_istore_n (lv' := [(0, .ref (lt_z X + o)), (1, .int x1), (2, .int (x2 + 0)), (3, .int x3)]) hF dX12_share_48 rfl (by decide) [1, 2, 0, 3] rfl ?_
        refine jr_iinc (v := x3 + 1) (lv' := [(0, .ref (lt_z X + o)), (1, .int x1), (2, .int (x2 + 0)), (3, .int (x3 + 1))]) hF dX12_share_49 3 rfl rfl (by decide) [1, 2, 3, 0] rfl ?_
        refine jr_goto (tgt := 18) hF dX12_share_52 rfl ?_
        exact ih _ _ _ _ hf
      · refine jr_aload_n hF dX12_share_37 0 rfl rfl ?_
        refine jr_iload_n hF dX12_share_38 3 rfl rfl ?_
        refine jr_iconst (v := 2) hF dX12_share_39 rfl ?_
        obtain ⟨q11, hq11, hf⟩ := Option.bind_eq_some_iff.mp hf
        refine jr_cV21 hF ml_X12_269 (c_X12_guestOf hT h0 hq11) h0 ⟨Nat.le_of_ble_eq_true rfl, Nat.le_of_ble_eq_true rfl⟩ (Nat.le_of_ble_eq_true rfl) dX12_share_40 ?_
        refine jr_goto (tgt := 47) hF dX12_share_43 rfl ?_
        refine jr_iadd hF dX12_share_47 ?_
        refine jr_istore_n (lv' := [(0, .ref (lt_z X + o)), (1, .int x1), (2, .int (x2 + q11)), (3, .int x3)]) hF dX12_share_48 rfl (by decide) [1, 2, 0, 3] rfl ?_
        refine jr_iinc (v := x3 + 1) (lv' := [(0, .ref (lt_z X + o)), (1, .int x1), (2, .int (x2 + q11)), (3, .int (x3 + 1))]) hF dX12_share_49 3 rfl rfl (by decide) [1, 2, 3, 0] rfl ?_
        refine jr_goto (tgt := 18) hF dX12_share_52 rfl ?_
        exact ih _ _ _ _ hf
set_option maxRecDepth 100000 in
def fb_X12_share_0 (σ : lt_S) (o : Nat) (x1 : Int32) (w : lt_W) : Option (Int32 × lt_W) := Option.bind (f_X12_isGuest σ o x1 w) (fun q1 => if q1 = 0 then Option.bind (f_X12_is σ o 1 w) (fun q2 => lt_bz q2.1 (some (q2.1, q2.2))) else fb_X12_share_18 σ o lt_fu x1 0 0 w)
set_option maxHeartbeats 4000000 in
set_option maxRecDepth 100000 in
theorem jb_X12_share_0 {X : lt_X} {σ : lt_S} (hT : lt_Wt σ) {o : Nat} (h0 : lt_c σ o = 12) {r : Int32 × lt_W} (hF : lt_F X cX12_share RX12 4 (lt_rm 4)) (hE : lt_E X 0 0 σ (some .boolean) (some (.int r.1)) r.2) : ∀ (x1 : Int32) (w : lt_W), fb_X12_share_0 σ o x1 w = some r → lt_J X 0 0 σ w 0 [(0, .ref (lt_z X + o)), (1, .int x1)] [] := by
  intro x1 w hf
  unfold fb_X12_share_0 at hf
  refine jr_aload_n hF dX12_share_0 0 rfl rfl ?_
  refine jr_iload_n hF dX12_share_1 1 rfl rfl ?_
  obtain ⟨q1, hq1, hf⟩ := Option.bind_eq_some_iff.mp hf
  refine jr_cV11 hF ml_X12_266 (c_X12_isGuest hT h0 hq1) h0 ⟨Nat.le_of_ble_eq_true rfl, Nat.le_of_ble_eq_true rfl⟩ (Nat.le_of_ble_eq_true rfl) dX12_share_2 ?_
  refine jr_if_ne (tgt := 14) hF dX12_share_5 rfl hf (fun hf => ?_) (fun hf => ?_)
  · refine jr_iconst (v := 0) hF dX12_share_14 rfl ?_
    refine jr_istore_n (lv' := [(0, .ref (lt_z X + o)), (1, .int x1), (2, .int 0)]) hF dX12_share_15 rfl (by decide) [1, 2, 0] rfl ?_
    refine jr_iconst (v := 0) hF dX12_share_16 rfl ?_
    refine jr_istore_n (lv' := [(0, .ref (lt_z X + o)), (1, .int x1), (2, .int 0), (3, .int 0)]) hF dX12_share_17 rfl (by decide) [1, 2, 3, 0] rfl ?_
    exact jb_X12_share_18 hT h0 hF hE lt_fu _ _ _ _ hf
  · refine jr_aload_n hF dX12_share_8 0 rfl rfl ?_
    refine jr_iconst (v := 1) hF dX12_share_9 rfl ?_
    obtain ⟨q2, hq2, hf⟩ := Option.bind_eq_some_iff.mp hf
    refine jr_cV11 hF ml_X12_104 (c_X12_is h0 hq2) h0 ⟨Nat.le_of_ble_eq_true rfl, Nat.le_of_ble_eq_true rfl⟩ (Nat.le_of_ble_eq_true rfl) dX12_share_10 ?_
    obtain ⟨b3, hf⟩ := lt_bzE hf
    obtain rfl := Option.some.inj hf
    exact jr_zreturn hF hE b3 dX12_share_13
def f_X12_share (σ : lt_S) (o : Nat) (x1 : Int32) (w : lt_W) : Option (Int32 × lt_W) := fb_X12_share_0 σ o x1 w
set_option maxRecDepth 100000 in
theorem c_X12_share {l : Launch} {D : va_G} {gA : Nat → ClassId} {s0 : State} {σ : lt_S} (hT : lt_Wt σ) {o : Nat} (h0 : lt_c σ o = 12) {x1 : Int32} {w : lt_W} {r : Int32 × lt_W} (hf : f_X12_share σ o x1 w = some r) : lt_C l D gA s0 yX12_share cX12_share 4 (some .boolean) (lt_rm 4) [.ref (s0.heap.size + o), .int x1] σ w σ (some (.int r.1)) r.2 := by
  refine lt_enter rfl (Nat.le_of_ble_eq_true rfl) (fun X e1 e2 e3 e4 hF hE => ?_)
  subst e1 e2 e3 e4
  exact jb_X12_share_0 hT h0 hF hE _ _ hf

set_option maxRecDepth 100000 in
def fb_X12_sit_49 (σ : lt_S) (o : Nat) (w : lt_W) : Option (Int32 × lt_W) := Option.bind (f_X12_refuse σ o 1 w) (fun q1 => some (q1.1, q1.2))
set_option maxHeartbeats 4000000 in
set_option maxRecDepth 100000 in
theorem jb_X12_sit_49 {X : lt_X} {σ : lt_S} (hT : lt_Wt σ) {o : Nat} (h0 : lt_c σ o = 12) {r : Int32 × lt_W} (hF : lt_F X cX12_sit RX12 7 (lt_rm 2)) (hE : lt_E X 0 0 σ (some .int) (some (.int r.1)) r.2) : ∀ (w : lt_W), fb_X12_sit_49 σ o w = some r → lt_J X 0 0 σ w 49 [(0, .ref (lt_z X + o))] [] := by
  intro w hf
  unfold fb_X12_sit_49 at hf
  refine jr_aload_n hF dX12_sit_49 0 rfl rfl ?_
  refine jr_iconst (v := 1) hF dX12_sit_50 rfl ?_
  obtain ⟨q1, hq1, hf⟩ := Option.bind_eq_some_iff.mp hf
  refine jr_cV11 hF ml_X12_97 (c_X12_refuse h0 hq1) h0 ⟨Nat.le_of_ble_eq_true rfl, Nat.le_of_ble_eq_true rfl⟩ (Nat.le_of_ble_eq_true rfl) dX12_sit_51 ?_
  obtain rfl := Option.some.inj hf
  exact jr_ireturn hF hE dX12_sit_54
set_option maxRecDepth 100000 in
def fb_X12_sit_0 (σ : lt_S) (o : Nat) (x1 : Int32) (x2 : Int32) (x3 : Int32) (x4 : Int32) (w : lt_W) : Option (Int32 × lt_W) := Option.bind (f_X12_isFrom x1.toInt64 0 20) (fun q1 => if q1 = 0 then fb_X12_sit_49 σ o w else Option.bind (f_X12_isFrom x2.toInt64 0 20) (fun q2 => if q2 = 0 then fb_X12_sit_49 σ o w else Option.bind (f_X12_isFrom x3.toInt64 0 20) (fun q3 => if q3 = 0 then fb_X12_sit_49 σ o w else Option.bind (f_X12_isFrom x4.toInt64 0 2) (fun q4 => if q4 = 0 then fb_X12_sit_49 σ o w else lt_ck 0 (lt_len σ (lt_r σ o 0)) (lt_let (lt_gi w (lt_r σ o 0) (0 : Int32).toNatClampNeg) (fun z6 => if z6 = 7 then Option.bind (f_X12_refuse σ o 4 w) (fun q27 => some (q27.1, q27.2)) else Option.bind (f_X12_guestRow z6) (fun q7 => lt_ck 0 (lt_len σ (lt_r σ o 0)) (lt_ck 0 (lt_len σ (lt_r σ o 0)) (lt_let (lt_si w (lt_r σ o 0) (0 : Int32).toNatClampNeg ((lt_gi w (lt_r σ o 0) (0 : Int32).toNatClampNeg) + 1)) (fun w9 => lt_ck q7 (lt_len σ (lt_r σ o 0)) (lt_let (lt_si w9 (lt_r σ o 0) q7.toNatClampNeg x1) (fun w11 => lt_ck (q7 + 1) (lt_len σ (lt_r σ o 0)) (lt_let (lt_si w11 (lt_r σ o 0) (q7 + 1).toNatClampNeg x2) (fun w13 => lt_ck (q7 + 2) (lt_len σ (lt_r σ o 0)) (lt_let (lt_si w13 (lt_r σ o 0) (q7 + 2).toNatClampNeg x3) (fun w15 => lt_ck (q7 + 3) (lt_len σ (lt_r σ o 0)) (lt_let (lt_si w15 (lt_r σ o 0) (q7 + 3).toNatClampNeg x4) (fun w17 => lt_ck (q7 + 4) (lt_len σ (lt_r σ o 0)) (lt_let (lt_si w17 (lt_r σ o 0) (q7 + 4).toNatClampNeg 0) (fun w19 => lt_ck (q7 + 5) (lt_len σ (lt_r σ o 0)) (lt_let (lt_si w19 (lt_r σ o 0) (q7 + 5).toNatClampNeg 1) (fun w21 => lt_ck (q7 + 6) (lt_len σ (lt_r σ o 0)) (lt_let (lt_si w21 (lt_r σ o 0) (q7 + 6).toNatClampNeg (-1)) (fun w23 => lt_ck z6 (lt_len σ (lt_r σ o 1)) (lt_let (lt_sl w23 (lt_r σ o 1) z6.toNatClampNeg 0) (fun w25 => Option.bind (f_X12_gives σ o z6 w25) (fun q26 => some (q26.1, q26.2))))))))))))))))))))))))))))
set_option maxHeartbeats 4000000 in
set_option maxRecDepth 100000 in
theorem jb_X12_sit_0 {X : lt_X} {σ : lt_S} (hT : lt_Wt σ) {o : Nat} (h0 : lt_c σ o = 12) {r : Int32 × lt_W} (hF : lt_F X cX12_sit RX12 7 (lt_rm 2)) (hE : lt_E X 0 0 σ (some .int) (some (.int r.1)) r.2) : ∀ (x1 : Int32) (x2 : Int32) (x3 : Int32) (x4 : Int32) (w : lt_W), fb_X12_sit_0 σ o x1 x2 x3 x4 w = some r → lt_J X 0 0 σ w 0 [(0, .ref (lt_z X + o)), (1, .int x1), (2, .int x2), (3, .int x3), (4, .int x4)] [] := by
  intro x1 x2 x3 x4 w hf
  unfold fb_X12_sit_0 at hf
  refine jr_iload_n hF dX12_sit_0 1 rfl rfl ?_
  refine jr_i2l hF dX12_sit_1 ?_
  refine jr_lconst (v := 0) hF dX12_sit_2 rfl ?_
  refine jr_ldc2 (v := 20) hF dX12_sit_3 kc_X12_328 ?_
  obtain ⟨q1, hq1, hf⟩ := Option.bind_eq_some_iff.mp hf
  refine jr_cS31 hF ml_X12_307 (c_X12_isFrom hq1) ⟨Nat.le_of_ble_eq_true rfl, Nat.le_of_ble_eq_true rfl⟩ (Nat.le_of_ble_eq_true rfl) dX12_sit_6 ?_
  refine jr_if_eq (tgt := 49) hF dX12_sit_9 rfl hf (fun hf => ?_) (fun hf => ?_)
  · refine jr_sub [0] rfl ?_
    exact jb_X12_sit_49 hT h0 hF hE _ hf
  · refine jr_iload_n hF dX12_sit_12 2 rfl rfl ?_
    refine jr_i2l hF dX12_sit_13 ?_
    refine jr_lconst (v := 0) hF dX12_sit_14 rfl ?_
    refine jr_ldc2 (v := 20) hF dX12_sit_15 kc_X12_328 ?_
    obtain ⟨q2, hq2, hf⟩ := Option.bind_eq_some_iff.mp hf
    refine jr_cS31 hF ml_X12_307 (c_X12_isFrom hq2) ⟨Nat.le_of_ble_eq_true rfl, Nat.le_of_ble_eq_true rfl⟩ (Nat.le_of_ble_eq_true rfl) dX12_sit_18 ?_
    refine jr_if_eq (tgt := 49) hF dX12_sit_21 rfl hf (fun hf => ?_) (fun hf => ?_)
    · refine jr_sub [0] rfl ?_
      exact jb_X12_sit_49 hT h0 hF hE _ hf
    · refine jr_iload_n hF dX12_sit_24 3 rfl rfl ?_
      refine jr_i2l hF dX12_sit_25 ?_
      refine jr_lconst (v := 0) hF dX12_sit_26 rfl ?_
      refine jr_ldc2 (v := 20) hF dX12_sit_27 kc_X12_328 ?_
      obtain ⟨q3, hq3, hf⟩ := Option.bind_eq_some_iff.mp hf
      refine jr_cS31 hF ml_X12_307 (c_X12_isFrom hq3) ⟨Nat.le_of_ble_eq_true rfl, Nat.le_of_ble_eq_true rfl⟩ (Nat.le_of_ble_eq_true rfl) dX12_sit_30 ?_
      refine jr_if_eq (tgt := 49) hF dX12_sit_33 rfl hf (fun hf => ?_) (fun hf => ?_)
      · refine jr_sub [0] rfl ?_
        exact jb_X12_sit_49 hT h0 hF hE _ hf
      · refine jr_iload hF dX12_sit_36 4 rfl ?_
        refine jr_i2l hF dX12_sit_38 ?_
        refine jr_lconst (v := 0) hF dX12_sit_39 rfl ?_
        refine jr_ldc2 (v := 2) hF dX12_sit_40 kc_X12_330 ?_
        obtain ⟨q4, hq4, hf⟩ := Option.bind_eq_some_iff.mp hf
        refine jr_cS31 hF ml_X12_307 (c_X12_isFrom hq4) ⟨Nat.le_of_ble_eq_true rfl, Nat.le_of_ble_eq_true rfl⟩ (Nat.le_of_ble_eq_true rfl) dX12_sit_43 ?_
        refine jr_if_ne (tgt := 55) hF dX12_sit_46 rfl hf (fun hf => ?_) (fun hf => ?_)
        · refine jr_aload_n hF dX12_sit_55 0 rfl rfl ?_
          refine jr_getRT (cr := 50) hF gf_X12_7 hT h0 rfl rfl dX12_sit_56 (fun th5 => ?_)
          refine jr_iconst (v := 0) hF dX12_sit_59 rfl ?_
          refine jr_iaload hF th5 dX12_sit_60 hf (fun hf => ?_)
          refine jr_letI hf (fun z6 hf => ?_)
          refine jr_istore (lv' := [(0, .ref (lt_z X + o)), (1, .int x1), (2, .int x2), (3, .int x3), (4, .int x4), (5, .int z6)]) hF dX12_sit_61 (by decide) [1, 2, 3, 4, 5, 0] rfl ?_
          refine jr_iload hF dX12_sit_63 5 rfl ?_
          refine jr_bipush (v := 7) hF dX12_sit_65 rfl ?_
          refine jr_icmp_ne (tgt := 76) hF dX12_sit_67 rfl hf (fun hf => ?_) (fun hf => ?_)
          · refine jr_iload hF dX12_sit_76 5 rfl ?_
            obtain ⟨q7, hq7, hf⟩ := Option.bind_eq_some_iff.mp hf
            refine jr_cS11 hF ml_X12_192 (c_X12_guestRow hq7) ⟨Nat.le_of_ble_eq_true rfl, Nat.le_of_ble_eq_true rfl⟩ (Nat.le_of_ble_eq_true rfl) dX12_sit_78 ?_
            refine jr_istore (lv' := [(0, .ref (lt_z X + o)), (1, .int x1), (2, .int x2), (3, .int x3), (4, .int x4), (5, .int z6), (6, .int q7)]) hF dX12_sit_81 (by decide) [1, 2, 3, 4, 5, 6, 0] rfl ?_
            refine jr_aload_n hF dX12_sit_83 0 rfl rfl ?_
            refine jr_getRT (cr := 50) hF gf_X12_7 hT h0 rfl rfl dX12_sit_84 (fun th8 => ?_)
            refine jr_iconst (v := 0) hF dX12_sit_87 rfl ?_
            refine jr_dup2 hF dX12_sit_88 rfl rfl ?_
            refine jr_iaload hF th8 dX12_sit_89 hf (fun hf => ?_)
            refine jr_iconst (v := 1) hF dX12_sit_90 rfl ?_
            refine jr_iadd hF dX12_sit_91 ?_
            refine jr_iastore hF th8 dX12_sit_92 hf (fun hf => ?_)
            refine jr_letW hf (fun w9 hf => ?_)
            refine jr_aload_n hF dX12_sit_93 0 rfl rfl ?_
            refine jr_getRT (cr := 50) hF gf_X12_7 hT h0 rfl rfl dX12_sit_94 (fun th10 => ?_)
            refine jr_iload hF dX12_sit_97 6 rfl ?_
            refine jr_iload_n hF dX12_sit_99 1 rfl rfl ?_
            refine jr_iastore hF th10 dX12_sit_100 hf (fun hf => ?_)
            refine jr_letW hf (fun w11 hf => ?_)
            refine jr_aload_n hF dX12_sit_101 0 rfl rfl ?_
            refine jr_getRT (cr := 50) hF gf_X12_7 hT h0 rfl rfl dX12_sit_102 (fun th12 => ?_)
            refine jr_iload hF dX12_sit_105 6 rfl ?_
            refine jr_iconst (v := 1) hF dX12_sit_107 rfl ?_
            refine jr_iadd hF dX12_sit_108 ?_
            refine jr_iload_n hF dX12_sit_109 2 rfl rfl ?_
            refine jr_iastore hF th12 dX12_sit_110 hf (fun hf => ?_)
            refine jr_letW hf (fun w13 hf => ?_)
            refine jr_aload_n hF dX12_sit_111 0 rfl rfl ?_
            refine jr_getRT (cr := 50) hF gf_X12_7 hT h0 rfl rfl dX12_sit_112 (fun th14 => ?_)
            refine jr_iload hF dX12_sit_115 6 rfl ?_
            refine jr_iconst (v := 2) hF dX12_sit_117 rfl ?_
            refine jr_iadd hF dX12_sit_118 ?_
            refine jr_iload_n hF dX12_sit_119 3 rfl rfl ?_
            refine jr_iastore hF th14 dX12_sit_120 hf (fun hf => ?_)
            refine jr_letW hf (fun w15 hf => ?_)
            refine jr_aload_n hF dX12_sit_121 0 rfl rfl ?_
            refine jr_getRT (cr := 50) hF gf_X12_7 hT h0 rfl rfl dX12_sit_122 (fun th16 => ?_)
            refine jr_iload hF dX12_sit_125 6 rfl ?_
            refine jr_iconst (v := 3) hF dX12_sit_127 rfl ?_
            refine jr_iadd hF dX12_sit_128 ?_
            refine jr_iload hF dX12_sit_129 4 rfl ?_
            refine jr_iastore hF th16 dX12_sit_131 hf (fun hf => ?_)
            refine jr_letW hf (fun w17 hf => ?_)
            refine jr_aload_n hF dX12_sit_132 0 rfl rfl ?_
            refine jr_getRT (cr := 50) hF gf_X12_7 hT h0 rfl rfl dX12_sit_133 (fun th18 => ?_)
            refine jr_iload hF dX12_sit_136 6 rfl ?_
            refine jr_iconst (v := 4) hF dX12_sit_138 rfl ?_
            refine jr_iadd hF dX12_sit_139 ?_
            refine jr_iconst (v := 0) hF dX12_sit_140 rfl ?_
            refine jr_iastore hF th18 dX12_sit_141 hf (fun hf => ?_)
            refine jr_letW hf (fun w19 hf => ?_)
            refine jr_aload_n hF dX12_sit_142 0 rfl rfl ?_
            refine jr_getRT (cr := 50) hF gf_X12_7 hT h0 rfl rfl dX12_sit_143 (fun th20 => ?_)
            refine jr_iload hF dX12_sit_146 6 rfl ?_
            refine jr_iconst (v := 5) hF dX12_sit_148 rfl ?_
            refine jr_iadd hF dX12_sit_149 ?_
            refine jr_iconst (v := 1) hF dX12_sit_150 rfl ?_
            refine jr_iastore hF th20 dX12_sit_151 hf (fun hf => ?_)
            refine jr_letW hf (fun w21 hf => ?_)
            refine jr_aload_n hF dX12_sit_152 0 rfl rfl ?_
            refine jr_getRT (cr := 50) hF gf_X12_7 hT h0 rfl rfl dX12_sit_153 (fun th22 => ?_)
            refine jr_iload hF dX12_sit_156 6 rfl ?_
            refine jr_bipush (v := 6) hF dX12_sit_158 rfl ?_
            refine jr_iadd hF dX12_sit_160 ?_
            refine jr_iconst (v := (-1)) hF dX12_sit_161 rfl ?_
            refine jr_iastore hF th22 dX12_sit_162 hf (fun hf => ?_)
            refine jr_letW hf (fun w23 hf => ?_)
            refine jr_aload_n hF dX12_sit_163 0 rfl rfl ?_
            refine jr_getRT (cr := 51) hF gf_X12_13 hT h0 rfl rfl dX12_sit_164 (fun th24 => ?_)
            refine jr_iload hF dX12_sit_167 5 rfl ?_
            refine jr_lconst (v := 0) hF dX12_sit_169 rfl ?_
            refine jr_lastore hF th24 dX12_sit_170 hf (fun hf => ?_)
            refine jr_letW hf (fun w25 hf => ?_)
            refine jr_aload_n hF dX12_sit_171 0 rfl rfl ?_
            refine jr_iload hF dX12_sit_172 5 rfl ?_
            obtain ⟨q26, hq26, hf⟩ := Option.bind_eq_some_iff.mp hf
            refine jr_cV11 hF ml_X12_101 (c_X12_gives h0 hq26) h0 ⟨Nat.le_of_ble_eq_true rfl, Nat.le_of_ble_eq_true rfl⟩ (Nat.le_of_ble_eq_true rfl) dX12_sit_174 ?_
            obtain rfl := Option.some.inj hf
            exact jr_ireturn hF hE dX12_sit_177
          · refine jr_aload_n hF dX12_sit_70 0 rfl rfl ?_
            refine jr_iconst (v := 4) hF dX12_sit_71 rfl ?_
            obtain ⟨q27, hq27, hf⟩ := Option.bind_eq_some_iff.mp hf
            refine jr_cV11 hF ml_X12_97 (c_X12_refuse h0 hq27) h0 ⟨Nat.le_of_ble_eq_true rfl, Nat.le_of_ble_eq_true rfl⟩ (Nat.le_of_ble_eq_true rfl) dX12_sit_72 ?_
            obtain rfl := Option.some.inj hf
            exact jr_ireturn hF hE dX12_sit_75
        · refine jr_sub [0] rfl ?_
          exact jb_X12_sit_49 hT h0 hF hE _ hf
def f_X12_sit (σ : lt_S) (o : Nat) (x1 : Int32) (x2 : Int32) (x3 : Int32) (x4 : Int32) (w : lt_W) : Option (Int32 × lt_W) := fb_X12_sit_0 σ o x1 x2 x3 x4 w
set_option maxRecDepth 100000 in
theorem c_X12_sit {l : Launch} {D : va_G} {gA : Nat → ClassId} {s0 : State} {σ : lt_S} (hT : lt_Wt σ) {o : Nat} (h0 : lt_c σ o = 12) {x1 : Int32} {x2 : Int32} {x3 : Int32} {x4 : Int32} {w : lt_W} {r : Int32 × lt_W} (hf : f_X12_sit σ o x1 x2 x3 x4 w = some r) : lt_C l D gA s0 yX12_sit cX12_sit 7 (some .int) (lt_rm 2) [.ref (s0.heap.size + o), .int x1, .int x2, .int x3, .int x4] σ w σ (some (.int r.1)) r.2 := by
  refine lt_enter rfl (Nat.le_of_ble_eq_true rfl) (fun X e1 e2 e3 e4 hF hE => ?_)
  subst e1 e2 e3 e4
  exact jb_X12_sit_0 hT h0 hF hE _ _ _ _ _ hf

set_option maxRecDepth 100000 in
def fb_X12_slicesIn_0 (σ : lt_S) (o : Nat) (x1 : Int32) (w : lt_W) : Option (Int32 × lt_W) := Option.bind (f_X12_isFrom x1.toInt64 0 99) (fun q1 => if q1 = 0 then Option.bind (f_X12_refuse σ o 1 w) (fun q8 => some (q8.1, q8.2)) else Option.bind (f_X12_keeps σ o 2140 w) (fun q2 => Option.bind (f_X12_daysGo σ o x1 q2) (fun q3 => lt_ck 5 (lt_len σ (lt_r σ o 0)) (lt_let (lt_gi q3 (lt_r σ o 0) (5 : Int32).toNatClampNeg) (fun z5 => Option.bind (f_X12_brings σ o 2140 q3) (fun q6 => Option.bind (f_X12_gives σ o z5 q6) (fun q7 => some (q7.1, q7.2))))))))
set_option maxHeartbeats 4000000 in
set_option maxRecDepth 100000 in
theorem jb_X12_slicesIn_0 {X : lt_X} {σ : lt_S} (hT : lt_Wt σ) {o : Nat} (h0 : lt_c σ o = 12) {r : Int32 × lt_W} (hF : lt_F X cX12_slicesIn RX12 3 (lt_rm 8)) (hE : lt_E X 0 0 σ (some .int) (some (.int r.1)) r.2) : ∀ (x1 : Int32) (w : lt_W), fb_X12_slicesIn_0 σ o x1 w = some r → lt_J X 0 0 σ w 0 [(0, .ref (lt_z X + o)), (1, .int x1)] [] := by
  intro x1 w hf
  unfold fb_X12_slicesIn_0 at hf
  refine jr_iload_n hF dX12_slicesIn_0 1 rfl rfl ?_
  refine jr_i2l hF dX12_slicesIn_1 ?_
  refine jr_lconst (v := 0) hF dX12_slicesIn_2 rfl ?_
  refine jr_ldc2 (v := 99) hF dX12_slicesIn_3 kc_X12_332 ?_
  obtain ⟨q1, hq1, hf⟩ := Option.bind_eq_some_iff.mp hf
  refine jr_cS31 hF ml_X12_307 (c_X12_isFrom hq1) ⟨Nat.le_of_ble_eq_true rfl, Nat.le_of_ble_eq_true rfl⟩ (Nat.le_of_ble_eq_true rfl) dX12_slicesIn_6 ?_
  refine jr_if_ne (tgt := 18) hF dX12_slicesIn_9 rfl hf (fun hf => ?_) (fun hf => ?_)
  · refine jr_aload_n hF dX12_slicesIn_18 0 rfl rfl ?_
    refine jr_sipush (v := 2140) hF dX12_slicesIn_19 rfl ?_
    obtain ⟨q2, hq2, hf⟩ := Option.bind_eq_some_iff.mp hf
    refine jr_cV1v hF ml_X12_334 (c_X12_keeps hT h0 hq2) h0 ⟨Nat.le_of_ble_eq_true rfl, Nat.le_of_ble_eq_true rfl⟩ (Nat.le_of_ble_eq_true rfl) dX12_slicesIn_22 ?_
    refine jr_aload_n hF dX12_slicesIn_25 0 rfl rfl ?_
    refine jr_iload_n hF dX12_slicesIn_26 1 rfl rfl ?_
    obtain ⟨q3, hq3, hf⟩ := Option.bind_eq_some_iff.mp hf
    refine jr_cV1v hF ml_X12_311 (c_X12_daysGo hT h0 hq3) h0 ⟨Nat.le_of_ble_eq_true rfl, Nat.le_of_ble_eq_true rfl⟩ (Nat.le_of_ble_eq_true rfl) dX12_slicesIn_27 ?_
    refine jr_aload_n hF dX12_slicesIn_30 0 rfl rfl ?_
    refine jr_getRT (cr := 50) hF gf_X12_7 hT h0 rfl rfl dX12_slicesIn_31 (fun th4 => ?_)
    refine jr_iconst (v := 5) hF dX12_slicesIn_34 rfl ?_
    refine jr_iaload hF th4 dX12_slicesIn_35 hf (fun hf => ?_)
    refine jr_letI hf (fun z5 hf => ?_)
    refine jr_istore_n (lv' := [(0, .ref (lt_z X + o)), (2, .int z5)]) hF dX12_slicesIn_36 rfl (by decide) [1, 0] rfl ?_
    refine jr_aload_n hF dX12_slicesIn_37 0 rfl rfl ?_
    refine jr_sipush (v := 2140) hF dX12_slicesIn_38 rfl ?_
    obtain ⟨q6, hq6, hf⟩ := Option.bind_eq_some_iff.mp hf
    refine jr_cV1v hF ml_X12_337 (c_X12_brings hT h0 hq6) h0 ⟨Nat.le_of_ble_eq_true rfl, Nat.le_of_ble_eq_true rfl⟩ (Nat.le_of_ble_eq_true rfl) dX12_slicesIn_41 ?_
    refine jr_aload_n hF dX12_slicesIn_44 0 rfl rfl ?_
    refine jr_iload_n hF dX12_slicesIn_45 1 rfl rfl ?_
    obtain ⟨q7, hq7, hf⟩ := Option.bind_eq_some_iff.mp hf
    refine jr_cV11 hF ml_X12_101 (c_X12_gives h0 hq7) h0 ⟨Nat.le_of_ble_eq_true rfl, Nat.le_of_ble_eq_true rfl⟩ (Nat.le_of_ble_eq_true rfl) dX12_slicesIn_46 ?_
    obtain rfl := Option.some.inj hf
    exact jr_ireturn hF hE dX12_slicesIn_49
  · refine jr_aload_n hF dX12_slicesIn_12 0 rfl rfl ?_
    refine jr_iconst (v := 1) hF dX12_slicesIn_13 rfl ?_
    obtain ⟨q8, hq8, hf⟩ := Option.bind_eq_some_iff.mp hf
    refine jr_cV11 hF ml_X12_97 (c_X12_refuse h0 hq8) h0 ⟨Nat.le_of_ble_eq_true rfl, Nat.le_of_ble_eq_true rfl⟩ (Nat.le_of_ble_eq_true rfl) dX12_slicesIn_14 ?_
    obtain rfl := Option.some.inj hf
    exact jr_ireturn hF hE dX12_slicesIn_17
def f_X12_slicesIn (σ : lt_S) (o : Nat) (x1 : Int32) (w : lt_W) : Option (Int32 × lt_W) := fb_X12_slicesIn_0 σ o x1 w
set_option maxRecDepth 100000 in
theorem c_X12_slicesIn {l : Launch} {D : va_G} {gA : Nat → ClassId} {s0 : State} {σ : lt_S} (hT : lt_Wt σ) {o : Nat} (h0 : lt_c σ o = 12) {x1 : Int32} {w : lt_W} {r : Int32 × lt_W} (hf : f_X12_slicesIn σ o x1 w = some r) : lt_C l D gA s0 yX12_slicesIn cX12_slicesIn 3 (some .int) (lt_rm 8) [.ref (s0.heap.size + o), .int x1] σ w σ (some (.int r.1)) r.2 := by
  refine lt_enter rfl (Nat.le_of_ble_eq_true rfl) (fun X e1 e2 e3 e4 hF hE => ?_)
  subst e1 e2 e3 e4
  exact jb_X12_slicesIn_0 hT h0 hF hE _ _ hf

set_option maxRecDepth 100000 in
def fb_X12_soup_0 (σ : lt_S) (o : Nat) (x1 : Int32) (w : lt_W) : Option (Int32 × lt_W) := Option.bind (f_X12_isGuest σ o x1 w) (fun q1 => if q1 = 0 then Option.bind (f_X12_refuse σ o 1 w) (fun q6 => some (q6.1, q6.2)) else Option.bind (f_X12_guestOf σ o x1 4 w) (fun q2 => Option.bind (f_X12_fedBy σ o x1 w) (fun q3 => if q3.1 = 0 then Option.bind (f_X12_refuse σ o 7 q3.2) (fun q4 => some (q4.1, q4.2)) else Option.bind (f_X12_gives σ o q2 q3.2) (fun q5 => some (q5.1, q5.2)))))
set_option maxHeartbeats 4000000 in
set_option maxRecDepth 100000 in
theorem jb_X12_soup_0 {X : lt_X} {σ : lt_S} (hT : lt_Wt σ) {o : Nat} (h0 : lt_c σ o = 12) {r : Int32 × lt_W} (hF : lt_F X cX12_soup RX12 3 (lt_rm 5)) (hE : lt_E X 0 0 σ (some .int) (some (.int r.1)) r.2) : ∀ (x1 : Int32) (w : lt_W), fb_X12_soup_0 σ o x1 w = some r → lt_J X 0 0 σ w 0 [(0, .ref (lt_z X + o)), (1, .int x1)] [] := by
  intro x1 w hf
  unfold fb_X12_soup_0 at hf
  refine jr_aload_n hF dX12_soup_0 0 rfl rfl ?_
  refine jr_iload_n hF dX12_soup_1 1 rfl rfl ?_
  obtain ⟨q1, hq1, hf⟩ := Option.bind_eq_some_iff.mp hf
  refine jr_cV11 hF ml_X12_266 (c_X12_isGuest hT h0 hq1) h0 ⟨Nat.le_of_ble_eq_true rfl, Nat.le_of_ble_eq_true rfl⟩ (Nat.le_of_ble_eq_true rfl) dX12_soup_2 ?_
  refine jr_if_ne (tgt := 14) hF dX12_soup_5 rfl hf (fun hf => ?_) (fun hf => ?_)
  · refine jr_aload_n hF dX12_soup_14 0 rfl rfl ?_
    refine jr_iload_n hF dX12_soup_15 1 rfl rfl ?_
    refine jr_iconst (v := 4) hF dX12_soup_16 rfl ?_
    obtain ⟨q2, hq2, hf⟩ := Option.bind_eq_some_iff.mp hf
    refine jr_cV21 hF ml_X12_269 (c_X12_guestOf hT h0 hq2) h0 ⟨Nat.le_of_ble_eq_true rfl, Nat.le_of_ble_eq_true rfl⟩ (Nat.le_of_ble_eq_true rfl) dX12_soup_17 ?_
    refine jr_istore_n (lv' := [(0, .ref (lt_z X + o)), (1, .int x1), (2, .int q2)]) hF dX12_soup_20 rfl (by decide) [1, 2, 0] rfl ?_
    refine jr_aload_n hF dX12_soup_21 0 rfl rfl ?_
    refine jr_iload_n hF dX12_soup_22 1 rfl rfl ?_
    obtain ⟨q3, hq3, hf⟩ := Option.bind_eq_some_iff.mp hf
    refine jr_cV11 hF ml_X12_323 (c_X12_fedBy hT h0 hq3) h0 ⟨Nat.le_of_ble_eq_true rfl, Nat.le_of_ble_eq_true rfl⟩ (Nat.le_of_ble_eq_true rfl) dX12_soup_23 ?_
    refine jr_if_eq (tgt := 37) hF dX12_soup_26 rfl hf (fun hf => ?_) (fun hf => ?_)
    · refine jr_aload_n hF dX12_soup_37 0 rfl rfl ?_
      refine jr_bipush (v := 7) hF dX12_soup_38 rfl ?_
      obtain ⟨q4, hq4, hf⟩ := Option.bind_eq_some_iff.mp hf
      refine jr_cV11 hF ml_X12_97 (c_X12_refuse h0 hq4) h0 ⟨Nat.le_of_ble_eq_true rfl, Nat.le_of_ble_eq_true rfl⟩ (Nat.le_of_ble_eq_true rfl) dX12_soup_40 ?_
      obtain rfl := Option.some.inj hf
      exact jr_ireturn hF hE dX12_soup_43
    · refine jr_aload_n hF dX12_soup_29 0 rfl rfl ?_
      refine jr_iload_n hF dX12_soup_30 2 rfl rfl ?_
      obtain ⟨q5, hq5, hf⟩ := Option.bind_eq_some_iff.mp hf
      refine jr_cV11 hF ml_X12_101 (c_X12_gives h0 hq5) h0 ⟨Nat.le_of_ble_eq_true rfl, Nat.le_of_ble_eq_true rfl⟩ (Nat.le_of_ble_eq_true rfl) dX12_soup_31 ?_
      refine jr_goto (tgt := 43) hF dX12_soup_34 rfl ?_
      obtain rfl := Option.some.inj hf
      exact jr_ireturn hF hE dX12_soup_43
  · refine jr_aload_n hF dX12_soup_8 0 rfl rfl ?_
    refine jr_iconst (v := 1) hF dX12_soup_9 rfl ?_
    obtain ⟨q6, hq6, hf⟩ := Option.bind_eq_some_iff.mp hf
    refine jr_cV11 hF ml_X12_97 (c_X12_refuse h0 hq6) h0 ⟨Nat.le_of_ble_eq_true rfl, Nat.le_of_ble_eq_true rfl⟩ (Nat.le_of_ble_eq_true rfl) dX12_soup_10 ?_
    obtain rfl := Option.some.inj hf
    exact jr_ireturn hF hE dX12_soup_13
def f_X12_soup (σ : lt_S) (o : Nat) (x1 : Int32) (w : lt_W) : Option (Int32 × lt_W) := fb_X12_soup_0 σ o x1 w
set_option maxRecDepth 100000 in
theorem c_X12_soup {l : Launch} {D : va_G} {gA : Nat → ClassId} {s0 : State} {σ : lt_S} (hT : lt_Wt σ) {o : Nat} (h0 : lt_c σ o = 12) {x1 : Int32} {w : lt_W} {r : Int32 × lt_W} (hf : f_X12_soup σ o x1 w = some r) : lt_C l D gA s0 yX12_soup cX12_soup 3 (some .int) (lt_rm 5) [.ref (s0.heap.size + o), .int x1] σ w σ (some (.int r.1)) r.2 := by
  refine lt_enter rfl (Nat.le_of_ble_eq_true rfl) (fun X e1 e2 e3 e4 hF hE => ?_)
  subst e1 e2 e3 e4
  exact jb_X12_soup_0 hT h0 hF hE _ _ hf

set_option maxRecDepth 100000 in
def fb_X12_stale_26 (σ : lt_S) (o : Nat) : Nat → Int32 → Int64 → Int64 → Int32 → lt_W → Option (Int32 × lt_W)
  | 0, _, _, _, _, _ => none
  | n + 1, x1, x2, x4, x6, w => if x1 ≤ x6 then Option.bind (f_X12_tellsBy σ o x2 x4 w) (fun q1 => lt_bz q1.1 (some (q1.1, q1.2))) else lt_ck 1 (lt_len σ (lt_r σ o 0)) (lt_let (x2 * ((16 - (lt_gi w (lt_r σ o 0) (1 : Int32).toNatClampNeg)).toInt64)) (fun z4 => fb_X12_stale_26 σ o n x1 z4 (x4 * 16) (x6 + 1) w))
set_option maxHeartbeats 4000000 in
set_option maxRecDepth 100000 in
theorem jb_X12_stale_26 {X : lt_X} {σ : lt_S} (hT : lt_Wt σ) {o : Nat} (h0 : lt_c σ o = 12) {r : Int32 × lt_W} (hF : lt_F X cX12_stale RX12 7 (lt_rm 3)) (hE : lt_E X 0 0 σ (some .boolean) (some (.int r.1)) r.2) (n : Nat) : ∀ (x1 : Int32) (x2 : Int64) (x4 : Int64) (x6 : Int32) (w : lt_W), fb_X12_stale_26 σ o n x1 x2 x4 x6 w = some r → lt_J X 0 0 σ w 26 [(0, .ref (lt_z X + o)), (1, .int x1), (2, .long x2), (4, .long x4), (6, .int x6)] [] := by
  induction n with
  | zero => intro x1 x2 x4 x6 w hf; rw [fb_X12_stale_26] at hf; cases hf
  | succ n ih =>
    intro x1 x2 x4 x6 w hf
    rw [fb_X12_stale_26] at hf
    refine jr_iload hF dX12_stale_26 4 rfl ?_
    refine jr_iload_n hF dX12_stale_28 1 rfl rfl ?_
    refine jr_icmp_ge (tgt := 59) hF dX12_stale_29 rfl hf (fun hf => ?_) (fun hf => ?_)
    · refine jr_aload_n hF dX12_stale_59 0 rfl rfl ?_
      refine jr_lload_n hF dX12_stale_60 2 rfl rfl ?_
      refine jr_lload hF dX12_stale_61 3 rfl ?_
      obtain ⟨q1, hq1, hf⟩ := Option.bind_eq_some_iff.mp hf
      refine jr_cV21 hF ml_X12_373 (c_X12_tellsBy h0 hq1) h0 ⟨Nat.le_of_ble_eq_true rfl, Nat.le_of_ble_eq_true rfl⟩ (Nat.le_of_ble_eq_true rfl) dX12_stale_63 ?_
      obtain ⟨b2, hf⟩ := lt_bzE hf
      obtain rfl := Option.some.inj hf
      exact jr_zreturn hF hE b2 dX12_stale_66
    · refine jr_lload_n hF dX12_stale_32 2 rfl rfl ?_
      refine jr_bipush (v := 16) hF dX12_stale_33 rfl ?_
      refine jr_aload_n hF dX12_stale_35 0 rfl rfl ?_
      refine jr_getRT (cr := 50) hF gf_X12_7 hT h0 rfl rfl dX12_stale_36 (fun th3 => ?_)
      refine jr_iconst (v := 1) hF dX12_stale_39 rfl ?_
      refine jr_iaload hF th3 dX12_stale_40 hf (fun hf => ?_)
      refine jr_isub hF dX12_stale_41 ?_
      refine jr_i2l hF dX12_stale_42 ?_
      refine jr_lmul hF dX12_stale_43 ?_
      refine jr_letL hf (fun z4 hf => ?_)
      refine jr_lstore_n (lv' := [(0, .ref (lt_z X + o)), (1, .int x1), (2, .long z4), (4, .long x4), (6, .int x6)]) hF dX12_stale_44 rfl (by decide) [1, 2, 0, 3, 4] rfl ?_
      refine jr_lload hF dX12_stale_45 3 rfl ?_
      refine jr_ldc2 (v := 16) hF dX12_stale_47 kc_X12_381 ?_
      refine jr_lmul hF dX12_stale_50 ?_
      refine jr_lstore (lv' := [(0, .ref (lt_z X + o)), (1, .int x1), (2, .long z4), (4, .long (x4 * 16)), (6, .int x6)]) hF dX12_stale_51 (by decide) [1, 2, 3, 0, 4] rfl ?_
      refine jr_iinc (v := x6 + 1) (lv' := [(0, .ref (lt_z X + o)), (1, .int x1), (2, .long z4), (4, .long (x4 * 16)), (6, .int (x6 + 1))]) hF dX12_stale_53 4 rfl rfl (by decide) [1, 2, 3, 4, 0] rfl ?_
      refine jr_goto (tgt := 26) hF dX12_stale_56 rfl ?_
      exact ih _ _ _ _ _ hf
set_option maxRecDepth 100000 in
def fb_X12_stale_0 (σ : lt_S) (o : Nat) (x1 : Int32) (w : lt_W) : Option (Int32 × lt_W) := Option.bind (f_X12_isFrom x1.toInt64 0 12) (fun q1 => if q1 = 0 then Option.bind (f_X12_is σ o 1 w) (fun q2 => lt_bz q2.1 (some (q2.1, q2.2))) else fb_X12_stale_26 σ o lt_fu x1 1 1 0 w)
set_option maxHeartbeats 4000000 in
set_option maxRecDepth 100000 in
theorem jb_X12_stale_0 {X : lt_X} {σ : lt_S} (hT : lt_Wt σ) {o : Nat} (h0 : lt_c σ o = 12) {r : Int32 × lt_W} (hF : lt_F X cX12_stale RX12 7 (lt_rm 3)) (hE : lt_E X 0 0 σ (some .boolean) (some (.int r.1)) r.2) : ∀ (x1 : Int32) (w : lt_W), fb_X12_stale_0 σ o x1 w = some r → lt_J X 0 0 σ w 0 [(0, .ref (lt_z X + o)), (1, .int x1)] [] := by
  intro x1 w hf
  unfold fb_X12_stale_0 at hf
  refine jr_iload_n hF dX12_stale_0 1 rfl rfl ?_
  refine jr_i2l hF dX12_stale_1 ?_
  refine jr_lconst (v := 0) hF dX12_stale_2 rfl ?_
  refine jr_ldc2 (v := 12) hF dX12_stale_3 kc_X12_379 ?_
  obtain ⟨q1, hq1, hf⟩ := Option.bind_eq_some_iff.mp hf
  refine jr_cS31 hF ml_X12_307 (c_X12_isFrom hq1) ⟨Nat.le_of_ble_eq_true rfl, Nat.le_of_ble_eq_true rfl⟩ (Nat.le_of_ble_eq_true rfl) dX12_stale_6 ?_
  refine jr_if_ne (tgt := 18) hF dX12_stale_9 rfl hf (fun hf => ?_) (fun hf => ?_)
  · refine jr_lconst (v := 1) hF dX12_stale_18 rfl ?_
    refine jr_lstore_n (lv' := [(0, .ref (lt_z X + o)), (1, .int x1), (2, .long 1)]) hF dX12_stale_19 rfl (by decide) [1, 2, 0] rfl ?_
    refine jr_lconst (v := 1) hF dX12_stale_20 rfl ?_
    refine jr_lstore (lv' := [(0, .ref (lt_z X + o)), (1, .int x1), (2, .long 1), (4, .long 1)]) hF dX12_stale_21 (by decide) [1, 2, 3, 0] rfl ?_
    refine jr_iconst (v := 0) hF dX12_stale_23 rfl ?_
    refine jr_istore (lv' := [(0, .ref (lt_z X + o)), (1, .int x1), (2, .long 1), (4, .long 1), (6, .int 0)]) hF dX12_stale_24 (by decide) [1, 2, 3, 4, 0] rfl ?_
    exact jb_X12_stale_26 hT h0 hF hE lt_fu _ _ _ _ _ hf
  · refine jr_aload_n hF dX12_stale_12 0 rfl rfl ?_
    refine jr_iconst (v := 1) hF dX12_stale_13 rfl ?_
    obtain ⟨q2, hq2, hf⟩ := Option.bind_eq_some_iff.mp hf
    refine jr_cV11 hF ml_X12_104 (c_X12_is h0 hq2) h0 ⟨Nat.le_of_ble_eq_true rfl, Nat.le_of_ble_eq_true rfl⟩ (Nat.le_of_ble_eq_true rfl) dX12_stale_14 ?_
    obtain ⟨b3, hf⟩ := lt_bzE hf
    obtain rfl := Option.some.inj hf
    exact jr_zreturn hF hE b3 dX12_stale_17
def f_X12_stale (σ : lt_S) (o : Nat) (x1 : Int32) (w : lt_W) : Option (Int32 × lt_W) := fb_X12_stale_0 σ o x1 w
set_option maxRecDepth 100000 in
theorem c_X12_stale {l : Launch} {D : va_G} {gA : Nat → ClassId} {s0 : State} {σ : lt_S} (hT : lt_Wt σ) {o : Nat} (h0 : lt_c σ o = 12) {x1 : Int32} {w : lt_W} {r : Int32 × lt_W} (hf : f_X12_stale σ o x1 w = some r) : lt_C l D gA s0 yX12_stale cX12_stale 7 (some .boolean) (lt_rm 3) [.ref (s0.heap.size + o), .int x1] σ w σ (some (.int r.1)) r.2 := by
  refine lt_enter rfl (Nat.le_of_ble_eq_true rfl) (fun X e1 e2 e3 e4 hF hE => ?_)
  subst e1 e2 e3 e4
  exact jb_X12_stale_0 hT h0 hF hE _ _ hf

set_option maxRecDepth 100000 in
def fb_X12_starving_31 (σ : lt_S) (o : Nat) (k11 : Int32 → Int32 → lt_W → Option (Int32 × lt_W)) (x1 : Int32) (x2 : Int32) (w : lt_W) : Option (Int32 × lt_W) := Option.bind (f_X12_dayGoes σ o w) (fun q1 => k11 x1 (x2 + 1) q1.2)
set_option maxHeartbeats 4000000 in
set_option maxRecDepth 100000 in
theorem jb_X12_starving_31 {X : lt_X} {σ : lt_S} (hT : lt_Wt σ) {o : Nat} (h0 : lt_c σ o = 12) {r : Int32 × lt_W} {k11 : Int32 → Int32 → lt_W → Option (Int32 × lt_W)} (hF : lt_F X cX12_starving RX12 3 (lt_rm 7)) (hE : lt_E X 0 0 σ (some .int) (some (.int r.1)) r.2) (hk11 : ∀ (x1 : Int32) (x2 : Int32) (w : lt_W), k11 x1 x2 w = some r → lt_J X 0 0 σ w 11 [(0, .ref (lt_z X + o)), (1, .int x1), (2, .int x2)] []) : ∀ (x1 : Int32) (x2 : Int32) (w : lt_W), fb_X12_starving_31 σ o k11 x1 x2 w = some r → lt_J X 0 0 σ w 31 [(0, .ref (lt_z X + o)), (1, .int x1), (2, .int x2)] [] := by
  intro x1 x2 w hf
  unfold fb_X12_starving_31 at hf
  refine jr_aload_n hF dX12_starving_31 0 rfl rfl ?_
  obtain ⟨q1, hq1, hf⟩ := Option.bind_eq_some_iff.mp hf
  refine jr_cV01 hF ml_X12_302 (c_X12_dayGoes hT h0 hq1) h0 ⟨Nat.le_of_ble_eq_true rfl, Nat.le_of_ble_eq_true rfl⟩ (Nat.le_of_ble_eq_true rfl) dX12_starving_32 ?_
  refine jr_pop hF dX12_starving_35 rfl ?_
  refine jr_iinc (v := x2 + 1) (lv' := [(0, .ref (lt_z X + o)), (1, .int x1), (2, .int (x2 + 1))]) hF dX12_starving_36 2 rfl rfl (by decide) [1, 2, 0] rfl ?_
  refine jr_goto (tgt := 11) hF dX12_starving_39 rfl ?_
  exact hk11 _ _ _ hf
set_option maxRecDepth 100000 in
def fb_X12_starving_42 (σ : lt_S) (o : Nat) (x1 : Int32) (w : lt_W) : Option (Int32 × lt_W) := Option.bind (f_X12_brings σ o 2140 w) (fun q1 => Option.bind (f_X12_orNone σ o x1 q1) (fun q2 => some (q2.1, q2.2)))
set_option maxHeartbeats 4000000 in
set_option maxRecDepth 100000 in
theorem jb_X12_starving_42 {X : lt_X} {σ : lt_S} (hT : lt_Wt σ) {o : Nat} (h0 : lt_c σ o = 12) {r : Int32 × lt_W} (hF : lt_F X cX12_starving RX12 3 (lt_rm 7)) (hE : lt_E X 0 0 σ (some .int) (some (.int r.1)) r.2) : ∀ (x1 : Int32) (w : lt_W), fb_X12_starving_42 σ o x1 w = some r → lt_J X 0 0 σ w 42 [(0, .ref (lt_z X + o)), (1, .int x1)] [] := by
  intro x1 w hf
  unfold fb_X12_starving_42 at hf
  refine jr_aload_n hF dX12_starving_42 0 rfl rfl ?_
  refine jr_sipush (v := 2140) hF dX12_starving_43 rfl ?_
  obtain ⟨q1, hq1, hf⟩ := Option.bind_eq_some_iff.mp hf
  refine jr_cV1v hF ml_X12_337 (c_X12_brings hT h0 hq1) h0 ⟨Nat.le_of_ble_eq_true rfl, Nat.le_of_ble_eq_true rfl⟩ (Nat.le_of_ble_eq_true rfl) dX12_starving_46 ?_
  refine jr_aload_n hF dX12_starving_49 0 rfl rfl ?_
  refine jr_iload_n hF dX12_starving_50 1 rfl rfl ?_
  obtain ⟨q2, hq2, hf⟩ := Option.bind_eq_some_iff.mp hf
  refine jr_cV11 hF ml_X12_284 (c_X12_orNone h0 hq2) h0 ⟨Nat.le_of_ble_eq_true rfl, Nat.le_of_ble_eq_true rfl⟩ (Nat.le_of_ble_eq_true rfl) dX12_starving_51 ?_
  obtain rfl := Option.some.inj hf
  exact jr_ireturn hF hE dX12_starving_54
set_option maxRecDepth 100000 in
def fb_X12_starving_11 (σ : lt_S) (o : Nat) : Nat → Int32 → Int32 → lt_W → Option (Int32 × lt_W)
  | 0, _, _, _ => none
  | n + 1, x1, x2, w => if 99 < x2 then fb_X12_starving_42 σ o x1 w else if x1 = (-1) then Option.bind (f_X12_areStarved σ o w) (fun q1 => if q1 = 0 then fb_X12_starving_31 σ o (fun x1 x2 w => fb_X12_starving_11 σ o n x1 x2 w) x1 x2 w else fb_X12_starving_31 σ o (fun x1 x2 w => fb_X12_starving_11 σ o n x1 x2 w) x2 x2 w) else fb_X12_starving_42 σ o x1 w
set_option maxHeartbeats 4000000 in
set_option maxRecDepth 100000 in
theorem jb_X12_starving_11 {X : lt_X} {σ : lt_S} (hT : lt_Wt σ) {o : Nat} (h0 : lt_c σ o = 12) {r : Int32 × lt_W} (hF : lt_F X cX12_starving RX12 3 (lt_rm 7)) (hE : lt_E X 0 0 σ (some .int) (some (.int r.1)) r.2) (n : Nat) : ∀ (x1 : Int32) (x2 : Int32) (w : lt_W), fb_X12_starving_11 σ o n x1 x2 w = some r → lt_J X 0 0 σ w 11 [(0, .ref (lt_z X + o)), (1, .int x1), (2, .int x2)] [] := by
  induction n with
  | zero => intro x1 x2 w hf; rw [fb_X12_starving_11] at hf; cases hf
  | succ n ih =>
    intro x1 x2 w hf
    rw [fb_X12_starving_11] at hf
    refine jr_iload_n hF dX12_starving_11 2 rfl rfl ?_
    refine jr_bipush (v := 99) hF dX12_starving_12 rfl ?_
    refine jr_icmp_gt (tgt := 42) hF dX12_starving_14 rfl hf (fun hf => ?_) (fun hf => ?_)
    · refine jr_sub [0, 1] rfl ?_
      exact jb_X12_starving_42 hT h0 hF hE _ _ hf
    · refine jr_iload_n hF dX12_starving_17 1 rfl rfl ?_
      refine jr_iconst (v := (-1)) hF dX12_starving_18 rfl ?_
      refine jr_icmp_ne (tgt := 42) hF dX12_starving_19 rfl hf (fun hf => ?_) (fun hf => ?_)
      · refine jr_sub [0, 1] rfl ?_
        exact jb_X12_starving_42 hT h0 hF hE _ _ hf
      · refine jr_aload_n hF dX12_starving_22 0 rfl rfl ?_
        obtain ⟨q1, hq1, hf⟩ := Option.bind_eq_some_iff.mp hf
        refine jr_cV01 hF ml_X12_281 (c_X12_areStarved hT h0 hq1) h0 ⟨Nat.le_of_ble_eq_true rfl, Nat.le_of_ble_eq_true rfl⟩ (Nat.le_of_ble_eq_true rfl) dX12_starving_23 ?_
        refine jr_if_eq (tgt := 31) hF dX12_starving_26 rfl hf (fun hf => ?_) (fun hf => ?_)
        · exact jb_X12_starving_31 hT h0 hF hE ih _ _ _ hf
        · refine jr_iload_n hF dX12_starving_29 2 rfl rfl ?_
          refine jr_istore_n (lv' := [(0, .ref (lt_z X + o)), (1, .int x2), (2, .int x2)]) hF dX12_starving_30 rfl (by decide) [1, 0, 2] rfl ?_
          exact jb_X12_starving_31 hT h0 hF hE ih _ _ _ hf
set_option maxRecDepth 100000 in
def fb_X12_starving_0 (σ : lt_S) (o : Nat) (w : lt_W) : Option (Int32 × lt_W) := Option.bind (f_X12_keeps σ o 2140 w) (fun q1 => fb_X12_starving_11 σ o lt_fu (-1) 0 q1)
set_option maxHeartbeats 4000000 in
set_option maxRecDepth 100000 in
theorem jb_X12_starving_0 {X : lt_X} {σ : lt_S} (hT : lt_Wt σ) {o : Nat} (h0 : lt_c σ o = 12) {r : Int32 × lt_W} (hF : lt_F X cX12_starving RX12 3 (lt_rm 7)) (hE : lt_E X 0 0 σ (some .int) (some (.int r.1)) r.2) : ∀ (w : lt_W), fb_X12_starving_0 σ o w = some r → lt_J X 0 0 σ w 0 [(0, .ref (lt_z X + o))] [] := by
  intro w hf
  unfold fb_X12_starving_0 at hf
  refine jr_iconst (v := (-1)) hF dX12_starving_0 rfl ?_
  refine jr_istore_n (lv' := [(0, .ref (lt_z X + o)), (1, .int (-1))]) hF dX12_starving_1 rfl (by decide) [1, 0] rfl ?_
  refine jr_aload_n hF dX12_starving_2 0 rfl rfl ?_
  refine jr_sipush (v := 2140) hF dX12_starving_3 rfl ?_
  obtain ⟨q1, hq1, hf⟩ := Option.bind_eq_some_iff.mp hf
  refine jr_cV1v hF ml_X12_334 (c_X12_keeps hT h0 hq1) h0 ⟨Nat.le_of_ble_eq_true rfl, Nat.le_of_ble_eq_true rfl⟩ (Nat.le_of_ble_eq_true rfl) dX12_starving_6 ?_
  refine jr_iconst (v := 0) hF dX12_starving_9 rfl ?_
  refine jr_istore_n (lv' := [(0, .ref (lt_z X + o)), (1, .int (-1)), (2, .int 0)]) hF dX12_starving_10 rfl (by decide) [1, 2, 0] rfl ?_
  exact jb_X12_starving_11 hT h0 hF hE lt_fu _ _ _ hf
def f_X12_starving (σ : lt_S) (o : Nat) (w : lt_W) : Option (Int32 × lt_W) := fb_X12_starving_0 σ o w
set_option maxRecDepth 100000 in
theorem c_X12_starving {l : Launch} {D : va_G} {gA : Nat → ClassId} {s0 : State} {σ : lt_S} (hT : lt_Wt σ) {o : Nat} (h0 : lt_c σ o = 12) {w : lt_W} {r : Int32 × lt_W} (hf : f_X12_starving σ o w = some r) : lt_C l D gA s0 yX12_starving cX12_starving 3 (some .int) (lt_rm 7) [.ref (s0.heap.size + o)] σ w σ (some (.int r.1)) r.2 := by
  refine lt_enter rfl (Nat.le_of_ble_eq_true rfl) (fun X e1 e2 e3 e4 hF hE => ?_)
  subst e1 e2 e3 e4
  exact jb_X12_starving_0 hT h0 hF hE _ hf

set_option maxRecDepth 100000 in
def fb_X12_status_0 (σ : lt_S) (o : Nat) (w : lt_W) : Option Int32 := some (lt_gi w o 2)
set_option maxHeartbeats 4000000 in
set_option maxRecDepth 100000 in
theorem jb_X12_status_0 {X : lt_X} {σ : lt_S} {o : Nat} (h0 : lt_c σ o = 12) {r : Int32} {w : lt_W} (hF : lt_F X cX12_status RX12 1 (lt_rm 1)) (hE : lt_E X 0 0 σ (some .int) (some (.int r)) w) : fb_X12_status_0 σ o w = some r → lt_J X 0 0 σ w 0 [(0, .ref (lt_z X + o))] [] := by
  intro  hf
  unfold fb_X12_status_0 at hf
  refine jr_aload_n hF dX12_status_0 0 rfl rfl ?_
  refine jr_getI hF gf_X12_91 h0 dX12_status_1 ?_
  obtain rfl := Option.some.inj hf
  exact jr_ireturn hF hE dX12_status_4
def f_X12_status (σ : lt_S) (o : Nat) (w : lt_W) : Option Int32 := fb_X12_status_0 σ o w
set_option maxRecDepth 100000 in
theorem c_X12_status {l : Launch} {D : va_G} {gA : Nat → ClassId} {s0 : State} {σ : lt_S} {o : Nat} (h0 : lt_c σ o = 12) {w : lt_W} {r : Int32} (hf : f_X12_status σ o w = some r) : lt_C l D gA s0 yX12_status cX12_status 1 (some .int) (lt_rm 1) [.ref (s0.heap.size + o)] σ w σ (some (.int r)) w := by
  refine lt_enter rfl (Nat.le_of_ble_eq_true rfl) (fun X e1 e2 e3 e4 hF hE => ?_)
  subst e1 e2 e3 e4
  exact jb_X12_status_0 h0 hF hE hf

set_option maxRecDepth 100000 in
def fb_X12_sway_20 (σ : lt_S) (o : Nat) (w : lt_W) : Option (Int32 × lt_W) := Option.bind (f_X12_refuse σ o 1 w) (fun q1 => some (q1.1, q1.2))
set_option maxHeartbeats 4000000 in
set_option maxRecDepth 100000 in
theorem jb_X12_sway_20 {X : lt_X} {σ : lt_S} (hT : lt_Wt σ) {o : Nat} (h0 : lt_c σ o = 12) {r : Int32 × lt_W} (hF : lt_F X cX12_sway RX12 4 (lt_rm 4)) (hE : lt_E X 0 0 σ (some .int) (some (.int r.1)) r.2) : ∀ (w : lt_W), fb_X12_sway_20 σ o w = some r → lt_J X 0 0 σ w 20 [(0, .ref (lt_z X + o))] [] := by
  intro w hf
  unfold fb_X12_sway_20 at hf
  refine jr_aload_n hF dX12_sway_20 0 rfl rfl ?_
  refine jr_iconst (v := 1) hF dX12_sway_21 rfl ?_
  obtain ⟨q1, hq1, hf⟩ := Option.bind_eq_some_iff.mp hf
  refine jr_cV11 hF ml_X12_97 (c_X12_refuse h0 hq1) h0 ⟨Nat.le_of_ble_eq_true rfl, Nat.le_of_ble_eq_true rfl⟩ (Nat.le_of_ble_eq_true rfl) dX12_sway_22 ?_
  obtain rfl := Option.some.inj hf
  exact jr_ireturn hF hE dX12_sway_25
set_option maxRecDepth 100000 in
def fb_X12_sway_0 (σ : lt_S) (o : Nat) (x1 : Int32) (x2 : Int32) (w : lt_W) : Option (Int32 × lt_W) := Option.bind (f_X12_isGuest σ o x1 w) (fun q1 => if q1 = 0 then fb_X12_sway_20 σ o w else Option.bind (f_X12_isFrom x2.toInt64 0 20) (fun q2 => if q2 = 0 then fb_X12_sway_20 σ o w else Option.bind (f_X12_isHere σ o x1 w) (fun q3 => if q3 = 0 then Option.bind (f_X12_refuse σ o 7 w) (fun q9 => some (q9.1, q9.2)) else Option.bind (f_X12_guestOf σ o x1 0 w) (fun q4 => Option.bind (f_X12_guestRow x1) (fun q6 => lt_ck q6 (lt_len σ (lt_r σ o 0)) (lt_let (lt_si w (lt_r σ o 0) q6.toNatClampNeg x2) (fun w7 => Option.bind (f_X12_gives σ o q4 w7) (fun q8 => some (q8.1, q8.2)))))))))
set_option maxHeartbeats 4000000 in
set_option maxRecDepth 100000 in
theorem jb_X12_sway_0 {X : lt_X} {σ : lt_S} (hT : lt_Wt σ) {o : Nat} (h0 : lt_c σ o = 12) {r : Int32 × lt_W} (hF : lt_F X cX12_sway RX12 4 (lt_rm 4)) (hE : lt_E X 0 0 σ (some .int) (some (.int r.1)) r.2) : ∀ (x1 : Int32) (x2 : Int32) (w : lt_W), fb_X12_sway_0 σ o x1 x2 w = some r → lt_J X 0 0 σ w 0 [(0, .ref (lt_z X + o)), (1, .int x1), (2, .int x2)] [] := by
  intro x1 x2 w hf
  unfold fb_X12_sway_0 at hf
  refine jr_aload_n hF dX12_sway_0 0 rfl rfl ?_
  refine jr_iload_n hF dX12_sway_1 1 rfl rfl ?_
  obtain ⟨q1, hq1, hf⟩ := Option.bind_eq_some_iff.mp hf
  refine jr_cV11 hF ml_X12_266 (c_X12_isGuest hT h0 hq1) h0 ⟨Nat.le_of_ble_eq_true rfl, Nat.le_of_ble_eq_true rfl⟩ (Nat.le_of_ble_eq_true rfl) dX12_sway_2 ?_
  refine jr_if_eq (tgt := 20) hF dX12_sway_5 rfl hf (fun hf => ?_) (fun hf => ?_)
  · refine jr_sub [0] rfl ?_
    exact jb_X12_sway_20 hT h0 hF hE _ hf
  · refine jr_iload_n hF dX12_sway_8 2 rfl rfl ?_
    refine jr_i2l hF dX12_sway_9 ?_
    refine jr_lconst (v := 0) hF dX12_sway_10 rfl ?_
    refine jr_ldc2 (v := 20) hF dX12_sway_11 kc_X12_328 ?_
    obtain ⟨q2, hq2, hf⟩ := Option.bind_eq_some_iff.mp hf
    refine jr_cS31 hF ml_X12_307 (c_X12_isFrom hq2) ⟨Nat.le_of_ble_eq_true rfl, Nat.le_of_ble_eq_true rfl⟩ (Nat.le_of_ble_eq_true rfl) dX12_sway_14 ?_
    refine jr_if_ne (tgt := 26) hF dX12_sway_17 rfl hf (fun hf => ?_) (fun hf => ?_)
    · refine jr_aload_n hF dX12_sway_26 0 rfl rfl ?_
      refine jr_iload_n hF dX12_sway_27 1 rfl rfl ?_
      obtain ⟨q3, hq3, hf⟩ := Option.bind_eq_some_iff.mp hf
      refine jr_cV11 hF ml_X12_272 (c_X12_isHere hT h0 hq3) h0 ⟨Nat.le_of_ble_eq_true rfl, Nat.le_of_ble_eq_true rfl⟩ (Nat.le_of_ble_eq_true rfl) dX12_sway_28 ?_
      refine jr_if_ne (tgt := 41) hF dX12_sway_31 rfl hf (fun hf => ?_) (fun hf => ?_)
      · refine jr_aload_n hF dX12_sway_41 0 rfl rfl ?_
        refine jr_iload_n hF dX12_sway_42 1 rfl rfl ?_
        refine jr_iconst (v := 0) hF dX12_sway_43 rfl ?_
        obtain ⟨q4, hq4, hf⟩ := Option.bind_eq_some_iff.mp hf
        refine jr_cV21 hF ml_X12_269 (c_X12_guestOf hT h0 hq4) h0 ⟨Nat.le_of_ble_eq_true rfl, Nat.le_of_ble_eq_true rfl⟩ (Nat.le_of_ble_eq_true rfl) dX12_sway_44 ?_
        refine jr_istore_n (lv' := [(0, .ref (lt_z X + o)), (1, .int x1), (2, .int x2), (3, .int q4)]) hF dX12_sway_47 rfl (by decide) [1, 2, 3, 0] rfl ?_
        refine jr_aload_n hF dX12_sway_48 0 rfl rfl ?_
        refine jr_getRT (cr := 50) hF gf_X12_7 hT h0 rfl rfl dX12_sway_49 (fun th5 => ?_)
        refine jr_iload_n hF dX12_sway_52 1 rfl rfl ?_
        obtain ⟨q6, hq6, hf⟩ := Option.bind_eq_some_iff.mp hf
        refine jr_cS11 hF ml_X12_192 (c_X12_guestRow hq6) ⟨Nat.le_of_ble_eq_true rfl, Nat.le_of_ble_eq_true rfl⟩ (Nat.le_of_ble_eq_true rfl) dX12_sway_53 ?_
        refine jr_iload_n hF dX12_sway_56 2 rfl rfl ?_
        refine jr_iastore hF th5 dX12_sway_57 hf (fun hf => ?_)
        refine jr_letW hf (fun w7 hf => ?_)
        refine jr_aload_n hF dX12_sway_58 0 rfl rfl ?_
        refine jr_iload_n hF dX12_sway_59 3 rfl rfl ?_
        obtain ⟨q8, hq8, hf⟩ := Option.bind_eq_some_iff.mp hf
        refine jr_cV11 hF ml_X12_101 (c_X12_gives h0 hq8) h0 ⟨Nat.le_of_ble_eq_true rfl, Nat.le_of_ble_eq_true rfl⟩ (Nat.le_of_ble_eq_true rfl) dX12_sway_60 ?_
        obtain rfl := Option.some.inj hf
        exact jr_ireturn hF hE dX12_sway_63
      · refine jr_aload_n hF dX12_sway_34 0 rfl rfl ?_
        refine jr_bipush (v := 7) hF dX12_sway_35 rfl ?_
        obtain ⟨q9, hq9, hf⟩ := Option.bind_eq_some_iff.mp hf
        refine jr_cV11 hF ml_X12_97 (c_X12_refuse h0 hq9) h0 ⟨Nat.le_of_ble_eq_true rfl, Nat.le_of_ble_eq_true rfl⟩ (Nat.le_of_ble_eq_true rfl) dX12_sway_37 ?_
        obtain rfl := Option.some.inj hf
        exact jr_ireturn hF hE dX12_sway_40
    · refine jr_sub [0] rfl ?_
      exact jb_X12_sway_20 hT h0 hF hE _ hf
def f_X12_sway (σ : lt_S) (o : Nat) (x1 : Int32) (x2 : Int32) (w : lt_W) : Option (Int32 × lt_W) := fb_X12_sway_0 σ o x1 x2 w
set_option maxRecDepth 100000 in
theorem c_X12_sway {l : Launch} {D : va_G} {gA : Nat → ClassId} {s0 : State} {σ : lt_S} (hT : lt_Wt σ) {o : Nat} (h0 : lt_c σ o = 12) {x1 : Int32} {x2 : Int32} {w : lt_W} {r : Int32 × lt_W} (hf : f_X12_sway σ o x1 x2 w = some r) : lt_C l D gA s0 yX12_sway cX12_sway 4 (some .int) (lt_rm 4) [.ref (s0.heap.size + o), .int x1, .int x2] σ w σ (some (.int r.1)) r.2 := by
  refine lt_enter rfl (Nat.le_of_ble_eq_true rfl) (fun X e1 e2 e3 e4 hF hE => ?_)
  subst e1 e2 e3 e4
  exact jb_X12_sway_0 hT h0 hF hE _ _ _ hf

set_option maxRecDepth 100000 in
def fb_X12_wantSign_0 (σ : lt_S) (o : Nat) (x1 : Int32) (w : lt_W) : Option (Int32 × lt_W) := Option.bind (f_X12_isSign σ o x1 w) (fun q1 => if q1 = 0 then Option.bind (f_X12_fails σ o 2 w) (fun q3 => lt_bz q3.1 (some (q3.1, q3.2))) else Option.bind (f_X12_ahead σ o w) (fun q2 => some (1, q2)))
set_option maxHeartbeats 4000000 in
set_option maxRecDepth 100000 in
theorem jb_X12_wantSign_0 {X : lt_X} {σ : lt_S} (hT : lt_Wt σ) {o : Nat} (h0 : lt_c σ o = 12) {r : Int32 × lt_W} (hF : lt_F X cX12_wantSign RX12 2 (lt_rm 3)) (hE : lt_E X 0 0 σ (some .boolean) (some (.int r.1)) r.2) : ∀ (x1 : Int32) (w : lt_W), fb_X12_wantSign_0 σ o x1 w = some r → lt_J X 0 0 σ w 0 [(0, .ref (lt_z X + o)), (1, .int x1)] [] := by
  intro x1 w hf
  unfold fb_X12_wantSign_0 at hf
  refine jr_aload_n hF dX12_wantSign_0 0 rfl rfl ?_
  refine jr_iload_n hF dX12_wantSign_1 1 rfl rfl ?_
  obtain ⟨q1, hq1, hf⟩ := Option.bind_eq_some_iff.mp hf
  refine jr_cV11 hF ml_X12_176 (c_X12_isSign h0 hq1) h0 ⟨Nat.le_of_ble_eq_true rfl, Nat.le_of_ble_eq_true rfl⟩ (Nat.le_of_ble_eq_true rfl) dX12_wantSign_2 ?_
  refine jr_if_ne (tgt := 14) hF dX12_wantSign_5 rfl hf (fun hf => ?_) (fun hf => ?_)
  · refine jr_aload_n hF dX12_wantSign_14 0 rfl rfl ?_
    obtain ⟨q2, hq2, hf⟩ := Option.bind_eq_some_iff.mp hf
    refine jr_cV0v hF ml_X12_173 (c_X12_ahead hT h0 hq2) h0 ⟨Nat.le_of_ble_eq_true rfl, Nat.le_of_ble_eq_true rfl⟩ (Nat.le_of_ble_eq_true rfl) dX12_wantSign_15 ?_
    refine jr_iconst (v := 1) hF dX12_wantSign_18 rfl ?_
    obtain rfl := Option.some.inj hf
    exact jr_zreturn hF hE (Or.inr rfl) dX12_wantSign_19
  · refine jr_aload_n hF dX12_wantSign_8 0 rfl rfl ?_
    refine jr_iconst (v := 2) hF dX12_wantSign_9 rfl ?_
    obtain ⟨q3, hq3, hf⟩ := Option.bind_eq_some_iff.mp hf
    refine jr_cV11 hF ml_X12_179 (c_X12_fails h0 hq3) h0 ⟨Nat.le_of_ble_eq_true rfl, Nat.le_of_ble_eq_true rfl⟩ (Nat.le_of_ble_eq_true rfl) dX12_wantSign_10 ?_
    obtain ⟨b4, hf⟩ := lt_bzE hf
    obtain rfl := Option.some.inj hf
    exact jr_zreturn hF hE b4 dX12_wantSign_13
def f_X12_wantSign (σ : lt_S) (o : Nat) (x1 : Int32) (w : lt_W) : Option (Int32 × lt_W) := fb_X12_wantSign_0 σ o x1 w
set_option maxRecDepth 100000 in
theorem c_X12_wantSign {l : Launch} {D : va_G} {gA : Nat → ClassId} {s0 : State} {σ : lt_S} (hT : lt_Wt σ) {o : Nat} (h0 : lt_c σ o = 12) {x1 : Int32} {w : lt_W} {r : Int32 × lt_W} (hf : f_X12_wantSign σ o x1 w = some r) : lt_C l D gA s0 yX12_wantSign cX12_wantSign 2 (some .boolean) (lt_rm 3) [.ref (s0.heap.size + o), .int x1] σ w σ (some (.int r.1)) r.2 := by
  refine lt_enter rfl (Nat.le_of_ble_eq_true rfl) (fun X e1 e2 e3 e4 hF hE => ?_)
  subst e1 e2 e3 e4
  exact jb_X12_wantSign_0 hT h0 hF hE _ _ hf

set_option maxRecDepth 100000 in
def fb_X12_tablePart_17 (σ : lt_S) (o : Nat) (w : lt_W) : Option (Int32 × lt_W) := Option.bind (f_X12_fails σ o 2 w) (fun q1 => lt_bz q1.1 (some (q1.1, q1.2)))
set_option maxHeartbeats 4000000 in
set_option maxRecDepth 100000 in
theorem jb_X12_tablePart_17 {X : lt_X} {σ : lt_S} (hT : lt_Wt σ) {o : Nat} (h0 : lt_c σ o = 12) {r : Int32 × lt_W} (hF : lt_F X cX12_tablePart RX12 2 (lt_rm 12)) (hE : lt_E X 0 0 σ (some .boolean) (some (.int r.1)) r.2) : ∀ (w : lt_W), fb_X12_tablePart_17 σ o w = some r → lt_J X 0 0 σ w 17 [(0, .ref (lt_z X + o))] [] := by
  intro w hf
  unfold fb_X12_tablePart_17 at hf
  refine jr_aload_n hF dX12_tablePart_17 0 rfl rfl ?_
  refine jr_iconst (v := 2) hF dX12_tablePart_18 rfl ?_
  obtain ⟨q1, hq1, hf⟩ := Option.bind_eq_some_iff.mp hf
  refine jr_cV11 hF ml_X12_179 (c_X12_fails h0 hq1) h0 ⟨Nat.le_of_ble_eq_true rfl, Nat.le_of_ble_eq_true rfl⟩ (Nat.le_of_ble_eq_true rfl) dX12_tablePart_19 ?_
  obtain ⟨b2, hf⟩ := lt_bzE hf
  obtain rfl := Option.some.inj hf
  exact jr_zreturn hF hE b2 dX12_tablePart_22
set_option maxRecDepth 100000 in
def fb_X12_tablePart_0 (σ : lt_S) (o : Nat) (w : lt_W) : Option (Int32 × lt_W) := Option.bind (f_X12_inWords σ o w) (fun q1 => if q1 < 0 then fb_X12_tablePart_17 σ o w else if q1 ≤ 6 then if q1 = 5 then Option.bind (f_X12_aGuest σ o w) (fun q13 => if q13.1 = 0 then some (0, q13.2) else Option.bind (f_X12_wantSign σ o 59 q13.2) (fun q14 => if q14.1 = 0 then some (0, q14.2) else some (1, q14.2))) else if q1 = 6 then Option.bind (f_X12_aButter σ o w) (fun q11 => if q11.1 = 0 then some (0, q11.2) else Option.bind (f_X12_wantSign σ o 59 q11.2) (fun q12 => if q12.1 = 0 then some (0, q12.2) else some (1, q12.2))) else Option.bind (f_X12_isIn o (lt_gi w o 20) q1) (fun q2 => if q2 = 0 then lt_let (lt_si w o 20 ((lt_gi w o 20) ||| (1 <<< (q1 &&& 31)))) (fun w3 => Option.bind (f_X12_ahead σ o w3) (fun q4 => Option.bind (f_X12_leastOf (q1 + 1)) (fun q5 => Option.bind (f_X12_mostOf (q1 + 1)) (fun q6 => Option.bind (f_X12_number σ o ((1712 + q1) + 1) q5 q6 q4) (fun q7 => if q7.1 = 0 then some (0, q7.2) else Option.bind (f_X12_wantSign σ o 59 q7.2) (fun q8 => if q8.1 = 0 then some (0, q8.2) else some (1, q8.2))))))) else Option.bind (f_X12_fails σ o 5 w) (fun q9 => lt_bz q9.1 (some (q9.1, q9.2)))) else fb_X12_tablePart_17 σ o w)
set_option maxHeartbeats 4000000 in
set_option maxRecDepth 100000 in
theorem jb_X12_tablePart_0 {X : lt_X} {σ : lt_S} (hT : lt_Wt σ) {o : Nat} (h0 : lt_c σ o = 12) {r : Int32 × lt_W} (hF : lt_F X cX12_tablePart RX12 2 (lt_rm 12)) (hE : lt_E X 0 0 σ (some .boolean) (some (.int r.1)) r.2) : ∀ (w : lt_W), fb_X12_tablePart_0 σ o w = some r → lt_J X 0 0 σ w 0 [(0, .ref (lt_z X + o))] [] := by
  intro w hf
  unfold fb_X12_tablePart_0 at hf
  refine jr_aload_n hF dX12_tablePart_0 0 rfl rfl ?_
  refine jr_ldcS1 hF dX12_tablePart_1 ?_
  obtain ⟨q1, hq1, hf⟩ := Option.bind_eq_some_iff.mp hf
  refine jr_cV11 hF ml_X12_182 (c_X12_inWords hT h0 hq1) h0 ⟨Nat.le_of_ble_eq_true rfl, Nat.le_of_ble_eq_true rfl⟩ (Nat.le_of_ble_eq_true rfl) dX12_tablePart_3 ?_
  refine jr_istore_n (lv' := [(0, .ref (lt_z X + o)), (1, .int q1)]) hF dX12_tablePart_6 rfl (by decide) [1, 0] rfl ?_
  refine jr_iload_n hF dX12_tablePart_7 1 rfl rfl ?_
  refine jr_if_lt (tgt := 17) hF dX12_tablePart_8 rfl hf (fun hf => ?_) (fun hf => ?_)
  · refine jr_sub [0] rfl ?_
    exact jb_X12_tablePart_17 hT h0 hF hE _ hf
  · refine jr_iload_n hF dX12_tablePart_11 1 rfl rfl ?_
    refine jr_bipush (v := 6) hF dX12_tablePart_12 rfl ?_
    refine jr_icmp_le (tgt := 23) hF dX12_tablePart_14 rfl hf (fun hf => ?_) (fun hf => ?_)
    · refine jr_iload_n hF dX12_tablePart_23 1 rfl rfl ?_
      refine jr_iconst (v := 5) hF dX12_tablePart_24 rfl ?_
      refine jr_icmp_ne (tgt := 50) hF dX12_tablePart_25 rfl hf (fun hf => ?_) (fun hf => ?_)
      · refine jr_iload_n hF dX12_tablePart_50 1 rfl rfl ?_
        refine jr_bipush (v := 6) hF dX12_tablePart_51 rfl ?_
        refine jr_icmp_ne (tgt := 78) hF dX12_tablePart_53 rfl hf (fun hf => ?_) (fun hf => ?_)
        · refine jr_aload_n hF dX12_tablePart_78 0 rfl rfl ?_
          refine jr_aload_n hF dX12_tablePart_79 0 rfl rfl ?_
          refine jr_getI hF gf_X12_230 h0 dX12_tablePart_80 ?_
          refine jr_iload_n hF dX12_tablePart_83 1 rfl rfl ?_
          obtain ⟨q2, hq2, hf⟩ := Option.bind_eq_some_iff.mp hf
          refine jr_cV21 hF ml_X12_233 (c_X12_isIn h0 hq2) h0 ⟨Nat.le_of_ble_eq_true rfl, Nat.le_of_ble_eq_true rfl⟩ (Nat.le_of_ble_eq_true rfl) dX12_tablePart_84 ?_
          refine jr_if_eq (tgt := 96) hF dX12_tablePart_87 rfl hf (fun hf => ?_) (fun hf => ?_)
          · refine jr_aload_n hF dX12_tablePart_96 0 rfl rfl ?_
            refine jr_dup hF dX12_tablePart_97 rfl ?_
            refine jr_getI hF gf_X12_230 h0 dX12_tablePart_98 ?_
            refine jr_iconst (v := 1) hF dX12_tablePart_101 rfl ?_
            refine jr_iload_n hF dX12_tablePart_102 1 rfl rfl ?_
            refine jr_ishl hF dX12_tablePart_103 ?_
            refine jr_ior hF dX12_tablePart_104 ?_
            refine jr_putI hF pf_X12_230 h0 dX12_tablePart_105 ?_
            refine jr_letW hf (fun w3 hf => ?_)
            refine jr_aload_n hF dX12_tablePart_108 0 rfl rfl ?_
            obtain ⟨q4, hq4, hf⟩ := Option.bind_eq_some_iff.mp hf
            refine jr_cV0v hF ml_X12_173 (c_X12_ahead hT h0 hq4) h0 ⟨Nat.le_of_ble_eq_true rfl, Nat.le_of_ble_eq_true rfl⟩ (Nat.le_of_ble_eq_true rfl) dX12_tablePart_109 ?_
            refine jr_aload_n hF dX12_tablePart_112 0 rfl rfl ?_
            refine jr_sipush (v := 1712) hF dX12_tablePart_113 rfl ?_
            refine jr_iload_n hF dX12_tablePart_116 1 rfl rfl ?_
            refine jr_iadd hF dX12_tablePart_117 ?_
            refine jr_iconst (v := 1) hF dX12_tablePart_118 rfl ?_
            refine jr_iadd hF dX12_tablePart_119 ?_
            refine jr_iload_n hF dX12_tablePart_120 1 rfl rfl ?_
            refine jr_iconst (v := 1) hF dX12_tablePart_121 rfl ?_
            refine jr_iadd hF dX12_tablePart_122 ?_
            obtain ⟨q5, hq5, hf⟩ := Option.bind_eq_some_iff.mp hf
            refine jr_cS11 hF ml_X12_236 (c_X12_leastOf hq5) ⟨Nat.le_of_ble_eq_true rfl, Nat.le_of_ble_eq_true rfl⟩ (Nat.le_of_ble_eq_true rfl) dX12_tablePart_123 ?_
            refine jr_iload_n hF dX12_tablePart_126 1 rfl rfl ?_
            refine jr_iconst (v := 1) hF dX12_tablePart_127 rfl ?_
            refine jr_iadd hF dX12_tablePart_128 ?_
            obtain ⟨q6, hq6, hf⟩ := Option.bind_eq_some_iff.mp hf
            refine jr_cS11 hF ml_X12_239 (c_X12_mostOf hq6) ⟨Nat.le_of_ble_eq_true rfl, Nat.le_of_ble_eq_true rfl⟩ (Nat.le_of_ble_eq_true rfl) dX12_tablePart_129 ?_
            obtain ⟨q7, hq7, hf⟩ := Option.bind_eq_some_iff.mp hf
            refine jr_cV31 hF ml_X12_206 (c_X12_number hT h0 hq7) h0 ⟨Nat.le_of_ble_eq_true rfl, Nat.le_of_ble_eq_true rfl⟩ (Nat.le_of_ble_eq_true rfl) dX12_tablePart_132 ?_
            refine jr_if_eq (tgt := 151) hF dX12_tablePart_135 rfl hf (fun hf => ?_) (fun hf => ?_)
            · refine jr_iconst (v := 0) hF dX12_tablePart_151 rfl ?_
              obtain rfl := Option.some.inj hf
              exact jr_zreturn hF hE (Or.inl rfl) dX12_tablePart_152
            · refine jr_aload_n hF dX12_tablePart_138 0 rfl rfl ?_
              refine jr_bipush (v := 59) hF dX12_tablePart_139 rfl ?_
              obtain ⟨q8, hq8, hf⟩ := Option.bind_eq_some_iff.mp hf
              refine jr_cV11 hF ml_X12_224 (c_X12_wantSign hT h0 hq8) h0 ⟨Nat.le_of_ble_eq_true rfl, Nat.le_of_ble_eq_true rfl⟩ (Nat.le_of_ble_eq_true rfl) dX12_tablePart_141 ?_
              refine jr_if_eq (tgt := 151) hF dX12_tablePart_144 rfl hf (fun hf => ?_) (fun hf => ?_)
              · refine jr_iconst (v := 0) hF dX12_tablePart_151 rfl ?_
                obtain rfl := Option.some.inj hf
                exact jr_zreturn hF hE (Or.inl rfl) dX12_tablePart_152
              · refine jr_iconst (v := 1) hF dX12_tablePart_147 rfl ?_
                refine jr_goto (tgt := 152) hF dX12_tablePart_148 rfl ?_
                obtain rfl := Option.some.inj hf
                exact jr_zreturn hF hE (Or.inr rfl) dX12_tablePart_152
          · refine jr_aload_n hF dX12_tablePart_90 0 rfl rfl ?_
            refine jr_iconst (v := 5) hF dX12_tablePart_91 rfl ?_
            obtain ⟨q9, hq9, hf⟩ := Option.bind_eq_some_iff.mp hf
            refine jr_cV11 hF ml_X12_179 (c_X12_fails h0 hq9) h0 ⟨Nat.le_of_ble_eq_true rfl, Nat.le_of_ble_eq_true rfl⟩ (Nat.le_of_ble_eq_true rfl) dX12_tablePart_92 ?_
            obtain ⟨b10, hf⟩ := lt_bzE hf
            obtain rfl := Option.some.inj hf
            exact jr_zreturn hF hE b10 dX12_tablePart_95
        · refine jr_aload_n hF dX12_tablePart_56 0 rfl rfl ?_
          obtain ⟨q11, hq11, hf⟩ := Option.bind_eq_some_iff.mp hf
          refine jr_cV01 hF ml_X12_227 (c_X12_aButter hT h0 hq11) h0 ⟨Nat.le_of_ble_eq_true rfl, Nat.le_of_ble_eq_true rfl⟩ (Nat.le_of_ble_eq_true rfl) dX12_tablePart_57 ?_
          refine jr_if_eq (tgt := 76) hF dX12_tablePart_60 rfl hf (fun hf => ?_) (fun hf => ?_)
          · refine jr_iconst (v := 0) hF dX12_tablePart_76 rfl ?_
            obtain rfl := Option.some.inj hf
            exact jr_zreturn hF hE (Or.inl rfl) dX12_tablePart_77
          · refine jr_aload_n hF dX12_tablePart_63 0 rfl rfl ?_
            refine jr_bipush (v := 59) hF dX12_tablePart_64 rfl ?_
            obtain ⟨q12, hq12, hf⟩ := Option.bind_eq_some_iff.mp hf
            refine jr_cV11 hF ml_X12_224 (c_X12_wantSign hT h0 hq12) h0 ⟨Nat.le_of_ble_eq_true rfl, Nat.le_of_ble_eq_true rfl⟩ (Nat.le_of_ble_eq_true rfl) dX12_tablePart_66 ?_
            refine jr_if_eq (tgt := 76) hF dX12_tablePart_69 rfl hf (fun hf => ?_) (fun hf => ?_)
            · refine jr_iconst (v := 0) hF dX12_tablePart_76 rfl ?_
              obtain rfl := Option.some.inj hf
              exact jr_zreturn hF hE (Or.inl rfl) dX12_tablePart_77
            · refine jr_iconst (v := 1) hF dX12_tablePart_72 rfl ?_
              refine jr_goto (tgt := 77) hF dX12_tablePart_73 rfl ?_
              obtain rfl := Option.some.inj hf
              exact jr_zreturn hF hE (Or.inr rfl) dX12_tablePart_77
      · refine jr_aload_n hF dX12_tablePart_28 0 rfl rfl ?_
        obtain ⟨q13, hq13, hf⟩ := Option.bind_eq_some_iff.mp hf
        refine jr_cV01 hF ml_X12_220 (c_X12_aGuest hT h0 hq13) h0 ⟨Nat.le_of_ble_eq_true rfl, Nat.le_of_ble_eq_true rfl⟩ (Nat.le_of_ble_eq_true rfl) dX12_tablePart_29 ?_
        refine jr_if_eq (tgt := 48) hF dX12_tablePart_32 rfl hf (fun hf => ?_) (fun hf => ?_)
        · refine jr_iconst (v := 0) hF dX12_tablePart_48 rfl ?_
          obtain rfl := Option.some.inj hf
          exact jr_zreturn hF hE (Or.inl rfl) dX12_tablePart_49
        · refine jr_aload_n hF dX12_tablePart_35 0 rfl rfl ?_
          refine jr_bipush (v := 59) hF dX12_tablePart_36 rfl ?_
          obtain ⟨q14, hq14, hf⟩ := Option.bind_eq_some_iff.mp hf
          refine jr_cV11 hF ml_X12_224 (c_X12_wantSign hT h0 hq14) h0 ⟨Nat.le_of_ble_eq_true rfl, Nat.le_of_ble_eq_true rfl⟩ (Nat.le_of_ble_eq_true rfl) dX12_tablePart_38 ?_
          refine jr_if_eq (tgt := 48) hF dX12_tablePart_41 rfl hf (fun hf => ?_) (fun hf => ?_)
          · refine jr_iconst (v := 0) hF dX12_tablePart_48 rfl ?_
            obtain rfl := Option.some.inj hf
            exact jr_zreturn hF hE (Or.inl rfl) dX12_tablePart_49
          · refine jr_iconst (v := 1) hF dX12_tablePart_44 rfl ?_
            refine jr_goto (tgt := 49) hF dX12_tablePart_45 rfl ?_
            obtain rfl := Option.some.inj hf
            exact jr_zreturn hF hE (Or.inr rfl) dX12_tablePart_49
    · refine jr_sub [0] rfl ?_
      exact jb_X12_tablePart_17 hT h0 hF hE _ hf
def f_X12_tablePart (σ : lt_S) (o : Nat) (w : lt_W) : Option (Int32 × lt_W) := fb_X12_tablePart_0 σ o w
set_option maxRecDepth 100000 in
theorem c_X12_tablePart {l : Launch} {D : va_G} {gA : Nat → ClassId} {s0 : State} {σ : lt_S} (hT : lt_Wt σ) {o : Nat} (h0 : lt_c σ o = 12) {w : lt_W} {r : Int32 × lt_W} (hf : f_X12_tablePart σ o w = some r) : lt_C l D gA s0 yX12_tablePart cX12_tablePart 2 (some .boolean) (lt_rm 12) [.ref (s0.heap.size + o)] σ w σ (some (.int r.1)) r.2 := by
  refine lt_enter rfl (Nat.le_of_ble_eq_true rfl) (fun X e1 e2 e3 e4 hF hE => ?_)
  subst e1 e2 e3 e4
  exact jb_X12_tablePart_0 hT h0 hF hE _ hf

set_option maxRecDepth 100000 in
def fb_X12_taken_0 (σ : lt_S) (o : Nat) (x1 : Int32) (w : lt_W) : Option (Int32 × lt_W) := lt_let (lt_si w o 16 (lt_gi w o 18)) (fun w1 => if (lt_gi w1 o 18) ≤ 0 then Option.bind (f_X12_gives σ o x1 w1) (fun q2 => some (q2.1, q2.2)) else Option.bind (f_X12_refuse σ o 9 w1) (fun q3 => some (q3.1, q3.2)))
set_option maxHeartbeats 4000000 in
set_option maxRecDepth 100000 in
theorem jb_X12_taken_0 {X : lt_X} {σ : lt_S} {o : Nat} (h0 : lt_c σ o = 12) {r : Int32 × lt_W} (hF : lt_F X cX12_taken RX12 2 (lt_rm 2)) (hE : lt_E X 0 0 σ (some .int) (some (.int r.1)) r.2) : ∀ (x1 : Int32) (w : lt_W), fb_X12_taken_0 σ o x1 w = some r → lt_J X 0 0 σ w 0 [(0, .ref (lt_z X + o)), (1, .int x1)] [] := by
  intro x1 w hf
  unfold fb_X12_taken_0 at hf
  refine jr_aload_n hF dX12_taken_0 0 rfl rfl ?_
  refine jr_aload_n hF dX12_taken_1 0 rfl rfl ?_
  refine jr_getI hF gf_X12_167 h0 dX12_taken_2 ?_
  refine jr_putI hF pf_X12_37 h0 dX12_taken_5 ?_
  refine jr_letW hf (fun w1 hf => ?_)
  refine jr_aload_n hF dX12_taken_8 0 rfl rfl ?_
  refine jr_getI hF gf_X12_167 h0 dX12_taken_9 ?_
  refine jr_if_le (tgt := 24) hF dX12_taken_12 rfl hf (fun hf => ?_) (fun hf => ?_)
  · refine jr_aload_n hF dX12_taken_24 0 rfl rfl ?_
    refine jr_iload_n hF dX12_taken_25 1 rfl rfl ?_
    obtain ⟨q2, hq2, hf⟩ := Option.bind_eq_some_iff.mp hf
    refine jr_cV11 hF ml_X12_101 (c_X12_gives h0 hq2) h0 ⟨Nat.le_of_ble_eq_true rfl, Nat.le_of_ble_eq_true rfl⟩ (Nat.le_of_ble_eq_true rfl) dX12_taken_26 ?_
    obtain rfl := Option.some.inj hf
    exact jr_ireturn hF hE dX12_taken_29
  · refine jr_aload_n hF dX12_taken_15 0 rfl rfl ?_
    refine jr_bipush (v := 9) hF dX12_taken_16 rfl ?_
    obtain ⟨q3, hq3, hf⟩ := Option.bind_eq_some_iff.mp hf
    refine jr_cV11 hF ml_X12_97 (c_X12_refuse h0 hq3) h0 ⟨Nat.le_of_ble_eq_true rfl, Nat.le_of_ble_eq_true rfl⟩ (Nat.le_of_ble_eq_true rfl) dX12_taken_18 ?_
    refine jr_goto (tgt := 29) hF dX12_taken_21 rfl ?_
    obtain rfl := Option.some.inj hf
    exact jr_ireturn hF hE dX12_taken_29
def f_X12_taken (σ : lt_S) (o : Nat) (x1 : Int32) (w : lt_W) : Option (Int32 × lt_W) := fb_X12_taken_0 σ o x1 w
set_option maxRecDepth 100000 in
theorem c_X12_taken {l : Launch} {D : va_G} {gA : Nat → ClassId} {s0 : State} {σ : lt_S} {o : Nat} (h0 : lt_c σ o = 12) {x1 : Int32} {w : lt_W} {r : Int32 × lt_W} (hf : f_X12_taken σ o x1 w = some r) : lt_C l D gA s0 yX12_taken cX12_taken 2 (some .int) (lt_rm 2) [.ref (s0.heap.size + o), .int x1] σ w σ (some (.int r.1)) r.2 := by
  refine lt_enter rfl (Nat.le_of_ble_eq_true rfl) (fun X e1 e2 e3 e4 hF hE => ?_)
  subst e1 e2 e3 e4
  exact jb_X12_taken_0 h0 hF hE _ _ hf

set_option maxRecDepth 100000 in
def fb_X12_table_117 (σ : lt_S) (o : Nat) (w : lt_W) : Option (Int32 × lt_W) := lt_ck 0 (lt_len σ (lt_r σ o 0)) (Option.bind (f_X12_taken σ o (lt_gi w (lt_r σ o 0) (0 : Int32).toNatClampNeg) w) (fun q2 => some (q2.1, q2.2)))
set_option maxHeartbeats 4000000 in
set_option maxRecDepth 100000 in
theorem jb_X12_table_117 {X : lt_X} {σ : lt_S} (hT : lt_Wt σ) {o : Nat} (h0 : lt_c σ o = 12) {r : Int32 × lt_W} (hF : lt_F X cX12_table RX12 4 (lt_rm 13)) (hE : lt_E X 0 0 σ (some .int) (some (.int r.1)) r.2) : ∀ (w : lt_W), fb_X12_table_117 σ o w = some r → lt_J X 0 0 σ w 117 [(0, .ref (lt_z X + o))] [] := by
  intro w hf
  unfold fb_X12_table_117 at hf
  refine jr_aload_n hF dX12_table_117 0 rfl rfl ?_
  refine jr_aload_n hF dX12_table_118 0 rfl rfl ?_
  refine jr_getRT (cr := 50) hF gf_X12_7 hT h0 rfl rfl dX12_table_119 (fun th1 => ?_)
  refine jr_iconst (v := 0) hF dX12_table_122 rfl ?_
  refine jr_iaload hF th1 dX12_table_123 hf (fun hf => ?_)
  obtain ⟨q2, hq2, hf⟩ := Option.bind_eq_some_iff.mp hf
  refine jr_cV11 hF ml_X12_248 (c_X12_taken h0 hq2) h0 ⟨Nat.le_of_ble_eq_true rfl, Nat.le_of_ble_eq_true rfl⟩ (Nat.le_of_ble_eq_true rfl) dX12_table_124 ?_
  obtain rfl := Option.some.inj hf
  exact jr_ireturn hF hE dX12_table_127
set_option maxRecDepth 100000 in
def fb_X12_table_90 (σ : lt_S) (o : Nat) : Nat → Int32 → lt_W → Option (Int32 × lt_W)
  | 0, _, _ => none
  | n + 1, x3, w => if 7 ≤ x3 then fb_X12_table_117 σ o w else lt_ck (28 + x3) (lt_len σ (lt_r σ o 1)) (lt_ck x3 (lt_len σ (lt_r σ o 1)) (lt_let (lt_sl w (lt_r σ o 1) x3.toNatClampNeg (lt_gl w (lt_r σ o 1) (28 + x3).toNatClampNeg)) (fun w3 => fb_X12_table_90 σ o n (x3 + 1) w3)))
set_option maxHeartbeats 4000000 in
set_option maxRecDepth 100000 in
theorem jb_X12_table_90 {X : lt_X} {σ : lt_S} (hT : lt_Wt σ) {o : Nat} (h0 : lt_c σ o = 12) {r : Int32 × lt_W} (hF : lt_F X cX12_table RX12 4 (lt_rm 13)) (hE : lt_E X 0 0 σ (some .int) (some (.int r.1)) r.2) (n : Nat) : ∀ (x3 : Int32) (w : lt_W), fb_X12_table_90 σ o n x3 w = some r → lt_J X 0 0 σ w 90 [(0, .ref (lt_z X + o)), (3, .int x3)] [] := by
  induction n with
  | zero => intro x3 w hf; rw [fb_X12_table_90] at hf; cases hf
  | succ n ih =>
    intro x3 w hf
    rw [fb_X12_table_90] at hf
    refine jr_iload_n hF dX12_table_90 1 rfl rfl ?_
    refine jr_bipush (v := 7) hF dX12_table_91 rfl ?_
    refine jr_icmp_ge (tgt := 117) hF dX12_table_93 rfl hf (fun hf => ?_) (fun hf => ?_)
    · refine jr_sub [0] rfl ?_
      exact jb_X12_table_117 hT h0 hF hE _ hf
    · refine jr_aload_n hF dX12_table_96 0 rfl rfl ?_
      refine jr_getRT (cr := 51) hF gf_X12_13 hT h0 rfl rfl dX12_table_97 (fun th1 => ?_)
      refine jr_iload_n hF dX12_table_100 1 rfl rfl ?_
      refine jr_aload_n hF dX12_table_101 0 rfl rfl ?_
      refine jr_getRT (cr := 51) hF gf_X12_13 hT h0 rfl rfl dX12_table_102 (fun th2 => ?_)
      refine jr_bipush (v := 28) hF dX12_table_105 rfl ?_
      refine jr_iload_n hF dX12_table_107 1 rfl rfl ?_
      refine jr_iadd hF dX12_table_108 ?_
      refine jr_laload hF th2 dX12_table_109 hf (fun hf => ?_)
      refine jr_lastore hF th1 dX12_table_110 hf (fun hf => ?_)
      refine jr_letW hf (fun w3 hf => ?_)
      refine jr_iinc (v := x3 + 1) (lv' := [(0, .ref (lt_z X + o)), (3, .int (x3 + 1))]) hF dX12_table_111 1 rfl rfl (by decide) [1, 0] rfl ?_
      refine jr_goto (tgt := 90) hF dX12_table_114 rfl ?_
      exact ih _ _ hf
set_option maxRecDepth 100000 in
def fb_X12_table_59 (σ : lt_S) (o : Nat) : Nat → Int32 → lt_W → Option (Int32 × lt_W)
  | 0, _, _ => none
  | n + 1, x3, w => if 428 ≤ x3 then fb_X12_table_90 σ o lt_fu 0 w else lt_ck (1712 + x3) (lt_len σ (lt_r σ o 0)) (lt_ck x3 (lt_len σ (lt_r σ o 0)) (lt_let (lt_si w (lt_r σ o 0) x3.toNatClampNeg (lt_gi w (lt_r σ o 0) (1712 + x3).toNatClampNeg)) (fun w3 => fb_X12_table_59 σ o n (x3 + 1) w3)))
set_option maxHeartbeats 4000000 in
set_option maxRecDepth 100000 in
theorem jb_X12_table_59 {X : lt_X} {σ : lt_S} (hT : lt_Wt σ) {o : Nat} (h0 : lt_c σ o = 12) {r : Int32 × lt_W} (hF : lt_F X cX12_table RX12 4 (lt_rm 13)) (hE : lt_E X 0 0 σ (some .int) (some (.int r.1)) r.2) (n : Nat) : ∀ (x3 : Int32) (w : lt_W), fb_X12_table_59 σ o n x3 w = some r → lt_J X 0 0 σ w 59 [(0, .ref (lt_z X + o)), (3, .int x3)] [] := by
  induction n with
  | zero => intro x3 w hf; rw [fb_X12_table_59] at hf; cases hf
  | succ n ih =>
    intro x3 w hf
    rw [fb_X12_table_59] at hf
    refine jr_iload_n hF dX12_table_59 1 rfl rfl ?_
    refine jr_sipush (v := 428) hF dX12_table_60 rfl ?_
    refine jr_icmp_ge (tgt := 88) hF dX12_table_63 rfl hf (fun hf => ?_) (fun hf => ?_)
    · refine jr_iconst (v := 0) hF dX12_table_88 rfl ?_
      refine jr_istore_n (lv' := [(0, .ref (lt_z X + o)), (3, .int 0)]) hF dX12_table_89 rfl (by decide) [1, 0] rfl ?_
      exact jb_X12_table_90 hT h0 hF hE lt_fu _ _ hf
    · refine jr_aload_n hF dX12_table_66 0 rfl rfl ?_
      refine jr_getRT (cr := 50) hF gf_X12_7 hT h0 rfl rfl dX12_table_67 (fun th1 => ?_)
      refine jr_iload_n hF dX12_table_70 1 rfl rfl ?_
      refine jr_aload_n hF dX12_table_71 0 rfl rfl ?_
      refine jr_getRT (cr := 50) hF gf_X12_7 hT h0 rfl rfl dX12_table_72 (fun th2 => ?_)
      refine jr_sipush (v := 1712) hF dX12_table_75 rfl ?_
      refine jr_iload_n hF dX12_table_78 1 rfl rfl ?_
      refine jr_iadd hF dX12_table_79 ?_
      refine jr_iaload hF th2 dX12_table_80 hf (fun hf => ?_)
      refine jr_iastore hF th1 dX12_table_81 hf (fun hf => ?_)
      refine jr_letW hf (fun w3 hf => ?_)
      refine jr_iinc (v := x3 + 1) (lv' := [(0, .ref (lt_z X + o)), (3, .int (x3 + 1))]) hF dX12_table_82 1 rfl rfl (by decide) [1, 0] rfl ?_
      refine jr_goto (tgt := 59) hF dX12_table_85 rfl ?_
      exact ih _ _ hf
set_option maxRecDepth 100000 in
def fb_X12_table_50 (σ : lt_S) (o : Nat) (w : lt_W) : Option (Int32 × lt_W) := if (lt_gi w o 18) = 0 then fb_X12_table_59 σ o lt_fu 0 w else fb_X12_table_117 σ o w
set_option maxHeartbeats 4000000 in
set_option maxRecDepth 100000 in
theorem jb_X12_table_50 {X : lt_X} {σ : lt_S} (hT : lt_Wt σ) {o : Nat} (h0 : lt_c σ o = 12) {r : Int32 × lt_W} (hF : lt_F X cX12_table RX12 4 (lt_rm 13)) (hE : lt_E X 0 0 σ (some .int) (some (.int r.1)) r.2) : ∀ (w : lt_W), fb_X12_table_50 σ o w = some r → lt_J X 0 0 σ w 50 [(0, .ref (lt_z X + o))] [] := by
  intro w hf
  unfold fb_X12_table_50 at hf
  refine jr_aload_n hF dX12_table_50 0 rfl rfl ?_
  refine jr_getI hF gf_X12_167 h0 dX12_table_51 ?_
  refine jr_if_ne (tgt := 117) hF dX12_table_54 rfl hf (fun hf => ?_) (fun hf => ?_)
  · exact jb_X12_table_117 hT h0 hF hE _ hf
  · refine jr_iconst (v := 0) hF dX12_table_57 rfl ?_
    refine jr_istore_n (lv' := [(0, .ref (lt_z X + o)), (3, .int 0)]) hF dX12_table_58 rfl (by decide) [1, 0] rfl ?_
    exact jb_X12_table_59 hT h0 hF hE lt_fu _ _ hf
set_option maxRecDepth 100000 in
def fb_X12_table_31 (σ : lt_S) (o : Nat) : Nat → Int32 → lt_W → Option (Int32 × lt_W)
  | 0, _, _ => none
  | n + 1, x2, w => if x2 = 0 then fb_X12_table_50 σ o w else if (lt_gi w o 12) = 0 then fb_X12_table_50 σ o w else Option.bind (f_X12_tablePart σ o w) (fun q1 => fb_X12_table_31 σ o n q1.1 q1.2)
set_option maxHeartbeats 4000000 in
set_option maxRecDepth 100000 in
theorem jb_X12_table_31 {X : lt_X} {σ : lt_S} (hT : lt_Wt σ) {o : Nat} (h0 : lt_c σ o = 12) {r : Int32 × lt_W} (hF : lt_F X cX12_table RX12 4 (lt_rm 13)) (hE : lt_E X 0 0 σ (some .int) (some (.int r.1)) r.2) (n : Nat) : ∀ (x2 : Int32) (w : lt_W), fb_X12_table_31 σ o n x2 w = some r → lt_J X 0 0 σ w 31 [(0, .ref (lt_z X + o)), (2, .int x2)] [] := by
  induction n with
  | zero => intro x2 w hf; rw [fb_X12_table_31] at hf; cases hf
  | succ n ih =>
    intro x2 w hf
    rw [fb_X12_table_31] at hf
    refine jr_iload_n hF dX12_table_31 1 rfl rfl ?_
    refine jr_if_eq (tgt := 50) hF dX12_table_32 rfl hf (fun hf => ?_) (fun hf => ?_)
    · refine jr_sub [0] rfl ?_
      exact jb_X12_table_50 hT h0 hF hE _ hf
    · refine jr_aload_n hF dX12_table_35 0 rfl rfl ?_
      refine jr_getI hF gf_X12_142 h0 dX12_table_36 ?_
      refine jr_if_eq (tgt := 50) hF dX12_table_39 rfl hf (fun hf => ?_) (fun hf => ?_)
      · refine jr_sub [0] rfl ?_
        exact jb_X12_table_50 hT h0 hF hE _ hf
      · refine jr_aload_n hF dX12_table_42 0 rfl rfl ?_
        obtain ⟨q1, hq1, hf⟩ := Option.bind_eq_some_iff.mp hf
        refine jr_cV01 hF ml_X12_245 (c_X12_tablePart hT h0 hq1) h0 ⟨Nat.le_of_ble_eq_true rfl, Nat.le_of_ble_eq_true rfl⟩ (Nat.le_of_ble_eq_true rfl) dX12_table_43 ?_
        refine jr_istore_n (lv' := [(0, .ref (lt_z X + o)), (2, .int q1.1)]) hF dX12_table_46 rfl (by decide) [1, 0] rfl ?_
        refine jr_goto (tgt := 31) hF dX12_table_47 rfl ?_
        exact ih _ _ hf
set_option maxRecDepth 100000 in
def fb_X12_table_0 (σ : lt_S) (o : Nat) (x1 : Int32) (w : lt_W) : Option (Int32 × lt_W) := Option.bind (f_X12_begins σ o x1 900 w) (fun q1 => if q1.1 = 0 then Option.bind (f_X12_refuse σ o 1 q1.2) (fun q4 => some (q4.1, q4.2)) else Option.bind (f_X12_plain σ o 1712 q1.2) (fun q2 => lt_let (lt_si q2 o 20 0) (fun w3 => fb_X12_table_31 σ o lt_fu 1 w3)))
set_option maxHeartbeats 4000000 in
set_option maxRecDepth 100000 in
theorem jb_X12_table_0 {X : lt_X} {σ : lt_S} (hT : lt_Wt σ) {o : Nat} (h0 : lt_c σ o = 12) {r : Int32 × lt_W} (hF : lt_F X cX12_table RX12 4 (lt_rm 13)) (hE : lt_E X 0 0 σ (some .int) (some (.int r.1)) r.2) : ∀ (x1 : Int32) (w : lt_W), fb_X12_table_0 σ o x1 w = some r → lt_J X 0 0 σ w 0 [(0, .ref (lt_z X + o)), (1, .int x1)] [] := by
  intro x1 w hf
  unfold fb_X12_table_0 at hf
  refine jr_aload_n hF dX12_table_0 0 rfl rfl ?_
  refine jr_iload_n hF dX12_table_1 1 rfl rfl ?_
  refine jr_sipush (v := 900) hF dX12_table_2 rfl ?_
  obtain ⟨q1, hq1, hf⟩ := Option.bind_eq_some_iff.mp hf
  refine jr_cV21 hF ml_X12_242 (c_X12_begins hT h0 hq1) h0 ⟨Nat.le_of_ble_eq_true rfl, Nat.le_of_ble_eq_true rfl⟩ (Nat.le_of_ble_eq_true rfl) dX12_table_5 ?_
  refine jr_if_ne (tgt := 17) hF dX12_table_8 rfl hf (fun hf => ?_) (fun hf => ?_)
  · refine jr_aload_n hF dX12_table_17 0 rfl rfl ?_
    refine jr_sipush (v := 1712) hF dX12_table_18 rfl ?_
    obtain ⟨q2, hq2, hf⟩ := Option.bind_eq_some_iff.mp hf
    refine jr_cV1v hF ml_X12_87 (c_X12_plain hT h0 hq2) h0 ⟨Nat.le_of_ble_eq_true rfl, Nat.le_of_ble_eq_true rfl⟩ (Nat.le_of_ble_eq_true rfl) dX12_table_21 ?_
    refine jr_aload_n hF dX12_table_24 0 rfl rfl ?_
    refine jr_iconst (v := 0) hF dX12_table_25 rfl ?_
    refine jr_putI hF pf_X12_230 h0 dX12_table_26 ?_
    refine jr_letW hf (fun w3 hf => ?_)
    refine jr_iconst (v := 1) hF dX12_table_29 rfl ?_
    refine jr_istore_n (lv' := [(0, .ref (lt_z X + o)), (2, .int 1)]) hF dX12_table_30 rfl (by decide) [1, 0] rfl ?_
    exact jb_X12_table_31 hT h0 hF hE lt_fu _ _ hf
  · refine jr_aload_n hF dX12_table_11 0 rfl rfl ?_
    refine jr_iconst (v := 1) hF dX12_table_12 rfl ?_
    obtain ⟨q4, hq4, hf⟩ := Option.bind_eq_some_iff.mp hf
    refine jr_cV11 hF ml_X12_97 (c_X12_refuse h0 hq4) h0 ⟨Nat.le_of_ble_eq_true rfl, Nat.le_of_ble_eq_true rfl⟩ (Nat.le_of_ble_eq_true rfl) dX12_table_13 ?_
    obtain rfl := Option.some.inj hf
    exact jr_ireturn hF hE dX12_table_16
def f_X12_table (σ : lt_S) (o : Nat) (x1 : Int32) (w : lt_W) : Option (Int32 × lt_W) := fb_X12_table_0 σ o x1 w
set_option maxRecDepth 100000 in
theorem c_X12_table {l : Launch} {D : va_G} {gA : Nat → ClassId} {s0 : State} {σ : lt_S} (hT : lt_Wt σ) {o : Nat} (h0 : lt_c σ o = 12) {x1 : Int32} {w : lt_W} {r : Int32 × lt_W} (hf : f_X12_table σ o x1 w = some r) : lt_C l D gA s0 yX12_table cX12_table 4 (some .int) (lt_rm 13) [.ref (s0.heap.size + o), .int x1] σ w σ (some (.int r.1)) r.2 := by
  refine lt_enter rfl (Nat.le_of_ble_eq_true rfl) (fun X e1 e2 e3 e4 hF hE => ?_)
  subst e1 e2 e3 e4
  exact jb_X12_table_0 hT h0 hF hE _ _ hf

set_option maxRecDepth 100000 in
def fb_X12_test_140 (σ : lt_S) (o : Nat) (y1 : Int32) (y2 : Int32) (y3 : Int32) (w : lt_W) : Option (Int32 × lt_W) := Option.bind (f_X12_number σ o y1 y2 y3 w) (fun q1 => lt_bz q1.1 (some (q1.1, q1.2)))
set_option maxHeartbeats 4000000 in
set_option maxRecDepth 100000 in
theorem jb_X12_test_140 {X : lt_X} {σ : lt_S} (hT : lt_Wt σ) {o : Nat} (h0 : lt_c σ o = 12) {r : Int32 × lt_W} (hF : lt_F X cX12_test RX12 3 (lt_rm 10)) (hE : lt_E X 0 0 σ (some .boolean) (some (.int r.1)) r.2) : ∀ (y1 : Int32) (y2 : Int32) (y3 : Int32) (w : lt_W), fb_X12_test_140 σ o y1 y2 y3 w = some r → lt_J X 0 0 σ w 140 [(0, .ref (lt_z X + o))] [.int y3, .int y2, .int y1, .ref (lt_z X + o)] := by
  intro y1 y2 y3 w hf
  unfold fb_X12_test_140 at hf
  obtain ⟨q1, hq1, hf⟩ := Option.bind_eq_some_iff.mp hf
  refine jr_cV31 hF ml_X12_206 (c_X12_number hT h0 hq1) h0 ⟨Nat.le_of_ble_eq_true rfl, Nat.le_of_ble_eq_true rfl⟩ (Nat.le_of_ble_eq_true rfl) dX12_test_140 ?_
  obtain ⟨b2, hf⟩ := lt_bzE hf
  obtain rfl := Option.some.inj hf
  exact jr_zreturn hF hE b2 dX12_test_143
set_option maxRecDepth 100000 in
def fb_X12_test_106 (σ : lt_S) (o : Nat) (x1 : Int32) (x2 : Int32) (w : lt_W) : Option (Int32 × lt_W) := lt_ck (x1 + 5) (lt_len σ (lt_r σ o 0)) (lt_let (lt_si w (lt_r σ o 0) (x1 + 5).toNatClampNeg (lt_gi w o 15)) (fun w2 => Option.bind (f_X12_ahead σ o w2) (fun q3 => if x2 = 22 then fb_X12_test_140 σ o (x1 + 2) 0 60 q3 else fb_X12_test_140 σ o (x1 + 2) 0 20 q3)))
set_option maxHeartbeats 4000000 in
set_option maxRecDepth 100000 in
theorem jb_X12_test_106 {X : lt_X} {σ : lt_S} (hT : lt_Wt σ) {o : Nat} (h0 : lt_c σ o = 12) {r : Int32 × lt_W} (hF : lt_F X cX12_test RX12 3 (lt_rm 10)) (hE : lt_E X 0 0 σ (some .boolean) (some (.int r.1)) r.2) : ∀ (x1 : Int32) (x2 : Int32) (w : lt_W), fb_X12_test_106 σ o x1 x2 w = some r → lt_J X 0 0 σ w 106 [(0, .ref (lt_z X + o)), (1, .int x1), (2, .int x2)] [] := by
  intro x1 x2 w hf
  unfold fb_X12_test_106 at hf
  refine jr_aload_n hF dX12_test_106 0 rfl rfl ?_
  refine jr_getRT (cr := 50) hF gf_X12_7 hT h0 rfl rfl dX12_test_107 (fun th1 => ?_)
  refine jr_iload_n hF dX12_test_110 1 rfl rfl ?_
  refine jr_iconst (v := 5) hF dX12_test_111 rfl ?_
  refine jr_iadd hF dX12_test_112 ?_
  refine jr_aload_n hF dX12_test_113 0 rfl rfl ?_
  refine jr_getI hF gf_X12_139 h0 dX12_test_114 ?_
  refine jr_iastore hF th1 dX12_test_117 hf (fun hf => ?_)
  refine jr_letW hf (fun w2 hf => ?_)
  refine jr_aload_n hF dX12_test_118 0 rfl rfl ?_
  obtain ⟨q3, hq3, hf⟩ := Option.bind_eq_some_iff.mp hf
  refine jr_cV0v hF ml_X12_173 (c_X12_ahead hT h0 hq3) h0 ⟨Nat.le_of_ble_eq_true rfl, Nat.le_of_ble_eq_true rfl⟩ (Nat.le_of_ble_eq_true rfl) dX12_test_119 ?_
  refine jr_aload_n hF dX12_test_122 0 rfl rfl ?_
  refine jr_iload_n hF dX12_test_123 1 rfl rfl ?_
  refine jr_iconst (v := 2) hF dX12_test_124 rfl ?_
  refine jr_iadd hF dX12_test_125 ?_
  refine jr_iconst (v := 0) hF dX12_test_126 rfl ?_
  refine jr_iload_n hF dX12_test_127 2 rfl rfl ?_
  refine jr_bipush (v := 22) hF dX12_test_128 rfl ?_
  refine jr_icmp_ne (tgt := 138) hF dX12_test_130 rfl hf (fun hf => ?_) (fun hf => ?_)
  · refine jr_bipush (v := 20) hF dX12_test_138 rfl ?_
    refine jr_sub [0] rfl ?_
    exact jb_X12_test_140 hT h0 hF hE _ _ _ _ hf
  · refine jr_bipush (v := 60) hF dX12_test_133 rfl ?_
    refine jr_goto (tgt := 140) hF dX12_test_135 rfl ?_
    refine jr_sub [0] rfl ?_
    exact jb_X12_test_140 hT h0 hF hE _ _ _ _ hf
set_option maxRecDepth 100000 in
def fb_X12_test_59 (σ : lt_S) (o : Nat) (x1 : Int32) (x2 : Int32) (w : lt_W) : Option (Int32 × lt_W) := if x2 = 20 then some (1, w) else if x2 = 21 then some (1, w) else Option.bind (f_X12_isSign σ o 60 w) (fun q1 => if q1 = 0 then Option.bind (f_X12_isSign σ o 62 w) (fun q2 => if q2 = 0 then Option.bind (f_X12_isSign σ o 61 w) (fun q3 => if q3 = 0 then Option.bind (f_X12_fails σ o 2 w) (fun q4 => lt_bz q4.1 (some (q4.1, q4.2))) else fb_X12_test_106 σ o x1 x2 w) else fb_X12_test_106 σ o x1 x2 w) else fb_X12_test_106 σ o x1 x2 w)
set_option maxHeartbeats 4000000 in
set_option maxRecDepth 100000 in
theorem jb_X12_test_59 {X : lt_X} {σ : lt_S} (hT : lt_Wt σ) {o : Nat} (h0 : lt_c σ o = 12) {r : Int32 × lt_W} (hF : lt_F X cX12_test RX12 3 (lt_rm 10)) (hE : lt_E X 0 0 σ (some .boolean) (some (.int r.1)) r.2) : ∀ (x1 : Int32) (x2 : Int32) (w : lt_W), fb_X12_test_59 σ o x1 x2 w = some r → lt_J X 0 0 σ w 59 [(0, .ref (lt_z X + o)), (1, .int x1), (2, .int x2)] [] := by
  intro x1 x2 w hf
  unfold fb_X12_test_59 at hf
  refine jr_iload_n hF dX12_test_59 2 rfl rfl ?_
  refine jr_bipush (v := 20) hF dX12_test_60 rfl ?_
  refine jr_icmp_eq (tgt := 71) hF dX12_test_62 rfl hf (fun hf => ?_) (fun hf => ?_)
  · refine jr_iconst (v := 1) hF dX12_test_71 rfl ?_
    obtain rfl := Option.some.inj hf
    exact jr_zreturn hF hE (Or.inr rfl) dX12_test_72
  · refine jr_iload_n hF dX12_test_65 2 rfl rfl ?_
    refine jr_bipush (v := 21) hF dX12_test_66 rfl ?_
    refine jr_icmp_ne (tgt := 73) hF dX12_test_68 rfl hf (fun hf => ?_) (fun hf => ?_)
    · refine jr_aload_n hF dX12_test_73 0 rfl rfl ?_
      refine jr_bipush (v := 60) hF dX12_test_74 rfl ?_
      obtain ⟨q1, hq1, hf⟩ := Option.bind_eq_some_iff.mp hf
      refine jr_cV11 hF ml_X12_176 (c_X12_isSign h0 hq1) h0 ⟨Nat.le_of_ble_eq_true rfl, Nat.le_of_ble_eq_true rfl⟩ (Nat.le_of_ble_eq_true rfl) dX12_test_76 ?_
      refine jr_if_ne (tgt := 106) hF dX12_test_79 rfl hf (fun hf => ?_) (fun hf => ?_)
      · exact jb_X12_test_106 hT h0 hF hE _ _ _ hf
      · refine jr_aload_n hF dX12_test_82 0 rfl rfl ?_
        refine jr_bipush (v := 62) hF dX12_test_83 rfl ?_
        obtain ⟨q2, hq2, hf⟩ := Option.bind_eq_some_iff.mp hf
        refine jr_cV11 hF ml_X12_176 (c_X12_isSign h0 hq2) h0 ⟨Nat.le_of_ble_eq_true rfl, Nat.le_of_ble_eq_true rfl⟩ (Nat.le_of_ble_eq_true rfl) dX12_test_85 ?_
        refine jr_if_ne (tgt := 106) hF dX12_test_88 rfl hf (fun hf => ?_) (fun hf => ?_)
        · exact jb_X12_test_106 hT h0 hF hE _ _ _ hf
        · refine jr_aload_n hF dX12_test_91 0 rfl rfl ?_
          refine jr_bipush (v := 61) hF dX12_test_92 rfl ?_
          obtain ⟨q3, hq3, hf⟩ := Option.bind_eq_some_iff.mp hf
          refine jr_cV11 hF ml_X12_176 (c_X12_isSign h0 hq3) h0 ⟨Nat.le_of_ble_eq_true rfl, Nat.le_of_ble_eq_true rfl⟩ (Nat.le_of_ble_eq_true rfl) dX12_test_94 ?_
          refine jr_if_ne (tgt := 106) hF dX12_test_97 rfl hf (fun hf => ?_) (fun hf => ?_)
          · exact jb_X12_test_106 hT h0 hF hE _ _ _ hf
          · refine jr_aload_n hF dX12_test_100 0 rfl rfl ?_
            refine jr_iconst (v := 2) hF dX12_test_101 rfl ?_
            obtain ⟨q4, hq4, hf⟩ := Option.bind_eq_some_iff.mp hf
            refine jr_cV11 hF ml_X12_179 (c_X12_fails h0 hq4) h0 ⟨Nat.le_of_ble_eq_true rfl, Nat.le_of_ble_eq_true rfl⟩ (Nat.le_of_ble_eq_true rfl) dX12_test_102 ?_
            obtain ⟨b5, hf⟩ := lt_bzE hf
            obtain rfl := Option.some.inj hf
            exact jr_zreturn hF hE b5 dX12_test_105
    · refine jr_iconst (v := 1) hF dX12_test_71 rfl ?_
      obtain rfl := Option.some.inj hf
      exact jr_zreturn hF hE (Or.inr rfl) dX12_test_72
set_option maxRecDepth 100000 in
def fb_X12_test_25 (σ : lt_S) (o : Nat) (x1 : Int32) (x2 : Int32) (w : lt_W) : Option (Int32 × lt_W) := lt_ck x1 (lt_len σ (lt_r σ o 0)) (lt_let (lt_si w (lt_r σ o 0) x1.toNatClampNeg (1600 + x2)) (fun w2 => Option.bind (f_X12_ahead σ o w2) (fun q3 => if x2 = 22 then fb_X12_test_59 σ o x1 x2 q3 else Option.bind (f_X12_guestTo σ o 0 (x1 + 1) q3) (fun q4 => if q4.1 = 0 then some (0, q4.2) else fb_X12_test_59 σ o x1 x2 q4.2))))
set_option maxHeartbeats 4000000 in
set_option maxRecDepth 100000 in
theorem jb_X12_test_25 {X : lt_X} {σ : lt_S} (hT : lt_Wt σ) {o : Nat} (h0 : lt_c σ o = 12) {r : Int32 × lt_W} (hF : lt_F X cX12_test RX12 3 (lt_rm 10)) (hE : lt_E X 0 0 σ (some .boolean) (some (.int r.1)) r.2) : ∀ (x1 : Int32) (x2 : Int32) (w : lt_W), fb_X12_test_25 σ o x1 x2 w = some r → lt_J X 0 0 σ w 25 [(0, .ref (lt_z X + o)), (1, .int x1), (2, .int x2)] [] := by
  intro x1 x2 w hf
  unfold fb_X12_test_25 at hf
  refine jr_aload_n hF dX12_test_25 0 rfl rfl ?_
  refine jr_getRT (cr := 50) hF gf_X12_7 hT h0 rfl rfl dX12_test_26 (fun th1 => ?_)
  refine jr_iload_n hF dX12_test_29 1 rfl rfl ?_
  refine jr_sipush (v := 1600) hF dX12_test_30 rfl ?_
  refine jr_iload_n hF dX12_test_33 2 rfl rfl ?_
  refine jr_iadd hF dX12_test_34 ?_
  refine jr_iastore hF th1 dX12_test_35 hf (fun hf => ?_)
  refine jr_letW hf (fun w2 hf => ?_)
  refine jr_aload_n hF dX12_test_36 0 rfl rfl ?_
  obtain ⟨q3, hq3, hf⟩ := Option.bind_eq_some_iff.mp hf
  refine jr_cV0v hF ml_X12_173 (c_X12_ahead hT h0 hq3) h0 ⟨Nat.le_of_ble_eq_true rfl, Nat.le_of_ble_eq_true rfl⟩ (Nat.le_of_ble_eq_true rfl) dX12_test_37 ?_
  refine jr_iload_n hF dX12_test_40 2 rfl rfl ?_
  refine jr_bipush (v := 22) hF dX12_test_41 rfl ?_
  refine jr_icmp_eq (tgt := 59) hF dX12_test_43 rfl hf (fun hf => ?_) (fun hf => ?_)
  · exact jb_X12_test_59 hT h0 hF hE _ _ _ hf
  · refine jr_aload_n hF dX12_test_46 0 rfl rfl ?_
    refine jr_iconst (v := 0) hF dX12_test_47 rfl ?_
    refine jr_iload_n hF dX12_test_48 1 rfl rfl ?_
    refine jr_iconst (v := 1) hF dX12_test_49 rfl ?_
    refine jr_iadd hF dX12_test_50 ?_
    obtain ⟨q4, hq4, hf⟩ := Option.bind_eq_some_iff.mp hf
    refine jr_cV21 hF ml_X12_213 (c_X12_guestTo hT h0 hq4) h0 ⟨Nat.le_of_ble_eq_true rfl, Nat.le_of_ble_eq_true rfl⟩ (Nat.le_of_ble_eq_true rfl) dX12_test_51 ?_
    refine jr_if_ne (tgt := 59) hF dX12_test_54 rfl hf (fun hf => ?_) (fun hf => ?_)
    · exact jb_X12_test_59 hT h0 hF hE _ _ _ hf
    · refine jr_iconst (v := 0) hF dX12_test_57 rfl ?_
      obtain rfl := Option.some.inj hf
      exact jr_zreturn hF hE (Or.inl rfl) dX12_test_58
set_option maxRecDepth 100000 in
def fb_X12_test_0 (σ : lt_S) (o : Nat) (x1 : Int32) (w : lt_W) : Option (Int32 × lt_W) := Option.bind (f_X12_inWords σ o w) (fun q1 => if q1 = 7 then fb_X12_test_25 σ o x1 q1 w else if 20 ≤ q1 then fb_X12_test_25 σ o x1 q1 w else Option.bind (f_X12_fails σ o 2 w) (fun q2 => lt_bz q2.1 (some (q2.1, q2.2))))
set_option maxHeartbeats 4000000 in
set_option maxRecDepth 100000 in
theorem jb_X12_test_0 {X : lt_X} {σ : lt_S} (hT : lt_Wt σ) {o : Nat} (h0 : lt_c σ o = 12) {r : Int32 × lt_W} (hF : lt_F X cX12_test RX12 3 (lt_rm 10)) (hE : lt_E X 0 0 σ (some .boolean) (some (.int r.1)) r.2) : ∀ (x1 : Int32) (w : lt_W), fb_X12_test_0 σ o x1 w = some r → lt_J X 0 0 σ w 0 [(0, .ref (lt_z X + o)), (1, .int x1)] [] := by
  intro x1 w hf
  unfold fb_X12_test_0 at hf
  refine jr_aload_n hF dX12_test_0 0 rfl rfl ?_
  refine jr_ldcS1 hF dX12_test_1 ?_
  obtain ⟨q1, hq1, hf⟩ := Option.bind_eq_some_iff.mp hf
  refine jr_cV11 hF ml_X12_182 (c_X12_inWords hT h0 hq1) h0 ⟨Nat.le_of_ble_eq_true rfl, Nat.le_of_ble_eq_true rfl⟩ (Nat.le_of_ble_eq_true rfl) dX12_test_3 ?_
  refine jr_istore_n (lv' := [(0, .ref (lt_z X + o)), (1, .int x1), (2, .int q1)]) hF dX12_test_6 rfl (by decide) [1, 2, 0] rfl ?_
  refine jr_iload_n hF dX12_test_7 2 rfl rfl ?_
  refine jr_bipush (v := 7) hF dX12_test_8 rfl ?_
  refine jr_icmp_eq (tgt := 25) hF dX12_test_10 rfl hf (fun hf => ?_) (fun hf => ?_)
  · exact jb_X12_test_25 hT h0 hF hE _ _ _ hf
  · refine jr_iload_n hF dX12_test_13 2 rfl rfl ?_
    refine jr_bipush (v := 20) hF dX12_test_14 rfl ?_
    refine jr_icmp_ge (tgt := 25) hF dX12_test_16 rfl hf (fun hf => ?_) (fun hf => ?_)
    · exact jb_X12_test_25 hT h0 hF hE _ _ _ hf
    · refine jr_aload_n hF dX12_test_19 0 rfl rfl ?_
      refine jr_iconst (v := 2) hF dX12_test_20 rfl ?_
      obtain ⟨q2, hq2, hf⟩ := Option.bind_eq_some_iff.mp hf
      refine jr_cV11 hF ml_X12_179 (c_X12_fails h0 hq2) h0 ⟨Nat.le_of_ble_eq_true rfl, Nat.le_of_ble_eq_true rfl⟩ (Nat.le_of_ble_eq_true rfl) dX12_test_21 ?_
      obtain ⟨b3, hf⟩ := lt_bzE hf
      obtain rfl := Option.some.inj hf
      exact jr_zreturn hF hE b3 dX12_test_24
def f_X12_test (σ : lt_S) (o : Nat) (x1 : Int32) (w : lt_W) : Option (Int32 × lt_W) := fb_X12_test_0 σ o x1 w
set_option maxRecDepth 100000 in
theorem c_X12_test {l : Launch} {D : va_G} {gA : Nat → ClassId} {s0 : State} {σ : lt_S} (hT : lt_Wt σ) {o : Nat} (h0 : lt_c σ o = 12) {x1 : Int32} {w : lt_W} {r : Int32 × lt_W} (hf : f_X12_test σ o x1 w = some r) : lt_C l D gA s0 yX12_test cX12_test 3 (some .boolean) (lt_rm 10) [.ref (s0.heap.size + o), .int x1] σ w σ (some (.int r.1)) r.2 := by
  refine lt_enter rfl (Nat.le_of_ble_eq_true rfl) (fun X e1 e2 e3 e4 hF hE => ?_)
  subst e1 e2 e3 e4
  exact jb_X12_test_0 hT h0 hF hE _ _ hf

set_option maxRecDepth 100000 in
def fb_X12_thereIn_0 (σ : lt_S) (o : Nat) (x1 : Int32) (w : lt_W) : Option (Int32 × lt_W) := Option.bind (f_X12_isFrom x1.toInt64 0 99) (fun q1 => if q1 = 0 then Option.bind (f_X12_refuse σ o 1 w) (fun q7 => some (q7.1, q7.2)) else Option.bind (f_X12_keeps σ o 2140 w) (fun q2 => Option.bind (f_X12_daysGo σ o x1 q2) (fun q3 => Option.bind (f_X12_areHere σ o q3) (fun q4 => Option.bind (f_X12_brings σ o 2140 q3) (fun q5 => Option.bind (f_X12_gives σ o q4 q5) (fun q6 => some (q6.1, q6.2)))))))
set_option maxHeartbeats 4000000 in
set_option maxRecDepth 100000 in
theorem jb_X12_thereIn_0 {X : lt_X} {σ : lt_S} (hT : lt_Wt σ) {o : Nat} (h0 : lt_c σ o = 12) {r : Int32 × lt_W} (hF : lt_F X cX12_thereIn RX12 3 (lt_rm 8)) (hE : lt_E X 0 0 σ (some .int) (some (.int r.1)) r.2) : ∀ (x1 : Int32) (w : lt_W), fb_X12_thereIn_0 σ o x1 w = some r → lt_J X 0 0 σ w 0 [(0, .ref (lt_z X + o)), (1, .int x1)] [] := by
  intro x1 w hf
  unfold fb_X12_thereIn_0 at hf
  refine jr_iload_n hF dX12_thereIn_0 1 rfl rfl ?_
  refine jr_i2l hF dX12_thereIn_1 ?_
  refine jr_lconst (v := 0) hF dX12_thereIn_2 rfl ?_
  refine jr_ldc2 (v := 99) hF dX12_thereIn_3 kc_X12_332 ?_
  obtain ⟨q1, hq1, hf⟩ := Option.bind_eq_some_iff.mp hf
  refine jr_cS31 hF ml_X12_307 (c_X12_isFrom hq1) ⟨Nat.le_of_ble_eq_true rfl, Nat.le_of_ble_eq_true rfl⟩ (Nat.le_of_ble_eq_true rfl) dX12_thereIn_6 ?_
  refine jr_if_ne (tgt := 18) hF dX12_thereIn_9 rfl hf (fun hf => ?_) (fun hf => ?_)
  · refine jr_aload_n hF dX12_thereIn_18 0 rfl rfl ?_
    refine jr_sipush (v := 2140) hF dX12_thereIn_19 rfl ?_
    obtain ⟨q2, hq2, hf⟩ := Option.bind_eq_some_iff.mp hf
    refine jr_cV1v hF ml_X12_334 (c_X12_keeps hT h0 hq2) h0 ⟨Nat.le_of_ble_eq_true rfl, Nat.le_of_ble_eq_true rfl⟩ (Nat.le_of_ble_eq_true rfl) dX12_thereIn_22 ?_
    refine jr_aload_n hF dX12_thereIn_25 0 rfl rfl ?_
    refine jr_iload_n hF dX12_thereIn_26 1 rfl rfl ?_
    obtain ⟨q3, hq3, hf⟩ := Option.bind_eq_some_iff.mp hf
    refine jr_cV1v hF ml_X12_311 (c_X12_daysGo hT h0 hq3) h0 ⟨Nat.le_of_ble_eq_true rfl, Nat.le_of_ble_eq_true rfl⟩ (Nat.le_of_ble_eq_true rfl) dX12_thereIn_27 ?_
    refine jr_aload_n hF dX12_thereIn_30 0 rfl rfl ?_
    obtain ⟨q4, hq4, hf⟩ := Option.bind_eq_some_iff.mp hf
    refine jr_cV01 hF ml_X12_275 (c_X12_areHere hT h0 hq4) h0 ⟨Nat.le_of_ble_eq_true rfl, Nat.le_of_ble_eq_true rfl⟩ (Nat.le_of_ble_eq_true rfl) dX12_thereIn_31 ?_
    refine jr_istore_n (lv' := [(0, .ref (lt_z X + o)), (2, .int q4)]) hF dX12_thereIn_34 rfl (by decide) [1, 0] rfl ?_
    refine jr_aload_n hF dX12_thereIn_35 0 rfl rfl ?_
    refine jr_sipush (v := 2140) hF dX12_thereIn_36 rfl ?_
    obtain ⟨q5, hq5, hf⟩ := Option.bind_eq_some_iff.mp hf
    refine jr_cV1v hF ml_X12_337 (c_X12_brings hT h0 hq5) h0 ⟨Nat.le_of_ble_eq_true rfl, Nat.le_of_ble_eq_true rfl⟩ (Nat.le_of_ble_eq_true rfl) dX12_thereIn_39 ?_
    refine jr_aload_n hF dX12_thereIn_42 0 rfl rfl ?_
    refine jr_iload_n hF dX12_thereIn_43 1 rfl rfl ?_
    obtain ⟨q6, hq6, hf⟩ := Option.bind_eq_some_iff.mp hf
    refine jr_cV11 hF ml_X12_101 (c_X12_gives h0 hq6) h0 ⟨Nat.le_of_ble_eq_true rfl, Nat.le_of_ble_eq_true rfl⟩ (Nat.le_of_ble_eq_true rfl) dX12_thereIn_44 ?_
    obtain rfl := Option.some.inj hf
    exact jr_ireturn hF hE dX12_thereIn_47
  · refine jr_aload_n hF dX12_thereIn_12 0 rfl rfl ?_
    refine jr_iconst (v := 1) hF dX12_thereIn_13 rfl ?_
    obtain ⟨q7, hq7, hf⟩ := Option.bind_eq_some_iff.mp hf
    refine jr_cV11 hF ml_X12_97 (c_X12_refuse h0 hq7) h0 ⟨Nat.le_of_ble_eq_true rfl, Nat.le_of_ble_eq_true rfl⟩ (Nat.le_of_ble_eq_true rfl) dX12_thereIn_14 ?_
    obtain rfl := Option.some.inj hf
    exact jr_ireturn hF hE dX12_thereIn_17
def f_X12_thereIn (σ : lt_S) (o : Nat) (x1 : Int32) (w : lt_W) : Option (Int32 × lt_W) := fb_X12_thereIn_0 σ o x1 w
set_option maxRecDepth 100000 in
theorem c_X12_thereIn {l : Launch} {D : va_G} {gA : Nat → ClassId} {s0 : State} {σ : lt_S} (hT : lt_Wt σ) {o : Nat} (h0 : lt_c σ o = 12) {x1 : Int32} {w : lt_W} {r : Int32 × lt_W} (hf : f_X12_thereIn σ o x1 w = some r) : lt_C l D gA s0 yX12_thereIn cX12_thereIn 3 (some .int) (lt_rm 8) [.ref (s0.heap.size + o), .int x1] σ w σ (some (.int r.1)) r.2 := by
  refine lt_enter rfl (Nat.le_of_ble_eq_true rfl) (fun X e1 e2 e3 e4 hF hE => ?_)
  subst e1 e2 e3 e4
  exact jb_X12_thereIn_0 hT h0 hF hE _ _ hf

set_option maxRecDepth 100000 in
def fb_X12_told_21 (σ : lt_S) (o : Nat) (x1 : Int32) (w : lt_W) : Option (Int32 × lt_W) := if x1 = 8 then Option.bind (f_X12_areHere σ o w) (fun q1 => Option.bind (f_X12_gives σ o q1 w) (fun q2 => some (q2.1, q2.2))) else if x1 = 9 then Option.bind (f_X12_areHungry σ o w) (fun q4 => Option.bind (f_X12_gives σ o q4 w) (fun q5 => some (q5.1, q5.2))) else if x1 = 10 then Option.bind (f_X12_areStarved σ o w) (fun q7 => Option.bind (f_X12_gives σ o q7 w) (fun q8 => some (q8.1, q8.2))) else Option.bind (f_X12_refuse σ o 1 w) (fun q10 => some (q10.1, q10.2))
set_option maxHeartbeats 4000000 in
set_option maxRecDepth 100000 in
theorem jb_X12_told_21 {X : lt_X} {σ : lt_S} (hT : lt_Wt σ) {o : Nat} (h0 : lt_c σ o = 12) {r : Int32 × lt_W} (hF : lt_F X cX12_told RX12 2 (lt_rm 5)) (hE : lt_E X 0 0 σ (some .int) (some (.int r.1)) r.2) : ∀ (x1 : Int32) (w : lt_W), fb_X12_told_21 σ o x1 w = some r → lt_J X 0 0 σ w 21 [(0, .ref (lt_z X + o)), (1, .int x1)] [] := by
  intro x1 w hf
  unfold fb_X12_told_21 at hf
  refine jr_iload_n hF dX12_told_21 1 rfl rfl ?_
  by_cases c3 : x1 = 8
  · rw [if_pos c3] at hf
    refine jr_tableIn (off := 26) (tgt := 48) hF dX12_told_22 (by rw [c3]; decide) (by rw [c3]; decide) (by rw [c3]; rfl) rfl ?_
    refine jr_aload_n hF dX12_told_48 0 rfl rfl ?_
    refine jr_aload_n hF dX12_told_49 0 rfl rfl ?_
    obtain ⟨q1, hq1, hf⟩ := Option.bind_eq_some_iff.mp hf
    refine jr_cV01 hF ml_X12_275 (c_X12_areHere hT h0 hq1) h0 ⟨Nat.le_of_ble_eq_true rfl, Nat.le_of_ble_eq_true rfl⟩ (Nat.le_of_ble_eq_true rfl) dX12_told_50 ?_
    obtain ⟨q2, hq2, hf⟩ := Option.bind_eq_some_iff.mp hf
    refine jr_cV11 hF ml_X12_101 (c_X12_gives h0 hq2) h0 ⟨Nat.le_of_ble_eq_true rfl, Nat.le_of_ble_eq_true rfl⟩ (Nat.le_of_ble_eq_true rfl) dX12_told_53 ?_
    obtain rfl := Option.some.inj hf
    exact jr_ireturn hF hE dX12_told_56
  rw [if_neg c3] at hf
  by_cases c6 : x1 = 9
  · rw [if_pos c6] at hf
    refine jr_tableIn (off := 35) (tgt := 57) hF dX12_told_22 (by rw [c6]; decide) (by rw [c6]; decide) (by rw [c6]; rfl) rfl ?_
    refine jr_aload_n hF dX12_told_57 0 rfl rfl ?_
    refine jr_aload_n hF dX12_told_58 0 rfl rfl ?_
    obtain ⟨q4, hq4, hf⟩ := Option.bind_eq_some_iff.mp hf
    refine jr_cV01 hF ml_X12_278 (c_X12_areHungry hT h0 hq4) h0 ⟨Nat.le_of_ble_eq_true rfl, Nat.le_of_ble_eq_true rfl⟩ (Nat.le_of_ble_eq_true rfl) dX12_told_59 ?_
    obtain ⟨q5, hq5, hf⟩ := Option.bind_eq_some_iff.mp hf
    refine jr_cV11 hF ml_X12_101 (c_X12_gives h0 hq5) h0 ⟨Nat.le_of_ble_eq_true rfl, Nat.le_of_ble_eq_true rfl⟩ (Nat.le_of_ble_eq_true rfl) dX12_told_62 ?_
    obtain rfl := Option.some.inj hf
    exact jr_ireturn hF hE dX12_told_65
  rw [if_neg c6] at hf
  by_cases c9 : x1 = 10
  · rw [if_pos c9] at hf
    refine jr_tableIn (off := 44) (tgt := 66) hF dX12_told_22 (by rw [c9]; decide) (by rw [c9]; decide) (by rw [c9]; rfl) rfl ?_
    refine jr_aload_n hF dX12_told_66 0 rfl rfl ?_
    refine jr_aload_n hF dX12_told_67 0 rfl rfl ?_
    obtain ⟨q7, hq7, hf⟩ := Option.bind_eq_some_iff.mp hf
    refine jr_cV01 hF ml_X12_281 (c_X12_areStarved hT h0 hq7) h0 ⟨Nat.le_of_ble_eq_true rfl, Nat.le_of_ble_eq_true rfl⟩ (Nat.le_of_ble_eq_true rfl) dX12_told_68 ?_
    obtain ⟨q8, hq8, hf⟩ := Option.bind_eq_some_iff.mp hf
    refine jr_cV11 hF ml_X12_101 (c_X12_gives h0 hq8) h0 ⟨Nat.le_of_ble_eq_true rfl, Nat.le_of_ble_eq_true rfl⟩ (Nat.le_of_ble_eq_true rfl) dX12_told_71 ?_
    obtain rfl := Option.some.inj hf
    exact jr_ireturn hF hE dX12_told_74
  rw [if_neg c9] at hf
  refine jr_tableOut (tgt := 75) hF dX12_told_22 (lt_swd fun kk h1 h2 => by rcases (show kk = 8 ∨ kk = 9 ∨ kk = 10 by omega) with rfl | rfl | rfl <;> first | exact c3 | exact c6 | exact c9) rfl ?_
  refine jr_aload_n hF dX12_told_75 0 rfl rfl ?_
  refine jr_iconst (v := 1) hF dX12_told_76 rfl ?_
  obtain ⟨q10, hq10, hf⟩ := Option.bind_eq_some_iff.mp hf
  refine jr_cV11 hF ml_X12_97 (c_X12_refuse h0 hq10) h0 ⟨Nat.le_of_ble_eq_true rfl, Nat.le_of_ble_eq_true rfl⟩ (Nat.le_of_ble_eq_true rfl) dX12_told_77 ?_
  obtain rfl := Option.some.inj hf
  exact jr_ireturn hF hE dX12_told_80
set_option maxRecDepth 100000 in
def fb_X12_told_0 (σ : lt_S) (o : Nat) (x1 : Int32) (w : lt_W) : Option (Int32 × lt_W) := if x1 < 0 then fb_X12_told_21 σ o x1 w else if 8 ≤ x1 then fb_X12_told_21 σ o x1 w else lt_ck x1 (lt_len σ (lt_r σ o 0)) (Option.bind (f_X12_gives σ o (lt_gi w (lt_r σ o 0) x1.toNatClampNeg) w) (fun q2 => some (q2.1, q2.2)))
set_option maxHeartbeats 4000000 in
set_option maxRecDepth 100000 in
theorem jb_X12_told_0 {X : lt_X} {σ : lt_S} (hT : lt_Wt σ) {o : Nat} (h0 : lt_c σ o = 12) {r : Int32 × lt_W} (hF : lt_F X cX12_told RX12 2 (lt_rm 5)) (hE : lt_E X 0 0 σ (some .int) (some (.int r.1)) r.2) : ∀ (x1 : Int32) (w : lt_W), fb_X12_told_0 σ o x1 w = some r → lt_J X 0 0 σ w 0 [(0, .ref (lt_z X + o)), (1, .int x1)] [] := by
  intro x1 w hf
  unfold fb_X12_told_0 at hf
  refine jr_iload_n hF dX12_told_0 1 rfl rfl ?_
  refine jr_if_lt (tgt := 21) hF dX12_told_1 rfl hf (fun hf => ?_) (fun hf => ?_)
  · exact jb_X12_told_21 hT h0 hF hE _ _ hf
  · refine jr_iload_n hF dX12_told_4 1 rfl rfl ?_
    refine jr_bipush (v := 8) hF dX12_told_5 rfl ?_
    refine jr_icmp_ge (tgt := 21) hF dX12_told_7 rfl hf (fun hf => ?_) (fun hf => ?_)
    · exact jb_X12_told_21 hT h0 hF hE _ _ hf
    · refine jr_aload_n hF dX12_told_10 0 rfl rfl ?_
      refine jr_aload_n hF dX12_told_11 0 rfl rfl ?_
      refine jr_getRT (cr := 50) hF gf_X12_7 hT h0 rfl rfl dX12_told_12 (fun th1 => ?_)
      refine jr_iload_n hF dX12_told_15 1 rfl rfl ?_
      refine jr_iaload hF th1 dX12_told_16 hf (fun hf => ?_)
      obtain ⟨q2, hq2, hf⟩ := Option.bind_eq_some_iff.mp hf
      refine jr_cV11 hF ml_X12_101 (c_X12_gives h0 hq2) h0 ⟨Nat.le_of_ble_eq_true rfl, Nat.le_of_ble_eq_true rfl⟩ (Nat.le_of_ble_eq_true rfl) dX12_told_17 ?_
      obtain rfl := Option.some.inj hf
      exact jr_ireturn hF hE dX12_told_20
def f_X12_told (σ : lt_S) (o : Nat) (x1 : Int32) (w : lt_W) : Option (Int32 × lt_W) := fb_X12_told_0 σ o x1 w
set_option maxRecDepth 100000 in
theorem c_X12_told {l : Launch} {D : va_G} {gA : Nat → ClassId} {s0 : State} {σ : lt_S} (hT : lt_Wt σ) {o : Nat} (h0 : lt_c σ o = 12) {x1 : Int32} {w : lt_W} {r : Int32 × lt_W} (hf : f_X12_told σ o x1 w = some r) : lt_C l D gA s0 yX12_told cX12_told 2 (some .int) (lt_rm 5) [.ref (s0.heap.size + o), .int x1] σ w σ (some (.int r.1)) r.2 := by
  refine lt_enter rfl (Nat.le_of_ble_eq_true rfl) (fun X e1 e2 e3 e4 hF hE => ?_)
  subst e1 e2 e3 e4
  exact jb_X12_told_0 hT h0 hF hE _ _ hf

set_option maxRecDepth 100000 in
def fb_X12_top_0 (σ : lt_S) (o : Nat) (w : lt_W) : Option Int64 := some (lt_gl w o 3)
set_option maxHeartbeats 4000000 in
set_option maxRecDepth 100000 in
theorem jb_X12_top_0 {X : lt_X} {σ : lt_S} {o : Nat} (h0 : lt_c σ o = 12) {r : Int64} {w : lt_W} (hF : lt_F X cX12_top RX12 1 (lt_rm 1)) (hE : lt_E X 0 0 σ (some .long) (some (.long r)) w) : fb_X12_top_0 σ o w = some r → lt_J X 0 0 σ w 0 [(0, .ref (lt_z X + o))] [] := by
  intro  hf
  unfold fb_X12_top_0 at hf
  refine jr_aload_n hF dX12_top_0 0 rfl rfl ?_
  refine jr_getL hF gf_X12_94 h0 dX12_top_1 ?_
  obtain rfl := Option.some.inj hf
  exact jr_lreturn hF hE dX12_top_4
def f_X12_top (σ : lt_S) (o : Nat) (w : lt_W) : Option Int64 := fb_X12_top_0 σ o w
set_option maxRecDepth 100000 in
theorem c_X12_top {l : Launch} {D : va_G} {gA : Nat → ClassId} {s0 : State} {σ : lt_S} {o : Nat} (h0 : lt_c σ o = 12) {w : lt_W} {r : Int64} (hf : f_X12_top σ o w = some r) : lt_C l D gA s0 yX12_top cX12_top 1 (some .long) (lt_rm 1) [.ref (s0.heap.size + o)] σ w σ (some (.long r)) w := by
  refine lt_enter rfl (Nat.le_of_ble_eq_true rfl) (fun X e1 e2 e3 e4 hF hE => ?_)
  subst e1 e2 e3 e4
  exact jb_X12_top_0 h0 hF hE hf

set_option maxRecDepth 100000 in
def fb_X12_tray_26 (σ : lt_S) (o : Nat) (w : lt_W) : Option (Int32 × lt_W) := Option.bind (f_X12_is σ o 1 w) (fun q1 => lt_bz q1.1 (some (q1.1, q1.2)))
set_option maxHeartbeats 4000000 in
set_option maxRecDepth 100000 in
theorem jb_X12_tray_26 {X : lt_X} {σ : lt_S} (hT : lt_Wt σ) {o : Nat} (h0 : lt_c σ o = 12) {r : Int32 × lt_W} (hF : lt_F X cX12_tray RX12 5 (lt_rm 2)) (hE : lt_E X 0 0 σ (some .boolean) (some (.int r.1)) r.2) : ∀ (w : lt_W), fb_X12_tray_26 σ o w = some r → lt_J X 0 0 σ w 26 [(0, .ref (lt_z X + o))] [] := by
  intro w hf
  unfold fb_X12_tray_26 at hf
  refine jr_aload_n hF dX12_tray_26 0 rfl rfl ?_
  refine jr_iconst (v := 1) hF dX12_tray_27 rfl ?_
  obtain ⟨q1, hq1, hf⟩ := Option.bind_eq_some_iff.mp hf
  refine jr_cV11 hF ml_X12_104 (c_X12_is h0 hq1) h0 ⟨Nat.le_of_ble_eq_true rfl, Nat.le_of_ble_eq_true rfl⟩ (Nat.le_of_ble_eq_true rfl) dX12_tray_28 ?_
  obtain ⟨b2, hf⟩ := lt_bzE hf
  obtain rfl := Option.some.inj hf
  exact jr_zreturn hF hE b2 dX12_tray_31
set_option maxRecDepth 100000 in
def fb_X12_tray_49 (σ : lt_S) (o : Nat) : Nat → Int32 → Int32 → Int32 → lt_W → Option (Int32 × lt_W)
  | 0, _, _, _, _ => none
  | n + 1, x1, x3, x4, w => if x3 ≤ x4 then Option.bind (f_X12_is σ o 0 w) (fun q1 => lt_bz q1.1 (some (q1.1, q1.2))) else lt_ck ((60 * x1) + x4) (lt_len σ (lt_r σ o 7)) (lt_let (lt_sl w (lt_r σ o 7) ((60 * x1) + x4).toNatClampNeg 0) (fun w4 => fb_X12_tray_49 σ o n x1 x3 (x4 + 1) w4))
set_option maxHeartbeats 4000000 in
set_option maxRecDepth 100000 in
theorem jb_X12_tray_49 {X : lt_X} {σ : lt_S} (hT : lt_Wt σ) {o : Nat} (h0 : lt_c σ o = 12) {r : Int32 × lt_W} (hF : lt_F X cX12_tray RX12 5 (lt_rm 2)) (hE : lt_E X 0 0 σ (some .boolean) (some (.int r.1)) r.2) (n : Nat) : ∀ (x1 : Int32) (x3 : Int32) (x4 : Int32) (w : lt_W), fb_X12_tray_49 σ o n x1 x3 x4 w = some r → lt_J X 0 0 σ w 49 [(0, .ref (lt_z X + o)), (1, .int x1), (3, .int x3), (4, .int x4)] [] := by
  induction n with
  | zero => intro x1 x3 x4 w hf; rw [fb_X12_tray_49] at hf; cases hf
  | succ n ih =>
    intro x1 x3 x4 w hf
    rw [fb_X12_tray_49] at hf
    refine jr_iload hF dX12_tray_49 3 rfl ?_
    refine jr_iload_n hF dX12_tray_51 2 rfl rfl ?_
    refine jr_icmp_ge (tgt := 74) hF dX12_tray_52 rfl hf (fun hf => ?_) (fun hf => ?_)
    · refine jr_aload_n hF dX12_tray_74 0 rfl rfl ?_
      refine jr_iconst (v := 0) hF dX12_tray_75 rfl ?_
      obtain ⟨q1, hq1, hf⟩ := Option.bind_eq_some_iff.mp hf
      refine jr_cV11 hF ml_X12_104 (c_X12_is h0 hq1) h0 ⟨Nat.le_of_ble_eq_true rfl, Nat.le_of_ble_eq_true rfl⟩ (Nat.le_of_ble_eq_true rfl) dX12_tray_76 ?_
      obtain ⟨b2, hf⟩ := lt_bzE hf
      obtain rfl := Option.some.inj hf
      exact jr_zreturn hF hE b2 dX12_tray_79
    · refine jr_aload_n hF dX12_tray_55 0 rfl rfl ?_
      refine jr_getRT (cr := 51) hF gf_X12_27 hT h0 rfl rfl dX12_tray_56 (fun th3 => ?_)
      refine jr_bipush (v := 60) hF dX12_tray_59 rfl ?_
      refine jr_iload_n hF dX12_tray_61 1 rfl rfl ?_
      refine jr_imul hF dX12_tray_62 ?_
      refine jr_iload hF dX12_tray_63 3 rfl ?_
      refine jr_iadd hF dX12_tray_65 ?_
      refine jr_lconst (v := 0) hF dX12_tray_66 rfl ?_
      refine jr_lastore hF th3 dX12_tray_67 hf (fun hf => ?_)
      refine jr_letW hf (fun w4 hf => ?_)
      refine jr_iinc (v := x4 + 1) (lv' := [(0, .ref (lt_z X + o)), (1, .int x1), (3, .int x3), (4, .int (x4 + 1))]) hF dX12_tray_68 3 rfl rfl (by decide) [1, 2, 3, 0] rfl ?_
      refine jr_goto (tgt := 49) hF dX12_tray_71 rfl ?_
      exact ih _ _ _ _ hf
set_option maxRecDepth 100000 in
def fb_X12_tray_0 (σ : lt_S) (o : Nat) (x1 : Int32) (x2 : Int32) (x3 : Int32) (w : lt_W) : Option (Int32 × lt_W) := Option.bind (f_X12_isTray x1) (fun q1 => if q1 = 0 then fb_X12_tray_26 σ o w else if x2 < 0 then fb_X12_tray_26 σ o w else if 3 < x2 then fb_X12_tray_26 σ o w else if x3 < 0 then fb_X12_tray_26 σ o w else if x3 ≤ 60 then lt_ck x1 (lt_len σ (lt_r σ o 5)) (lt_let (lt_si w (lt_r σ o 5) x1.toNatClampNeg x2) (fun w3 => lt_ck x1 (lt_len σ (lt_r σ o 6)) (lt_let (lt_si w3 (lt_r σ o 6) x1.toNatClampNeg x3) (fun w5 => fb_X12_tray_49 σ o lt_fu x1 x3 0 w5)))) else fb_X12_tray_26 σ o w)
set_option maxHeartbeats 4000000 in
set_option maxRecDepth 100000 in
theorem jb_X12_tray_0 {X : lt_X} {σ : lt_S} (hT : lt_Wt σ) {o : Nat} (h0 : lt_c σ o = 12) {r : Int32 × lt_W} (hF : lt_F X cX12_tray RX12 5 (lt_rm 2)) (hE : lt_E X 0 0 σ (some .boolean) (some (.int r.1)) r.2) : ∀ (x1 : Int32) (x2 : Int32) (x3 : Int32) (w : lt_W), fb_X12_tray_0 σ o x1 x2 x3 w = some r → lt_J X 0 0 σ w 0 [(0, .ref (lt_z X + o)), (1, .int x1), (2, .int x2), (3, .int x3)] [] := by
  intro x1 x2 x3 w hf
  unfold fb_X12_tray_0 at hf
  refine jr_iload_n hF dX12_tray_0 1 rfl rfl ?_
  obtain ⟨q1, hq1, hf⟩ := Option.bind_eq_some_iff.mp hf
  refine jr_cS11 hF ml_X12_108 (c_X12_isTray hq1) ⟨Nat.le_of_ble_eq_true rfl, Nat.le_of_ble_eq_true rfl⟩ (Nat.le_of_ble_eq_true rfl) dX12_tray_1 ?_
  refine jr_if_eq (tgt := 26) hF dX12_tray_4 rfl hf (fun hf => ?_) (fun hf => ?_)
  · refine jr_sub [0] rfl ?_
    exact jb_X12_tray_26 hT h0 hF hE _ hf
  · refine jr_iload_n hF dX12_tray_7 2 rfl rfl ?_
    refine jr_if_lt (tgt := 26) hF dX12_tray_8 rfl hf (fun hf => ?_) (fun hf => ?_)
    · refine jr_sub [0] rfl ?_
      exact jb_X12_tray_26 hT h0 hF hE _ hf
    · refine jr_iload_n hF dX12_tray_11 2 rfl rfl ?_
      refine jr_iconst (v := 3) hF dX12_tray_12 rfl ?_
      refine jr_icmp_gt (tgt := 26) hF dX12_tray_13 rfl hf (fun hf => ?_) (fun hf => ?_)
      · refine jr_sub [0] rfl ?_
        exact jb_X12_tray_26 hT h0 hF hE _ hf
      · refine jr_iload_n hF dX12_tray_16 3 rfl rfl ?_
        refine jr_if_lt (tgt := 26) hF dX12_tray_17 rfl hf (fun hf => ?_) (fun hf => ?_)
        · refine jr_sub [0] rfl ?_
          exact jb_X12_tray_26 hT h0 hF hE _ hf
        · refine jr_iload_n hF dX12_tray_20 3 rfl rfl ?_
          refine jr_bipush (v := 60) hF dX12_tray_21 rfl ?_
          refine jr_icmp_le (tgt := 32) hF dX12_tray_23 rfl hf (fun hf => ?_) (fun hf => ?_)
          · refine jr_aload_n hF dX12_tray_32 0 rfl rfl ?_
            refine jr_getRT (cr := 50) hF gf_X12_21 hT h0 rfl rfl dX12_tray_33 (fun th2 => ?_)
            refine jr_iload_n hF dX12_tray_36 1 rfl rfl ?_
            refine jr_iload_n hF dX12_tray_37 2 rfl rfl ?_
            refine jr_iastore hF th2 dX12_tray_38 hf (fun hf => ?_)
            refine jr_letW hf (fun w3 hf => ?_)
            refine jr_aload_n hF dX12_tray_39 0 rfl rfl ?_
            refine jr_getRT (cr := 50) hF gf_X12_24 hT h0 rfl rfl dX12_tray_40 (fun th4 => ?_)
            refine jr_iload_n hF dX12_tray_43 1 rfl rfl ?_
            refine jr_iload_n hF dX12_tray_44 3 rfl rfl ?_
            refine jr_iastore hF th4 dX12_tray_45 hf (fun hf => ?_)
            refine jr_letW hf (fun w5 hf => ?_)
            refine jr_iconst (v := 0) hF dX12_tray_46 rfl ?_
            refine jr_istore (lv' := [(0, .ref (lt_z X + o)), (1, .int x1), (3, .int x3), (4, .int 0)]) hF dX12_tray_47 (by decide) [1, 2, 4, 0] rfl ?_
            exact jb_X12_tray_49 hT h0 hF hE lt_fu _ _ _ _ hf
          · refine jr_sub [0] rfl ?_
            exact jb_X12_tray_26 hT h0 hF hE _ hf
def f_X12_tray (σ : lt_S) (o : Nat) (x1 : Int32) (x2 : Int32) (x3 : Int32) (w : lt_W) : Option (Int32 × lt_W) := fb_X12_tray_0 σ o x1 x2 x3 w
set_option maxRecDepth 100000 in
theorem c_X12_tray {l : Launch} {D : va_G} {gA : Nat → ClassId} {s0 : State} {σ : lt_S} (hT : lt_Wt σ) {o : Nat} (h0 : lt_c σ o = 12) {x1 : Int32} {x2 : Int32} {x3 : Int32} {w : lt_W} {r : Int32 × lt_W} (hf : f_X12_tray σ o x1 x2 x3 w = some r) : lt_C l D gA s0 yX12_tray cX12_tray 5 (some .boolean) (lt_rm 2) [.ref (s0.heap.size + o), .int x1, .int x2, .int x3] σ w σ (some (.int r.1)) r.2 := by
  refine lt_enter rfl (Nat.le_of_ble_eq_true rfl) (fun X e1 e2 e3 e4 hF hE => ?_)
  subst e1 e2 e3 e4
  exact jb_X12_tray_0 hT h0 hF hE _ _ _ _ hf

set_option maxRecDepth 100000 in
def fb_X12_undo_0 (σ : lt_S) (o : Nat) (w : lt_W) : Option (Int32 × lt_W) := if (lt_gi w o 40) = 0 then Option.bind (f_X12_refuse σ o 6 w) (fun q4 => some (q4.1, q4.2)) else Option.bind (f_X12_copies σ o (lt_gi w o 40) 0 w) (fun q1 => lt_let (lt_si q1 o 40 ((lt_gi q1 o 40) - 1)) (fun w2 => Option.bind (f_X12_gives σ o (lt_gi w2 o 40) w2) (fun q3 => some (q3.1, q3.2))))
set_option maxHeartbeats 4000000 in
set_option maxRecDepth 100000 in
theorem jb_X12_undo_0 {X : lt_X} {σ : lt_S} (hT : lt_Wt σ) {o : Nat} (h0 : lt_c σ o = 12) {r : Int32 × lt_W} (hF : lt_F X cX12_undo RX12 1 (lt_rm 2)) (hE : lt_E X 0 0 σ (some .int) (some (.int r.1)) r.2) : ∀ (w : lt_W), fb_X12_undo_0 σ o w = some r → lt_J X 0 0 σ w 0 [(0, .ref (lt_z X + o))] [] := by
  intro w hf
  unfold fb_X12_undo_0 at hf
  refine jr_aload_n hF dX12_undo_0 0 rfl rfl ?_
  refine jr_getI hF gf_X12_437 h0 dX12_undo_1 ?_
  refine jr_if_ne (tgt := 14) hF dX12_undo_4 rfl hf (fun hf => ?_) (fun hf => ?_)
  · refine jr_aload_n hF dX12_undo_14 0 rfl rfl ?_
    refine jr_aload_n hF dX12_undo_15 0 rfl rfl ?_
    refine jr_getI hF gf_X12_437 h0 dX12_undo_16 ?_
    refine jr_iconst (v := 0) hF dX12_undo_19 rfl ?_
    obtain ⟨q1, hq1, hf⟩ := Option.bind_eq_some_iff.mp hf
    refine jr_cV2v hF ml_X12_440 (c_X12_copies hT h0 hq1) h0 ⟨Nat.le_of_ble_eq_true rfl, Nat.le_of_ble_eq_true rfl⟩ (Nat.le_of_ble_eq_true rfl) dX12_undo_20 ?_
    refine jr_aload_n hF dX12_undo_23 0 rfl rfl ?_
    refine jr_dup hF dX12_undo_24 rfl ?_
    refine jr_getI hF gf_X12_437 h0 dX12_undo_25 ?_
    refine jr_iconst (v := 1) hF dX12_undo_28 rfl ?_
    refine jr_isub hF dX12_undo_29 ?_
    refine jr_putI hF pf_X12_437 h0 dX12_undo_30 ?_
    refine jr_letW hf (fun w2 hf => ?_)
    refine jr_aload_n hF dX12_undo_33 0 rfl rfl ?_
    refine jr_aload_n hF dX12_undo_34 0 rfl rfl ?_
    refine jr_getI hF gf_X12_437 h0 dX12_undo_35 ?_
    obtain ⟨q3, hq3, hf⟩ := Option.bind_eq_some_iff.mp hf
    refine jr_cV11 hF ml_X12_101 (c_X12_gives h0 hq3) h0 ⟨Nat.le_of_ble_eq_true rfl, Nat.le_of_ble_eq_true rfl⟩ (Nat.le_of_ble_eq_true rfl) dX12_undo_38 ?_
    obtain rfl := Option.some.inj hf
    exact jr_ireturn hF hE dX12_undo_41
  · refine jr_aload_n hF dX12_undo_7 0 rfl rfl ?_
    refine jr_bipush (v := 6) hF dX12_undo_8 rfl ?_
    obtain ⟨q4, hq4, hf⟩ := Option.bind_eq_some_iff.mp hf
    refine jr_cV11 hF ml_X12_97 (c_X12_refuse h0 hq4) h0 ⟨Nat.le_of_ble_eq_true rfl, Nat.le_of_ble_eq_true rfl⟩ (Nat.le_of_ble_eq_true rfl) dX12_undo_10 ?_
    obtain rfl := Option.some.inj hf
    exact jr_ireturn hF hE dX12_undo_13
def f_X12_undo (σ : lt_S) (o : Nat) (w : lt_W) : Option (Int32 × lt_W) := fb_X12_undo_0 σ o w
set_option maxRecDepth 100000 in
theorem c_X12_undo {l : Launch} {D : va_G} {gA : Nat → ClassId} {s0 : State} {σ : lt_S} (hT : lt_Wt σ) {o : Nat} (h0 : lt_c σ o = 12) {w : lt_W} {r : Int32 × lt_W} (hf : f_X12_undo σ o w = some r) : lt_C l D gA s0 yX12_undo cX12_undo 1 (some .int) (lt_rm 2) [.ref (s0.heap.size + o)] σ w σ (some (.int r.1)) r.2 := by
  refine lt_enter rfl (Nat.le_of_ble_eq_true rfl) (fun X e1 e2 e3 e4 hF hE => ?_)
  subst e1 e2 e3 e4
  exact jb_X12_undo_0 hT h0 hF hE _ hf

set_option maxRecDepth 100000 in
def fb_X12_waits_0 (σ : lt_S) (o : Nat) (x1 : Int32) (x2 : Int32) (w : lt_W) : Option (Int32 × lt_W) := Option.bind (f_X12_areTwo σ o x1 x2 w) (fun q1 => if q1 = 0 then Option.bind (f_X12_is σ o 1 w) (fun q5 => lt_bz q5.1 (some (q5.1, q5.2))) else Option.bind (f_X12_guestOf σ o x2 2 w) (fun q2 => Option.bind (f_X12_tellsBy σ o 1 (1 + q2.toInt64) w) (fun q3 => lt_bz q3.1 (some (q3.1, q3.2)))))
set_option maxHeartbeats 4000000 in
set_option maxRecDepth 100000 in
theorem jb_X12_waits_0 {X : lt_X} {σ : lt_S} (hT : lt_Wt σ) {o : Nat} (h0 : lt_c σ o = 12) {r : Int32 × lt_W} (hF : lt_F X cX12_waits RX12 3 (lt_rm 3)) (hE : lt_E X 0 0 σ (some .boolean) (some (.int r.1)) r.2) : ∀ (x1 : Int32) (x2 : Int32) (w : lt_W), fb_X12_waits_0 σ o x1 x2 w = some r → lt_J X 0 0 σ w 0 [(0, .ref (lt_z X + o)), (1, .int x1), (2, .int x2)] [] := by
  intro x1 x2 w hf
  unfold fb_X12_waits_0 at hf
  refine jr_aload_n hF dX12_waits_0 0 rfl rfl ?_
  refine jr_iload_n hF dX12_waits_1 1 rfl rfl ?_
  refine jr_iload_n hF dX12_waits_2 2 rfl rfl ?_
  obtain ⟨q1, hq1, hf⟩ := Option.bind_eq_some_iff.mp hf
  refine jr_cV21 hF ml_X12_317 (c_X12_areTwo hT h0 hq1) h0 ⟨Nat.le_of_ble_eq_true rfl, Nat.le_of_ble_eq_true rfl⟩ (Nat.le_of_ble_eq_true rfl) dX12_waits_3 ?_
  refine jr_if_ne (tgt := 15) hF dX12_waits_6 rfl hf (fun hf => ?_) (fun hf => ?_)
  · refine jr_aload_n hF dX12_waits_15 0 rfl rfl ?_
    refine jr_lconst (v := 1) hF dX12_waits_16 rfl ?_
    refine jr_lconst (v := 1) hF dX12_waits_17 rfl ?_
    refine jr_aload_n hF dX12_waits_18 0 rfl rfl ?_
    refine jr_iload_n hF dX12_waits_19 2 rfl rfl ?_
    refine jr_iconst (v := 2) hF dX12_waits_20 rfl ?_
    obtain ⟨q2, hq2, hf⟩ := Option.bind_eq_some_iff.mp hf
    refine jr_cV21 hF ml_X12_269 (c_X12_guestOf hT h0 hq2) h0 ⟨Nat.le_of_ble_eq_true rfl, Nat.le_of_ble_eq_true rfl⟩ (Nat.le_of_ble_eq_true rfl) dX12_waits_21 ?_
    refine jr_i2l hF dX12_waits_24 ?_
    refine jr_ladd hF dX12_waits_25 ?_
    obtain ⟨q3, hq3, hf⟩ := Option.bind_eq_some_iff.mp hf
    refine jr_cV21 hF ml_X12_373 (c_X12_tellsBy h0 hq3) h0 ⟨Nat.le_of_ble_eq_true rfl, Nat.le_of_ble_eq_true rfl⟩ (Nat.le_of_ble_eq_true rfl) dX12_waits_26 ?_
    obtain ⟨b4, hf⟩ := lt_bzE hf
    obtain rfl := Option.some.inj hf
    exact jr_zreturn hF hE b4 dX12_waits_29
  · refine jr_aload_n hF dX12_waits_9 0 rfl rfl ?_
    refine jr_iconst (v := 1) hF dX12_waits_10 rfl ?_
    obtain ⟨q5, hq5, hf⟩ := Option.bind_eq_some_iff.mp hf
    refine jr_cV11 hF ml_X12_104 (c_X12_is h0 hq5) h0 ⟨Nat.le_of_ble_eq_true rfl, Nat.le_of_ble_eq_true rfl⟩ (Nat.le_of_ble_eq_true rfl) dX12_waits_11 ?_
    obtain ⟨b6, hf⟩ := lt_bzE hf
    obtain rfl := Option.some.inj hf
    exact jr_zreturn hF hE b6 dX12_waits_14
def f_X12_waits (σ : lt_S) (o : Nat) (x1 : Int32) (x2 : Int32) (w : lt_W) : Option (Int32 × lt_W) := fb_X12_waits_0 σ o x1 x2 w
set_option maxRecDepth 100000 in
theorem c_X12_waits {l : Launch} {D : va_G} {gA : Nat → ClassId} {s0 : State} {σ : lt_S} (hT : lt_Wt σ) {o : Nat} (h0 : lt_c σ o = 12) {x1 : Int32} {x2 : Int32} {w : lt_W} {r : Int32 × lt_W} (hf : f_X12_waits σ o x1 x2 w = some r) : lt_C l D gA s0 yX12_waits cX12_waits 3 (some .boolean) (lt_rm 3) [.ref (s0.heap.size + o), .int x1, .int x2] σ w σ (some (.int r.1)) r.2 := by
  refine lt_enter rfl (Nat.le_of_ble_eq_true rfl) (fun X e1 e2 e3 e4 hF hE => ?_)
  subst e1 e2 e3 e4
  exact jb_X12_waits_0 hT h0 hF hE _ _ _ hf

set_option maxRecDepth 100000 in
def fb_X12_wanted_36 (σ : lt_S) (o : Nat) (k6 : Int32 → Int32 → Int32 → lt_W → Option (Int32 × lt_W)) (x1 : Int32) (x2 : Int32) (x3 : Int32) (y0 : Int32) (w : lt_W) : Option (Int32 × lt_W) := if x2 < y0 then k6 x3 y0 (x3 + 1) w else k6 x1 x2 (x3 + 1) w
set_option maxHeartbeats 4000000 in
set_option maxRecDepth 100000 in
theorem jb_X12_wanted_36 {X : lt_X} {σ : lt_S} (hT : lt_Wt σ) {o : Nat} (h0 : lt_c σ o = 12) {r : Int32 × lt_W} {k6 : Int32 → Int32 → Int32 → lt_W → Option (Int32 × lt_W)} (hF : lt_F X cX12_wanted RX12 5 (lt_rm 5)) (hE : lt_E X 0 0 σ (some .int) (some (.int r.1)) r.2) (hk6 : ∀ (x1 : Int32) (x2 : Int32) (x3 : Int32) (w : lt_W), k6 x1 x2 x3 w = some r → lt_J X 0 0 σ w 6 [(0, .ref (lt_z X + o)), (1, .int x1), (2, .int x2), (3, .int x3)] []) : ∀ (x1 : Int32) (x2 : Int32) (x3 : Int32) (y0 : Int32) (w : lt_W), fb_X12_wanted_36 σ o k6 x1 x2 x3 y0 w = some r → lt_J X 0 0 σ w 36 [(0, .ref (lt_z X + o)), (1, .int x1), (2, .int x2), (3, .int x3)] [.int y0] := by
  intro x1 x2 x3 y0 w hf
  unfold fb_X12_wanted_36 at hf
  refine jr_istore (lv' := [(0, .ref (lt_z X + o)), (1, .int x1), (2, .int x2), (3, .int x3), (4, .int y0)]) hF dX12_wanted_36 (by decide) [1, 2, 3, 4, 0] rfl ?_
  refine jr_iload hF dX12_wanted_38 4 rfl ?_
  refine jr_iload_n hF dX12_wanted_40 2 rfl rfl ?_
  refine jr_icmp_gt (tgt := 47) hF dX12_wanted_41 rfl hf (fun hf => ?_) (fun hf => ?_)
  · refine jr_iload_n hF dX12_wanted_47 3 rfl rfl ?_
    refine jr_istore_n (lv' := [(0, .ref (lt_z X + o)), (1, .int x3), (3, .int x3), (4, .int y0)]) hF dX12_wanted_48 rfl (by decide) [1, 0, 3, 4] rfl ?_
    refine jr_iload hF dX12_wanted_49 3 rfl ?_
    refine jr_istore_n (lv' := [(0, .ref (lt_z X + o)), (1, .int x3), (2, .int y0), (3, .int x3)]) hF dX12_wanted_51 rfl (by decide) [1, 2, 0, 3] rfl ?_
    refine jr_iinc (v := x3 + 1) (lv' := [(0, .ref (lt_z X + o)), (1, .int x3), (2, .int y0), (3, .int (x3 + 1))]) hF dX12_wanted_52 3 rfl rfl (by decide) [1, 2, 3, 0] rfl ?_
    refine jr_goto (tgt := 6) hF dX12_wanted_55 rfl ?_
    exact hk6 _ _ _ _ hf
  · refine jr_goto (tgt := 52) hF dX12_wanted_44 rfl ?_
    refine jr_iinc (v := x3 + 1) (lv' := [(0, .ref (lt_z X + o)), (1, .int x1), (2, .int x2), (3, .int (x3 + 1)), (4, .int y0)]) hF dX12_wanted_52 3 rfl rfl (by decide) [1, 2, 3, 0, 4] rfl ?_
    refine jr_goto (tgt := 6) hF dX12_wanted_55 rfl ?_
    refine jr_sub [0, 1, 2, 3] rfl ?_
    exact hk6 _ _ _ _ hf
set_option maxRecDepth 100000 in
def fb_X12_wanted_6 (σ : lt_S) (o : Nat) : Nat → Int32 → Int32 → Int32 → lt_W → Option (Int32 × lt_W)
  | 0, _, _, _, _ => none
  | n + 1, x1, x2, x3, w => lt_ck 0 (lt_len σ (lt_r σ o 0)) (if (lt_gi w (lt_r σ o 0) (0 : Int32).toNatClampNeg) ≤ x3 then Option.bind (f_X12_orNone σ o x1 w) (fun q2 => some (q2.1, q2.2)) else Option.bind (f_X12_isHere σ o x3 w) (fun q3 => if q3 = 0 then fb_X12_wanted_36 σ o (fun x1 x2 x3 w => fb_X12_wanted_6 σ o n x1 x2 x3 w) x1 x2 x3 0 w else Option.bind (f_X12_passTo σ o x3 w) (fun q4 => Option.bind (f_X12_bits q4) (fun q5 => fb_X12_wanted_36 σ o (fun x1 x2 x3 w => fb_X12_wanted_6 σ o n x1 x2 x3 w) x1 x2 x3 q5 w))))
set_option maxHeartbeats 4000000 in
set_option maxRecDepth 100000 in
theorem jb_X12_wanted_6 {X : lt_X} {σ : lt_S} (hT : lt_Wt σ) {o : Nat} (h0 : lt_c σ o = 12) {r : Int32 × lt_W} (hF : lt_F X cX12_wanted RX12 5 (lt_rm 5)) (hE : lt_E X 0 0 σ (some .int) (some (.int r.1)) r.2) (n : Nat) : ∀ (x1 : Int32) (x2 : Int32) (x3 : Int32) (w : lt_W), fb_X12_wanted_6 σ o n x1 x2 x3 w = some r → lt_J X 0 0 σ w 6 [(0, .ref (lt_z X + o)), (1, .int x1), (2, .int x2), (3, .int x3)] [] := by
  induction n with
  | zero => intro x1 x2 x3 w hf; rw [fb_X12_wanted_6] at hf; cases hf
  | succ n ih =>
    intro x1 x2 x3 w hf
    rw [fb_X12_wanted_6] at hf
    refine jr_iload_n hF dX12_wanted_6 3 rfl rfl ?_
    refine jr_aload_n hF dX12_wanted_7 0 rfl rfl ?_
    refine jr_getRT (cr := 50) hF gf_X12_7 hT h0 rfl rfl dX12_wanted_8 (fun th1 => ?_)
    refine jr_iconst (v := 0) hF dX12_wanted_11 rfl ?_
    refine jr_iaload hF th1 dX12_wanted_12 hf (fun hf => ?_)
    refine jr_icmp_ge (tgt := 58) hF dX12_wanted_13 rfl hf (fun hf => ?_) (fun hf => ?_)
    · refine jr_aload_n hF dX12_wanted_58 0 rfl rfl ?_
      refine jr_iload_n hF dX12_wanted_59 1 rfl rfl ?_
      obtain ⟨q2, hq2, hf⟩ := Option.bind_eq_some_iff.mp hf
      refine jr_cV11 hF ml_X12_284 (c_X12_orNone h0 hq2) h0 ⟨Nat.le_of_ble_eq_true rfl, Nat.le_of_ble_eq_true rfl⟩ (Nat.le_of_ble_eq_true rfl) dX12_wanted_60 ?_
      obtain rfl := Option.some.inj hf
      exact jr_ireturn hF hE dX12_wanted_63
    · refine jr_aload_n hF dX12_wanted_16 0 rfl rfl ?_
      refine jr_iload_n hF dX12_wanted_17 3 rfl rfl ?_
      obtain ⟨q3, hq3, hf⟩ := Option.bind_eq_some_iff.mp hf
      refine jr_cV11 hF ml_X12_272 (c_X12_isHere hT h0 hq3) h0 ⟨Nat.le_of_ble_eq_true rfl, Nat.le_of_ble_eq_true rfl⟩ (Nat.le_of_ble_eq_true rfl) dX12_wanted_18 ?_
      refine jr_if_eq (tgt := 35) hF dX12_wanted_21 rfl hf (fun hf => ?_) (fun hf => ?_)
      · refine jr_iconst (v := 0) hF dX12_wanted_35 rfl ?_
        exact jb_X12_wanted_36 hT h0 hF hE ih _ _ _ _ _ hf
      · refine jr_aload_n hF dX12_wanted_24 0 rfl rfl ?_
        refine jr_iload_n hF dX12_wanted_25 3 rfl rfl ?_
        obtain ⟨q4, hq4, hf⟩ := Option.bind_eq_some_iff.mp hf
        refine jr_cV11 hF ml_X12_287 (c_X12_passTo hT h0 hq4) h0 ⟨Nat.le_of_ble_eq_true rfl, Nat.le_of_ble_eq_true rfl⟩ (Nat.le_of_ble_eq_true rfl) dX12_wanted_26 ?_
        obtain ⟨q5, hq5, hf⟩ := Option.bind_eq_some_iff.mp hf
        refine jr_cS11 hF ml_X12_293 (c_X12_bits hq5) ⟨Nat.le_of_ble_eq_true rfl, Nat.le_of_ble_eq_true rfl⟩ (Nat.le_of_ble_eq_true rfl) dX12_wanted_29 ?_
        refine jr_goto (tgt := 36) hF dX12_wanted_32 rfl ?_
        exact jb_X12_wanted_36 hT h0 hF hE ih _ _ _ _ _ hf
set_option maxRecDepth 100000 in
def fb_X12_wanted_0 (σ : lt_S) (o : Nat) (w : lt_W) : Option (Int32 × lt_W) := fb_X12_wanted_6 σ o lt_fu (-1) 0 0 w
set_option maxHeartbeats 4000000 in
set_option maxRecDepth 100000 in
theorem jb_X12_wanted_0 {X : lt_X} {σ : lt_S} (hT : lt_Wt σ) {o : Nat} (h0 : lt_c σ o = 12) {r : Int32 × lt_W} (hF : lt_F X cX12_wanted RX12 5 (lt_rm 5)) (hE : lt_E X 0 0 σ (some .int) (some (.int r.1)) r.2) : ∀ (w : lt_W), fb_X12_wanted_0 σ o w = some r → lt_J X 0 0 σ w 0 [(0, .ref (lt_z X + o))] [] := by
  intro w hf
  unfold fb_X12_wanted_0 at hf
  refine jr_iconst (v := (-1)) hF dX12_wanted_0 rfl ?_
  refine jr_istore_n (lv' := [(0, .ref (lt_z X + o)), (1, .int (-1))]) hF dX12_wanted_1 rfl (by decide) [1, 0] rfl ?_
  refine jr_iconst (v := 0) hF dX12_wanted_2 rfl ?_
  refine jr_istore_n (lv' := [(0, .ref (lt_z X + o)), (1, .int (-1)), (2, .int 0)]) hF dX12_wanted_3 rfl (by decide) [1, 2, 0] rfl ?_
  refine jr_iconst (v := 0) hF dX12_wanted_4 rfl ?_
  refine jr_istore_n (lv' := [(0, .ref (lt_z X + o)), (1, .int (-1)), (2, .int 0), (3, .int 0)]) hF dX12_wanted_5 rfl (by decide) [1, 2, 3, 0] rfl ?_
  exact jb_X12_wanted_6 hT h0 hF hE lt_fu _ _ _ _ hf
def f_X12_wanted (σ : lt_S) (o : Nat) (w : lt_W) : Option (Int32 × lt_W) := fb_X12_wanted_0 σ o w
set_option maxRecDepth 100000 in
theorem c_X12_wanted {l : Launch} {D : va_G} {gA : Nat → ClassId} {s0 : State} {σ : lt_S} (hT : lt_Wt σ) {o : Nat} (h0 : lt_c σ o = 12) {w : lt_W} {r : Int32 × lt_W} (hf : f_X12_wanted σ o w = some r) : lt_C l D gA s0 yX12_wanted cX12_wanted 5 (some .int) (lt_rm 5) [.ref (s0.heap.size + o)] σ w σ (some (.int r.1)) r.2 := by
  refine lt_enter rfl (Nat.le_of_ble_eq_true rfl) (fun X e1 e2 e3 e4 hF hE => ?_)
  subst e1 e2 e3 e4
  exact jb_X12_wanted_0 hT h0 hF hE _ hf
