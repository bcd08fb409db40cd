set_option maxRecDepth 100000 in
def fb_X12_butter_55 (σ : lt_S) (o : Nat) (y1 : Int32) (w : lt_W) : Option (Int32 × lt_W) := Option.bind (f_X12_gives σ o y1 w) (fun q1 => some (q1.1, q1.2))
set_option maxHeartbeats 4000000 in
set_option maxRecDepth 100000 in
theorem jb_X12_butter_55 {X : lt_X} {σ : lt_S} (hT : lt_Wt σ) {o : Nat} (h0 : lt_c σ o = 12) {r : Int32 × lt_W} (hF : lt_F X cX12_butter RX12 4 (lt_rm 4)) (hE : lt_E X 0 0 σ (some .int) (some (.int r.1)) r.2) : ∀ (y1 : Int32) (w : lt_W), fb_X12_butter_55 σ o y1 w = some r → lt_J X 0 0 σ w 55 [(0, .ref (lt_z X + o))] [.int y1, .ref (lt_z X + o)] := by
  intro y1 w hf
  unfold fb_X12_butter_55 at hf
  obtain ⟨q1, hq1, hf⟩ := Option.bind_eq_some_iff.mp hf
  refine jr_cV11 hF ml_X12_101 (c_X12_gives h0 hq1) h0 ⟨Nat.le_of_ble_eq_true rfl, Nat.le_of_ble_eq_true rfl⟩ (Nat.le_of_ble_eq_true rfl) dX12_butter_55 ?_
  obtain rfl := Option.some.inj hf
  exact jr_ireturn hF hE dX12_butter_58
set_option maxRecDepth 100000 in
def fb_X12_butter_0 (σ : lt_S) (o : Nat) (x1 : Int32) (x2 : Int32) (w : lt_W) : Option (Int32 × lt_W) := Option.bind (f_X12_areTwo σ o x1 x2 w) (fun q1 => if q1 = 0 then Option.bind (f_X12_refuse σ o 1 w) (fun q6 => some (q6.1, q6.2)) else Option.bind (f_X12_guestOf σ o x1 6 w) (fun q2 => Option.bind (f_X12_passes σ o x1 x2 w) (fun q3 => if q3.1 = 0 then Option.bind (f_X12_refuse σ o 7 q3.2) (fun q5 => some (q5.1, q5.2)) else if q2 = (-1) then lt_ck 0 (lt_len σ (lt_r σ o 0)) (fb_X12_butter_55 σ o (lt_gi q3.2 (lt_r σ o 0) (0 : Int32).toNatClampNeg) q3.2) else fb_X12_butter_55 σ o q2 q3.2)))
set_option maxHeartbeats 4000000 in
set_option maxRecDepth 100000 in
theorem jb_X12_butter_0 {X : lt_X} {σ : lt_S} (hT : lt_Wt σ) {o : Nat} (h0 : lt_c σ o = 12) {r : Int32 × lt_W} (hF : lt_F X cX12_butter RX12 4 (lt_rm 4)) (hE : lt_E X 0 0 σ (some .int) (some (.int r.1)) r.2) : ∀ (x1 : Int32) (x2 : Int32) (w : lt_W), fb_X12_butter_0 σ o x1 x2 w = some r → lt_J X 0 0 σ w 0 [(0, .ref (lt_z X + o)), (1, .int x1), (2, .int x2)] [] := by
  intro x1 x2 w hf
  unfold fb_X12_butter_0 at hf
  refine jr_aload_n hF dX12_butter_0 0 rfl rfl ?_
  refine jr_iload_n hF dX12_butter_1 1 rfl rfl ?_
  refine jr_iload_n hF dX12_butter_2 2 rfl rfl ?_
  obtain ⟨q1, hq1, hf⟩ := Option.bind_eq_some_iff.mp hf
  refine jr_cV21 hF ml_X12_317 (c_X12_areTwo hT h0 hq1) h0 ⟨Nat.le_of_ble_eq_true rfl, Nat.le_of_ble_eq_true rfl⟩ (Nat.le_of_ble_eq_true rfl) dX12_butter_3 ?_
  refine jr_if_ne (tgt := 15) hF dX12_butter_6 rfl hf (fun hf => ?_) (fun hf => ?_)
  · refine jr_aload_n hF dX12_butter_15 0 rfl rfl ?_
    refine jr_iload_n hF dX12_butter_16 1 rfl rfl ?_
    refine jr_bipush (v := 6) hF dX12_butter_17 rfl ?_
    obtain ⟨q2, hq2, hf⟩ := Option.bind_eq_some_iff.mp hf
    refine jr_cV21 hF ml_X12_269 (c_X12_guestOf hT h0 hq2) h0 ⟨Nat.le_of_ble_eq_true rfl, Nat.le_of_ble_eq_true rfl⟩ (Nat.le_of_ble_eq_true rfl) dX12_butter_19 ?_
    refine jr_istore_n (lv' := [(0, .ref (lt_z X + o)), (1, .int x1), (2, .int x2), (3, .int q2)]) hF dX12_butter_22 rfl (by decide) [1, 2, 3, 0] rfl ?_
    refine jr_aload_n hF dX12_butter_23 0 rfl rfl ?_
    refine jr_iload_n hF dX12_butter_24 1 rfl rfl ?_
    refine jr_iload_n hF dX12_butter_25 2 rfl rfl ?_
    obtain ⟨q3, hq3, hf⟩ := Option.bind_eq_some_iff.mp hf
    refine jr_cV21 hF ml_X12_320 (c_X12_passes hT h0 hq3) h0 ⟨Nat.le_of_ble_eq_true rfl, Nat.le_of_ble_eq_true rfl⟩ (Nat.le_of_ble_eq_true rfl) dX12_butter_26 ?_
    refine jr_if_ne (tgt := 39) hF dX12_butter_29 rfl hf (fun hf => ?_) (fun hf => ?_)
    · refine jr_aload_n hF dX12_butter_39 0 rfl rfl ?_
      refine jr_iload_n hF dX12_butter_40 3 rfl rfl ?_
      refine jr_iconst (v := (-1)) hF dX12_butter_41 rfl ?_
      refine jr_icmp_ne (tgt := 54) hF dX12_butter_42 rfl hf (fun hf => ?_) (fun hf => ?_)
      · refine jr_iload_n hF dX12_butter_54 3 rfl rfl ?_
        refine jr_sub [0] rfl ?_
        exact jb_X12_butter_55 hT h0 hF hE _ _ hf
      · refine jr_aload_n hF dX12_butter_45 0 rfl rfl ?_
        refine jr_getRT (cr := 50) hF gf_X12_7 hT h0 rfl rfl dX12_butter_46 (fun th4 => ?_)
        refine jr_iconst (v := 0) hF dX12_butter_49 rfl ?_
        refine jr_iaload hF th4 dX12_butter_50 hf (fun hf => ?_)
        refine jr_goto (tgt := 55) hF dX12_butter_51 rfl ?_
        refine jr_sub [0] rfl ?_
        exact jb_X12_butter_55 hT h0 hF hE _ _ hf
    · refine jr_aload_n hF dX12_butter_32 0 rfl rfl ?_
      refine jr_bipush (v := 7) hF dX12_butter_33 rfl ?_
      obtain ⟨q5, hq5, hf⟩ := Option.bind_eq_some_iff.mp hf
      refine jr_cV11 hF ml_X12_97 (c_X12_refuse h0 hq5) h0 ⟨Nat.le_of_ble_eq_true rfl, Nat.le_of_ble_eq_true rfl⟩ (Nat.le_of_ble_eq_true rfl) dX12_butter_35 ?_
      obtain rfl := Option.some.inj hf
      exact jr_ireturn hF hE dX12_butter_38
  · refine jr_aload_n hF dX12_butter_9 0 rfl rfl ?_
    refine jr_iconst (v := 1) hF dX12_butter_10 rfl ?_
    obtain ⟨q6, hq6, hf⟩ := Option.bind_eq_some_iff.mp hf
    refine jr_cV11 hF ml_X12_97 (c_X12_refuse h0 hq6) h0 ⟨Nat.le_of_ble_eq_true rfl, Nat.le_of_ble_eq_true rfl⟩ (Nat.le_of_ble_eq_true rfl) dX12_butter_11 ?_
    obtain rfl := Option.some.inj hf
    exact jr_ireturn hF hE dX12_butter_14
def f_X12_butter (σ : lt_S) (o : Nat) (x1 : Int32) (x2 : Int32) (w : lt_W) : Option (Int32 × lt_W) := fb_X12_butter_0 σ o x1 x2 w
set_option maxRecDepth 100000 in
theorem c_X12_butter {l : Launch} {D : va_G} {gA : Nat → ClassId} {s0 : State} {σ : lt_S} (hT : lt_Wt σ) {o : Nat} (h0 : lt_c σ o = 12) {x1 : Int32} {x2 : Int32} {w : lt_W} {r : Int32 × lt_W} (hf : f_X12_butter σ o x1 x2 w = some r) : lt_C l D gA s0 yX12_butter cX12_butter 4 (some .int) (lt_rm 4) [.ref (s0.heap.size + o), .int x1, .int x2] σ w σ (some (.int r.1)) r.2 := by
  refine lt_enter rfl (Nat.le_of_ble_eq_true rfl) (fun X e1 e2 e3 e4 hF hE => ?_)
  subst e1 e2 e3 e4
  exact jb_X12_butter_0 hT h0 hF hE _ _ _ hf

set_option maxRecDepth 100000 in
def fb_X12_canCut_0 (σ : lt_S) (o : Nat) (w : lt_W) (x1 : Int32) : Option Int32 := Option.bind (f_X12_isHere σ o x1 w) (fun q1 => if q1 = 0 then some 0 else lt_ck 5 (lt_len σ (lt_r σ o 0)) (if (lt_gi w (lt_r σ o 0) (5 : Int32).toNatClampNeg) = 0 then some 1 else some 0))
set_option maxHeartbeats 4000000 in
set_option maxRecDepth 100000 in
theorem jb_X12_canCut_0 {X : lt_X} {σ : lt_S} (hT : lt_Wt σ) {o : Nat} (h0 : lt_c σ o = 12) {r : Int32} {w : lt_W} (hF : lt_F X cX12_canCut RX12 2 (lt_rm 4)) (hE : lt_E X 0 0 σ (some .boolean) (some (.int r)) w) : ∀ (x1 : Int32), fb_X12_canCut_0 σ o w x1 = some r → lt_J X 0 0 σ w 0 [(0, .ref (lt_z X + o)), (1, .int x1)] [] := by
  intro x1 hf
  unfold fb_X12_canCut_0 at hf
  refine jr_aload_n hF dX12_canCut_0 0 rfl rfl ?_
  refine jr_iload_n hF dX12_canCut_1 1 rfl rfl ?_
  obtain ⟨q1, hq1, hf⟩ := Option.bind_eq_some_iff.mp hf
  refine jr_cV11 hF ml_X12_272 (c_X12_isHere hT h0 hq1) h0 ⟨Nat.le_of_ble_eq_true rfl, Nat.le_of_ble_eq_true rfl⟩ (Nat.le_of_ble_eq_true rfl) dX12_canCut_2 ?_
  refine jr_if_eq (tgt := 21) hF dX12_canCut_5 rfl hf (fun hf => ?_) (fun hf => ?_)
  · refine jr_iconst (v := 0) hF dX12_canCut_21 rfl ?_
    obtain rfl := Option.some.inj hf
    exact jr_zreturn hF hE (Or.inl rfl) dX12_canCut_22
  · refine jr_aload_n hF dX12_canCut_8 0 rfl rfl ?_
    refine jr_getRT (cr := 50) hF gf_X12_7 hT h0 rfl rfl dX12_canCut_9 (fun th2 => ?_)
    refine jr_iconst (v := 5) hF dX12_canCut_12 rfl ?_
    refine jr_iaload hF th2 dX12_canCut_13 hf (fun hf => ?_)
    refine jr_if_ne (tgt := 21) hF dX12_canCut_14 rfl hf (fun hf => ?_) (fun hf => ?_)
    · refine jr_iconst (v := 0) hF dX12_canCut_21 rfl ?_
      obtain rfl := Option.some.inj hf
      exact jr_zreturn hF hE (Or.inl rfl) dX12_canCut_22
    · refine jr_iconst (v := 1) hF dX12_canCut_17 rfl ?_
      refine jr_goto (tgt := 22) hF dX12_canCut_18 rfl ?_
      obtain rfl := Option.some.inj hf
      exact jr_zreturn hF hE (Or.inr rfl) dX12_canCut_22
def f_X12_canCut (σ : lt_S) (o : Nat) (x1 : Int32) (w : lt_W) : Option Int32 := fb_X12_canCut_0 σ o w x1
set_option maxRecDepth 100000 in
theorem c_X12_canCut {l : Launch} {D : va_G} {gA : Nat → ClassId} {s0 : State} {σ : lt_S} (hT : lt_Wt σ) {o : Nat} (h0 : lt_c σ o = 12) {x1 : Int32} {w : lt_W} {r : Int32} (hf : f_X12_canCut σ o x1 w = some r) : lt_C l D gA s0 yX12_canCut cX12_canCut 2 (some .boolean) (lt_rm 4) [.ref (s0.heap.size + o), .int x1] σ w σ (some (.int r)) w := by
  refine lt_enter rfl (Nat.le_of_ble_eq_true rfl) (fun X e1 e2 e3 e4 hF hE => ?_)
  subst e1 e2 e3 e4
  exact jb_X12_canCut_0 hT h0 hF hE _ hf

set_option maxRecDepth 100000 in
def fb_X12_is_0 (σ : lt_S) (o : Nat) (x1 : Int32) (w : lt_W) : Option (Int32 × lt_W) := lt_let (lt_si w o 2 x1) (fun w1 => if x1 = 0 then some (1, w1) else some (0, w1))
set_option maxHeartbeats 4000000 in
set_option maxRecDepth 100000 in
theorem jb_X12_is_0 {X : lt_X} {σ : lt_S} {o : Nat} (h0 : lt_c σ o = 12) {r : Int32 × lt_W} (hF : lt_F X cX12_is RX12 2 (lt_rm 1)) (hE : lt_E X 0 0 σ (some .boolean) (some (.int r.1)) r.2) : ∀ (x1 : Int32) (w : lt_W), fb_X12_is_0 σ o x1 w = some r → lt_J X 0 0 σ w 0 [(0, .ref (lt_z X + o)), (1, .int x1)] [] := by
  intro x1 w hf
  unfold fb_X12_is_0 at hf
  refine jr_aload_n hF dX12_is_0 0 rfl rfl ?_
  refine jr_iload_n hF dX12_is_1 1 rfl rfl ?_
  refine jr_putI hF pf_X12_91 h0 dX12_is_2 ?_
  refine jr_letW hf (fun w1 hf => ?_)
  refine jr_iload_n hF dX12_is_5 1 rfl rfl ?_
  refine jr_if_ne (tgt := 13) hF dX12_is_6 rfl hf (fun hf => ?_) (fun hf => ?_)
  · refine jr_iconst (v := 0) hF dX12_is_13 rfl ?_
    obtain rfl := Option.some.inj hf
    exact jr_zreturn hF hE (Or.inl rfl) dX12_is_14
  · refine jr_iconst (v := 1) hF dX12_is_9 rfl ?_
    refine jr_goto (tgt := 14) hF dX12_is_10 rfl ?_
    obtain rfl := Option.some.inj hf
    exact jr_zreturn hF hE (Or.inr rfl) dX12_is_14
def f_X12_is (σ : lt_S) (o : Nat) (x1 : Int32) (w : lt_W) : Option (Int32 × lt_W) := fb_X12_is_0 σ o x1 w
set_option maxRecDepth 100000 in
theorem c_X12_is {l : Launch} {D : va_G} {gA : Nat → ClassId} {s0 : State} {σ : lt_S} {o : Nat} (h0 : lt_c σ o = 12) {x1 : Int32} {w : lt_W} {r : Int32 × lt_W} (hf : f_X12_is σ o x1 w = some r) : lt_C l D gA s0 yX12_is cX12_is 2 (some .boolean) (lt_rm 1) [.ref (s0.heap.size + o), .int x1] σ w σ (some (.int r.1)) r.2 := by
  refine lt_enter rfl (Nat.le_of_ble_eq_true rfl) (fun X e1 e2 e3 e4 hF hE => ?_)
  subst e1 e2 e3 e4
  exact jb_X12_is_0 h0 hF hE _ _ hf

set_option maxRecDepth 100000 in
def fb_X12_tellsBy_6 (σ : lt_S) (o : Nat) : Nat → Int64 → Int64 → Int64 → Int64 → lt_W → Option (Int32 × lt_W)
  | 0, _, _, _, _, _ => none
  | n + 1, x1, x3, x5, x7, w => if (lg_cmp x7 0) = 0 then lt_nzl x5 (lt_let (lt_sl w o 3 (x1 / x5)) (fun w1 => lt_nzl x5 (lt_let (lt_sl w1 o 4 (x3 / x5)) (fun w2 => Option.bind (f_X12_is σ o 0 w2) (fun q3 => lt_bz q3.1 (some (q3.1, q3.2))))))) else lt_nzl x7 (fb_X12_tellsBy_6 σ o n x1 x3 x7 (x5 - x5 / x7 * x7) w)
set_option maxHeartbeats 4000000 in
set_option maxRecDepth 100000 in
theorem jb_X12_tellsBy_6 {X : lt_X} {σ : lt_S} {o : Nat} (h0 : lt_c σ o = 12) {r : Int32 × lt_W} (hF : lt_F X cX12_tellsBy RX12 11 (lt_rm 2)) (hE : lt_E X 0 0 σ (some .boolean) (some (.int r.1)) r.2) (n : Nat) : ∀ (x1 : Int64) (x3 : Int64) (x5 : Int64) (x7 : Int64) (w : lt_W), fb_X12_tellsBy_6 σ o n x1 x3 x5 x7 w = some r → lt_J X 0 0 σ w 6 [(0, .ref (lt_z X + o)), (1, .long x1), (3, .long x3), (5, .long x5), (7, .long x7)] [] := by
  induction n with
  | zero => intro x1 x3 x5 x7 w hf; rw [fb_X12_tellsBy_6] at hf; cases hf
  | succ n ih =>
    intro x1 x3 x5 x7 w hf
    rw [fb_X12_tellsBy_6] at hf
    refine jr_lload hF dX12_tellsBy_6 4 rfl ?_
    refine jr_lconst (v := 0) hF dX12_tellsBy_8 rfl ?_
    refine jr_lcmp hF dX12_tellsBy_9 ?_
    refine jr_if_eq (tgt := 31) hF dX12_tellsBy_10 rfl hf (fun hf => ?_) (fun hf => ?_)
    · refine jr_aload_n hF dX12_tellsBy_31 0 rfl rfl ?_
      refine jr_lload_n hF dX12_tellsBy_32 1 rfl rfl ?_
      refine jr_lload hF dX12_tellsBy_33 3 rfl ?_
      refine jr_ldiv hF dX12_tellsBy_35 hf (fun hf => ?_)
      refine jr_putL hF pf_X12_94 h0 dX12_tellsBy_36 ?_
      refine jr_letW hf (fun w1 hf => ?_)
      refine jr_aload_n hF dX12_tellsBy_39 0 rfl rfl ?_
      refine jr_lload_n hF dX12_tellsBy_40 2 rfl rfl ?_
      refine jr_lload hF dX12_tellsBy_41 3 rfl ?_
      refine jr_ldiv hF dX12_tellsBy_43 hf (fun hf => ?_)
      refine jr_putL hF pf_X12_17 h0 dX12_tellsBy_44 ?_
      refine jr_letW hf (fun w2 hf => ?_)
      refine jr_aload_n hF dX12_tellsBy_47 0 rfl rfl ?_
      refine jr_iconst (v := 0) hF dX12_tellsBy_48 rfl ?_
      obtain ⟨q3, hq3, hf⟩ := Option.bind_eq_some_iff.mp hf
      refine jr_cV11 hF ml_X12_104 (c_X12_is h0 hq3) h0 ⟨Nat.le_of_ble_eq_true rfl, Nat.le_of_ble_eq_true rfl⟩ (Nat.le_of_ble_eq_true rfl) dX12_tellsBy_49 ?_
      obtain ⟨b4, hf⟩ := lt_bzE hf
      obtain rfl := Option.some.inj hf
      exact jr_zreturn hF hE b4 dX12_tellsBy_52
    · refine jr_lload hF dX12_tellsBy_13 3 rfl ?_
      refine jr_lload hF dX12_tellsBy_15 4 rfl ?_
      refine jr_lrem hF dX12_tellsBy_17 hf (fun hf => ?_)
      refine jr_lstore (lv' := [(0, .ref (lt_z X + o)), (1, .long x1), (3, .long x3), (7, .long x7), (9, .long (x5 - x5 / x7 * x7))]) hF dX12_tellsBy_18 (by decide) [1, 2, 3, 5, 0] rfl ?_
      refine jr_lload hF dX12_tellsBy_20 3 rfl ?_
      refine jr_lstore (lv' := [(0, .ref (lt_z X + o)), (1, .long x1), (3, .long x3), (5, .long x7), (9, .long (x5 - x5 / x7 * x7))]) hF dX12_tellsBy_22 (by decide) [1, 2, 3, 0, 5] rfl ?_
      refine jr_lload hF dX12_tellsBy_24 4 rfl ?_
      refine jr_lstore (lv' := [(0, .ref (lt_z X + o)), (1, .long x1), (3, .long x3), (5, .long x7), (7, .long (x5 - x5 / x7 * x7))]) hF dX12_tellsBy_26 (by decide) [1, 2, 3, 4, 0] rfl ?_
      refine jr_goto (tgt := 6) hF dX12_tellsBy_28 rfl ?_
      exact ih _ _ _ _ _ hf
set_option maxRecDepth 100000 in
def fb_X12_tellsBy_0 (σ : lt_S) (o : Nat) (x1 : Int64) (x3 : Int64) (w : lt_W) : Option (Int32 × lt_W) := fb_X12_tellsBy_6 σ o lt_fu x1 x3 x1 x3 w
set_option maxHeartbeats 4000000 in
set_option maxRecDepth 100000 in
theorem jb_X12_tellsBy_0 {X : lt_X} {σ : lt_S} {o : Nat} (h0 : lt_c σ o = 12) {r : Int32 × lt_W} (hF : lt_F X cX12_tellsBy RX12 11 (lt_rm 2)) (hE : lt_E X 0 0 σ (some .boolean) (some (.int r.1)) r.2) : ∀ (x1 : Int64) (x3 : Int64) (w : lt_W), fb_X12_tellsBy_0 σ o x1 x3 w = some r → lt_J X 0 0 σ w 0 [(0, .ref (lt_z X + o)), (1, .long x1), (3, .long x3)] [] := by
  intro x1 x3 w hf
  unfold fb_X12_tellsBy_0 at hf
  refine jr_lload_n hF dX12_tellsBy_0 1 rfl rfl ?_
  refine jr_lstore (lv' := [(0, .ref (lt_z X + o)), (1, .long x1), (3, .long x3), (5, .long x1)]) hF dX12_tellsBy_1 (by decide) [1, 2, 3, 0] rfl ?_
  refine jr_lload_n hF dX12_tellsBy_3 2 rfl rfl ?_
  refine jr_lstore (lv' := [(0, .ref (lt_z X + o)), (1, .long x1), (3, .long x3), (5, .long x1), (7, .long x3)]) hF dX12_tellsBy_4 (by decide) [1, 2, 3, 4, 0] rfl ?_
  exact jb_X12_tellsBy_6 h0 hF hE lt_fu _ _ _ _ _ hf
def f_X12_tellsBy (σ : lt_S) (o : Nat) (x1 : Int64) (x3 : Int64) (w : lt_W) : Option (Int32 × lt_W) := fb_X12_tellsBy_0 σ o x1 x3 w
set_option maxRecDepth 100000 in
theorem c_X12_tellsBy {l : Launch} {D : va_G} {gA : Nat → ClassId} {s0 : State} {σ : lt_S} {o : Nat} (h0 : lt_c σ o = 12) {x1 : Int64} {x3 : Int64} {w : lt_W} {r : Int32 × lt_W} (hf : f_X12_tellsBy σ o x1 x3 w = some r) : lt_C l D gA s0 yX12_tellsBy cX12_tellsBy 11 (some .boolean) (lt_rm 2) [.ref (s0.heap.size + o), .long x1, .long x3] σ w σ (some (.int r.1)) r.2 := by
  refine lt_enter rfl (Nat.le_of_ble_eq_true rfl) (fun X e1 e2 e3 e4 hF hE => ?_)
  subst e1 e2 e3 e4
  exact jb_X12_tellsBy_0 h0 hF hE _ _ _ hf

set_option maxRecDepth 100000 in
def fb_X12_chance_24 (σ : lt_S) (o : Nat) (w : lt_W) : Option (Int32 × lt_W) := Option.bind (f_X12_is σ o 1 w) (fun q1 => lt_bz q1.1 (some (q1.1, q1.2)))
set_option maxHeartbeats 4000000 in
set_option maxRecDepth 100000 in
theorem jb_X12_chance_24 {X : lt_X} {σ : lt_S} (hT : lt_Wt σ) {o : Nat} (h0 : lt_c σ o = 12) {r : Int32 × lt_W} (hF : lt_F X cX12_chance RX12 8 (lt_rm 3)) (hE : lt_E X 0 0 σ (some .boolean) (some (.int r.1)) r.2) : ∀ (w : lt_W), fb_X12_chance_24 σ o w = some r → lt_J X 0 0 σ w 24 [(0, .ref (lt_z X + o))] [] := by
  intro w hf
  unfold fb_X12_chance_24 at hf
  refine jr_aload_n hF dX12_chance_24 0 rfl rfl ?_
  refine jr_iconst (v := 1) hF dX12_chance_25 rfl ?_
  obtain ⟨q1, hq1, hf⟩ := Option.bind_eq_some_iff.mp hf
  refine jr_cV11 hF ml_X12_104 (c_X12_is h0 hq1) h0 ⟨Nat.le_of_ble_eq_true rfl, Nat.le_of_ble_eq_true rfl⟩ (Nat.le_of_ble_eq_true rfl) dX12_chance_26 ?_
  obtain ⟨b2, hf⟩ := lt_bzE hf
  obtain rfl := Option.some.inj hf
  exact jr_zreturn hF hE b2 dX12_chance_29
set_option maxRecDepth 100000 in
def fb_X12_chance_58 (σ : lt_S) (o : Nat) (k35 : Int32 → Int32 → Int64 → Int32 → lt_W → Option (Int32 × lt_W)) (x1 : Int32) (x2 : Int32) (x3 : Int64) (x5 : Int32) (y0 : Nat) (y1 : Int32) (y2 : Int64) (w : lt_W) : Option (Int32 × lt_W) := lt_ck y1 (lt_len σ y0) (lt_let (lt_sl w y0 y1.toNatClampNeg y2) (fun w1 => k35 x1 x2 x3 (x5 + 1) w1))
set_option maxHeartbeats 4000000 in
set_option maxRecDepth 100000 in
theorem jb_X12_chance_58 {X : lt_X} {σ : lt_S} (hT : lt_Wt σ) {o : Nat} (h0 : lt_c σ o = 12) {r : Int32 × lt_W} {k35 : Int32 → Int32 → Int64 → Int32 → lt_W → Option (Int32 × lt_W)} (hF : lt_F X cX12_chance RX12 8 (lt_rm 3)) (hE : lt_E X 0 0 σ (some .boolean) (some (.int r.1)) r.2) (hk35 : ∀ (x1 : Int32) (x2 : Int32) (x3 : Int64) (x5 : Int32) (w : lt_W), k35 x1 x2 x3 x5 w = some r → lt_J X 0 0 σ w 35 [(0, .ref (lt_z X + o)), (1, .int x1), (2, .int x2), (3, .long x3), (5, .int x5)] []) : ∀ (x1 : Int32) (x2 : Int32) (x3 : Int64) (x5 : Int32) (y0 : Nat) (y1 : Int32) (y2 : Int64) (w : lt_W), lt_c σ y0 = 51 → fb_X12_chance_58 σ o k35 x1 x2 x3 x5 y0 y1 y2 w = some r → lt_J X 0 0 σ w 58 [(0, .ref (lt_z X + o)), (1, .int x1), (2, .int x2), (3, .long x3), (5, .int x5)] [.long y2, .int y1, .ref (lt_z X + y0)] := by
  intro x1 x2 x3 x5 y0 y1 y2 w u0 hf
  unfold fb_X12_chance_58 at hf
  refine jr_lastore hF u0 dX12_chance_58 hf (fun hf => ?_)
  refine jr_letW hf (fun w1 hf => ?_)
  refine jr_iinc (v := x5 + 1) (lv' := [(0, .ref (lt_z X + o)), (1, .int x1), (2, .int x2), (3, .long x3), (5, .int (x5 + 1))]) hF dX12_chance_59 4 rfl rfl (by decide) [1, 2, 3, 4, 0] rfl ?_
  refine jr_goto (tgt := 35) hF dX12_chance_62 rfl ?_
  exact hk35 _ _ _ _ _ hf
set_option maxRecDepth 100000 in
def fb_X12_chance_118 (σ : lt_S) (o : Nat) (k68 : Int32 → Int32 → Int64 → Int32 → lt_W → Option (Int32 × lt_W)) (k78 : Int32 → Int32 → Int64 → Int32 → Int32 → lt_W → Option (Int32 × lt_W)) (x1 : Int32) (x2 : Int32) (x3 : Int64) (x5 : Int32) (x6 : Int32) (y0 : Nat) (y1 : Int32) (y2 : Int64) (y3 : Int64) (w : lt_W) : Option (Int32 × lt_W) := lt_ck y1 (lt_len σ y0) (lt_let (lt_sl w y0 y1.toNatClampNeg (y2 + y3)) (fun w1 => k78 x1 x2 x3 x5 (x6 + (-1)) w1))
set_option maxHeartbeats 4000000 in
set_option maxRecDepth 100000 in
theorem jb_X12_chance_118 {X : lt_X} {σ : lt_S} (hT : lt_Wt σ) {o : Nat} (h0 : lt_c σ o = 12) {r : Int32 × lt_W} {k68 : Int32 → Int32 → Int64 → Int32 → lt_W → Option (Int32 × lt_W)} {k78 : Int32 → Int32 → Int64 → Int32 → Int32 → lt_W → Option (Int32 × lt_W)} (hF : lt_F X cX12_chance RX12 8 (lt_rm 3)) (hE : lt_E X 0 0 σ (some .boolean) (some (.int r.1)) r.2) (hk68 : ∀ (x1 : Int32) (x2 : Int32) (x3 : Int64) (x5 : Int32) (w : lt_W), k68 x1 x2 x3 x5 w = some r → lt_J X 0 0 σ w 68 [(0, .ref (lt_z X + o)), (1, .int x1), (2, .int x2), (3, .long x3), (5, .int x5)] []) (hk78 : ∀ (x1 : Int32) (x2 : Int32) (x3 : Int64) (x5 : Int32) (x6 : Int32) (w : lt_W), k78 x1 x2 x3 x5 x6 w = some r → lt_J X 0 0 σ w 78 [(0, .ref (lt_z X + o)), (1, .int x1), (2, .int x2), (3, .long x3), (5, .int x5), (6, .int x6)] []) : ∀ (x1 : Int32) (x2 : Int32) (x3 : Int64) (x5 : Int32) (x6 : Int32) (y0 : Nat) (y1 : Int32) (y2 : Int64) (y3 : Int64) (w : lt_W), lt_c σ y0 = 51 → fb_X12_chance_118 σ o k68 k78 x1 x2 x3 x5 x6 y0 y1 y2 y3 w = some r → lt_J X 0 0 σ w 118 [(0, .ref (lt_z X + o)), (1, .int x1), (2, .int x2), (3, .long x3), (5, .int x5), (6, .int x6)] [.long y3, .long y2, .int y1, .ref (lt_z X + y0)] := by
  intro x1 x2 x3 x5 x6 y0 y1 y2 y3 w u0 hf
  unfold fb_X12_chance_118 at hf
  refine jr_ladd hF dX12_chance_118 ?_
  refine jr_lastore hF u0 dX12_chance_119 hf (fun hf => ?_)
  refine jr_letW hf (fun w1 hf => ?_)
  refine jr_iinc (v := x6 + (-1)) (lv' := [(0, .ref (lt_z X + o)), (1, .int x1), (2, .int x2), (3, .long x3), (5, .int x5), (6, .int (x6 + (-1)))]) hF dX12_chance_120 5 rfl rfl (by decide) [1, 2, 3, 4, 5, 0] rfl ?_
  refine jr_goto (tgt := 78) hF dX12_chance_123 rfl ?_
  exact hk78 _ _ _ _ _ _ hf
set_option maxRecDepth 100000 in
def fb_X12_chance_78 (σ : lt_S) (o : Nat) (k68 : Int32 → Int32 → Int64 → Int32 → lt_W → Option (Int32 × lt_W)) : Nat → Int32 → Int32 → Int64 → Int32 → Int32 → lt_W → Option (Int32 × lt_W)
  | 0, _, _, _, _, _, _ => none
  | n + 1, x1, x2, x3, x5, x6, w => if x6 < 0 then k68 x1 x2 (x3 * 6) (x5 + 1) w else lt_ck x6 (lt_len σ (lt_r σ o 31)) (if x6 = 0 then fb_X12_chance_118 σ o k68 (fun x1 x2 x3 x5 x6 w => fb_X12_chance_78 σ o k68 n x1 x2 x3 x5 x6 w) x1 x2 x3 x5 x6 (lt_r σ o 31) x6 (5 * (lt_gl w (lt_r σ o 31) x6.toNatClampNeg)) 0 w else lt_ck (x6 - 1) (lt_len σ (lt_r σ o 31)) (fb_X12_chance_118 σ o k68 (fun x1 x2 x3 x5 x6 w => fb_X12_chance_78 σ o k68 n x1 x2 x3 x5 x6 w) x1 x2 x3 x5 x6 (lt_r σ o 31) x6 (5 * (lt_gl w (lt_r σ o 31) x6.toNatClampNeg)) (lt_gl w (lt_r σ o 31) (x6 - 1).toNatClampNeg) w))
set_option maxHeartbeats 4000000 in
set_option maxRecDepth 100000 in
theorem jb_X12_chance_78 {X : lt_X} {σ : lt_S} (hT : lt_Wt σ) {o : Nat} (h0 : lt_c σ o = 12) {r : Int32 × lt_W} {k68 : Int32 → Int32 → Int64 → Int32 → lt_W → Option (Int32 × lt_W)} (hF : lt_F X cX12_chance RX12 8 (lt_rm 3)) (hE : lt_E X 0 0 σ (some .boolean) (some (.int r.1)) r.2) (hk68 : ∀ (x1 : Int32) (x2 : Int32) (x3 : Int64) (x5 : Int32) (w : lt_W), k68 x1 x2 x3 x5 w = some r → lt_J X 0 0 σ w 68 [(0, .ref (lt_z X + o)), (1, .int x1), (2, .int x2), (3, .long x3), (5, .int x5)] []) (n : Nat) : ∀ (x1 : Int32) (x2 : Int32) (x3 : Int64) (x5 : Int32) (x6 : Int32) (w : lt_W), fb_X12_chance_78 σ o k68 n x1 x2 x3 x5 x6 w = some r → lt_J X 0 0 σ w 78 [(0, .ref (lt_z X + o)), (1, .int x1), (2, .int x2), (3, .long x3), (5, .int x5), (6, .int x6)] [] := by
  induction n with
  | zero => intro x1 x2 x3 x5 x6 w hf; rw [fb_X12_chance_78] at hf; cases hf
  | succ n ih =>
    intro x1 x2 x3 x5 x6 w hf
    rw [fb_X12_chance_78] at hf
    refine jr_iload hF dX12_chance_78 5 rfl ?_
    refine jr_if_lt (tgt := 126) hF dX12_chance_80 rfl hf (fun hf => ?_) (fun hf => ?_)
    · refine jr_lload_n hF dX12_chance_126 3 rfl rfl ?_
      refine jr_ldc2 (v := 6) hF dX12_chance_127 kc_X12_377 ?_
      refine jr_lmul hF dX12_chance_130 ?_
      refine jr_lstore_n (lv' := [(0, .ref (lt_z X + o)), (1, .int x1), (2, .int x2), (3, .long (x3 * 6)), (5, .int x5)]) hF dX12_chance_131 rfl (by decide) [1, 2, 3, 0, 4] rfl ?_
      refine jr_iinc (v := x5 + 1) (lv' := [(0, .ref (lt_z X + o)), (1, .int x1), (2, .int x2), (3, .long (x3 * 6)), (5, .int (x5 + 1))]) hF dX12_chance_132 4 rfl rfl (by decide) [1, 2, 3, 4, 0] rfl ?_
      refine jr_goto (tgt := 68) hF dX12_chance_135 rfl ?_
      exact hk68 _ _ _ _ _ hf
    · refine jr_aload_n hF dX12_chance_83 0 rfl rfl ?_
      refine jr_getRT (cr := 51) hF gf_X12_69 hT h0 rfl rfl dX12_chance_84 (fun th1 => ?_)
      refine jr_iload hF dX12_chance_87 5 rfl ?_
      refine jr_ldc2 (v := 5) hF dX12_chance_89 kc_X12_346 ?_
      refine jr_aload_n hF dX12_chance_92 0 rfl rfl ?_
      refine jr_getRT (cr := 51) hF gf_X12_69 hT h0 rfl rfl dX12_chance_93 (fun th2 => ?_)
      refine jr_iload hF dX12_chance_96 5 rfl ?_
      refine jr_laload hF th2 dX12_chance_98 hf (fun hf => ?_)
      refine jr_lmul hF dX12_chance_99 ?_
      refine jr_iload hF dX12_chance_100 5 rfl ?_
      refine jr_if_ne (tgt := 109) hF dX12_chance_102 rfl hf (fun hf => ?_) (fun hf => ?_)
      · refine jr_aload_n hF dX12_chance_109 0 rfl rfl ?_
        refine jr_getRT (cr := 51) hF gf_X12_69 hT h0 rfl rfl dX12_chance_110 (fun th3 => ?_)
        refine jr_iload hF dX12_chance_113 5 rfl ?_
        refine jr_iconst (v := 1) hF dX12_chance_115 rfl ?_
        refine jr_isub hF dX12_chance_116 ?_
        refine jr_laload hF th3 dX12_chance_117 hf (fun hf => ?_)
        exact jb_X12_chance_118 hT h0 hF hE hk68 ih _ _ _ _ _ _ _ _ _ _ th1 hf
      · refine jr_lconst (v := 0) hF dX12_chance_105 rfl ?_
        refine jr_goto (tgt := 118) hF dX12_chance_106 rfl ?_
        exact jb_X12_chance_118 hT h0 hF hE hk68 ih _ _ _ _ _ _ _ _ _ _ th1 hf
set_option maxRecDepth 100000 in
def fb_X12_chance_144 (σ : lt_S) (o : Nat) : Nat → Int64 → Int64 → Int32 → lt_W → Option (Int32 × lt_W)
  | 0, _, _, _, _ => none
  | n + 1, x3, x5, x7, w => if 7 ≤ x7 then Option.bind (f_X12_tellsBy σ o x5 x3 w) (fun q1 => lt_bz q1.1 (some (q1.1, q1.2))) else lt_ck x7 (lt_len σ (lt_r σ o 31)) (lt_let (x5 + (lt_gl w (lt_r σ o 31) x7.toNatClampNeg)) (fun z4 => fb_X12_chance_144 σ o n x3 z4 (x7 + 1) w))
set_option maxHeartbeats 4000000 in
set_option maxRecDepth 100000 in
theorem jb_X12_chance_144 {X : lt_X} {σ : lt_S} (hT : lt_Wt σ) {o : Nat} (h0 : lt_c σ o = 12) {r : Int32 × lt_W} (hF : lt_F X cX12_chance RX12 8 (lt_rm 3)) (hE : lt_E X 0 0 σ (some .boolean) (some (.int r.1)) r.2) (n : Nat) : ∀ (x3 : Int64) (x5 : Int64) (x7 : Int32) (w : lt_W), fb_X12_chance_144 σ o n x3 x5 x7 w = some r → lt_J X 0 0 σ w 144 [(0, .ref (lt_z X + o)), (3, .long x3), (5, .long x5), (7, .int x7)] [] := by
  induction n with
  | zero => intro x3 x5 x7 w hf; rw [fb_X12_chance_144] at hf; cases hf
  | succ n ih =>
    intro x3 x5 x7 w hf
    rw [fb_X12_chance_144] at hf
    refine jr_iload hF dX12_chance_144 3 rfl ?_
    refine jr_bipush (v := 7) hF dX12_chance_146 rfl ?_
    refine jr_icmp_ge (tgt := 169) hF dX12_chance_148 rfl hf (fun hf => ?_) (fun hf => ?_)
    · refine jr_aload_n hF dX12_chance_169 0 rfl rfl ?_
      refine jr_lload hF dX12_chance_170 2 rfl ?_
      refine jr_lload_n hF dX12_chance_172 1 rfl rfl ?_
      obtain ⟨q1, hq1, hf⟩ := Option.bind_eq_some_iff.mp hf
      refine jr_cV21 hF ml_X12_373 (c_X12_tellsBy h0 hq1) h0 ⟨Nat.le_of_ble_eq_true rfl, Nat.le_of_ble_eq_true rfl⟩ (Nat.le_of_ble_eq_true rfl) dX12_chance_173 ?_
      obtain ⟨b2, hf⟩ := lt_bzE hf
      obtain rfl := Option.some.inj hf
      exact jr_zreturn hF hE b2 dX12_chance_176
    · refine jr_lload hF dX12_chance_151 2 rfl ?_
      refine jr_aload_n hF dX12_chance_153 0 rfl rfl ?_
      refine jr_getRT (cr := 51) hF gf_X12_69 hT h0 rfl rfl dX12_chance_154 (fun th3 => ?_)
      refine jr_iload hF dX12_chance_157 3 rfl ?_
      refine jr_laload hF th3 dX12_chance_159 hf (fun hf => ?_)
      refine jr_ladd hF dX12_chance_160 ?_
      refine jr_letL hf (fun z4 hf => ?_)
      refine jr_lstore (lv' := [(0, .ref (lt_z X + o)), (3, .long x3), (5, .long z4), (7, .int x7)]) hF dX12_chance_161 (by decide) [1, 2, 0, 3] rfl ?_
      refine jr_iinc (v := x7 + 1) (lv' := [(0, .ref (lt_z X + o)), (3, .long x3), (5, .long z4), (7, .int (x7 + 1))]) hF dX12_chance_163 3 rfl rfl (by decide) [1, 2, 3, 0] rfl ?_
      refine jr_goto (tgt := 144) hF dX12_chance_166 rfl ?_
      exact ih _ _ _ _ hf
set_option maxRecDepth 100000 in
def fb_X12_chance_68 (σ : lt_S) (o : Nat) : Nat → Int32 → Int32 → Int64 → Int32 → lt_W → Option (Int32 × lt_W)
  | 0, _, _, _, _, _ => none
  | n + 1, x1, x2, x3, x5, w => if x1 ≤ x5 then fb_X12_chance_144 σ o lt_fu x3 0 x2 w else fb_X12_chance_78 σ o (fun x1 x2 x3 x5 w => fb_X12_chance_68 σ o n x1 x2 x3 x5 w) lt_fu x1 x2 x3 x5 6 w
set_option maxHeartbeats 4000000 in
set_option maxRecDepth 100000 in
theorem jb_X12_chance_68 {X : lt_X} {σ : lt_S} (hT : lt_Wt σ) {o : Nat} (h0 : lt_c σ o = 12) {r : Int32 × lt_W} (hF : lt_F X cX12_chance RX12 8 (lt_rm 3)) (hE : lt_E X 0 0 σ (some .boolean) (some (.int r.1)) r.2) (n : Nat) : ∀ (x1 : Int32) (x2 : Int32) (x3 : Int64) (x5 : Int32) (w : lt_W), fb_X12_chance_68 σ o n x1 x2 x3 x5 w = some r → lt_J X 0 0 σ w 68 [(0, .ref (lt_z X + o)), (1, .int x1), (2, .int x2), (3, .long x3), (5, .int x5)] [] := by
  induction n with
  | zero => intro x1 x2 x3 x5 w hf; rw [fb_X12_chance_68] at hf; cases hf
  | succ n ih =>
    intro x1 x2 x3 x5 w hf
    rw [fb_X12_chance_68] at hf
    refine jr_iload hF dX12_chance_68 4 rfl ?_
    refine jr_iload_n hF dX12_chance_70 1 rfl rfl ?_
    refine jr_icmp_ge (tgt := 138) hF dX12_chance_71 rfl hf (fun hf => ?_) (fun hf => ?_)
    · refine jr_lconst (v := 0) hF dX12_chance_138 rfl ?_
      refine jr_lstore (lv' := [(0, .ref (lt_z X + o)), (2, .int x2), (3, .long x3), (5, .long 0)]) hF dX12_chance_139 (by decide) [1, 3, 4, 0] rfl ?_
      refine jr_iload_n hF dX12_chance_141 1 rfl rfl ?_
      refine jr_istore (lv' := [(0, .ref (lt_z X + o)), (3, .long x3), (5, .long 0), (7, .int x2)]) hF dX12_chance_142 (by decide) [1, 3, 4, 0] rfl ?_
      exact jb_X12_chance_144 hT h0 hF hE lt_fu _ _ _ _ hf
    · refine jr_bipush (v := 6) hF dX12_chance_74 rfl ?_
      refine jr_istore (lv' := [(0, .ref (lt_z X + o)), (1, .int x1), (2, .int x2), (3, .long x3), (5, .int x5), (6, .int 6)]) hF dX12_chance_76 (by decide) [1, 2, 3, 4, 5, 0] rfl ?_
      exact jb_X12_chance_78 hT h0 hF hE ih lt_fu _ _ _ _ _ _ hf
set_option maxRecDepth 100000 in
def fb_X12_chance_35 (σ : lt_S) (o : Nat) : Nat → Int32 → Int32 → Int64 → Int32 → lt_W → Option (Int32 × lt_W)
  | 0, _, _, _, _, _ => none
  | n + 1, x1, x2, x3, x5, w => if 7 ≤ x5 then fb_X12_chance_68 σ o lt_fu x1 x2 x3 0 w else if x5 = 0 then fb_X12_chance_58 σ o (fun x1 x2 x3 x5 w => fb_X12_chance_35 σ o n x1 x2 x3 x5 w) x1 x2 x3 x5 (lt_r σ o 31) x5 1 w else fb_X12_chance_58 σ o (fun x1 x2 x3 x5 w => fb_X12_chance_35 σ o n x1 x2 x3 x5 w) x1 x2 x3 x5 (lt_r σ o 31) x5 0 w
set_option maxHeartbeats 4000000 in
set_option maxRecDepth 100000 in
theorem jb_X12_chance_35 {X : lt_X} {σ : lt_S} (hT : lt_Wt σ) {o : Nat} (h0 : lt_c σ o = 12) {r : Int32 × lt_W} (hF : lt_F X cX12_chance RX12 8 (lt_rm 3)) (hE : lt_E X 0 0 σ (some .boolean) (some (.int r.1)) r.2) (n : Nat) : ∀ (x1 : Int32) (x2 : Int32) (x3 : Int64) (x5 : Int32) (w : lt_W), fb_X12_chance_35 σ o n x1 x2 x3 x5 w = some r → lt_J X 0 0 σ w 35 [(0, .ref (lt_z X + o)), (1, .int x1), (2, .int x2), (3, .long x3), (5, .int x5)] [] := by
  induction n with
  | zero => intro x1 x2 x3 x5 w hf; rw [fb_X12_chance_35] at hf; cases hf
  | succ n ih =>
    intro x1 x2 x3 x5 w hf
    rw [fb_X12_chance_35] at hf
    refine jr_iload hF dX12_chance_35 4 rfl ?_
    refine jr_bipush (v := 7) hF dX12_chance_37 rfl ?_
    refine jr_icmp_ge (tgt := 65) hF dX12_chance_39 rfl hf (fun hf => ?_) (fun hf => ?_)
    · refine jr_iconst (v := 0) hF dX12_chance_65 rfl ?_
      refine jr_istore (lv' := [(0, .ref (lt_z X + o)), (1, .int x1), (2, .int x2), (3, .long x3), (5, .int 0)]) hF dX12_chance_66 (by decide) [1, 2, 3, 4, 0] rfl ?_
      exact jb_X12_chance_68 hT h0 hF hE lt_fu _ _ _ _ _ hf
    · refine jr_aload_n hF dX12_chance_42 0 rfl rfl ?_
      refine jr_getRT (cr := 51) hF gf_X12_69 hT h0 rfl rfl dX12_chance_43 (fun th1 => ?_)
      refine jr_iload hF dX12_chance_46 4 rfl ?_
      refine jr_iload hF dX12_chance_48 4 rfl ?_
      refine jr_if_ne (tgt := 57) hF dX12_chance_50 rfl hf (fun hf => ?_) (fun hf => ?_)
      · refine jr_lconst (v := 0) hF dX12_chance_57 rfl ?_
        exact jb_X12_chance_58 hT h0 hF hE ih _ _ _ _ _ _ _ _ th1 hf
      · refine jr_lconst (v := 1) hF dX12_chance_53 rfl ?_
        refine jr_goto (tgt := 58) hF dX12_chance_54 rfl ?_
        exact jb_X12_chance_58 hT h0 hF hE ih _ _ _ _ _ _ _ _ th1 hf
set_option maxRecDepth 100000 in
def fb_X12_chance_0 (σ : lt_S) (o : Nat) (x1 : Int32) (x2 : Int32) (w : lt_W) : Option (Int32 × lt_W) := Option.bind (f_X12_isFrom x1.toInt64 0 6) (fun q1 => if q1 = 0 then fb_X12_chance_24 σ o w else Option.bind (f_X12_isFrom x2.toInt64 0 6) (fun q2 => if q2 = 0 then fb_X12_chance_24 σ o w else fb_X12_chance_35 σ o lt_fu x1 x2 1 0 w))
set_option maxHeartbeats 4000000 in
set_option maxRecDepth 100000 in
theorem jb_X12_chance_0 {X : lt_X} {σ : lt_S} (hT : lt_Wt σ) {o : Nat} (h0 : lt_c σ o = 12) {r : Int32 × lt_W} (hF : lt_F X cX12_chance RX12 8 (lt_rm 3)) (hE : lt_E X 0 0 σ (some .boolean) (some (.int r.1)) r.2) : ∀ (x1 : Int32) (x2 : Int32) (w : lt_W), fb_X12_chance_0 σ o x1 x2 w = some r → lt_J X 0 0 σ w 0 [(0, .ref (lt_z X + o)), (1, .int x1), (2, .int x2)] [] := by
  intro x1 x2 w hf
  unfold fb_X12_chance_0 at hf
  refine jr_iload_n hF dX12_chance_0 1 rfl rfl ?_
  refine jr_i2l hF dX12_chance_1 ?_
  refine jr_lconst (v := 0) hF dX12_chance_2 rfl ?_
  refine jr_ldc2 (v := 6) hF dX12_chance_3 kc_X12_377 ?_
  obtain ⟨q1, hq1, hf⟩ := Option.bind_eq_some_iff.mp hf
  refine jr_cS31 hF ml_X12_307 (c_X12_isFrom hq1) ⟨Nat.le_of_ble_eq_true rfl, Nat.le_of_ble_eq_true rfl⟩ (Nat.le_of_ble_eq_true rfl) dX12_chance_6 ?_
  refine jr_if_eq (tgt := 24) hF dX12_chance_9 rfl hf (fun hf => ?_) (fun hf => ?_)
  · refine jr_sub [0] rfl ?_
    exact jb_X12_chance_24 hT h0 hF hE _ hf
  · refine jr_iload_n hF dX12_chance_12 2 rfl rfl ?_
    refine jr_i2l hF dX12_chance_13 ?_
    refine jr_lconst (v := 0) hF dX12_chance_14 rfl ?_
    refine jr_ldc2 (v := 6) hF dX12_chance_15 kc_X12_377 ?_
    obtain ⟨q2, hq2, hf⟩ := Option.bind_eq_some_iff.mp hf
    refine jr_cS31 hF ml_X12_307 (c_X12_isFrom hq2) ⟨Nat.le_of_ble_eq_true rfl, Nat.le_of_ble_eq_true rfl⟩ (Nat.le_of_ble_eq_true rfl) dX12_chance_18 ?_
    refine jr_if_ne (tgt := 30) hF dX12_chance_21 rfl hf (fun hf => ?_) (fun hf => ?_)
    · refine jr_lconst (v := 1) hF dX12_chance_30 rfl ?_
      refine jr_lstore_n (lv' := [(0, .ref (lt_z X + o)), (1, .int x1), (2, .int x2), (3, .long 1)]) hF dX12_chance_31 rfl (by decide) [1, 2, 3, 0] rfl ?_
      refine jr_iconst (v := 0) hF dX12_chance_32 rfl ?_
      refine jr_istore (lv' := [(0, .ref (lt_z X + o)), (1, .int x1), (2, .int x2), (3, .long 1), (5, .int 0)]) hF dX12_chance_33 (by decide) [1, 2, 3, 4, 0] rfl ?_
      exact jb_X12_chance_35 hT h0 hF hE lt_fu _ _ _ _ _ hf
    · refine jr_sub [0] rfl ?_
      exact jb_X12_chance_24 hT h0 hF hE _ hf
def f_X12_chance (σ : lt_S) (o : Nat) (x1 : Int32) (x2 : Int32) (w : lt_W) : Option (Int32 × lt_W) := fb_X12_chance_0 σ o x1 x2 w
set_option maxRecDepth 100000 in
theorem c_X12_chance {l : Launch} {D : va_G} {gA : Nat → ClassId} {s0 : State} {σ : lt_S} (hT : lt_Wt σ) {o : Nat} (h0 : lt_c σ o = 12) {x1 : Int32} {x2 : Int32} {w : lt_W} {r : Int32 × lt_W} (hf : f_X12_chance σ o x1 x2 w = some r) : lt_C l D gA s0 yX12_chance cX12_chance 8 (some .boolean) (lt_rm 3) [.ref (s0.heap.size + o), .int x1, .int x2] σ w σ (some (.int r.1)) r.2 := by
  refine lt_enter rfl (Nat.le_of_ble_eq_true rfl) (fun X e1 e2 e3 e4 hF hE => ?_)
  subst e1 e2 e3 e4
  exact jb_X12_chance_0 hT h0 hF hE _ _ _ hf

set_option maxRecDepth 100000 in
def fb_X12_come_0 (σ : lt_S) (o : Nat) (x1 : Int32) (w : lt_W) : Option (Int32 × lt_W) := Option.bind (f_X12_isGuest σ o x1 w) (fun q1 => if q1 = 0 then Option.bind (f_X12_refuse σ o 1 w) (fun q14 => some (q14.1, q14.2)) else Option.bind (f_X12_isHere σ o x1 w) (fun q2 => if q2 = 0 then Option.bind (f_X12_guestRow x1) (fun q3 => lt_ck q3 (lt_len σ (lt_r σ o 0)) (lt_let (lt_si w (lt_r σ o 0) q3.toNatClampNeg 0) (fun w5 => lt_ck (q3 + 4) (lt_len σ (lt_r σ o 0)) (lt_let (lt_si w5 (lt_r σ o 0) (q3 + 4).toNatClampNeg 0) (fun w7 => lt_ck (q3 + 5) (lt_len σ (lt_r σ o 0)) (lt_let (lt_si w7 (lt_r σ o 0) (q3 + 5).toNatClampNeg 1) (fun w9 => Option.bind (f_X12_areHere σ o w9) (fun q10 => Option.bind (f_X12_bits q10) (fun q11 => Option.bind (f_X12_gives σ o q11 w9) (fun q12 => some (q12.1, q12.2))))))))))) else Option.bind (f_X12_refuse σ o 7 w) (fun q13 => some (q13.1, q13.2))))
set_option maxHeartbeats 4000000 in
set_option maxRecDepth 100000 in
theorem jb_X12_come_0 {X : lt_X} {σ : lt_S} (hT : lt_Wt σ) {o : Nat} (h0 : lt_c σ o = 12) {r : Int32 × lt_W} (hF : lt_F X cX12_come RX12 3 (lt_rm 5)) (hE : lt_E X 0 0 σ (some .int) (some (.int r.1)) r.2) : ∀ (x1 : Int32) (w : lt_W), fb_X12_come_0 σ o x1 w = some r → lt_J X 0 0 σ w 0 [(0, .ref (lt_z X + o)), (1, .int x1)] [] := by
  intro x1 w hf
  unfold fb_X12_come_0 at hf
  refine jr_aload_n hF dX12_come_0 0 rfl rfl ?_
  refine jr_iload_n hF dX12_come_1 1 rfl rfl ?_
  obtain ⟨q1, hq1, hf⟩ := Option.bind_eq_some_iff.mp hf
  refine jr_cV11 hF ml_X12_266 (c_X12_isGuest hT h0 hq1) h0 ⟨Nat.le_of_ble_eq_true rfl, Nat.le_of_ble_eq_true rfl⟩ (Nat.le_of_ble_eq_true rfl) dX12_come_2 ?_
  refine jr_if_ne (tgt := 14) hF dX12_come_5 rfl hf (fun hf => ?_) (fun hf => ?_)
  · refine jr_aload_n hF dX12_come_14 0 rfl rfl ?_
    refine jr_iload_n hF dX12_come_15 1 rfl rfl ?_
    obtain ⟨q2, hq2, hf⟩ := Option.bind_eq_some_iff.mp hf
    refine jr_cV11 hF ml_X12_272 (c_X12_isHere hT h0 hq2) h0 ⟨Nat.le_of_ble_eq_true rfl, Nat.le_of_ble_eq_true rfl⟩ (Nat.le_of_ble_eq_true rfl) dX12_come_16 ?_
    refine jr_if_eq (tgt := 29) hF dX12_come_19 rfl hf (fun hf => ?_) (fun hf => ?_)
    · refine jr_iload_n hF dX12_come_29 1 rfl rfl ?_
      obtain ⟨q3, hq3, hf⟩ := Option.bind_eq_some_iff.mp hf
      refine jr_cS11 hF ml_X12_192 (c_X12_guestRow hq3) ⟨Nat.le_of_ble_eq_true rfl, Nat.le_of_ble_eq_true rfl⟩ (Nat.le_of_ble_eq_true rfl) dX12_come_30 ?_
      refine jr_istore_n (lv' := [(0, .ref (lt_z X + o)), (2, .int q3)]) hF dX12_come_33 rfl (by decide) [1, 0] rfl ?_
      refine jr_aload_n hF dX12_come_34 0 rfl rfl ?_
      refine jr_getRT (cr := 50) hF gf_X12_7 hT h0 rfl rfl dX12_come_35 (fun th4 => ?_)
      refine jr_iload_n hF dX12_come_38 1 rfl rfl ?_
      refine jr_iconst (v := 0) hF dX12_come_39 rfl ?_
      refine jr_iastore hF th4 dX12_come_40 hf (fun hf => ?_)
      refine jr_letW hf (fun w5 hf => ?_)
      refine jr_aload_n hF dX12_come_41 0 rfl rfl ?_
      refine jr_getRT (cr := 50) hF gf_X12_7 hT h0 rfl rfl dX12_come_42 (fun th6 => ?_)
      refine jr_iload_n hF dX12_come_45 1 rfl rfl ?_
      refine jr_iconst (v := 4) hF dX12_come_46 rfl ?_
      refine jr_iadd hF dX12_come_47 ?_
      refine jr_iconst (v := 0) hF dX12_come_48 rfl ?_
      refine jr_iastore hF th6 dX12_come_49 hf (fun hf => ?_)
      refine jr_letW hf (fun w7 hf => ?_)
      refine jr_aload_n hF dX12_come_50 0 rfl rfl ?_
      refine jr_getRT (cr := 50) hF gf_X12_7 hT h0 rfl rfl dX12_come_51 (fun th8 => ?_)
      refine jr_iload_n hF dX12_come_54 1 rfl rfl ?_
      refine jr_iconst (v := 5) hF dX12_come_55 rfl ?_
      refine jr_iadd hF dX12_come_56 ?_
      refine jr_iconst (v := 1) hF dX12_come_57 rfl ?_
      refine jr_iastore hF th8 dX12_come_58 hf (fun hf => ?_)
      refine jr_letW hf (fun w9 hf => ?_)
      refine jr_aload_n hF dX12_come_59 0 rfl rfl ?_
      refine jr_aload_n hF dX12_come_60 0 rfl rfl ?_
      obtain ⟨q10, hq10, hf⟩ := Option.bind_eq_some_iff.mp hf
      refine jr_cV01 hF ml_X12_275 (c_X12_areHere hT h0 hq10) h0 ⟨Nat.le_of_ble_eq_true rfl, Nat.le_of_ble_eq_true rfl⟩ (Nat.le_of_ble_eq_true rfl) dX12_come_61 ?_
      obtain ⟨q11, hq11, hf⟩ := Option.bind_eq_some_iff.mp hf
      refine jr_cS11 hF ml_X12_293 (c_X12_bits hq11) ⟨Nat.le_of_ble_eq_true rfl, Nat.le_of_ble_eq_true rfl⟩ (Nat.le_of_ble_eq_true rfl) dX12_come_64 ?_
      obtain ⟨q12, hq12, hf⟩ := Option.bind_eq_some_iff.mp hf
      refine jr_cV11 hF ml_X12_101 (c_X12_gives h0 hq12) h0 ⟨Nat.le_of_ble_eq_true rfl, Nat.le_of_ble_eq_true rfl⟩ (Nat.le_of_ble_eq_true rfl) dX12_come_67 ?_
      obtain rfl := Option.some.inj hf
      exact jr_ireturn hF hE dX12_come_70
    · refine jr_aload_n hF dX12_come_22 0 rfl rfl ?_
      refine jr_bipush (v := 7) hF dX12_come_23 rfl ?_
      obtain ⟨q13, hq13, hf⟩ := Option.bind_eq_some_iff.mp hf
      refine jr_cV11 hF ml_X12_97 (c_X12_refuse h0 hq13) h0 ⟨Nat.le_of_ble_eq_true rfl, Nat.le_of_ble_eq_true rfl⟩ (Nat.le_of_ble_eq_true rfl) dX12_come_25 ?_
      obtain rfl := Option.some.inj hf
      exact jr_ireturn hF hE dX12_come_28
  · refine jr_aload_n hF dX12_come_8 0 rfl rfl ?_
    refine jr_iconst (v := 1) hF dX12_come_9 rfl ?_
    obtain ⟨q14, hq14, hf⟩ := Option.bind_eq_some_iff.mp hf
    refine jr_cV11 hF ml_X12_97 (c_X12_refuse h0 hq14) h0 ⟨Nat.le_of_ble_eq_true rfl, Nat.le_of_ble_eq_true rfl⟩ (Nat.le_of_ble_eq_true rfl) dX12_come_10 ?_
    obtain rfl := Option.some.inj hf
    exact jr_ireturn hF hE dX12_come_13
def f_X12_come (σ : lt_S) (o : Nat) (x1 : Int32) (w : lt_W) : Option (Int32 × lt_W) := fb_X12_come_0 σ o x1 w
set_option maxRecDepth 100000 in
theorem c_X12_come {l : Launch} {D : va_G} {gA : Nat → ClassId} {s0 : State} {σ : lt_S} (hT : lt_Wt σ) {o : Nat} (h0 : lt_c σ o = 12) {x1 : Int32} {w : lt_W} {r : Int32 × lt_W} (hf : f_X12_come σ o x1 w = some r) : lt_C l D gA s0 yX12_come cX12_come 3 (some .int) (lt_rm 5) [.ref (s0.heap.size + o), .int x1] σ w σ (some (.int r.1)) r.2 := by
  refine lt_enter rfl (Nat.le_of_ble_eq_true rfl) (fun X e1 e2 e3 e4 hF hE => ?_)
  subst e1 e2 e3 e4
  exact jb_X12_come_0 hT h0 hF hE _ _ hf

set_option maxRecDepth 100000 in
def fb_X12_daysGo_2 (σ : lt_S) (o : Nat) : Nat → Int32 → Int32 → lt_W → Option lt_W
  | 0, _, _, _ => none
  | n + 1, x1, x2, w => if x1 ≤ x2 then some w else Option.bind (f_X12_dayGoes σ o w) (fun q1 => fb_X12_daysGo_2 σ o n x1 (x2 + 1) q1.2)
set_option maxHeartbeats 4000000 in
set_option maxRecDepth 100000 in
theorem jb_X12_daysGo_2 {X : lt_X} {σ : lt_S} (hT : lt_Wt σ) {o : Nat} (h0 : lt_c σ o = 12) {r : lt_W} (hF : lt_F X cX12_daysGo RX12 3 (lt_rm 7)) (hE : lt_E X 0 0 σ none none r) (n : Nat) : ∀ (x1 : Int32) (x2 : Int32) (w : lt_W), fb_X12_daysGo_2 σ o n x1 x2 w = some r → lt_J X 0 0 σ w 2 [(0, .ref (lt_z X + o)), (1, .int x1), (2, .int x2)] [] := by
  induction n with
  | zero => intro x1 x2 w hf; rw [fb_X12_daysGo_2] at hf; cases hf
  | succ n ih =>
    intro x1 x2 w hf
    rw [fb_X12_daysGo_2] at hf
    refine jr_iload_n hF dX12_daysGo_2 2 rfl rfl ?_
    refine jr_iload_n hF dX12_daysGo_3 1 rfl rfl ?_
    refine jr_icmp_ge (tgt := 18) hF dX12_daysGo_4 rfl hf (fun hf => ?_) (fun hf => ?_)
    · obtain rfl := Option.some.inj hf
      exact jr_return hF hE dX12_daysGo_18
    · refine jr_aload_n hF dX12_daysGo_7 0 rfl rfl ?_
      obtain ⟨q1, hq1, hf⟩ := Option.bind_eq_some_iff.mp hf
      refine jr_cV01 hF ml_X12_302 (c_X12_dayGoes hT h0 hq1) h0 ⟨Nat.le_of_ble_eq_true rfl, Nat.le_of_ble_eq_true rfl⟩ (Nat.le_of_ble_eq_true rfl) dX12_daysGo_8 ?_
      refine jr_pop hF dX12_daysGo_11 rfl ?_
      refine jr_iinc (v := x2 + 1) (lv' := [(0, .ref (lt_z X + o)), (1, .int x1), (2, .int (x2 + 1))]) hF dX12_daysGo_12 2 rfl rfl (by decide) [1, 2, 0] rfl ?_
      refine jr_goto (tgt := 2) hF dX12_daysGo_15 rfl ?_
      exact ih _ _ _ hf
set_option maxRecDepth 100000 in
def fb_X12_daysGo_0 (σ : lt_S) (o : Nat) (x1 : Int32) (w : lt_W) : Option lt_W := fb_X12_daysGo_2 σ o lt_fu x1 0 w
set_option maxHeartbeats 4000000 in
set_option maxRecDepth 100000 in
theorem jb_X12_daysGo_0 {X : lt_X} {σ : lt_S} (hT : lt_Wt σ) {o : Nat} (h0 : lt_c σ o = 12) {r : lt_W} (hF : lt_F X cX12_daysGo RX12 3 (lt_rm 7)) (hE : lt_E X 0 0 σ none none r) : ∀ (x1 : Int32) (w : lt_W), fb_X12_daysGo_0 σ o x1 w = some r → lt_J X 0 0 σ w 0 [(0, .ref (lt_z X + o)), (1, .int x1)] [] := by
  intro x1 w hf
  unfold fb_X12_daysGo_0 at hf
  refine jr_iconst (v := 0) hF dX12_daysGo_0 rfl ?_
  refine jr_istore_n (lv' := [(0, .ref (lt_z X + o)), (1, .int x1), (2, .int 0)]) hF dX12_daysGo_1 rfl (by decide) [1, 2, 0] rfl ?_
  exact jb_X12_daysGo_2 hT h0 hF hE lt_fu _ _ _ hf
def f_X12_daysGo (σ : lt_S) (o : Nat) (x1 : Int32) (w : lt_W) : Option lt_W := fb_X12_daysGo_0 σ o x1 w
set_option maxRecDepth 100000 in
theorem c_X12_daysGo {l : Launch} {D : va_G} {gA : Nat → ClassId} {s0 : State} {σ : lt_S} (hT : lt_Wt σ) {o : Nat} (h0 : lt_c σ o = 12) {x1 : Int32} {w : lt_W} {r : lt_W} (hf : f_X12_daysGo σ o x1 w = some r) : lt_C l D gA s0 yX12_daysGo cX12_daysGo 3 none (lt_rm 7) [.ref (s0.heap.size + o), .int x1] σ w σ none r := by
  refine lt_enter rfl (Nat.le_of_ble_eq_true rfl) (fun X e1 e2 e3 e4 hF hE => ?_)
  subst e1 e2 e3 e4
  exact jb_X12_daysGo_0 hT h0 hF hE _ _ hf

set_option maxRecDepth 100000 in
def fb_X12_comesTo_19 (σ : lt_S) (o : Nat) (x2 : Int32) (y0 : Int32) (w : lt_W) : Option (Int32 × lt_W) := Option.bind (f_X12_isHere σ o x2 w) (fun q1 => if q1 = 0 then some (y0 - 1, w) else some (y0 - 0, w))
set_option maxHeartbeats 4000000 in
set_option maxRecDepth 100000 in
theorem jb_X12_comesTo_19 {X : lt_X} {σ : lt_S} (hT : lt_Wt σ) {o : Nat} (h0 : lt_c σ o = 12) {r : Int32 × lt_W} (hF : lt_F X cX12_comesTo RX12 3 (lt_rm 8)) (hE : lt_E X 0 0 σ (some .int) (some (.int r.1)) r.2) : ∀ (x2 : Int32) (y0 : Int32) (w : lt_W), fb_X12_comesTo_19 σ o x2 y0 w = some r → lt_J X 0 0 σ w 19 [(0, .ref (lt_z X + o)), (2, .int x2)] [.int y0] := by
  intro x2 y0 w hf
  unfold fb_X12_comesTo_19 at hf
  refine jr_aload_n hF dX12_comesTo_19 0 rfl rfl ?_
  refine jr_iload_n hF dX12_comesTo_20 1 rfl rfl ?_
  obtain ⟨q1, hq1, hf⟩ := Option.bind_eq_some_iff.mp hf
  refine jr_cV11 hF ml_X12_272 (c_X12_isHere hT h0 hq1) h0 ⟨Nat.le_of_ble_eq_true rfl, Nat.le_of_ble_eq_true rfl⟩ (Nat.le_of_ble_eq_true rfl) dX12_comesTo_21 ?_
  refine jr_if_eq (tgt := 31) hF dX12_comesTo_24 rfl hf (fun hf => ?_) (fun hf => ?_)
  · refine jr_iconst (v := 1) hF dX12_comesTo_31 rfl ?_
    refine jr_isub hF dX12_comesTo_32 ?_
    obtain rfl := Option.some.inj hf
    exact jr_ireturn hF hE dX12_comesTo_33
  · refine jr_iconst (v := 0) hF dX12_comesTo_27 rfl ?_
    refine jr_goto (tgt := 32) hF dX12_comesTo_28 rfl ?_
    refine jr_isub hF dX12_comesTo_32 ?_
    obtain rfl := Option.some.inj hf
    exact jr_ireturn hF hE dX12_comesTo_33
set_option maxRecDepth 100000 in
def fb_X12_comesTo_0 (σ : lt_S) (o : Nat) (x1 : Int32) (x2 : Int32) (w : lt_W) : Option (Int32 × lt_W) := Option.bind (f_X12_daysGo σ o 10 w) (fun q1 => Option.bind (f_X12_isHere σ o x1 q1) (fun q2 => if q2 = 0 then fb_X12_comesTo_19 σ o x2 1 q1 else fb_X12_comesTo_19 σ o x2 0 q1))
set_option maxHeartbeats 4000000 in
set_option maxRecDepth 100000 in
theorem jb_X12_comesTo_0 {X : lt_X} {σ : lt_S} (hT : lt_Wt σ) {o : Nat} (h0 : lt_c σ o = 12) {r : Int32 × lt_W} (hF : lt_F X cX12_comesTo RX12 3 (lt_rm 8)) (hE : lt_E X 0 0 σ (some .int) (some (.int r.1)) r.2) : ∀ (x1 : Int32) (x2 : Int32) (w : lt_W), fb_X12_comesTo_0 σ o x1 x2 w = some r → lt_J X 0 0 σ w 0 [(0, .ref (lt_z X + o)), (1, .int x1), (2, .int x2)] [] := by
  intro x1 x2 w hf
  unfold fb_X12_comesTo_0 at hf
  refine jr_aload_n hF dX12_comesTo_0 0 rfl rfl ?_
  refine jr_bipush (v := 10) hF dX12_comesTo_1 rfl ?_
  obtain ⟨q1, hq1, hf⟩ := Option.bind_eq_some_iff.mp hf
  refine jr_cV1v hF ml_X12_311 (c_X12_daysGo hT h0 hq1) h0 ⟨Nat.le_of_ble_eq_true rfl, Nat.le_of_ble_eq_true rfl⟩ (Nat.le_of_ble_eq_true rfl) dX12_comesTo_3 ?_
  refine jr_aload_n hF dX12_comesTo_6 0 rfl rfl ?_
  refine jr_iload_n hF dX12_comesTo_7 1 rfl rfl ?_
  obtain ⟨q2, hq2, hf⟩ := Option.bind_eq_some_iff.mp hf
  refine jr_cV11 hF ml_X12_272 (c_X12_isHere hT h0 hq2) h0 ⟨Nat.le_of_ble_eq_true rfl, Nat.le_of_ble_eq_true rfl⟩ (Nat.le_of_ble_eq_true rfl) dX12_comesTo_8 ?_
  refine jr_if_eq (tgt := 18) hF dX12_comesTo_11 rfl hf (fun hf => ?_) (fun hf => ?_)
  · refine jr_iconst (v := 1) hF dX12_comesTo_18 rfl ?_
    refine jr_sub [0, 2] rfl ?_
    exact jb_X12_comesTo_19 hT h0 hF hE _ _ _ hf
  · refine jr_iconst (v := 0) hF dX12_comesTo_14 rfl ?_
    refine jr_goto (tgt := 19) hF dX12_comesTo_15 rfl ?_
    refine jr_sub [0, 2] rfl ?_
    exact jb_X12_comesTo_19 hT h0 hF hE _ _ _ hf
def f_X12_comesTo (σ : lt_S) (o : Nat) (x1 : Int32) (x2 : Int32) (w : lt_W) : Option (Int32 × lt_W) := fb_X12_comesTo_0 σ o x1 x2 w
set_option maxRecDepth 100000 in
theorem c_X12_comesTo {l : Launch} {D : va_G} {gA : Nat → ClassId} {s0 : State} {σ : lt_S} (hT : lt_Wt σ) {o : Nat} (h0 : lt_c σ o = 12) {x1 : Int32} {x2 : Int32} {w : lt_W} {r : Int32 × lt_W} (hf : f_X12_comesTo σ o x1 x2 w = some r) : lt_C l D gA s0 yX12_comesTo cX12_comesTo 3 (some .int) (lt_rm 8) [.ref (s0.heap.size + o), .int x1, .int x2] σ w σ (some (.int r.1)) r.2 := by
  refine lt_enter rfl (Nat.le_of_ble_eq_true rfl) (fun X e1 e2 e3 e4 hF hE => ?_)
  subst e1 e2 e3 e4
  exact jb_X12_comesTo_0 hT h0 hF hE _ _ _ hf

set_option maxRecDepth 100000 in
def fb_X12_copies_41 (σ : lt_S) (o : Nat) : Nat → Int32 → Int32 → Int32 → lt_W → Option lt_W
  | 0, _, _, _, _ => none
  | n + 1, x1, x2, x3, w => if 7 ≤ x3 then some w else lt_ck ((7 * x1) + x3) (lt_len σ (lt_r σ o 1)) (lt_ck ((7 * x2) + x3) (lt_len σ (lt_r σ o 1)) (lt_let (lt_sl w (lt_r σ o 1) ((7 * x2) + x3).toNatClampNeg (lt_gl w (lt_r σ o 1) ((7 * x1) + x3).toNatClampNeg)) (fun w3 => fb_X12_copies_41 σ o n x1 x2 (x3 + 1) w3)))
set_option maxHeartbeats 4000000 in
set_option maxRecDepth 100000 in
theorem jb_X12_copies_41 {X : lt_X} {σ : lt_S} (hT : lt_Wt σ) {o : Nat} (h0 : lt_c σ o = 12) {r : lt_W} (hF : lt_F X cX12_copies RX12 4 (lt_rm 1)) (hE : lt_E X 0 0 σ none none r) (n : Nat) : ∀ (x1 : Int32) (x2 : Int32) (x3 : Int32) (w : lt_W), fb_X12_copies_41 σ o n x1 x2 x3 w = some r → lt_J X 0 0 σ w 41 [(0, .ref (lt_z X + o)), (1, .int x1), (2, .int x2), (3, .int x3)] [] := by
  induction n with
  | zero => intro x1 x2 x3 w hf; rw [fb_X12_copies_41] at hf; cases hf
  | succ n ih =>
    intro x1 x2 x3 w hf
    rw [fb_X12_copies_41] at hf
    refine jr_iload_n hF dX12_copies_41 3 rfl rfl ?_
    refine jr_bipush (v := 7) hF dX12_copies_42 rfl ?_
    refine jr_icmp_ge (tgt := 75) hF dX12_copies_44 rfl hf (fun hf => ?_) (fun hf => ?_)
    · obtain rfl := Option.some.inj hf
      exact jr_return hF hE dX12_copies_75
    · refine jr_aload_n hF dX12_copies_47 0 rfl rfl ?_
      refine jr_getRT (cr := 51) hF gf_X12_13 hT h0 rfl rfl dX12_copies_48 (fun th1 => ?_)
      refine jr_bipush (v := 7) hF dX12_copies_51 rfl ?_
      refine jr_iload_n hF dX12_copies_53 2 rfl rfl ?_
      refine jr_imul hF dX12_copies_54 ?_
      refine jr_iload_n hF dX12_copies_55 3 rfl rfl ?_
      refine jr_iadd hF dX12_copies_56 ?_
      refine jr_aload_n hF dX12_copies_57 0 rfl rfl ?_
      refine jr_getRT (cr := 51) hF gf_X12_13 hT h0 rfl rfl dX12_copies_58 (fun th2 => ?_)
      refine jr_bipush (v := 7) hF dX12_copies_61 rfl ?_
      refine jr_iload_n hF dX12_copies_63 1 rfl rfl ?_
      refine jr_imul hF dX12_copies_64 ?_
      refine jr_iload_n hF dX12_copies_65 3 rfl rfl ?_
      refine jr_iadd hF dX12_copies_66 ?_
      refine jr_laload hF th2 dX12_copies_67 hf (fun hf => ?_)
      refine jr_lastore hF th1 dX12_copies_68 hf (fun hf => ?_)
      refine jr_letW hf (fun w3 hf => ?_)
      refine jr_iinc (v := x3 + 1) (lv' := [(0, .ref (lt_z X + o)), (1, .int x1), (2, .int x2), (3, .int (x3 + 1))]) hF dX12_copies_69 3 rfl rfl (by decide) [1, 2, 3, 0] rfl ?_
      refine jr_goto (tgt := 41) hF dX12_copies_72 rfl ?_
      exact ih _ _ _ _ hf
set_option maxRecDepth 100000 in
def fb_X12_copies_2 (σ : lt_S) (o : Nat) : Nat → Int32 → Int32 → Int32 → lt_W → Option lt_W
  | 0, _, _, _, _ => none
  | n + 1, x1, x2, x3, w => if 428 ≤ x3 then fb_X12_copies_41 σ o lt_fu x1 x2 0 w else lt_ck ((428 * x1) + x3) (lt_len σ (lt_r σ o 0)) (lt_ck ((428 * x2) + x3) (lt_len σ (lt_r σ o 0)) (lt_let (lt_si w (lt_r σ o 0) ((428 * x2) + x3).toNatClampNeg (lt_gi w (lt_r σ o 0) ((428 * x1) + x3).toNatClampNeg)) (fun w3 => fb_X12_copies_2 σ o n x1 x2 (x3 + 1) w3)))
set_option maxHeartbeats 4000000 in
set_option maxRecDepth 100000 in
theorem jb_X12_copies_2 {X : lt_X} {σ : lt_S} (hT : lt_Wt σ) {o : Nat} (h0 : lt_c σ o = 12) {r : lt_W} (hF : lt_F X cX12_copies RX12 4 (lt_rm 1)) (hE : lt_E X 0 0 σ none none r) (n : Nat) : ∀ (x1 : Int32) (x2 : Int32) (x3 : Int32) (w : lt_W), fb_X12_copies_2 σ o n x1 x2 x3 w = some r → lt_J X 0 0 σ w 2 [(0, .ref (lt_z X + o)), (1, .int x1), (2, .int x2), (3, .int x3)] [] := by
  induction n with
  | zero => intro x1 x2 x3 w hf; rw [fb_X12_copies_2] at hf; cases hf
  | succ n ih =>
    intro x1 x2 x3 w hf
    rw [fb_X12_copies_2] at hf
    refine jr_iload_n hF dX12_copies_2 3 rfl rfl ?_
    refine jr_sipush (v := 428) hF dX12_copies_3 rfl ?_
    refine jr_icmp_ge (tgt := 39) hF dX12_copies_6 rfl hf (fun hf => ?_) (fun hf => ?_)
    · refine jr_iconst (v := 0) hF dX12_copies_39 rfl ?_
      refine jr_istore_n (lv' := [(0, .ref (lt_z X + o)), (1, .int x1), (2, .int x2), (3, .int 0)]) hF dX12_copies_40 rfl (by decide) [1, 2, 3, 0] rfl ?_
      exact jb_X12_copies_41 hT h0 hF hE lt_fu _ _ _ _ hf
    · refine jr_aload_n hF dX12_copies_9 0 rfl rfl ?_
      refine jr_getRT (cr := 50) hF gf_X12_7 hT h0 rfl rfl dX12_copies_10 (fun th1 => ?_)
      refine jr_sipush (v := 428) hF dX12_copies_13 rfl ?_
      refine jr_iload_n hF dX12_copies_16 2 rfl rfl ?_
      refine jr_imul hF dX12_copies_17 ?_
      refine jr_iload_n hF dX12_copies_18 3 rfl rfl ?_
      refine jr_iadd hF dX12_copies_19 ?_
      refine jr_aload_n hF dX12_copies_20 0 rfl rfl ?_
      refine jr_getRT (cr := 50) hF gf_X12_7 hT h0 rfl rfl dX12_copies_21 (fun th2 => ?_)
      refine jr_sipush (v := 428) hF dX12_copies_24 rfl ?_
      refine jr_iload_n hF dX12_copies_27 1 rfl rfl ?_
      refine jr_imul hF dX12_copies_28 ?_
      refine jr_iload_n hF dX12_copies_29 3 rfl rfl ?_
      refine jr_iadd hF dX12_copies_30 ?_
      refine jr_iaload hF th2 dX12_copies_31 hf (fun hf => ?_)
      refine jr_iastore hF th1 dX12_copies_32 hf (fun hf => ?_)
      refine jr_letW hf (fun w3 hf => ?_)
      refine jr_iinc (v := x3 + 1) (lv' := [(0, .ref (lt_z X + o)), (1, .int x1), (2, .int x2), (3, .int (x3 + 1))]) hF dX12_copies_33 3 rfl rfl (by decide) [1, 2, 3, 0] rfl ?_
      refine jr_goto (tgt := 2) hF dX12_copies_36 rfl ?_
      exact ih _ _ _ _ hf
set_option maxRecDepth 100000 in
def fb_X12_copies_0 (σ : lt_S) (o : Nat) (x1 : Int32) (x2 : Int32) (w : lt_W) : Option lt_W := fb_X12_copies_2 σ o lt_fu x1 x2 0 w
set_option maxHeartbeats 4000000 in
set_option maxRecDepth 100000 in
theorem jb_X12_copies_0 {X : lt_X} {σ : lt_S} (hT : lt_Wt σ) {o : Nat} (h0 : lt_c σ o = 12) {r : lt_W} (hF : lt_F X cX12_copies RX12 4 (lt_rm 1)) (hE : lt_E X 0 0 σ none none r) : ∀ (x1 : Int32) (x2 : Int32) (w : lt_W), fb_X12_copies_0 σ o x1 x2 w = some r → lt_J X 0 0 σ w 0 [(0, .ref (lt_z X + o)), (1, .int x1), (2, .int x2)] [] := by
  intro x1 x2 w hf
  unfold fb_X12_copies_0 at hf
  refine jr_iconst (v := 0) hF dX12_copies_0 rfl ?_
  refine jr_istore_n (lv' := [(0, .ref (lt_z X + o)), (1, .int x1), (2, .int x2), (3, .int 0)]) hF dX12_copies_1 rfl (by decide) [1, 2, 3, 0] rfl ?_
  exact jb_X12_copies_2 hT h0 hF hE lt_fu _ _ _ _ hf
def f_X12_copies (σ : lt_S) (o : Nat) (x1 : Int32) (x2 : Int32) (w : lt_W) : Option lt_W := fb_X12_copies_0 σ o x1 x2 w
set_option maxRecDepth 100000 in
theorem c_X12_copies {l : Launch} {D : va_G} {gA : Nat → ClassId} {s0 : State} {σ : lt_S} (hT : lt_Wt σ) {o : Nat} (h0 : lt_c σ o = 12) {x1 : Int32} {x2 : Int32} {w : lt_W} {r : lt_W} (hf : f_X12_copies σ o x1 x2 w = some r) : lt_C l D gA s0 yX12_copies cX12_copies 4 none (lt_rm 1) [.ref (s0.heap.size + o), .int x1, .int x2] σ w σ none r := by
  refine lt_enter rfl (Nat.le_of_ble_eq_true rfl) (fun X e1 e2 e3 e4 hF hE => ?_)
  subst e1 e2 e3 e4
  exact jb_X12_copies_0 hT h0 hF hE _ _ _ hf

set_option maxRecDepth 100000 in
def fb_X12_shrunk_0 (x0 : Int64) (x2 : Int32) : Option Int64 := if x2 = 0 then some x0.toInt32.toInt8.toInt32.toInt64 else if x2 = 1 then some x0.toInt32.toInt16.toInt32.toInt64 else if x2 = 2 then some x0.toInt32.toInt64 else some x0
set_option maxHeartbeats 4000000 in
set_option maxRecDepth 100000 in
theorem jb_X12_shrunk_0 {X : lt_X} {σ : lt_S} {r : Int64} {w : lt_W} (hF : lt_F X cX12_shrunk RX12 3 (lt_rm 1)) (hE : lt_E X 0 0 σ (some .long) (some (.long r)) w) : ∀ (x0 : Int64) (x2 : Int32), fb_X12_shrunk_0 x0 x2 = some r → lt_J X 0 0 σ w 0 [(0, .long x0), (2, .int x2)] [] := by
  intro x0 x2 hf
  unfold fb_X12_shrunk_0 at hf
  refine jr_iload_n hF dX12_shrunk_0 1 rfl rfl ?_
  refine jr_if_ne (tgt := 11) hF dX12_shrunk_1 rfl hf (fun hf => ?_) (fun hf => ?_)
  · refine jr_iload_n hF dX12_shrunk_11 1 rfl rfl ?_
    refine jr_iconst (v := 1) hF dX12_shrunk_12 rfl ?_
    refine jr_icmp_ne (tgt := 23) hF dX12_shrunk_13 rfl hf (fun hf => ?_) (fun hf => ?_)
    · refine jr_iload_n hF dX12_shrunk_23 1 rfl rfl ?_
      refine jr_iconst (v := 2) hF dX12_shrunk_24 rfl ?_
      refine jr_icmp_ne (tgt := 34) hF dX12_shrunk_25 rfl hf (fun hf => ?_) (fun hf => ?_)
      · refine jr_lload_n hF dX12_shrunk_34 0 rfl rfl ?_
        obtain rfl := Option.some.inj hf
        exact jr_lreturn hF hE dX12_shrunk_35
      · refine jr_lload_n hF dX12_shrunk_28 0 rfl rfl ?_
        refine jr_l2i hF dX12_shrunk_29 ?_
        refine jr_i2l hF dX12_shrunk_30 ?_
        refine jr_goto (tgt := 35) hF dX12_shrunk_31 rfl ?_
        obtain rfl := Option.some.inj hf
        exact jr_lreturn hF hE dX12_shrunk_35
    · refine jr_lload_n hF dX12_shrunk_16 0 rfl rfl ?_
      refine jr_l2i hF dX12_shrunk_17 ?_
      refine jr_i2s hF dX12_shrunk_18 ?_
      refine jr_i2l hF dX12_shrunk_19 ?_
      refine jr_goto (tgt := 35) hF dX12_shrunk_20 rfl ?_
      obtain rfl := Option.some.inj hf
      exact jr_lreturn hF hE dX12_shrunk_35
  · refine jr_lload_n hF dX12_shrunk_4 0 rfl rfl ?_
    refine jr_l2i hF dX12_shrunk_5 ?_
    refine jr_i2b hF dX12_shrunk_6 ?_
    refine jr_i2l hF dX12_shrunk_7 ?_
    refine jr_goto (tgt := 35) hF dX12_shrunk_8 rfl ?_
    obtain rfl := Option.some.inj hf
    exact jr_lreturn hF hE dX12_shrunk_35
def f_X12_shrunk (x0 : Int64) (x2 : Int32) : Option Int64 := fb_X12_shrunk_0 x0 x2
set_option maxRecDepth 100000 in
theorem c_X12_shrunk {l : Launch} {D : va_G} {gA : Nat → ClassId} {s0 : State} {σ : lt_S} {x0 : Int64} {x2 : Int32} {w : lt_W} {r : Int64} (hf : f_X12_shrunk x0 x2 = some r) : lt_C l D gA s0 yX12_shrunk cX12_shrunk 3 (some .long) (lt_rm 1) [.long x0, .int x2] σ w σ (some (.long r)) w := by
  refine lt_enter rfl (Nat.le_of_ble_eq_true rfl) (fun X e1 e2 e3 e4 hF hE => ?_)
  subst e1 e2 e3 e4
  exact jb_X12_shrunk_0 hF hE _ _ hf

set_option maxRecDepth 100000 in
def fb_X12_copyWishes_52 (σ : lt_S) (o : Nat) : Nat → Int32 → Int32 → lt_W → Option (Int32 × lt_W)
  | 0, _, _, _ => none
  | n + 1, x1, x2, w => lt_ck 0 (lt_len σ (lt_r σ o 0)) (if (lt_gi w (lt_r σ o 0) (0 : Int32).toNatClampNeg) ≤ x2 then lt_ck 0 (lt_len σ (lt_r σ o 0)) (Option.bind (f_X12_gives σ o (lt_gi w (lt_r σ o 0) (0 : Int32).toNatClampNeg) w) (fun q3 => some (q3.1, q3.2))) else Option.bind (f_X12_guestOf σ o x2 0 w) (fun q5 => lt_ck x1 (lt_len σ (lt_r σ o 5)) (Option.bind (f_X12_shrunk q5.toInt64 (lt_gi w (lt_r σ o 5) x1.toNatClampNeg)) (fun q7 => lt_ck ((60 * x1) + x2) (lt_len σ (lt_r σ o 7)) (lt_let (lt_sl w (lt_r σ o 7) ((60 * x1) + x2).toNatClampNeg q7) (fun w8 => fb_X12_copyWishes_52 σ o n x1 (x2 + 1) w8))))))
set_option maxHeartbeats 4000000 in
set_option maxRecDepth 100000 in
theorem jb_X12_copyWishes_52 {X : lt_X} {σ : lt_S} (hT : lt_Wt σ) {o : Nat} (h0 : lt_c σ o = 12) {r : Int32 × lt_W} (hF : lt_F X cX12_copyWishes RX12 3 (lt_rm 3)) (hE : lt_E X 0 0 σ (some .int) (some (.int r.1)) r.2) (n : Nat) : ∀ (x1 : Int32) (x2 : Int32) (w : lt_W), fb_X12_copyWishes_52 σ o n x1 x2 w = some r → lt_J X 0 0 σ w 52 [(0, .ref (lt_z X + o)), (1, .int x1), (2, .int x2)] [] := by
  induction n with
  | zero => intro x1 x2 w hf; rw [fb_X12_copyWishes_52] at hf; cases hf
  | succ n ih =>
    intro x1 x2 w hf
    rw [fb_X12_copyWishes_52] at hf
    refine jr_iload_n hF dX12_copyWishes_52 2 rfl rfl ?_
    refine jr_aload_n hF dX12_copyWishes_53 0 rfl rfl ?_
    refine jr_getRT (cr := 50) hF gf_X12_7 hT h0 rfl rfl dX12_copyWishes_54 (fun th1 => ?_)
    refine jr_iconst (v := 0) hF dX12_copyWishes_57 rfl ?_
    refine jr_iaload hF th1 dX12_copyWishes_58 hf (fun hf => ?_)
    refine jr_icmp_ge (tgt := 95) hF dX12_copyWishes_59 rfl hf (fun hf => ?_) (fun hf => ?_)
    · refine jr_aload_n hF dX12_copyWishes_95 0 rfl rfl ?_
      refine jr_aload_n hF dX12_copyWishes_96 0 rfl rfl ?_
      refine jr_getRT (cr := 50) hF gf_X12_7 hT h0 rfl rfl dX12_copyWishes_97 (fun th2 => ?_)
      refine jr_iconst (v := 0) hF dX12_copyWishes_100 rfl ?_
      refine jr_iaload hF th2 dX12_copyWishes_101 hf (fun hf => ?_)
      obtain ⟨q3, hq3, hf⟩ := Option.bind_eq_some_iff.mp hf
      refine jr_cV11 hF ml_X12_101 (c_X12_gives h0 hq3) h0 ⟨Nat.le_of_ble_eq_true rfl, Nat.le_of_ble_eq_true rfl⟩ (Nat.le_of_ble_eq_true rfl) dX12_copyWishes_102 ?_
      obtain rfl := Option.some.inj hf
      exact jr_ireturn hF hE dX12_copyWishes_105
    · refine jr_aload_n hF dX12_copyWishes_62 0 rfl rfl ?_
      refine jr_getRT (cr := 51) hF gf_X12_27 hT h0 rfl rfl dX12_copyWishes_63 (fun th4 => ?_)
      refine jr_bipush (v := 60) hF dX12_copyWishes_66 rfl ?_
      refine jr_iload_n hF dX12_copyWishes_68 1 rfl rfl ?_
      refine jr_imul hF dX12_copyWishes_69 ?_
      refine jr_iload_n hF dX12_copyWishes_70 2 rfl rfl ?_
      refine jr_iadd hF dX12_copyWishes_71 ?_
      refine jr_aload_n hF dX12_copyWishes_72 0 rfl rfl ?_
      refine jr_iload_n hF dX12_copyWishes_73 2 rfl rfl ?_
      refine jr_iconst (v := 0) hF dX12_copyWishes_74 rfl ?_
      obtain ⟨q5, hq5, hf⟩ := Option.bind_eq_some_iff.mp hf
      refine jr_cV21 hF ml_X12_269 (c_X12_guestOf hT h0 hq5) h0 ⟨Nat.le_of_ble_eq_true rfl, Nat.le_of_ble_eq_true rfl⟩ (Nat.le_of_ble_eq_true rfl) dX12_copyWishes_75 ?_
      refine jr_i2l hF dX12_copyWishes_78 ?_
      refine jr_aload_n hF dX12_copyWishes_79 0 rfl rfl ?_
      refine jr_getRT (cr := 50) hF gf_X12_21 hT h0 rfl rfl dX12_copyWishes_80 (fun th6 => ?_)
      refine jr_iload_n hF dX12_copyWishes_83 1 rfl rfl ?_
      refine jr_iaload hF th6 dX12_copyWishes_84 hf (fun hf => ?_)
      obtain ⟨q7, hq7, hf⟩ := Option.bind_eq_some_iff.mp hf
      refine jr_cS21 hF ml_X12_115 (c_X12_shrunk hq7) ⟨Nat.le_of_ble_eq_true rfl, Nat.le_of_ble_eq_true rfl⟩ (Nat.le_of_ble_eq_true rfl) dX12_copyWishes_85 ?_
      refine jr_lastore hF th4 dX12_copyWishes_88 hf (fun hf => ?_)
      refine jr_letW hf (fun w8 hf => ?_)
      refine jr_iinc (v := x2 + 1) (lv' := [(0, .ref (lt_z X + o)), (1, .int x1), (2, .int (x2 + 1))]) hF dX12_copyWishes_89 2 rfl rfl (by decide) [1, 2, 0] rfl ?_
      refine jr_goto (tgt := 52) hF dX12_copyWishes_92 rfl ?_
      exact ih _ _ _ hf
set_option maxRecDepth 100000 in
def fb_X12_copyWishes_0 (σ : lt_S) (o : Nat) (x1 : Int32) (w : lt_W) : Option (Int32 × lt_W) := Option.bind (f_X12_isTray x1) (fun q1 => if q1 = 0 then Option.bind (f_X12_refuse σ o 1 w) (fun q7 => some (q7.1, q7.2)) else lt_ck x1 (lt_len σ (lt_r σ o 6)) (if (lt_gi w (lt_r σ o 6) x1.toNatClampNeg) = (-1) then Option.bind (f_X12_refuse σ o 2 w) (fun q6 => some (q6.1, q6.2)) else lt_ck x1 (lt_len σ (lt_r σ o 6)) (lt_ck 0 (lt_len σ (lt_r σ o 0)) (if (lt_gi w (lt_r σ o 0) (0 : Int32).toNatClampNeg) ≤ (lt_gi w (lt_r σ o 6) x1.toNatClampNeg) then fb_X12_copyWishes_52 σ o lt_fu x1 0 w else Option.bind (f_X12_refuse σ o 3 w) (fun q5 => some (q5.1, q5.2))))))
set_option maxHeartbeats 4000000 in
set_option maxRecDepth 100000 in
theorem jb_X12_copyWishes_0 {X : lt_X} {σ : lt_S} (hT : lt_Wt σ) {o : Nat} (h0 : lt_c σ o = 12) {r : Int32 × lt_W} (hF : lt_F X cX12_copyWishes RX12 3 (lt_rm 3)) (hE : lt_E X 0 0 σ (some .int) (some (.int r.1)) r.2) : ∀ (x1 : Int32) (w : lt_W), fb_X12_copyWishes_0 σ o x1 w = some r → lt_J X 0 0 σ w 0 [(0, .ref (lt_z X + o)), (1, .int x1)] [] := by
  intro x1 w hf
  unfold fb_X12_copyWishes_0 at hf
  refine jr_iload_n hF dX12_copyWishes_0 1 rfl rfl ?_
  obtain ⟨q1, hq1, hf⟩ := Option.bind_eq_some_iff.mp hf
  refine jr_cS11 hF ml_X12_108 (c_X12_isTray hq1) ⟨Nat.le_of_ble_eq_true rfl, Nat.le_of_ble_eq_true rfl⟩ (Nat.le_of_ble_eq_true rfl) dX12_copyWishes_1 ?_
  refine jr_if_ne (tgt := 13) hF dX12_copyWishes_4 rfl hf (fun hf => ?_) (fun hf => ?_)
  · refine jr_aload_n hF dX12_copyWishes_13 0 rfl rfl ?_
    refine jr_getRT (cr := 50) hF gf_X12_24 hT h0 rfl rfl dX12_copyWishes_14 (fun th2 => ?_)
    refine jr_iload_n hF dX12_copyWishes_17 1 rfl rfl ?_
    refine jr_iaload hF th2 dX12_copyWishes_18 hf (fun hf => ?_)
    refine jr_iconst (v := (-1)) hF dX12_copyWishes_19 rfl ?_
    refine jr_icmp_ne (tgt := 29) hF dX12_copyWishes_20 rfl hf (fun hf => ?_) (fun hf => ?_)
    · refine jr_aload_n hF dX12_copyWishes_29 0 rfl rfl ?_
      refine jr_getRT (cr := 50) hF gf_X12_24 hT h0 rfl rfl dX12_copyWishes_30 (fun th3 => ?_)
      refine jr_iload_n hF dX12_copyWishes_33 1 rfl rfl ?_
      refine jr_iaload hF th3 dX12_copyWishes_34 hf (fun hf => ?_)
      refine jr_aload_n hF dX12_copyWishes_35 0 rfl rfl ?_
      refine jr_getRT (cr := 50) hF gf_X12_7 hT h0 rfl rfl dX12_copyWishes_36 (fun th4 => ?_)
      refine jr_iconst (v := 0) hF dX12_copyWishes_39 rfl ?_
      refine jr_iaload hF th4 dX12_copyWishes_40 hf (fun hf => ?_)
      refine jr_icmp_ge (tgt := 50) hF dX12_copyWishes_41 rfl hf (fun hf => ?_) (fun hf => ?_)
      · refine jr_iconst (v := 0) hF dX12_copyWishes_50 rfl ?_
        refine jr_istore_n (lv' := [(0, .ref (lt_z X + o)), (1, .int x1), (2, .int 0)]) hF dX12_copyWishes_51 rfl (by decide) [1, 2, 0] rfl ?_
        exact jb_X12_copyWishes_52 hT h0 hF hE lt_fu _ _ _ hf
      · refine jr_aload_n hF dX12_copyWishes_44 0 rfl rfl ?_
        refine jr_iconst (v := 3) hF dX12_copyWishes_45 rfl ?_
        obtain ⟨q5, hq5, hf⟩ := Option.bind_eq_some_iff.mp hf
        refine jr_cV11 hF ml_X12_97 (c_X12_refuse h0 hq5) h0 ⟨Nat.le_of_ble_eq_true rfl, Nat.le_of_ble_eq_true rfl⟩ (Nat.le_of_ble_eq_true rfl) dX12_copyWishes_46 ?_
        obtain rfl := Option.some.inj hf
        exact jr_ireturn hF hE dX12_copyWishes_49
    · refine jr_aload_n hF dX12_copyWishes_23 0 rfl rfl ?_
      refine jr_iconst (v := 2) hF dX12_copyWishes_24 rfl ?_
      obtain ⟨q6, hq6, hf⟩ := Option.bind_eq_some_iff.mp hf
      refine jr_cV11 hF ml_X12_97 (c_X12_refuse h0 hq6) h0 ⟨Nat.le_of_ble_eq_true rfl, Nat.le_of_ble_eq_true rfl⟩ (Nat.le_of_ble_eq_true rfl) dX12_copyWishes_25 ?_
      obtain rfl := Option.some.inj hf
      exact jr_ireturn hF hE dX12_copyWishes_28
  · refine jr_aload_n hF dX12_copyWishes_7 0 rfl rfl ?_
    refine jr_iconst (v := 1) hF dX12_copyWishes_8 rfl ?_
    obtain ⟨q7, hq7, hf⟩ := Option.bind_eq_some_iff.mp hf
    refine jr_cV11 hF ml_X12_97 (c_X12_refuse h0 hq7) h0 ⟨Nat.le_of_ble_eq_true rfl, Nat.le_of_ble_eq_true rfl⟩ (Nat.le_of_ble_eq_true rfl) dX12_copyWishes_9 ?_
    obtain rfl := Option.some.inj hf
    exact jr_ireturn hF hE dX12_copyWishes_12
def f_X12_copyWishes (σ : lt_S) (o : Nat) (x1 : Int32) (w : lt_W) : Option (Int32 × lt_W) := fb_X12_copyWishes_0 σ o x1 w
set_option maxRecDepth 100000 in
theorem c_X12_copyWishes {l : Launch} {D : va_G} {gA : Nat → ClassId} {s0 : State} {σ : lt_S} (hT : lt_Wt σ) {o : Nat} (h0 : lt_c σ o = 12) {x1 : Int32} {w : lt_W} {r : Int32 × lt_W} (hf : f_X12_copyWishes σ o x1 w = some r) : lt_C l D gA s0 yX12_copyWishes cX12_copyWishes 3 (some .int) (lt_rm 3) [.ref (s0.heap.size + o), .int x1] σ w σ (some (.int r.1)) r.2 := by
  refine lt_enter rfl (Nat.le_of_ble_eq_true rfl) (fun X e1 e2 e3 e4 hF hE => ?_)
  subst e1 e2 e3 e4
  exact jb_X12_copyWishes_0 hT h0 hF hE _ _ hf

set_option maxRecDepth 100000 in
def fb_X12_cut_0 (σ : lt_S) (o : Nat) (x1 : Int32) (w : lt_W) : Option (Int32 × lt_W) := Option.bind (f_X12_isGuest σ o x1 w) (fun q1 => if q1 = 0 then Option.bind (f_X12_refuse σ o 1 w) (fun q7 => some (q7.1, q7.2)) else Option.bind (f_X12_canCut σ o x1 w) (fun q2 => if q2 = 0 then Option.bind (f_X12_refuse σ o 7 w) (fun q6 => some (q6.1, q6.2)) else Option.bind (f_X12_cuts1 σ o x1 w) (fun q3 => lt_ck 5 (lt_len σ (lt_r σ o 0)) (Option.bind (f_X12_gives σ o (lt_gi q3.2 (lt_r σ o 0) (5 : Int32).toNatClampNeg) q3.2) (fun q5 => some (q5.1, q5.2))))))
set_option maxHeartbeats 4000000 in
set_option maxRecDepth 100000 in
theorem jb_X12_cut_0 {X : lt_X} {σ : lt_S} (hT : lt_Wt σ) {o : Nat} (h0 : lt_c σ o = 12) {r : Int32 × lt_W} (hF : lt_F X cX12_cut RX12 2 (lt_rm 5)) (hE : lt_E X 0 0 σ (some .int) (some (.int r.1)) r.2) : ∀ (x1 : Int32) (w : lt_W), fb_X12_cut_0 σ o x1 w = some r → lt_J X 0 0 σ w 0 [(0, .ref (lt_z X + o)), (1, .int x1)] [] := by
  intro x1 w hf
  unfold fb_X12_cut_0 at hf
  refine jr_aload_n hF dX12_cut_0 0 rfl rfl ?_
  refine jr_iload_n hF dX12_cut_1 1 rfl rfl ?_
  obtain ⟨q1, hq1, hf⟩ := Option.bind_eq_some_iff.mp hf
  refine jr_cV11 hF ml_X12_266 (c_X12_isGuest hT h0 hq1) h0 ⟨Nat.le_of_ble_eq_true rfl, Nat.le_of_ble_eq_true rfl⟩ (Nat.le_of_ble_eq_true rfl) dX12_cut_2 ?_
  refine jr_if_ne (tgt := 14) hF dX12_cut_5 rfl hf (fun hf => ?_) (fun hf => ?_)
  · refine jr_aload_n hF dX12_cut_14 0 rfl rfl ?_
    refine jr_iload_n hF dX12_cut_15 1 rfl rfl ?_
    obtain ⟨q2, hq2, hf⟩ := Option.bind_eq_some_iff.mp hf
    refine jr_cV11 hF ml_X12_314 (c_X12_canCut hT h0 hq2) h0 ⟨Nat.le_of_ble_eq_true rfl, Nat.le_of_ble_eq_true rfl⟩ (Nat.le_of_ble_eq_true rfl) dX12_cut_16 ?_
    refine jr_if_ne (tgt := 29) hF dX12_cut_19 rfl hf (fun hf => ?_) (fun hf => ?_)
    · refine jr_aload_n hF dX12_cut_29 0 rfl rfl ?_
      refine jr_iload_n hF dX12_cut_30 1 rfl rfl ?_
      obtain ⟨q3, hq3, hf⟩ := Option.bind_eq_some_iff.mp hf
      refine jr_cV11 hF ml_X12_296 (c_X12_cuts1 hT h0 hq3) h0 ⟨Nat.le_of_ble_eq_true rfl, Nat.le_of_ble_eq_true rfl⟩ (Nat.le_of_ble_eq_true rfl) dX12_cut_31 ?_
      refine jr_pop hF dX12_cut_34 rfl ?_
      refine jr_aload_n hF dX12_cut_35 0 rfl rfl ?_
      refine jr_aload_n hF dX12_cut_36 0 rfl rfl ?_
      refine jr_getRT (cr := 50) hF gf_X12_7 hT h0 rfl rfl dX12_cut_37 (fun th4 => ?_)
      refine jr_iconst (v := 5) hF dX12_cut_40 rfl ?_
      refine jr_iaload hF th4 dX12_cut_41 hf (fun hf => ?_)
      obtain ⟨q5, hq5, hf⟩ := Option.bind_eq_some_iff.mp hf
      refine jr_cV11 hF ml_X12_101 (c_X12_gives h0 hq5) h0 ⟨Nat.le_of_ble_eq_true rfl, Nat.le_of_ble_eq_true rfl⟩ (Nat.le_of_ble_eq_true rfl) dX12_cut_42 ?_
      obtain rfl := Option.some.inj hf
      exact jr_ireturn hF hE dX12_cut_45
    · refine jr_aload_n hF dX12_cut_22 0 rfl rfl ?_
      refine jr_bipush (v := 7) hF dX12_cut_23 rfl ?_
      obtain ⟨q6, hq6, hf⟩ := Option.bind_eq_some_iff.mp hf
      refine jr_cV11 hF ml_X12_97 (c_X12_refuse h0 hq6) h0 ⟨Nat.le_of_ble_eq_true rfl, Nat.le_of_ble_eq_true rfl⟩ (Nat.le_of_ble_eq_true rfl) dX12_cut_25 ?_
      obtain rfl := Option.some.inj hf
      exact jr_ireturn hF hE dX12_cut_28
  · refine jr_aload_n hF dX12_cut_8 0 rfl rfl ?_
    refine jr_iconst (v := 1) hF dX12_cut_9 rfl ?_
    obtain ⟨q7, hq7, hf⟩ := Option.bind_eq_some_iff.mp hf
    refine jr_cV11 hF ml_X12_97 (c_X12_refuse h0 hq7) h0 ⟨Nat.le_of_ble_eq_true rfl, Nat.le_of_ble_eq_true rfl⟩ (Nat.le_of_ble_eq_true rfl) dX12_cut_10 ?_
    obtain rfl := Option.some.inj hf
    exact jr_ireturn hF hE dX12_cut_13
def f_X12_cut (σ : lt_S) (o : Nat) (x1 : Int32) (w : lt_W) : Option (Int32 × lt_W) := fb_X12_cut_0 σ o x1 w
set_option maxRecDepth 100000 in
theorem c_X12_cut {l : Launch} {D : va_G} {gA : Nat → ClassId} {s0 : State} {σ : lt_S} (hT : lt_Wt σ) {o : Nat} (h0 : lt_c σ o = 12) {x1 : Int32} {w : lt_W} {r : Int32 × lt_W} (hf : f_X12_cut σ o x1 w = some r) : lt_C l D gA s0 yX12_cut cX12_cut 2 (some .int) (lt_rm 5) [.ref (s0.heap.size + o), .int x1] σ w σ (some (.int r.1)) r.2 := by
  refine lt_enter rfl (Nat.le_of_ble_eq_true rfl) (fun X e1 e2 e3 e4 hF hE => ?_)
  subst e1 e2 e3 e4
  exact jb_X12_cut_0 hT h0 hF hE _ _ hf

set_option maxRecDepth 100000 in
def fb_X12_cutsBy_0 (σ : lt_S) (o : Nat) (x1 : Int32) (w : lt_W) : Option (Int32 × lt_W) := Option.bind (f_X12_canCut σ o x1 w) (fun q1 => if q1 = 0 then some (0, w) else lt_ck 2 (lt_len σ (lt_r σ o 37)) (lt_ck 2 (lt_len σ (lt_r σ o 37)) (lt_let (lt_si w (lt_r σ o 37) (2 : Int32).toNatClampNeg ((lt_gi w (lt_r σ o 37) (2 : Int32).toNatClampNeg) + 1)) (fun w3 => lt_ck 3 (lt_len σ (lt_r σ o 37)) (Option.bind (f_X12_cuts1 σ o x1 w3) (fun q5 => lt_ck 3 (lt_len σ (lt_r σ o 37)) (lt_let (lt_si q5.2 (lt_r σ o 37) (3 : Int32).toNatClampNeg ((lt_gi w3 (lt_r σ o 37) (3 : Int32).toNatClampNeg) + q5.1)) (fun w6 => some (1, w6)))))))))
set_option maxHeartbeats 4000000 in
set_option maxRecDepth 100000 in
theorem jb_X12_cutsBy_0 {X : lt_X} {σ : lt_S} (hT : lt_Wt σ) {o : Nat} (h0 : lt_c σ o = 12) {r : Int32 × lt_W} (hF : lt_F X cX12_cutsBy RX12 2 (lt_rm 5)) (hE : lt_E X 0 0 σ (some .boolean) (some (.int r.1)) r.2) : ∀ (x1 : Int32) (w : lt_W), fb_X12_cutsBy_0 σ o x1 w = some r → lt_J X 0 0 σ w 0 [(0, .ref (lt_z X + o)), (1, .int x1)] [] := by
  intro x1 w hf
  unfold fb_X12_cutsBy_0 at hf
  refine jr_aload_n hF dX12_cutsBy_0 0 rfl rfl ?_
  refine jr_iload_n hF dX12_cutsBy_1 1 rfl rfl ?_
  obtain ⟨q1, hq1, hf⟩ := Option.bind_eq_some_iff.mp hf
  refine jr_cV11 hF ml_X12_314 (c_X12_canCut hT h0 hq1) h0 ⟨Nat.le_of_ble_eq_true rfl, Nat.le_of_ble_eq_true rfl⟩ (Nat.le_of_ble_eq_true rfl) dX12_cutsBy_2 ?_
  refine jr_if_ne (tgt := 10) hF dX12_cutsBy_5 rfl hf (fun hf => ?_) (fun hf => ?_)
  · refine jr_aload_n hF dX12_cutsBy_10 0 rfl rfl ?_
    refine jr_getRT (cr := 50) hF gf_X12_81 hT h0 rfl rfl dX12_cutsBy_11 (fun th2 => ?_)
    refine jr_iconst (v := 2) hF dX12_cutsBy_14 rfl ?_
    refine jr_dup2 hF dX12_cutsBy_15 rfl rfl ?_
    refine jr_iaload hF th2 dX12_cutsBy_16 hf (fun hf => ?_)
    refine jr_iconst (v := 1) hF dX12_cutsBy_17 rfl ?_
    refine jr_iadd hF dX12_cutsBy_18 ?_
    refine jr_iastore hF th2 dX12_cutsBy_19 hf (fun hf => ?_)
    refine jr_letW hf (fun w3 hf => ?_)
    refine jr_aload_n hF dX12_cutsBy_20 0 rfl rfl ?_
    refine jr_getRT (cr := 50) hF gf_X12_81 hT h0 rfl rfl dX12_cutsBy_21 (fun th4 => ?_)
    refine jr_iconst (v := 3) hF dX12_cutsBy_24 rfl ?_
    refine jr_dup2 hF dX12_cutsBy_25 rfl rfl ?_
    refine jr_iaload hF th4 dX12_cutsBy_26 hf (fun hf => ?_)
    refine jr_aload_n hF dX12_cutsBy_27 0 rfl rfl ?_
    refine jr_iload_n hF dX12_cutsBy_28 1 rfl rfl ?_
    obtain ⟨q5, hq5, hf⟩ := Option.bind_eq_some_iff.mp hf
    refine jr_cV11 hF ml_X12_296 (c_X12_cuts1 hT h0 hq5) h0 ⟨Nat.le_of_ble_eq_true rfl, Nat.le_of_ble_eq_true rfl⟩ (Nat.le_of_ble_eq_true rfl) dX12_cutsBy_29 ?_
    refine jr_iadd hF dX12_cutsBy_32 ?_
    refine jr_iastore hF th4 dX12_cutsBy_33 hf (fun hf => ?_)
    refine jr_letW hf (fun w6 hf => ?_)
    refine jr_iconst (v := 1) hF dX12_cutsBy_34 rfl ?_
    obtain rfl := Option.some.inj hf
    exact jr_zreturn hF hE (Or.inr rfl) dX12_cutsBy_35
  · refine jr_iconst (v := 0) hF dX12_cutsBy_8 rfl ?_
    obtain rfl := Option.some.inj hf
    exact jr_zreturn hF hE (Or.inl rfl) dX12_cutsBy_9
def f_X12_cutsBy (σ : lt_S) (o : Nat) (x1 : Int32) (w : lt_W) : Option (Int32 × lt_W) := fb_X12_cutsBy_0 σ o x1 w
set_option maxRecDepth 100000 in
theorem c_X12_cutsBy {l : Launch} {D : va_G} {gA : Nat → ClassId} {s0 : State} {σ : lt_S} (hT : lt_Wt σ) {o : Nat} (h0 : lt_c σ o = 12) {x1 : Int32} {w : lt_W} {r : Int32 × lt_W} (hf : f_X12_cutsBy σ o x1 w = some r) : lt_C l D gA s0 yX12_cutsBy cX12_cutsBy 2 (some .boolean) (lt_rm 5) [.ref (s0.heap.size + o), .int x1] σ w σ (some (.int r.1)) r.2 := by
  refine lt_enter rfl (Nat.le_of_ble_eq_true rfl) (fun X e1 e2 e3 e4 hF hE => ?_)
  subst e1 e2 e3 e4
  exact jb_X12_cutsBy_0 hT h0 hF hE _ _ hf

set_option maxRecDepth 100000 in
def fb_X12_orNone_0 (σ : lt_S) (o : Nat) (x1 : Int32) (w : lt_W) : Option (Int32 × lt_W) := if x1 = (-1) then Option.bind (f_X12_refuse σ o 6 w) (fun q2 => some (q2.1, q2.2)) else Option.bind (f_X12_gives σ o x1 w) (fun q1 => some (q1.1, q1.2))
set_option maxHeartbeats 4000000 in
set_option maxRecDepth 100000 in
theorem jb_X12_orNone_0 {X : lt_X} {σ : lt_S} {o : Nat} (h0 : lt_c σ o = 12) {r : Int32 × lt_W} (hF : lt_F X cX12_orNone RX12 2 (lt_rm 2)) (hE : lt_E X 0 0 σ (some .int) (some (.int r.1)) r.2) : ∀ (x1 : Int32) (w : lt_W), fb_X12_orNone_0 σ o x1 w = some r → lt_J X 0 0 σ w 0 [(0, .ref (lt_z X + o)), (1, .int x1)] [] := by
  intro x1 w hf
  unfold fb_X12_orNone_0 at hf
  refine jr_iload_n hF dX12_orNone_0 1 rfl rfl ?_
  refine jr_iconst (v := (-1)) hF dX12_orNone_1 rfl ?_
  refine jr_icmp_ne (tgt := 12) hF dX12_orNone_2 rfl hf (fun hf => ?_) (fun hf => ?_)
  · refine jr_aload_n hF dX12_orNone_12 0 rfl rfl ?_
    refine jr_iload_n hF dX12_orNone_13 1 rfl rfl ?_
    obtain ⟨q1, hq1, hf⟩ := Option.bind_eq_some_iff.mp hf
    refine jr_cV11 hF ml_X12_101 (c_X12_gives h0 hq1) h0 ⟨Nat.le_of_ble_eq_true rfl, Nat.le_of_ble_eq_true rfl⟩ (Nat.le_of_ble_eq_true rfl) dX12_orNone_14 ?_
    obtain rfl := Option.some.inj hf
    exact jr_ireturn hF hE dX12_orNone_17
  · refine jr_aload_n hF dX12_orNone_5 0 rfl rfl ?_
    refine jr_bipush (v := 6) hF dX12_orNone_6 rfl ?_
    obtain ⟨q2, hq2, hf⟩ := Option.bind_eq_some_iff.mp hf
    refine jr_cV11 hF ml_X12_97 (c_X12_refuse h0 hq2) h0 ⟨Nat.le_of_ble_eq_true rfl, Nat.le_of_ble_eq_true rfl⟩ (Nat.le_of_ble_eq_true rfl) dX12_orNone_8 ?_
    obtain rfl := Option.some.inj hf
    exact jr_ireturn hF hE dX12_orNone_11
def f_X12_orNone (σ : lt_S) (o : Nat) (x1 : Int32) (w : lt_W) : Option (Int32 × lt_W) := fb_X12_orNone_0 σ o x1 w
set_option maxRecDepth 100000 in
theorem c_X12_orNone {l : Launch} {D : va_G} {gA : Nat → ClassId} {s0 : State} {σ : lt_S} {o : Nat} (h0 : lt_c σ o = 12) {x1 : Int32} {w : lt_W} {r : Int32 × lt_W} (hf : f_X12_orNone σ o x1 w = some r) : lt_C l D gA s0 yX12_orNone cX12_orNone 2 (some .int) (lt_rm 2) [.ref (s0.heap.size + o), .int x1] σ w σ (some (.int r.1)) r.2 := by
  refine lt_enter rfl (Nat.le_of_ble_eq_true rfl) (fun X e1 e2 e3 e4 hF hE => ?_)
  subst e1 e2 e3 e4
  exact jb_X12_orNone_0 h0 hF hE _ _ hf

set_option maxRecDepth 100000 in
def fb_X12_cutter_0 (σ : lt_S) (o : Nat) (w : lt_W) : Option (Int32 × lt_W) := Option.bind (f_X12_firstCutter σ o w) (fun q1 => Option.bind (f_X12_orNone σ o q1 w) (fun q2 => some (q2.1, q2.2)))
set_option maxHeartbeats 4000000 in
set_option maxRecDepth 100000 in
theorem jb_X12_cutter_0 {X : lt_X} {σ : lt_S} (hT : lt_Wt σ) {o : Nat} (h0 : lt_c σ o = 12) {r : Int32 × lt_W} (hF : lt_F X cX12_cutter RX12 1 (lt_rm 5)) (hE : lt_E X 0 0 σ (some .int) (some (.int r.1)) r.2) : ∀ (w : lt_W), fb_X12_cutter_0 σ o w = some r → lt_J X 0 0 σ w 0 [(0, .ref (lt_z X + o))] [] := by
  intro w hf
  unfold fb_X12_cutter_0 at hf
  refine jr_aload_n hF dX12_cutter_0 0 rfl rfl ?_
  refine jr_aload_n hF dX12_cutter_1 0 rfl rfl ?_
  obtain ⟨q1, hq1, hf⟩ := Option.bind_eq_some_iff.mp hf
  refine jr_cV01 hF ml_X12_290 (c_X12_firstCutter hT h0 hq1) h0 ⟨Nat.le_of_ble_eq_true rfl, Nat.le_of_ble_eq_true rfl⟩ (Nat.le_of_ble_eq_true rfl) dX12_cutter_2 ?_
  obtain ⟨q2, hq2, hf⟩ := Option.bind_eq_some_iff.mp hf
  refine jr_cV11 hF ml_X12_284 (c_X12_orNone h0 hq2) h0 ⟨Nat.le_of_ble_eq_true rfl, Nat.le_of_ble_eq_true rfl⟩ (Nat.le_of_ble_eq_true rfl) dX12_cutter_5 ?_
  obtain rfl := Option.some.inj hf
  exact jr_ireturn hF hE dX12_cutter_8
def f_X12_cutter (σ : lt_S) (o : Nat) (w : lt_W) : Option (Int32 × lt_W) := fb_X12_cutter_0 σ o w
set_option maxRecDepth 100000 in
theorem c_X12_cutter {l : Launch} {D : va_G} {gA : Nat → ClassId} {s0 : State} {σ : lt_S} (hT : lt_Wt σ) {o : Nat} (h0 : lt_c σ o = 12) {w : lt_W} {r : Int32 × lt_W} (hf : f_X12_cutter σ o w = some r) : lt_C l D gA s0 yX12_cutter cX12_cutter 1 (some .int) (lt_rm 5) [.ref (s0.heap.size + o)] σ w σ (some (.int r.1)) r.2 := by
  refine lt_enter rfl (Nat.le_of_ble_eq_true rfl) (fun X e1 e2 e3 e4 hF hE => ?_)
  subst e1 e2 e3 e4
  exact jb_X12_cutter_0 hT h0 hF hE _ hf

set_option maxRecDepth 100000 in
def fb_X12_day_0 (σ : lt_S) (o : Nat) (x1 : Int32) (w : lt_W) : Option (Int32 × lt_W) := Option.bind (f_X12_isFrom x1.toInt64 1 999) (fun q1 => if q1 = 0 then Option.bind (f_X12_refuse σ o 1 w) (fun q8 => some (q8.1, q8.2)) else lt_ck 6 (lt_len σ (lt_r σ o 0)) (if ((lt_gi w (lt_r σ o 0) (6 : Int32).toNatClampNeg) + x1) ≤ 9999 then Option.bind (f_X12_daysGo σ o x1 w) (fun q3 => Option.bind (f_X12_areHere σ o q3) (fun q4 => Option.bind (f_X12_bits q4) (fun q5 => Option.bind (f_X12_gives σ o q5 q3) (fun q6 => some (q6.1, q6.2))))) else Option.bind (f_X12_refuse σ o 7 w) (fun q7 => some (q7.1, q7.2))))
set_option maxHeartbeats 4000000 in
set_option maxRecDepth 100000 in
theorem jb_X12_day_0 {X : lt_X} {σ : lt_S} (hT : lt_Wt σ) {o : Nat} (h0 : lt_c σ o = 12) {r : Int32 × lt_W} (hF : lt_F X cX12_day RX12 2 (lt_rm 8)) (hE : lt_E X 0 0 σ (some .int) (some (.int r.1)) r.2) : ∀ (x1 : Int32) (w : lt_W), fb_X12_day_0 σ o x1 w = some r → lt_J X 0 0 σ w 0 [(0, .ref (lt_z X + o)), (1, .int x1)] [] := by
  intro x1 w hf
  unfold fb_X12_day_0 at hf
  refine jr_iload_n hF dX12_day_0 1 rfl rfl ?_
  refine jr_i2l hF dX12_day_1 ?_
  refine jr_lconst (v := 1) hF dX12_day_2 rfl ?_
  refine jr_ldc2 (v := 999) hF dX12_day_3 kc_X12_305 ?_
  obtain ⟨q1, hq1, hf⟩ := Option.bind_eq_some_iff.mp hf
  refine jr_cS31 hF ml_X12_307 (c_X12_isFrom hq1) ⟨Nat.le_of_ble_eq_true rfl, Nat.le_of_ble_eq_true rfl⟩ (Nat.le_of_ble_eq_true rfl) dX12_day_6 ?_
  refine jr_if_ne (tgt := 18) hF dX12_day_9 rfl hf (fun hf => ?_) (fun hf => ?_)
  · refine jr_aload_n hF dX12_day_18 0 rfl rfl ?_
    refine jr_getRT (cr := 50) hF gf_X12_7 hT h0 rfl rfl dX12_day_19 (fun th2 => ?_)
    refine jr_bipush (v := 6) hF dX12_day_22 rfl ?_
    refine jr_iaload hF th2 dX12_day_24 hf (fun hf => ?_)
    refine jr_iload_n hF dX12_day_25 1 rfl rfl ?_
    refine jr_iadd hF dX12_day_26 ?_
    refine jr_sipush (v := 9999) hF dX12_day_27 rfl ?_
    refine jr_icmp_le (tgt := 40) hF dX12_day_30 rfl hf (fun hf => ?_) (fun hf => ?_)
    · refine jr_aload_n hF dX12_day_40 0 rfl rfl ?_
      refine jr_iload_n hF dX12_day_41 1 rfl rfl ?_
      obtain ⟨q3, hq3, hf⟩ := Option.bind_eq_some_iff.mp hf
      refine jr_cV1v hF ml_X12_311 (c_X12_daysGo hT h0 hq3) h0 ⟨Nat.le_of_ble_eq_true rfl, Nat.le_of_ble_eq_true rfl⟩ (Nat.le_of_ble_eq_true rfl) dX12_day_42 ?_
      refine jr_aload_n hF dX12_day_45 0 rfl rfl ?_
      refine jr_aload_n hF dX12_day_46 0 rfl rfl ?_
      obtain ⟨q4, hq4, hf⟩ := Option.bind_eq_some_iff.mp hf
      refine jr_cV01 hF ml_X12_275 (c_X12_areHere hT h0 hq4) h0 ⟨Nat.le_of_ble_eq_true rfl, Nat.le_of_ble_eq_true rfl⟩ (Nat.le_of_ble_eq_true rfl) dX12_day_47 ?_
      obtain ⟨q5, hq5, hf⟩ := Option.bind_eq_some_iff.mp hf
      refine jr_cS11 hF ml_X12_293 (c_X12_bits hq5) ⟨Nat.le_of_ble_eq_true rfl, Nat.le_of_ble_eq_true rfl⟩ (Nat.le_of_ble_eq_true rfl) dX12_day_50 ?_
      obtain ⟨q6, hq6, hf⟩ := Option.bind_eq_some_iff.mp hf
      refine jr_cV11 hF ml_X12_101 (c_X12_gives h0 hq6) h0 ⟨Nat.le_of_ble_eq_true rfl, Nat.le_of_ble_eq_true rfl⟩ (Nat.le_of_ble_eq_true rfl) dX12_day_53 ?_
      obtain rfl := Option.some.inj hf
      exact jr_ireturn hF hE dX12_day_56
    · refine jr_aload_n hF dX12_day_33 0 rfl rfl ?_
      refine jr_bipush (v := 7) hF dX12_day_34 rfl ?_
      obtain ⟨q7, hq7, hf⟩ := Option.bind_eq_some_iff.mp hf
      refine jr_cV11 hF ml_X12_97 (c_X12_refuse h0 hq7) h0 ⟨Nat.le_of_ble_eq_true rfl, Nat.le_of_ble_eq_true rfl⟩ (Nat.le_of_ble_eq_true rfl) dX12_day_36 ?_
      obtain rfl := Option.some.inj hf
      exact jr_ireturn hF hE dX12_day_39
  · refine jr_aload_n hF dX12_day_12 0 rfl rfl ?_
    refine jr_iconst (v := 1) hF dX12_day_13 rfl ?_
    obtain ⟨q8, hq8, hf⟩ := Option.bind_eq_some_iff.mp hf
    refine jr_cV11 hF ml_X12_97 (c_X12_refuse h0 hq8) h0 ⟨Nat.le_of_ble_eq_true rfl, Nat.le_of_ble_eq_true rfl⟩ (Nat.le_of_ble_eq_true rfl) dX12_day_14 ?_
    obtain rfl := Option.some.inj hf
    exact jr_ireturn hF hE dX12_day_17
def f_X12_day (σ : lt_S) (o : Nat) (x1 : Int32) (w : lt_W) : Option (Int32 × lt_W) := fb_X12_day_0 σ o x1 w
set_option maxRecDepth 100000 in
theorem c_X12_day {l : Launch} {D : va_G} {gA : Nat → ClassId} {s0 : State} {σ : lt_S} (hT : lt_Wt σ) {o : Nat} (h0 : lt_c σ o = 12) {x1 : Int32} {w : lt_W} {r : Int32 × lt_W} (hf : f_X12_day σ o x1 w = some r) : lt_C l D gA s0 yX12_day cX12_day 2 (some .int) (lt_rm 8) [.ref (s0.heap.size + o), .int x1] σ w σ (some (.int r.1)) r.2 := by
  refine lt_enter rfl (Nat.le_of_ble_eq_true rfl) (fun X e1 e2 e3 e4 hF hE => ?_)
  subst e1 e2 e3 e4
  exact jb_X12_day_0 hT h0 hF hE _ _ hf

set_option maxRecDepth 100000 in
def fb_X12_daysBy_73 (σ : lt_S) (o : Nat) (k19 : Int32 → Int32 → lt_W → Option (Int32 × lt_W)) (x1 : Int32) (x2 : Int32) (y0 : Nat) (y1 : Int32) (y2 : Int32) (y3 : Int32) (w : lt_W) : Option (Int32 × lt_W) := lt_ck y1 (lt_len σ y0) (lt_let (lt_si w y0 y1.toNatClampNeg (y2 + y3)) (fun w1 => k19 x1 (x2 + 1) w1))
set_option maxHeartbeats 4000000 in
set_option maxRecDepth 100000 in
theorem jb_X12_daysBy_73 {X : lt_X} {σ : lt_S} (hT : lt_Wt σ) {o : Nat} (h0 : lt_c σ o = 12) {r : Int32 × lt_W} {k19 : Int32 → Int32 → lt_W → Option (Int32 × lt_W)} (hF : lt_F X cX12_daysBy RX12 4 (lt_rm 7)) (hE : lt_E X 0 0 σ (some .boolean) (some (.int r.1)) r.2) (hk19 : ∀ (x1 : Int32) (x2 : Int32) (w : lt_W), k19 x1 x2 w = some r → lt_J X 0 0 σ w 19 [(0, .ref (lt_z X + o)), (1, .int x1), (2, .int x2)] []) : ∀ (x1 : Int32) (x2 : Int32) (y0 : Nat) (y1 : Int32) (y2 : Int32) (y3 : Int32) (w : lt_W), lt_c σ y0 = 50 → fb_X12_daysBy_73 σ o k19 x1 x2 y0 y1 y2 y3 w = some r → lt_J X 0 0 σ w 73 [(0, .ref (lt_z X + o)), (1, .int x1), (2, .int x2)] [.int y3, .int y2, .int y1, .ref (lt_z X + y0)] := by
  intro x1 x2 y0 y1 y2 y3 w u0 hf
  unfold fb_X12_daysBy_73 at hf
  refine jr_iadd hF dX12_daysBy_73 ?_
  refine jr_iastore hF u0 dX12_daysBy_74 hf (fun hf => ?_)
  refine jr_letW hf (fun w1 hf => ?_)
  refine jr_iinc (v := x2 + 1) (lv' := [(0, .ref (lt_z X + o)), (1, .int x1), (2, .int (x2 + 1))]) hF dX12_daysBy_75 2 rfl rfl (by decide) [1, 2, 0] rfl ?_
  refine jr_goto (tgt := 19) hF dX12_daysBy_78 rfl ?_
  exact hk19 _ _ _ hf
set_option maxRecDepth 100000 in
def fb_X12_daysBy_72 (σ : lt_S) (o : Nat) (k19 : Int32 → Int32 → lt_W → Option (Int32 × lt_W)) (x1 : Int32) (x2 : Int32) (y0 : Nat) (y1 : Int32) (y2 : Int32) (w : lt_W) : Option (Int32 × lt_W) := fb_X12_daysBy_73 σ o k19 x1 x2 y0 y1 y2 0 w
set_option maxHeartbeats 4000000 in
set_option maxRecDepth 100000 in
theorem jb_X12_daysBy_72 {X : lt_X} {σ : lt_S} (hT : lt_Wt σ) {o : Nat} (h0 : lt_c σ o = 12) {r : Int32 × lt_W} {k19 : Int32 → Int32 → lt_W → Option (Int32 × lt_W)} (hF : lt_F X cX12_daysBy RX12 4 (lt_rm 7)) (hE : lt_E X 0 0 σ (some .boolean) (some (.int r.1)) r.2) (hk19 : ∀ (x1 : Int32) (x2 : Int32) (w : lt_W), k19 x1 x2 w = some r → lt_J X 0 0 σ w 19 [(0, .ref (lt_z X + o)), (1, .int x1), (2, .int x2)] []) : ∀ (x1 : Int32) (x2 : Int32) (y0 : Nat) (y1 : Int32) (y2 : Int32) (w : lt_W), lt_c σ y0 = 50 → fb_X12_daysBy_72 σ o k19 x1 x2 y0 y1 y2 w = some r → lt_J X 0 0 σ w 72 [(0, .ref (lt_z X + o)), (1, .int x1), (2, .int x2)] [.int y2, .int y1, .ref (lt_z X + y0)] := by
  intro x1 x2 y0 y1 y2 w u0 hf
  unfold fb_X12_daysBy_72 at hf
  refine jr_iconst (v := 0) hF dX12_daysBy_72 rfl ?_
  exact jb_X12_daysBy_73 hT h0 hF hE hk19 _ _ _ _ _ _ _ u0 hf
set_option maxRecDepth 100000 in
def fb_X12_daysBy_46 (σ : lt_S) (o : Nat) (k19 : Int32 → Int32 → lt_W → Option (Int32 × lt_W)) (x1 : Int32) (x2 : Int32) (x3 : Int32) (y0 : Nat) (y1 : Int32) (y2 : Int32) (y3 : Int32) (w : lt_W) : Option (Int32 × lt_W) := lt_ck y1 (lt_len σ y0) (lt_let (lt_si w y0 y1.toNatClampNeg (y2 + y3)) (fun w1 => lt_ck 3 (lt_len σ (lt_r σ o 37)) (if x3 = (-1) then fb_X12_daysBy_72 σ o k19 x1 x2 (lt_r σ o 37) 3 (lt_gi w1 (lt_r σ o 37) (3 : Int32).toNatClampNeg) w1 else Option.bind (f_X12_isHere σ o x3 w1) (fun q3 => if q3 = 0 then fb_X12_daysBy_73 σ o k19 x1 x2 (lt_r σ o 37) 3 (lt_gi w1 (lt_r σ o 37) (3 : Int32).toNatClampNeg) 1 w1 else fb_X12_daysBy_72 σ o k19 x1 x2 (lt_r σ o 37) 3 (lt_gi w1 (lt_r σ o 37) (3 : Int32).toNatClampNeg) w1))))
set_option maxHeartbeats 4000000 in
set_option maxRecDepth 100000 in
theorem jb_X12_daysBy_46 {X : lt_X} {σ : lt_S} (hT : lt_Wt σ) {o : Nat} (h0 : lt_c σ o = 12) {r : Int32 × lt_W} {k19 : Int32 → Int32 → lt_W → Option (Int32 × lt_W)} (hF : lt_F X cX12_daysBy RX12 4 (lt_rm 7)) (hE : lt_E X 0 0 σ (some .boolean) (some (.int r.1)) r.2) (hk19 : ∀ (x1 : Int32) (x2 : Int32) (w : lt_W), k19 x1 x2 w = some r → lt_J X 0 0 σ w 19 [(0, .ref (lt_z X + o)), (1, .int x1), (2, .int x2)] []) : ∀ (x1 : Int32) (x2 : Int32) (x3 : Int32) (y0 : Nat) (y1 : Int32) (y2 : Int32) (y3 : Int32) (w : lt_W), lt_c σ y0 = 50 → fb_X12_daysBy_46 σ o k19 x1 x2 x3 y0 y1 y2 y3 w = some r → lt_J X 0 0 σ w 46 [(0, .ref (lt_z X + o)), (1, .int x1), (2, .int x2), (3, .int x3)] [.int y3, .int y2, .int y1, .ref (lt_z X + y0)] := by
  intro x1 x2 x3 y0 y1 y2 y3 w u0 hf
  unfold fb_X12_daysBy_46 at hf
  refine jr_iadd hF dX12_daysBy_46 ?_
  refine jr_iastore hF u0 dX12_daysBy_47 hf (fun hf => ?_)
  refine jr_letW hf (fun w1 hf => ?_)
  refine jr_aload_n hF dX12_daysBy_48 0 rfl rfl ?_
  refine jr_getRT (cr := 50) hF gf_X12_81 hT h0 rfl rfl dX12_daysBy_49 (fun th2 => ?_)
  refine jr_iconst (v := 3) hF dX12_daysBy_52 rfl ?_
  refine jr_dup2 hF dX12_daysBy_53 rfl rfl ?_
  refine jr_iaload hF th2 dX12_daysBy_54 hf (fun hf => ?_)
  refine jr_iload_n hF dX12_daysBy_55 3 rfl rfl ?_
  refine jr_iconst (v := (-1)) hF dX12_daysBy_56 rfl ?_
  refine jr_icmp_eq (tgt := 72) hF dX12_daysBy_57 rfl hf (fun hf => ?_) (fun hf => ?_)
  · refine jr_sub [0, 1, 2] rfl ?_
    exact jb_X12_daysBy_72 hT h0 hF hE hk19 _ _ _ _ _ _ th2 hf
  · refine jr_aload_n hF dX12_daysBy_60 0 rfl rfl ?_
    refine jr_iload_n hF dX12_daysBy_61 3 rfl rfl ?_
    obtain ⟨q3, hq3, hf⟩ := Option.bind_eq_some_iff.mp hf
    refine jr_cV11 hF ml_X12_272 (c_X12_isHere hT h0 hq3) h0 ⟨Nat.le_of_ble_eq_true rfl, Nat.le_of_ble_eq_true rfl⟩ (Nat.le_of_ble_eq_true rfl) dX12_daysBy_62 ?_
    refine jr_if_ne (tgt := 72) hF dX12_daysBy_65 rfl hf (fun hf => ?_) (fun hf => ?_)
    · refine jr_sub [0, 1, 2] rfl ?_
      exact jb_X12_daysBy_72 hT h0 hF hE hk19 _ _ _ _ _ _ th2 hf
    · refine jr_iconst (v := 1) hF dX12_daysBy_68 rfl ?_
      refine jr_goto (tgt := 73) hF dX12_daysBy_69 rfl ?_
      refine jr_sub [0, 1, 2] rfl ?_
      exact jb_X12_daysBy_73 hT h0 hF hE hk19 _ _ _ _ _ _ _ th2 hf
set_option maxRecDepth 100000 in
def fb_X12_daysBy_19 (σ : lt_S) (o : Nat) : Nat → Int32 → Int32 → lt_W → Option (Int32 × lt_W)
  | 0, _, _, _ => none
  | n + 1, x1, x2, w => if x1 ≤ x2 then lt_ck 1 (lt_len σ (lt_r σ o 37)) (lt_ck 1 (lt_len σ (lt_r σ o 37)) (lt_let (lt_si w (lt_r σ o 37) (1 : Int32).toNatClampNeg ((lt_gi w (lt_r σ o 37) (1 : Int32).toNatClampNeg) + x1)) (fun w2 => some (1, w2)))) else Option.bind (f_X12_dayGoes σ o w) (fun q3 => lt_ck 2 (lt_len σ (lt_r σ o 37)) (if q3.1 = (-1) then fb_X12_daysBy_46 σ o (fun x1 x2 w => fb_X12_daysBy_19 σ o n x1 x2 w) x1 x2 q3.1 (lt_r σ o 37) 2 (lt_gi q3.2 (lt_r σ o 37) (2 : Int32).toNatClampNeg) 0 q3.2 else fb_X12_daysBy_46 σ o (fun x1 x2 w => fb_X12_daysBy_19 σ o n x1 x2 w) x1 x2 q3.1 (lt_r σ o 37) 2 (lt_gi q3.2 (lt_r σ o 37) (2 : Int32).toNatClampNeg) 1 q3.2))
set_option maxHeartbeats 4000000 in
set_option maxRecDepth 100000 in
theorem jb_X12_daysBy_19 {X : lt_X} {σ : lt_S} (hT : lt_Wt σ) {o : Nat} (h0 : lt_c σ o = 12) {r : Int32 × lt_W} (hF : lt_F X cX12_daysBy RX12 4 (lt_rm 7)) (hE : lt_E X 0 0 σ (some .boolean) (some (.int r.1)) r.2) (n : Nat) : ∀ (x1 : Int32) (x2 : Int32) (w : lt_W), fb_X12_daysBy_19 σ o n x1 x2 w = some r → lt_J X 0 0 σ w 19 [(0, .ref (lt_z X + o)), (1, .int x1), (2, .int x2)] [] := by
  induction n with
  | zero => intro x1 x2 w hf; rw [fb_X12_daysBy_19] at hf; cases hf
  | succ n ih =>
    intro x1 x2 w hf
    rw [fb_X12_daysBy_19] at hf
    refine jr_iload_n hF dX12_daysBy_19 2 rfl rfl ?_
    refine jr_iload_n hF dX12_daysBy_20 1 rfl rfl ?_
    refine jr_icmp_ge (tgt := 81) hF dX12_daysBy_21 rfl hf (fun hf => ?_) (fun hf => ?_)
    · refine jr_aload_n hF dX12_daysBy_81 0 rfl rfl ?_
      refine jr_getRT (cr := 50) hF gf_X12_81 hT h0 rfl rfl dX12_daysBy_82 (fun th1 => ?_)
      refine jr_iconst (v := 1) hF dX12_daysBy_85 rfl ?_
      refine jr_dup2 hF dX12_daysBy_86 rfl rfl ?_
      refine jr_iaload hF th1 dX12_daysBy_87 hf (fun hf => ?_)
      refine jr_iload_n hF dX12_daysBy_88 1 rfl rfl ?_
      refine jr_iadd hF dX12_daysBy_89 ?_
      refine jr_iastore hF th1 dX12_daysBy_90 hf (fun hf => ?_)
      refine jr_letW hf (fun w2 hf => ?_)
      refine jr_iconst (v := 1) hF dX12_daysBy_91 rfl ?_
      obtain rfl := Option.some.inj hf
      exact jr_zreturn hF hE (Or.inr rfl) dX12_daysBy_92
    · refine jr_aload_n hF dX12_daysBy_24 0 rfl rfl ?_
      obtain ⟨q3, hq3, hf⟩ := Option.bind_eq_some_iff.mp hf
      refine jr_cV01 hF ml_X12_302 (c_X12_dayGoes hT h0 hq3) h0 ⟨Nat.le_of_ble_eq_true rfl, Nat.le_of_ble_eq_true rfl⟩ (Nat.le_of_ble_eq_true rfl) dX12_daysBy_25 ?_
      refine jr_istore_n (lv' := [(0, .ref (lt_z X + o)), (1, .int x1), (2, .int x2), (3, .int q3.1)]) hF dX12_daysBy_28 rfl (by decide) [1, 2, 3, 0] rfl ?_
      refine jr_aload_n hF dX12_daysBy_29 0 rfl rfl ?_
      refine jr_getRT (cr := 50) hF gf_X12_81 hT h0 rfl rfl dX12_daysBy_30 (fun th4 => ?_)
      refine jr_iconst (v := 2) hF dX12_daysBy_33 rfl ?_
      refine jr_dup2 hF dX12_daysBy_34 rfl rfl ?_
      refine jr_iaload hF th4 dX12_daysBy_35 hf (fun hf => ?_)
      refine jr_iload_n hF dX12_daysBy_36 3 rfl rfl ?_
      refine jr_iconst (v := (-1)) hF dX12_daysBy_37 rfl ?_
      refine jr_icmp_ne (tgt := 45) hF dX12_daysBy_38 rfl hf (fun hf => ?_) (fun hf => ?_)
      · refine jr_iconst (v := 1) hF dX12_daysBy_45 rfl ?_
        exact jb_X12_daysBy_46 hT h0 hF hE ih _ _ _ _ _ _ _ _ th4 hf
      · refine jr_iconst (v := 0) hF dX12_daysBy_41 rfl ?_
        refine jr_goto (tgt := 46) hF dX12_daysBy_42 rfl ?_
        exact jb_X12_daysBy_46 hT h0 hF hE ih _ _ _ _ _ _ _ _ th4 hf
set_option maxRecDepth 100000 in
def fb_X12_daysBy_0 (σ : lt_S) (o : Nat) (x1 : Int32) (w : lt_W) : Option (Int32 × lt_W) := lt_ck 6 (lt_len σ (lt_r σ o 0)) (if ((lt_gi w (lt_r σ o 0) (6 : Int32).toNatClampNeg) + x1) ≤ 9999 then fb_X12_daysBy_19 σ o lt_fu x1 0 w else some (0, w))
set_option maxHeartbeats 4000000 in
set_option maxRecDepth 100000 in
theorem jb_X12_daysBy_0 {X : lt_X} {σ : lt_S} (hT : lt_Wt σ) {o : Nat} (h0 : lt_c σ o = 12) {r : Int32 × lt_W} (hF : lt_F X cX12_daysBy RX12 4 (lt_rm 7)) (hE : lt_E X 0 0 σ (some .boolean) (some (.int r.1)) r.2) : ∀ (x1 : Int32) (w : lt_W), fb_X12_daysBy_0 σ o x1 w = some r → lt_J X 0 0 σ w 0 [(0, .ref (lt_z X + o)), (1, .int x1)] [] := by
  intro x1 w hf
  unfold fb_X12_daysBy_0 at hf
  refine jr_aload_n hF dX12_daysBy_0 0 rfl rfl ?_
  refine jr_getRT (cr := 50) hF gf_X12_7 hT h0 rfl rfl dX12_daysBy_1 (fun th1 => ?_)
  refine jr_bipush (v := 6) hF dX12_daysBy_4 rfl ?_
  refine jr_iaload hF th1 dX12_daysBy_6 hf (fun hf => ?_)
  refine jr_iload_n hF dX12_daysBy_7 1 rfl rfl ?_
  refine jr_iadd hF dX12_daysBy_8 ?_
  refine jr_sipush (v := 9999) hF dX12_daysBy_9 rfl ?_
  refine jr_icmp_le (tgt := 17) hF dX12_daysBy_12 rfl hf (fun hf => ?_) (fun hf => ?_)
  · refine jr_iconst (v := 0) hF dX12_daysBy_17 rfl ?_
    refine jr_istore_n (lv' := [(0, .ref (lt_z X + o)), (1, .int x1), (2, .int 0)]) hF dX12_daysBy_18 rfl (by decide) [1, 2, 0] rfl ?_
    exact jb_X12_daysBy_19 hT h0 hF hE lt_fu _ _ _ hf
  · refine jr_iconst (v := 0) hF dX12_daysBy_15 rfl ?_
    obtain rfl := Option.some.inj hf
    exact jr_zreturn hF hE (Or.inl rfl) dX12_daysBy_16
def f_X12_daysBy (σ : lt_S) (o : Nat) (x1 : Int32) (w : lt_W) : Option (Int32 × lt_W) := fb_X12_daysBy_0 σ o x1 w
set_option maxRecDepth 100000 in
theorem c_X12_daysBy {l : Launch} {D : va_G} {gA : Nat → ClassId} {s0 : State} {σ : lt_S} (hT : lt_Wt σ) {o : Nat} (h0 : lt_c σ o = 12) {x1 : Int32} {w : lt_W} {r : Int32 × lt_W} (hf : f_X12_daysBy σ o x1 w = some r) : lt_C l D gA s0 yX12_daysBy cX12_daysBy 4 (some .boolean) (lt_rm 7) [.ref (s0.heap.size + o), .int x1] σ w σ (some (.int r.1)) r.2 := by
  refine lt_enter rfl (Nat.le_of_ble_eq_true rfl) (fun X e1 e2 e3 e4 hF hE => ?_)
  subst e1 e2 e3 e4
  exact jb_X12_daysBy_0 hT h0 hF hE _ _ hf

set_option maxRecDepth 100000 in
def fb_X12_fedBy_0 (σ : lt_S) (o : Nat) (x1 : Int32) (w : lt_W) : Option (Int32 × lt_W) := Option.bind (f_X12_isHere σ o x1 w) (fun q1 => if q1 = 0 then some (0, w) else Option.bind (f_X12_guestOf σ o x1 4 w) (fun q2 => if q2 = 0 then some (0, w) else Option.bind (f_X12_guestRow x1) (fun q4 => lt_ck (q4 + 4) (lt_len σ (lt_r σ o 0)) (lt_let (lt_si w (lt_r σ o 0) (q4 + 4).toNatClampNeg 0) (fun w5 => some (1, w5))))))
set_option maxHeartbeats 4000000 in
set_option maxRecDepth 100000 in
theorem jb_X12_fedBy_0 {X : lt_X} {σ : lt_S} (hT : lt_Wt σ) {o : Nat} (h0 : lt_c σ o = 12) {r : Int32 × lt_W} (hF : lt_F X cX12_fedBy RX12 2 (lt_rm 4)) (hE : lt_E X 0 0 σ (some .boolean) (some (.int r.1)) r.2) : ∀ (x1 : Int32) (w : lt_W), fb_X12_fedBy_0 σ o x1 w = some r → lt_J X 0 0 σ w 0 [(0, .ref (lt_z X + o)), (1, .int x1)] [] := by
  intro x1 w hf
  unfold fb_X12_fedBy_0 at hf
  refine jr_aload_n hF dX12_fedBy_0 0 rfl rfl ?_
  refine jr_iload_n hF dX12_fedBy_1 1 rfl rfl ?_
  obtain ⟨q1, hq1, hf⟩ := Option.bind_eq_some_iff.mp hf
  refine jr_cV11 hF ml_X12_272 (c_X12_isHere hT h0 hq1) h0 ⟨Nat.le_of_ble_eq_true rfl, Nat.le_of_ble_eq_true rfl⟩ (Nat.le_of_ble_eq_true rfl) dX12_fedBy_2 ?_
  refine jr_if_eq (tgt := 17) hF dX12_fedBy_5 rfl hf (fun hf => ?_) (fun hf => ?_)
  · refine jr_iconst (v := 0) hF dX12_fedBy_17 rfl ?_
    obtain rfl := Option.some.inj hf
    exact jr_zreturn hF hE (Or.inl rfl) dX12_fedBy_18
  · refine jr_aload_n hF dX12_fedBy_8 0 rfl rfl ?_
    refine jr_iload_n hF dX12_fedBy_9 1 rfl rfl ?_
    refine jr_iconst (v := 4) hF dX12_fedBy_10 rfl ?_
    obtain ⟨q2, hq2, hf⟩ := Option.bind_eq_some_iff.mp hf
    refine jr_cV21 hF ml_X12_269 (c_X12_guestOf hT h0 hq2) h0 ⟨Nat.le_of_ble_eq_true rfl, Nat.le_of_ble_eq_true rfl⟩ (Nat.le_of_ble_eq_true rfl) dX12_fedBy_11 ?_
    refine jr_if_ne (tgt := 19) hF dX12_fedBy_14 rfl hf (fun hf => ?_) (fun hf => ?_)
    · refine jr_aload_n hF dX12_fedBy_19 0 rfl rfl ?_
      refine jr_getRT (cr := 50) hF gf_X12_7 hT h0 rfl rfl dX12_fedBy_20 (fun th3 => ?_)
      refine jr_iload_n hF dX12_fedBy_23 1 rfl rfl ?_
      obtain ⟨q4, hq4, hf⟩ := Option.bind_eq_some_iff.mp hf
      refine jr_cS11 hF ml_X12_192 (c_X12_guestRow hq4) ⟨Nat.le_of_ble_eq_true rfl, Nat.le_of_ble_eq_true rfl⟩ (Nat.le_of_ble_eq_true rfl) dX12_fedBy_24 ?_
      refine jr_iconst (v := 4) hF dX12_fedBy_27 rfl ?_
      refine jr_iadd hF dX12_fedBy_28 ?_
      refine jr_iconst (v := 0) hF dX12_fedBy_29 rfl ?_
      refine jr_iastore hF th3 dX12_fedBy_30 hf (fun hf => ?_)
      refine jr_letW hf (fun w5 hf => ?_)
      refine jr_iconst (v := 1) hF dX12_fedBy_31 rfl ?_
      obtain rfl := Option.some.inj hf
      exact jr_zreturn hF hE (Or.inr rfl) dX12_fedBy_32
    · refine jr_iconst (v := 0) hF dX12_fedBy_17 rfl ?_
      obtain rfl := Option.some.inj hf
      exact jr_zreturn hF hE (Or.inl rfl) dX12_fedBy_18
def f_X12_fedBy (σ : lt_S) (o : Nat) (x1 : Int32) (w : lt_W) : Option (Int32 × lt_W) := fb_X12_fedBy_0 σ o x1 w
set_option maxRecDepth 100000 in
theorem c_X12_fedBy {l : Launch} {D : va_G} {gA : Nat → ClassId} {s0 : State} {σ : lt_S} (hT : lt_Wt σ) {o : Nat} (h0 : lt_c σ o = 12) {x1 : Int32} {w : lt_W} {r : Int32 × lt_W} (hf : f_X12_fedBy σ o x1 w = some r) : lt_C l D gA s0 yX12_fedBy cX12_fedBy 2 (some .boolean) (lt_rm 4) [.ref (s0.heap.size + o), .int x1] σ w σ (some (.int r.1)) r.2 := by
  refine lt_enter rfl (Nat.le_of_ble_eq_true rfl) (fun X e1 e2 e3 e4 hF hE => ?_)
  subst e1 e2 e3 e4
  exact jb_X12_fedBy_0 hT h0 hF hE _ _ hf

set_option maxRecDepth 100000 in
def fb_X12_draw_0 (σ : lt_S) (o : Nat) (x1 : Int32) (w : lt_W) : Option (Int32 × lt_W) := lt_let (lt_si w o 34 ((((lt_gi w o 34) * 3283) + 11511) - (((lt_gi w o 34) * 3283) + 11511) / 65536 * 65536)) (fun w1 => lt_nz x1 (some (((lt_gi w1 o 34) / 8) - ((lt_gi w1 o 34) / 8) / x1 * x1, w1)))
set_option maxHeartbeats 4000000 in
set_option maxRecDepth 100000 in
theorem jb_X12_draw_0 {X : lt_X} {σ : lt_S} {o : Nat} (h0 : lt_c σ o = 12) {r : Int32 × lt_W} (hF : lt_F X cX12_draw RX12 2 (lt_rm 1)) (hE : lt_E X 0 0 σ (some .int) (some (.int r.1)) r.2) : ∀ (x1 : Int32) (w : lt_W), fb_X12_draw_0 σ o x1 w = some r → lt_J X 0 0 σ w 0 [(0, .ref (lt_z X + o)), (1, .int x1)] [] := by
  intro x1 w hf
  unfold fb_X12_draw_0 at hf
  refine jr_aload_n hF dX12_draw_0 0 rfl rfl ?_
  refine jr_aload_n hF dX12_draw_1 0 rfl rfl ?_
  refine jr_getI hF gf_X12_397 h0 dX12_draw_2 ?_
  refine jr_sipush (v := 3283) hF dX12_draw_5 rfl ?_
  refine jr_imul hF dX12_draw_8 ?_
  refine jr_sipush (v := 11511) hF dX12_draw_9 rfl ?_
  refine jr_iadd hF dX12_draw_12 ?_
  refine jr_ldcw (v := 65536) hF dX12_draw_13 kc_X12_400 ?_
  refine jr_iremc hF dX12_draw_16 (by decide) ?_
  refine jr_putI hF pf_X12_397 h0 dX12_draw_17 ?_
  refine jr_letW hf (fun w1 hf => ?_)
  refine jr_aload_n hF dX12_draw_20 0 rfl rfl ?_
  refine jr_getI hF gf_X12_397 h0 dX12_draw_21 ?_
  refine jr_bipush (v := 8) hF dX12_draw_24 rfl ?_
  refine jr_idivc hF dX12_draw_26 (by decide) ?_
  refine jr_iload_n hF dX12_draw_27 1 rfl rfl ?_
  refine jr_irem hF dX12_draw_28 hf (fun hf => ?_)
  obtain rfl := Option.some.inj hf
  exact jr_ireturn hF hE dX12_draw_29
def f_X12_draw (σ : lt_S) (o : Nat) (x1 : Int32) (w : lt_W) : Option (Int32 × lt_W) := fb_X12_draw_0 σ o x1 w
set_option maxRecDepth 100000 in
theorem c_X12_draw {l : Launch} {D : va_G} {gA : Nat → ClassId} {s0 : State} {σ : lt_S} {o : Nat} (h0 : lt_c σ o = 12) {x1 : Int32} {w : lt_W} {r : Int32 × lt_W} (hf : f_X12_draw σ o x1 w = some r) : lt_C l D gA s0 yX12_draw cX12_draw 2 (some .int) (lt_rm 1) [.ref (s0.heap.size + o), .int x1] σ w σ (some (.int r.1)) r.2 := by
  refine lt_enter rfl (Nat.le_of_ble_eq_true rfl) (fun X e1 e2 e3 e4 hF hE => ?_)
  subst e1 e2 e3 e4
  exact jb_X12_draw_0 h0 hF hE _ _ hf

set_option maxRecDepth 100000 in
def fb_X12_doesAny_0 (σ : lt_S) (o : Nat) (w : lt_W) : Option (Int32 × lt_W) := lt_ck 0 (lt_len σ (lt_r σ o 0)) (if (lt_gi w (lt_r σ o 0) (0 : Int32).toNatClampNeg) = 0 then some (0, w) else lt_ck 0 (lt_len σ (lt_r σ o 0)) (Option.bind (f_X12_draw σ o (lt_gi w (lt_r σ o 0) (0 : Int32).toNatClampNeg) w) (fun q3 => Option.bind (f_X12_draw σ o 16 q3.2) (fun q4 => lt_ck 1 (lt_len σ (lt_r σ o 0)) (if q4.1 < (lt_gi q4.2 (lt_r σ o 0) (1 : Int32).toNatClampNeg) then Option.bind (f_X12_isHere σ o q3.1 q4.2) (fun q6 => if q6 = 0 then some (0, q4.2) else Option.bind (f_X12_guestOf σ o q3.1 0 q4.2) (fun q7 => if q7 = 20 then some (0, q4.2) else Option.bind (f_X12_guestRow q3.1) (fun q9 => lt_ck q9 (lt_len σ (lt_r σ o 0)) (lt_ck q9 (lt_len σ (lt_r σ o 0)) (lt_let (lt_si q4.2 (lt_r σ o 0) q9.toNatClampNeg ((lt_gi q4.2 (lt_r σ o 0) q9.toNatClampNeg) + 1)) (fun w10 => some (1, w10))))))) else Option.bind (f_X12_daysBy σ o 1 q4.2) (fun q11 => lt_bz q11.1 (some (q11.1, q11.2))))))))
set_option maxHeartbeats 4000000 in
set_option maxRecDepth 100000 in
theorem jb_X12_doesAny_0 {X : lt_X} {σ : lt_S} (hT : lt_Wt σ) {o : Nat} (h0 : lt_c σ o = 12) {r : Int32 × lt_W} (hF : lt_F X cX12_doesAny RX12 2 (lt_rm 8)) (hE : lt_E X 0 0 σ (some .boolean) (some (.int r.1)) r.2) : ∀ (w : lt_W), fb_X12_doesAny_0 σ o w = some r → lt_J X 0 0 σ w 0 [(0, .ref (lt_z X + o))] [] := by
  intro w hf
  unfold fb_X12_doesAny_0 at hf
  refine jr_aload_n hF dX12_doesAny_0 0 rfl rfl ?_
  refine jr_getRT (cr := 50) hF gf_X12_7 hT h0 rfl rfl dX12_doesAny_1 (fun th1 => ?_)
  refine jr_iconst (v := 0) hF dX12_doesAny_4 rfl ?_
  refine jr_iaload hF th1 dX12_doesAny_5 hf (fun hf => ?_)
  refine jr_if_ne (tgt := 11) hF dX12_doesAny_6 rfl hf (fun hf => ?_) (fun hf => ?_)
  · refine jr_aload_n hF dX12_doesAny_11 0 rfl rfl ?_
    refine jr_aload_n hF dX12_doesAny_12 0 rfl rfl ?_
    refine jr_getRT (cr := 50) hF gf_X12_7 hT h0 rfl rfl dX12_doesAny_13 (fun th2 => ?_)
    refine jr_iconst (v := 0) hF dX12_doesAny_16 rfl ?_
    refine jr_iaload hF th2 dX12_doesAny_17 hf (fun hf => ?_)
    obtain ⟨q3, hq3, hf⟩ := Option.bind_eq_some_iff.mp hf
    refine jr_cV11 hF ml_X12_401 (c_X12_draw h0 hq3) h0 ⟨Nat.le_of_ble_eq_true rfl, Nat.le_of_ble_eq_true rfl⟩ (Nat.le_of_ble_eq_true rfl) dX12_doesAny_18 ?_
    refine jr_istore_n (lv' := [(0, .ref (lt_z X + o)), (1, .int q3.1)]) hF dX12_doesAny_21 rfl (by decide) [1, 0] rfl ?_
    refine jr_aload_n hF dX12_doesAny_22 0 rfl rfl ?_
    refine jr_bipush (v := 16) hF dX12_doesAny_23 rfl ?_
    obtain ⟨q4, hq4, hf⟩ := Option.bind_eq_some_iff.mp hf
    refine jr_cV11 hF ml_X12_401 (c_X12_draw h0 hq4) h0 ⟨Nat.le_of_ble_eq_true rfl, Nat.le_of_ble_eq_true rfl⟩ (Nat.le_of_ble_eq_true rfl) dX12_doesAny_25 ?_
    refine jr_aload_n hF dX12_doesAny_28 0 rfl rfl ?_
    refine jr_getRT (cr := 50) hF gf_X12_7 hT h0 rfl rfl dX12_doesAny_29 (fun th5 => ?_)
    refine jr_iconst (v := 1) hF dX12_doesAny_32 rfl ?_
    refine jr_iaload hF th5 dX12_doesAny_33 hf (fun hf => ?_)
    refine jr_icmp_lt (tgt := 43) hF dX12_doesAny_34 rfl hf (fun hf => ?_) (fun hf => ?_)
    · refine jr_aload_n hF dX12_doesAny_43 0 rfl rfl ?_
      refine jr_iload_n hF dX12_doesAny_44 1 rfl rfl ?_
      obtain ⟨q6, hq6, hf⟩ := Option.bind_eq_some_iff.mp hf
      refine jr_cV11 hF ml_X12_272 (c_X12_isHere hT h0 hq6) h0 ⟨Nat.le_of_ble_eq_true rfl, Nat.le_of_ble_eq_true rfl⟩ (Nat.le_of_ble_eq_true rfl) dX12_doesAny_45 ?_
      refine jr_if_eq (tgt := 62) hF dX12_doesAny_48 rfl hf (fun hf => ?_) (fun hf => ?_)
      · refine jr_iconst (v := 0) hF dX12_doesAny_62 rfl ?_
        obtain rfl := Option.some.inj hf
        exact jr_zreturn hF hE (Or.inl rfl) dX12_doesAny_63
      · refine jr_aload_n hF dX12_doesAny_51 0 rfl rfl ?_
        refine jr_iload_n hF dX12_doesAny_52 1 rfl rfl ?_
        refine jr_iconst (v := 0) hF dX12_doesAny_53 rfl ?_
        obtain ⟨q7, hq7, hf⟩ := Option.bind_eq_some_iff.mp hf
        refine jr_cV21 hF ml_X12_269 (c_X12_guestOf hT h0 hq7) h0 ⟨Nat.le_of_ble_eq_true rfl, Nat.le_of_ble_eq_true rfl⟩ (Nat.le_of_ble_eq_true rfl) dX12_doesAny_54 ?_
        refine jr_bipush (v := 20) hF dX12_doesAny_57 rfl ?_
        refine jr_icmp_ne (tgt := 64) hF dX12_doesAny_59 rfl hf (fun hf => ?_) (fun hf => ?_)
        · refine jr_aload_n hF dX12_doesAny_64 0 rfl rfl ?_
          refine jr_getRT (cr := 50) hF gf_X12_7 hT h0 rfl rfl dX12_doesAny_65 (fun th8 => ?_)
          refine jr_iload_n hF dX12_doesAny_68 1 rfl rfl ?_
          obtain ⟨q9, hq9, hf⟩ := Option.bind_eq_some_iff.mp hf
          refine jr_cS11 hF ml_X12_192 (c_X12_guestRow hq9) ⟨Nat.le_of_ble_eq_true rfl, Nat.le_of_ble_eq_true rfl⟩ (Nat.le_of_ble_eq_true rfl) dX12_doesAny_69 ?_
          refine jr_dup2 hF dX12_doesAny_72 rfl rfl ?_
          refine jr_iaload hF th8 dX12_doesAny_73 hf (fun hf => ?_)
          refine jr_iconst (v := 1) hF dX12_doesAny_74 rfl ?_
          refine jr_iadd hF dX12_doesAny_75 ?_
          refine jr_iastore hF th8 dX12_doesAny_76 hf (fun hf => ?_)
          refine jr_letW hf (fun w10 hf => ?_)
          refine jr_iconst (v := 1) hF dX12_doesAny_77 rfl ?_
          obtain rfl := Option.some.inj hf
          exact jr_zreturn hF hE (Or.inr rfl) dX12_doesAny_78
        · refine jr_iconst (v := 0) hF dX12_doesAny_62 rfl ?_
          obtain rfl := Option.some.inj hf
          exact jr_zreturn hF hE (Or.inl rfl) dX12_doesAny_63
    · refine jr_aload_n hF dX12_doesAny_37 0 rfl rfl ?_
      refine jr_iconst (v := 1) hF dX12_doesAny_38 rfl ?_
      obtain ⟨q11, hq11, hf⟩ := Option.bind_eq_some_iff.mp hf
      refine jr_cV11 hF ml_X12_404 (c_X12_daysBy hT h0 hq11) h0 ⟨Nat.le_of_ble_eq_true rfl, Nat.le_of_ble_eq_true rfl⟩ (Nat.le_of_ble_eq_true rfl) dX12_doesAny_39 ?_
      obtain ⟨b12, hf⟩ := lt_bzE hf
      obtain rfl := Option.some.inj hf
      exact jr_zreturn hF hE b12 dX12_doesAny_42
  · refine jr_iconst (v := 0) hF dX12_doesAny_9 rfl ?_
    obtain rfl := Option.some.inj hf
    exact jr_zreturn hF hE (Or.inl rfl) dX12_doesAny_10
def f_X12_doesAny (σ : lt_S) (o : Nat) (w : lt_W) : Option (Int32 × lt_W) := fb_X12_doesAny_0 σ o w
set_option maxRecDepth 100000 in
theorem c_X12_doesAny {l : Launch} {D : va_G} {gA : Nat → ClassId} {s0 : State} {σ : lt_S} (hT : lt_Wt σ) {o : Nat} (h0 : lt_c σ o = 12) {w : lt_W} {r : Int32 × lt_W} (hf : f_X12_doesAny σ o w = some r) : lt_C l D gA s0 yX12_doesAny cX12_doesAny 2 (some .boolean) (lt_rm 8) [.ref (s0.heap.size + o)] σ w σ (some (.int r.1)) r.2 := by
  refine lt_enter rfl (Nat.le_of_ble_eq_true rfl) (fun X e1 e2 e3 e4 hF hE => ?_)
  subst e1 e2 e3 e4
  exact jb_X12_doesAny_0 hT h0 hF hE _ hf

set_option maxRecDepth 100000 in
def fb_X12_does_0 (σ : lt_S) (o : Nat) (x1 : Int32) (w : lt_W) : Option (Int32 × lt_W) := lt_ck (x1 + 1) (lt_len σ (lt_r σ o 0)) (lt_let (lt_gi w (lt_r σ o 0) (x1 + 1).toNatClampNeg) (fun z2 => lt_ck x1 (lt_len σ (lt_r σ o 0)) (if (lt_gi w (lt_r σ o 0) x1.toNatClampNeg) = 6 then lt_ck (x1 + 2) (lt_len σ (lt_r σ o 0)) (Option.bind (f_X12_passes σ o z2 (lt_gi w (lt_r σ o 0) (x1 + 2).toNatClampNeg) w) (fun q5 => lt_bz q5.1 (some (q5.1, q5.2)))) else if (lt_gi w (lt_r σ o 0) x1.toNatClampNeg) = 11 then Option.bind (f_X12_daysBy σ o z2 w) (fun q8 => lt_bz q8.1 (some (q8.1, q8.2))) else if (lt_gi w (lt_r σ o 0) x1.toNatClampNeg) = 12 then Option.bind (f_X12_cutsBy σ o z2 w) (fun q11 => lt_bz q11.1 (some (q11.1, q11.2))) else if (lt_gi w (lt_r σ o 0) x1.toNatClampNeg) = 13 then Option.bind (f_X12_fedBy σ o z2 w) (fun q14 => lt_bz q14.1 (some (q14.1, q14.2))) else if (lt_gi w (lt_r σ o 0) x1.toNatClampNeg) = 14 then Option.bind (f_X12_bakes σ o z2 w) (fun q17 => lt_bz q17.1 (some (q17.1, q17.2))) else if (lt_gi w (lt_r σ o 0) x1.toNatClampNeg) = 15 then Option.bind (f_X12_doesAny σ o w) (fun q20 => lt_bz q20.1 (some (q20.1, q20.2))) else some (1, w))))
set_option maxHeartbeats 4000000 in
set_option maxRecDepth 100000 in
theorem jb_X12_does_0 {X : lt_X} {σ : lt_S} (hT : lt_Wt σ) {o : Nat} (h0 : lt_c σ o = 12) {r : Int32 × lt_W} (hF : lt_F X cX12_does RX12 3 (lt_rm 9)) (hE : lt_E X 0 0 σ (some .boolean) (some (.int r.1)) r.2) : ∀ (x1 : Int32) (w : lt_W), fb_X12_does_0 σ o x1 w = some r → lt_J X 0 0 σ w 0 [(0, .ref (lt_z X + o)), (1, .int x1)] [] := by
  intro x1 w hf
  unfold fb_X12_does_0 at hf
  refine jr_aload_n hF dX12_does_0 0 rfl rfl ?_
  refine jr_getRT (cr := 50) hF gf_X12_7 hT h0 rfl rfl dX12_does_1 (fun th1 => ?_)
  refine jr_iload_n hF dX12_does_4 1 rfl rfl ?_
  refine jr_iconst (v := 1) hF dX12_does_5 rfl ?_
  refine jr_iadd hF dX12_does_6 ?_
  refine jr_iaload hF th1 dX12_does_7 hf (fun hf => ?_)
  refine jr_letI hf (fun z2 hf => ?_)
  refine jr_istore_n (lv' := [(0, .ref (lt_z X + o)), (1, .int x1), (2, .int z2)]) hF dX12_does_8 rfl (by decide) [1, 2, 0] rfl ?_
  refine jr_aload_n hF dX12_does_9 0 rfl rfl ?_
  refine jr_getRT (cr := 50) hF gf_X12_7 hT h0 rfl rfl dX12_does_10 (fun th3 => ?_)
  refine jr_iload_n hF dX12_does_13 1 rfl rfl ?_
  refine jr_iaload hF th3 dX12_does_14 hf (fun hf => ?_)
  by_cases c7 : (lt_gi w (lt_r σ o 0) x1.toNatClampNeg) = 6
  · rw [if_pos c7] at hf
    refine jr_tableIn (off := 65) (tgt := 80) hF dX12_does_15 (by rw [c7]; decide) (by rw [c7]; decide) (by rw [c7]; rfl) rfl ?_
    refine jr_aload_n hF dX12_does_80 0 rfl rfl ?_
    refine jr_iload_n hF dX12_does_81 2 rfl rfl ?_
    refine jr_aload_n hF dX12_does_82 0 rfl rfl ?_
    refine jr_getRT (cr := 50) hF gf_X12_7 hT h0 rfl rfl dX12_does_83 (fun th4 => ?_)
    refine jr_iload_n hF dX12_does_86 1 rfl rfl ?_
    refine jr_iconst (v := 2) hF dX12_does_87 rfl ?_
    refine jr_iadd hF dX12_does_88 ?_
    refine jr_iaload hF th4 dX12_does_89 hf (fun hf => ?_)
    obtain ⟨q5, hq5, hf⟩ := Option.bind_eq_some_iff.mp hf
    refine jr_cV21 hF ml_X12_320 (c_X12_passes hT h0 hq5) h0 ⟨Nat.le_of_ble_eq_true rfl, Nat.le_of_ble_eq_true rfl⟩ (Nat.le_of_ble_eq_true rfl) dX12_does_90 ?_
    obtain ⟨b6, hf⟩ := lt_bzE hf
    obtain rfl := Option.some.inj hf
    exact jr_zreturn hF hE b6 dX12_does_93
  rw [if_neg c7] at hf
  by_cases c10 : (lt_gi w (lt_r σ o 0) x1.toNatClampNeg) = 11
  · rw [if_pos c10] at hf
    refine jr_tableIn (off := 53) (tgt := 68) hF dX12_does_15 (by rw [c10]; decide) (by rw [c10]; decide) (by rw [c10]; rfl) rfl ?_
    refine jr_aload_n hF dX12_does_68 0 rfl rfl ?_
    refine jr_iload_n hF dX12_does_69 2 rfl rfl ?_
    obtain ⟨q8, hq8, hf⟩ := Option.bind_eq_some_iff.mp hf
    refine jr_cV11 hF ml_X12_404 (c_X12_daysBy hT h0 hq8) h0 ⟨Nat.le_of_ble_eq_true rfl, Nat.le_of_ble_eq_true rfl⟩ (Nat.le_of_ble_eq_true rfl) dX12_does_70 ?_
    obtain ⟨b9, hf⟩ := lt_bzE hf
    obtain rfl := Option.some.inj hf
    exact jr_zreturn hF hE b9 dX12_does_73
  rw [if_neg c10] at hf
  by_cases c13 : (lt_gi w (lt_r σ o 0) x1.toNatClampNeg) = 12
  · rw [if_pos c13] at hf
    refine jr_tableIn (off := 59) (tgt := 74) hF dX12_does_15 (by rw [c13]; decide) (by rw [c13]; decide) (by rw [c13]; rfl) rfl ?_
    refine jr_aload_n hF dX12_does_74 0 rfl rfl ?_
    refine jr_iload_n hF dX12_does_75 2 rfl rfl ?_
    obtain ⟨q11, hq11, hf⟩ := Option.bind_eq_some_iff.mp hf
    refine jr_cV11 hF ml_X12_407 (c_X12_cutsBy hT h0 hq11) h0 ⟨Nat.le_of_ble_eq_true rfl, Nat.le_of_ble_eq_true rfl⟩ (Nat.le_of_ble_eq_true rfl) dX12_does_76 ?_
    obtain ⟨b12, hf⟩ := lt_bzE hf
    obtain rfl := Option.some.inj hf
    exact jr_zreturn hF hE b12 dX12_does_79
  rw [if_neg c13] at hf
  by_cases c16 : (lt_gi w (lt_r σ o 0) x1.toNatClampNeg) = 13
  · rw [if_pos c16] at hf
    refine jr_tableIn (off := 79) (tgt := 94) hF dX12_does_15 (by rw [c16]; decide) (by rw [c16]; decide) (by rw [c16]; rfl) rfl ?_
    refine jr_aload_n hF dX12_does_94 0 rfl rfl ?_
    refine jr_iload_n hF dX12_does_95 2 rfl rfl ?_
    obtain ⟨q14, hq14, hf⟩ := Option.bind_eq_some_iff.mp hf
    refine jr_cV11 hF ml_X12_323 (c_X12_fedBy hT h0 hq14) h0 ⟨Nat.le_of_ble_eq_true rfl, Nat.le_of_ble_eq_true rfl⟩ (Nat.le_of_ble_eq_true rfl) dX12_does_96 ?_
    obtain ⟨b15, hf⟩ := lt_bzE hf
    obtain rfl := Option.some.inj hf
    exact jr_zreturn hF hE b15 dX12_does_99
  rw [if_neg c16] at hf
  by_cases c19 : (lt_gi w (lt_r σ o 0) x1.toNatClampNeg) = 14
  · rw [if_pos c19] at hf
    refine jr_tableIn (off := 85) (tgt := 100) hF dX12_does_15 (by rw [c19]; decide) (by rw [c19]; decide) (by rw [c19]; rfl) rfl ?_
    refine jr_aload_n hF dX12_does_100 0 rfl rfl ?_
    refine jr_iload_n hF dX12_does_101 2 rfl rfl ?_
    obtain ⟨q17, hq17, hf⟩ := Option.bind_eq_some_iff.mp hf
    refine jr_cV11 hF ml_X12_410 (c_X12_bakes hT h0 hq17) h0 ⟨Nat.le_of_ble_eq_true rfl, Nat.le_of_ble_eq_true rfl⟩ (Nat.le_of_ble_eq_true rfl) dX12_does_102 ?_
    obtain ⟨b18, hf⟩ := lt_bzE hf
    obtain rfl := Option.some.inj hf
    exact jr_zreturn hF hE b18 dX12_does_105
  rw [if_neg c19] at hf
  by_cases c22 : (lt_gi w (lt_r σ o 0) x1.toNatClampNeg) = 15
  · rw [if_pos c22] at hf
    refine jr_tableIn (off := 91) (tgt := 106) hF dX12_does_15 (by rw [c22]; decide) (by rw [c22]; decide) (by rw [c22]; rfl) rfl ?_
    refine jr_aload_n hF dX12_does_106 0 rfl rfl ?_
    obtain ⟨q20, hq20, hf⟩ := Option.bind_eq_some_iff.mp hf
    refine jr_cV01 hF ml_X12_413 (c_X12_doesAny hT h0 hq20) h0 ⟨Nat.le_of_ble_eq_true rfl, Nat.le_of_ble_eq_true rfl⟩ (Nat.le_of_ble_eq_true rfl) dX12_does_107 ?_
    obtain ⟨b21, hf⟩ := lt_bzE hf
    obtain rfl := Option.some.inj hf
    exact jr_zreturn hF hE b21 dX12_does_110
  rw [if_neg c22] at hf
  by_cases c23 : (lt_gi w (lt_r σ o 0) x1.toNatClampNeg) = 7
  · refine jr_tableIn (off := 96) (tgt := 111) hF dX12_does_15 (by rw [c23]; decide) (by rw [c23]; decide) (by rw [c23]; rfl) rfl ?_
    refine jr_iconst (v := 1) hF dX12_does_111 rfl ?_
    obtain rfl := Option.some.inj hf
    exact jr_zreturn hF hE (Or.inr rfl) dX12_does_112
  by_cases c24 : (lt_gi w (lt_r σ o 0) x1.toNatClampNeg) = 8
  · refine jr_tableIn (off := 96) (tgt := 111) hF dX12_does_15 (by rw [c24]; decide) (by rw [c24]; decide) (by rw [c24]; rfl) rfl ?_
    refine jr_iconst (v := 1) hF dX12_does_111 rfl ?_
    obtain rfl := Option.some.inj hf
    exact jr_zreturn hF hE (Or.inr rfl) dX12_does_112
  by_cases c25 : (lt_gi w (lt_r σ o 0) x1.toNatClampNeg) = 9
  · refine jr_tableIn (off := 96) (tgt := 111) hF dX12_does_15 (by rw [c25]; decide) (by rw [c25]; decide) (by rw [c25]; rfl) rfl ?_
    refine jr_iconst (v := 1) hF dX12_does_111 rfl ?_
    obtain rfl := Option.some.inj hf
    exact jr_zreturn hF hE (Or.inr rfl) dX12_does_112
  by_cases c26 : (lt_gi w (lt_r σ o 0) x1.toNatClampNeg) = 10
  · refine jr_tableIn (off := 96) (tgt := 111) hF dX12_does_15 (by rw [c26]; decide) (by rw [c26]; decide) (by rw [c26]; rfl) rfl ?_
    refine jr_iconst (v := 1) hF dX12_does_111 rfl ?_
    obtain rfl := Option.some.inj hf
    exact jr_zreturn hF hE (Or.inr rfl) dX12_does_112
  refine jr_tableOut (tgt := 111) hF dX12_does_15 (lt_swd fun kk h1 h2 => by rcases (show kk = 6 ∨ kk = 11 ∨ kk = 12 ∨ kk = 13 ∨ kk = 14 ∨ kk = 15 ∨ kk = 7 ∨ kk = 8 ∨ kk = 9 ∨ kk = 10 by omega) with rfl | rfl | rfl | rfl | rfl | rfl | rfl | rfl | rfl | rfl <;> first | exact c7 | exact c10 | exact c13 | exact c16 | exact c19 | exact c22 | exact c23 | exact c24 | exact c25 | exact c26) rfl ?_
  refine jr_iconst (v := 1) hF dX12_does_111 rfl ?_
  obtain rfl := Option.some.inj hf
  exact jr_zreturn hF hE (Or.inr rfl) dX12_does_112
def f_X12_does (σ : lt_S) (o : Nat) (x1 : Int32) (w : lt_W) : Option (Int32 × lt_W) := fb_X12_does_0 σ o x1 w
set_option maxRecDepth 100000 in
theorem c_X12_does {l : Launch} {D : va_G} {gA : Nat → ClassId} {s0 : State} {σ : lt_S} (hT : lt_Wt σ) {o : Nat} (h0 : lt_c σ o = 12) {x1 : Int32} {w : lt_W} {r : Int32 × lt_W} (hf : f_X12_does σ o x1 w = some r) : lt_C l D gA s0 yX12_does cX12_does 3 (some .boolean) (lt_rm 9) [.ref (s0.heap.size + o), .int x1] σ w σ (some (.int r.1)) r.2 := by
  refine lt_enter rfl (Nat.le_of_ble_eq_true rfl) (fun X e1 e2 e3 e4 hF hE => ?_)
  subst e1 e2 e3 e4
  exact jb_X12_does_0 hT h0 hF hE _ _ hf

set_option maxRecDepth 100000 in
def fb_X12_fault_0 (σ : lt_S) (o : Nat) (w : lt_W) (x1 : Int32) : Option Int32 := if x1 = 0 then some (lt_gi w o 16) else if x1 = 1 then some (lt_gi w o 17) else some (-1)
set_option maxHeartbeats 4000000 in
set_option maxRecDepth 100000 in
theorem jb_X12_fault_0 {X : lt_X} {σ : lt_S} {o : Nat} (h0 : lt_c σ o = 12) {r : Int32} {w : lt_W} (hF : lt_F X cX12_fault RX12 2 (lt_rm 1)) (hE : lt_E X 0 0 σ (some .int) (some (.int r)) w) : ∀ (x1 : Int32), fb_X12_fault_0 σ o w x1 = some r → lt_J X 0 0 σ w 0 [(0, .ref (lt_z X + o)), (1, .int x1)] [] := by
  intro x1 hf
  unfold fb_X12_fault_0 at hf
  refine jr_iload_n hF dX12_fault_0 1 rfl rfl ?_
  refine jr_if_ne (tgt := 11) hF dX12_fault_1 rfl hf (fun hf => ?_) (fun hf => ?_)
  · refine jr_iload_n hF dX12_fault_11 1 rfl rfl ?_
    refine jr_iconst (v := 1) hF dX12_fault_12 rfl ?_
    refine jr_icmp_ne (tgt := 23) hF dX12_fault_13 rfl hf (fun hf => ?_) (fun hf => ?_)
    · refine jr_iconst (v := (-1)) hF dX12_fault_23 rfl ?_
      obtain rfl := Option.some.inj hf
      exact jr_ireturn hF hE dX12_fault_24
    · refine jr_aload_n hF dX12_fault_16 0 rfl rfl ?_
      refine jr_getI hF gf_X12_41 h0 dX12_fault_17 ?_
      refine jr_goto (tgt := 24) hF dX12_fault_20 rfl ?_
      obtain rfl := Option.some.inj hf
      exact jr_ireturn hF hE dX12_fault_24
  · refine jr_aload_n hF dX12_fault_4 0 rfl rfl ?_
    refine jr_getI hF gf_X12_37 h0 dX12_fault_5 ?_
    refine jr_goto (tgt := 24) hF dX12_fault_8 rfl ?_
    obtain rfl := Option.some.inj hf
    exact jr_ireturn hF hE dX12_fault_24
def f_X12_fault (σ : lt_S) (o : Nat) (x1 : Int32) (w : lt_W) : Option Int32 := fb_X12_fault_0 σ o w x1
set_option maxRecDepth 100000 in
theorem c_X12_fault {l : Launch} {D : va_G} {gA : Nat → ClassId} {s0 : State} {σ : lt_S} {o : Nat} (h0 : lt_c σ o = 12) {x1 : Int32} {w : lt_W} {r : Int32} (hf : f_X12_fault σ o x1 w = some r) : lt_C l D gA s0 yX12_fault cX12_fault 2 (some .int) (lt_rm 1) [.ref (s0.heap.size + o), .int x1] σ w σ (some (.int r)) w := by
  refine lt_enter rfl (Nat.le_of_ble_eq_true rfl) (fun X e1 e2 e3 e4 hF hE => ?_)
  subst e1 e2 e3 e4
  exact jb_X12_fault_0 h0 hF hE _ hf

set_option maxRecDepth 100000 in
def fb_X12_four_3 (σ : lt_S) (o : Nat) : Nat → Int32 → Int32 → lt_W → Option lt_W
  | 0, _, _, _ => none
  | n + 1, x1, x2, w => if x2 < 0 then some w else lt_ck (lt_gi w o 10) (lt_len σ (lt_r σ o 8)) (lt_let (lt_si w (lt_r σ o 8) (lt_gi w o 10).toNatClampNeg (vp_nar .byte ((x1 >>> (x2 &&& 31)).toInt8.toInt32))) (fun w2 => lt_let (lt_si w2 o 10 ((lt_gi w2 o 10) + 1)) (fun w3 => fb_X12_four_3 σ o n x1 (x2 + (-8)) w3)))
set_option maxHeartbeats 4000000 in
set_option maxRecDepth 100000 in
theorem jb_X12_four_3 {X : lt_X} {σ : lt_S} (hT : lt_Wt σ) {o : Nat} (h0 : lt_c σ o = 12) {r : lt_W} (hF : lt_F X cX12_four RX12 3 (lt_rm 1)) (hE : lt_E X 0 0 σ none none r) (n : Nat) : ∀ (x1 : Int32) (x2 : Int32) (w : lt_W), fb_X12_four_3 σ o n x1 x2 w = some r → lt_J X 0 0 σ w 3 [(0, .ref (lt_z X + o)), (1, .int x1), (2, .int x2)] [] := by
  induction n with
  | zero => intro x1 x2 w hf; rw [fb_X12_four_3] at hf; cases hf
  | succ n ih =>
    intro x1 x2 w hf
    rw [fb_X12_four_3] at hf
    refine jr_iload_n hF dX12_four_3 2 rfl rfl ?_
    refine jr_if_lt (tgt := 36) hF dX12_four_4 rfl hf (fun hf => ?_) (fun hf => ?_)
    · obtain rfl := Option.some.inj hf
      exact jr_return hF hE dX12_four_36
    · refine jr_aload_n hF dX12_four_7 0 rfl rfl ?_
      refine jr_getRT (cr := 52) hF gf_X12_30 hT h0 rfl rfl dX12_four_8 (fun th1 => ?_)
      refine jr_aload_n hF dX12_four_11 0 rfl rfl ?_
      refine jr_getI hF gf_X12_121 h0 dX12_four_12 ?_
      refine jr_iload_n hF dX12_four_15 1 rfl rfl ?_
      refine jr_iload_n hF dX12_four_16 2 rfl rfl ?_
      refine jr_ishr hF dX12_four_17 ?_
      refine jr_i2b hF dX12_four_18 ?_
      refine jr_bastoreB hF th1 dX12_four_19 hf (fun hf => ?_)
      refine jr_letW hf (fun w2 hf => ?_)
      refine jr_aload_n hF dX12_four_20 0 rfl rfl ?_
      refine jr_dup hF dX12_four_21 rfl ?_
      refine jr_getI hF gf_X12_121 h0 dX12_four_22 ?_
      refine jr_iconst (v := 1) hF dX12_four_25 rfl ?_
      refine jr_iadd hF dX12_four_26 ?_
      refine jr_putI hF pf_X12_121 h0 dX12_four_27 ?_
      refine jr_letW hf (fun w3 hf => ?_)
      refine jr_iinc (v := x2 + (-8)) (lv' := [(0, .ref (lt_z X + o)), (1, .int x1), (2, .int (x2 + (-8)))]) hF dX12_four_30 2 rfl rfl (by decide) [1, 2, 0] rfl ?_
      refine jr_goto (tgt := 3) hF dX12_four_33 rfl ?_
      exact ih _ _ _ hf
set_option maxRecDepth 100000 in
def fb_X12_four_0 (σ : lt_S) (o : Nat) (x1 : Int32) (w : lt_W) : Option lt_W := fb_X12_four_3 σ o lt_fu x1 24 w
set_option maxHeartbeats 4000000 in
set_option maxRecDepth 100000 in
theorem jb_X12_four_0 {X : lt_X} {σ : lt_S} (hT : lt_Wt σ) {o : Nat} (h0 : lt_c σ o = 12) {r : lt_W} (hF : lt_F X cX12_four RX12 3 (lt_rm 1)) (hE : lt_E X 0 0 σ none none r) : ∀ (x1 : Int32) (w : lt_W), fb_X12_four_0 σ o x1 w = some r → lt_J X 0 0 σ w 0 [(0, .ref (lt_z X + o)), (1, .int x1)] [] := by
  intro x1 w hf
  unfold fb_X12_four_0 at hf
  refine jr_bipush (v := 24) hF dX12_four_0 rfl ?_
  refine jr_istore_n (lv' := [(0, .ref (lt_z X + o)), (1, .int x1), (2, .int 24)]) hF dX12_four_2 rfl (by decide) [1, 2, 0] rfl ?_
  exact jb_X12_four_3 hT h0 hF hE lt_fu _ _ _ hf
def f_X12_four (σ : lt_S) (o : Nat) (x1 : Int32) (w : lt_W) : Option lt_W := fb_X12_four_0 σ o x1 w
set_option maxRecDepth 100000 in
theorem c_X12_four {l : Launch} {D : va_G} {gA : Nat → ClassId} {s0 : State} {σ : lt_S} (hT : lt_Wt σ) {o : Nat} (h0 : lt_c σ o = 12) {x1 : Int32} {w : lt_W} {r : lt_W} (hf : f_X12_four σ o x1 w = some r) : lt_C l D gA s0 yX12_four cX12_four 3 none (lt_rm 1) [.ref (s0.heap.size + o), .int x1] σ w σ none r := by
  refine lt_enter rfl (Nat.le_of_ble_eq_true rfl) (fun X e1 e2 e3 e4 hF hE => ?_)
  subst e1 e2 e3 e4
  exact jb_X12_four_0 hT h0 hF hE _ _ hf

set_option maxRecDepth 100000 in
def fb_X12_feed_0 (σ : lt_S) (o : Nat) (x1 : Int32) (x2 : Int32) (x3 : Int32) (x4 : Int32) (x5 : Int32) (w : lt_W) : Option (Int32 × lt_W) := if ((lt_gi w o 10) + 20) ≤ 900 then Option.bind (f_X12_four σ o x1 w) (fun q1 => Option.bind (f_X12_four σ o x2 q1) (fun q2 => Option.bind (f_X12_four σ o x3 q2) (fun q3 => Option.bind (f_X12_four σ o x4 q3) (fun q4 => Option.bind (f_X12_four σ o x5 q4) (fun q5 => some (lt_gi q5 o 10, q5)))))) else some ((-1), w)
set_option maxHeartbeats 4000000 in
set_option maxRecDepth 100000 in
theorem jb_X12_feed_0 {X : lt_X} {σ : lt_S} (hT : lt_Wt σ) {o : Nat} (h0 : lt_c σ o = 12) {r : Int32 × lt_W} (hF : lt_F X cX12_feed RX12 6 (lt_rm 2)) (hE : lt_E X 0 0 σ (some .int) (some (.int r.1)) r.2) : ∀ (x1 : Int32) (x2 : Int32) (x3 : Int32) (x4 : Int32) (x5 : Int32) (w : lt_W), fb_X12_feed_0 σ o x1 x2 x3 x4 x5 w = some r → lt_J X 0 0 σ w 0 [(0, .ref (lt_z X + o)), (1, .int x1), (2, .int x2), (3, .int x3), (4, .int x4), (5, .int x5)] [] := by
  intro x1 x2 x3 x4 x5 w hf
  unfold fb_X12_feed_0 at hf
  refine jr_aload_n hF dX12_feed_0 0 rfl rfl ?_
  refine jr_getI hF gf_X12_121 h0 dX12_feed_1 ?_
  refine jr_bipush (v := 20) hF dX12_feed_4 rfl ?_
  refine jr_iadd hF dX12_feed_6 ?_
  refine jr_sipush (v := 900) hF dX12_feed_7 rfl ?_
  refine jr_icmp_le (tgt := 15) hF dX12_feed_10 rfl hf (fun hf => ?_) (fun hf => ?_)
  · refine jr_aload_n hF dX12_feed_15 0 rfl rfl ?_
    refine jr_iload_n hF dX12_feed_16 1 rfl rfl ?_
    obtain ⟨q1, hq1, hf⟩ := Option.bind_eq_some_iff.mp hf
    refine jr_cV1v hF ml_X12_124 (c_X12_four hT h0 hq1) h0 ⟨Nat.le_of_ble_eq_true rfl, Nat.le_of_ble_eq_true rfl⟩ (Nat.le_of_ble_eq_true rfl) dX12_feed_17 ?_
    refine jr_aload_n hF dX12_feed_20 0 rfl rfl ?_
    refine jr_iload_n hF dX12_feed_21 2 rfl rfl ?_
    obtain ⟨q2, hq2, hf⟩ := Option.bind_eq_some_iff.mp hf
    refine jr_cV1v hF ml_X12_124 (c_X12_four hT h0 hq2) h0 ⟨Nat.le_of_ble_eq_true rfl, Nat.le_of_ble_eq_true rfl⟩ (Nat.le_of_ble_eq_true rfl) dX12_feed_22 ?_
    refine jr_aload_n hF dX12_feed_25 0 rfl rfl ?_
    refine jr_iload_n hF dX12_feed_26 3 rfl rfl ?_
    obtain ⟨q3, hq3, hf⟩ := Option.bind_eq_some_iff.mp hf
    refine jr_cV1v hF ml_X12_124 (c_X12_four hT h0 hq3) h0 ⟨Nat.le_of_ble_eq_true rfl, Nat.le_of_ble_eq_true rfl⟩ (Nat.le_of_ble_eq_true rfl) dX12_feed_27 ?_
    refine jr_aload_n hF dX12_feed_30 0 rfl rfl ?_
    refine jr_iload hF dX12_feed_31 4 rfl ?_
    obtain ⟨q4, hq4, hf⟩ := Option.bind_eq_some_iff.mp hf
    refine jr_cV1v hF ml_X12_124 (c_X12_four hT h0 hq4) h0 ⟨Nat.le_of_ble_eq_true rfl, Nat.le_of_ble_eq_true rfl⟩ (Nat.le_of_ble_eq_true rfl) dX12_feed_33 ?_
    refine jr_aload_n hF dX12_feed_36 0 rfl rfl ?_
    refine jr_iload hF dX12_feed_37 5 rfl ?_
    obtain ⟨q5, hq5, hf⟩ := Option.bind_eq_some_iff.mp hf
    refine jr_cV1v hF ml_X12_124 (c_X12_four hT h0 hq5) h0 ⟨Nat.le_of_ble_eq_true rfl, Nat.le_of_ble_eq_true rfl⟩ (Nat.le_of_ble_eq_true rfl) dX12_feed_39 ?_
    refine jr_aload_n hF dX12_feed_42 0 rfl rfl ?_
    refine jr_getI hF gf_X12_121 h0 dX12_feed_43 ?_
    obtain rfl := Option.some.inj hf
    exact jr_ireturn hF hE dX12_feed_46
  · refine jr_iconst (v := (-1)) hF dX12_feed_13 rfl ?_
    obtain rfl := Option.some.inj hf
    exact jr_ireturn hF hE dX12_feed_14
def f_X12_feed (σ : lt_S) (o : Nat) (x1 : Int32) (x2 : Int32) (x3 : Int32) (x4 : Int32) (x5 : Int32) (w : lt_W) : Option (Int32 × lt_W) := fb_X12_feed_0 σ o x1 x2 x3 x4 x5 w
set_option maxRecDepth 100000 in
theorem c_X12_feed {l : Launch} {D : va_G} {gA : Nat → ClassId} {s0 : State} {σ : lt_S} (hT : lt_Wt σ) {o : Nat} (h0 : lt_c σ o = 12) {x1 : Int32} {x2 : Int32} {x3 : Int32} {x4 : Int32} {x5 : Int32} {w : lt_W} {r : Int32 × lt_W} (hf : f_X12_feed σ o x1 x2 x3 x4 x5 w = some r) : lt_C l D gA s0 yX12_feed cX12_feed 6 (some .int) (lt_rm 2) [.ref (s0.heap.size + o), .int x1, .int x2, .int x3, .int x4, .int x5] σ w σ (some (.int r.1)) r.2 := by
  refine lt_enter rfl (Nat.le_of_ble_eq_true rfl) (fun X e1 e2 e3 e4 hF hE => ?_)
  subst e1 e2 e3 e4
  exact jb_X12_feed_0 hT h0 hF hE _ _ _ _ _ _ hf

set_option maxRecDepth 100000 in
def fb_X12_settles_50 (σ : lt_S) (o : Nat) (x1 : Int32) (x2 : Int32) (w : lt_W) : Option lt_W := lt_ck x1 (lt_len σ (lt_r σ o 32)) (lt_let (lt_si w (lt_r σ o 32) x1.toNatClampNeg x2) (fun w2 => lt_ck x1 (lt_len σ (lt_r σ o 24)) (lt_ck x1 (lt_len σ (lt_r σ o 33)) (lt_let (lt_si w2 (lt_r σ o 33) x1.toNatClampNeg (lt_gi w2 (lt_r σ o 24) x1.toNatClampNeg)) (fun w5 => some w5)))))
set_option maxHeartbeats 4000000 in
set_option maxRecDepth 100000 in
theorem jb_X12_settles_50 {X : lt_X} {σ : lt_S} (hT : lt_Wt σ) {o : Nat} (h0 : lt_c σ o = 12) {r : lt_W} (hF : lt_F X cX12_settles RX12 4 (lt_rm 1)) (hE : lt_E X 0 0 σ none none r) : ∀ (x1 : Int32) (x2 : Int32) (w : lt_W), fb_X12_settles_50 σ o x1 x2 w = some r → lt_J X 0 0 σ w 50 [(0, .ref (lt_z X + o)), (1, .int x1), (2, .int x2)] [] := by
  intro x1 x2 w hf
  unfold fb_X12_settles_50 at hf
  refine jr_aload_n hF dX12_settles_50 0 rfl rfl ?_
  refine jr_getRT (cr := 50) hF gf_X12_72 hT h0 rfl rfl dX12_settles_51 (fun th1 => ?_)
  refine jr_iload_n hF dX12_settles_54 1 rfl rfl ?_
  refine jr_iload_n hF dX12_settles_55 2 rfl rfl ?_
  refine jr_iastore hF th1 dX12_settles_56 hf (fun hf => ?_)
  refine jr_letW hf (fun w2 hf => ?_)
  refine jr_aload_n hF dX12_settles_57 0 rfl rfl ?_
  refine jr_getRT (cr := 50) hF gf_X12_75 hT h0 rfl rfl dX12_settles_58 (fun th3 => ?_)
  refine jr_iload_n hF dX12_settles_61 1 rfl rfl ?_
  refine jr_aload_n hF dX12_settles_62 0 rfl rfl ?_
  refine jr_getRT (cr := 50) hF gf_X12_47 hT h0 rfl rfl dX12_settles_63 (fun th4 => ?_)
  refine jr_iload_n hF dX12_settles_66 1 rfl rfl ?_
  refine jr_iaload hF th4 dX12_settles_67 hf (fun hf => ?_)
  refine jr_iastore hF th3 dX12_settles_68 hf (fun hf => ?_)
  refine jr_letW hf (fun w5 hf => ?_)
  obtain rfl := Option.some.inj hf
  exact jr_return hF hE dX12_settles_69
set_option maxRecDepth 100000 in
def fb_X12_settles_15 (σ : lt_S) (o : Nat) (x1 : Int32) (x2 : Int32) (y0 : Int32) (w : lt_W) : Option lt_W := if y0 = 0 then if (x1 - x1 / 2 * 2) = 0 then lt_ck x1 (lt_len σ (lt_r σ o 32)) (if (lt_gi w (lt_r σ o 32) x1.toNatClampNeg) < x2 then fb_X12_settles_50 σ o x1 x2 w else some w) else lt_ck x1 (lt_len σ (lt_r σ o 32)) (if x2 < (lt_gi w (lt_r σ o 32) x1.toNatClampNeg) then fb_X12_settles_50 σ o x1 x2 w else some w) else fb_X12_settles_50 σ o x1 x2 w
set_option maxHeartbeats 4000000 in
set_option maxRecDepth 100000 in
theorem jb_X12_settles_15 {X : lt_X} {σ : lt_S} (hT : lt_Wt σ) {o : Nat} (h0 : lt_c σ o = 12) {r : lt_W} (hF : lt_F X cX12_settles RX12 4 (lt_rm 1)) (hE : lt_E X 0 0 σ none none r) : ∀ (x1 : Int32) (x2 : Int32) (y0 : Int32) (w : lt_W), fb_X12_settles_15 σ o x1 x2 y0 w = some r → lt_J X 0 0 σ w 15 [(0, .ref (lt_z X + o)), (1, .int x1), (2, .int x2)] [.int y0] := by
  intro x1 x2 y0 w hf
  unfold fb_X12_settles_15 at hf
  refine jr_istore_n (lv' := [(0, .ref (lt_z X + o)), (1, .int x1), (2, .int x2), (3, .int y0)]) hF dX12_settles_15 rfl (by decide) [1, 2, 3, 0] rfl ?_
  refine jr_iload_n hF dX12_settles_16 3 rfl rfl ?_
  refine jr_if_ne (tgt := 50) hF dX12_settles_17 rfl hf (fun hf => ?_) (fun hf => ?_)
  · refine jr_sub [0, 1, 2] rfl ?_
    exact jb_X12_settles_50 hT h0 hF hE _ _ _ hf
  · refine jr_iload_n hF dX12_settles_20 1 rfl rfl ?_
    refine jr_iconst (v := 2) hF dX12_settles_21 rfl ?_
    refine jr_iremc hF dX12_settles_22 (by decide) ?_
    refine jr_if_ne (tgt := 39) hF dX12_settles_23 rfl hf (fun hf => ?_) (fun hf => ?_)
    · refine jr_iload_n hF dX12_settles_39 2 rfl rfl ?_
      refine jr_aload_n hF dX12_settles_40 0 rfl rfl ?_
      refine jr_getRT (cr := 50) hF gf_X12_72 hT h0 rfl rfl dX12_settles_41 (fun th1 => ?_)
      refine jr_iload_n hF dX12_settles_44 1 rfl rfl ?_
      refine jr_iaload hF th1 dX12_settles_45 hf (fun hf => ?_)
      refine jr_icmp_lt (tgt := 50) hF dX12_settles_46 rfl hf (fun hf => ?_) (fun hf => ?_)
      · refine jr_sub [0, 1, 2] rfl ?_
        exact jb_X12_settles_50 hT h0 hF hE _ _ _ hf
      · obtain rfl := Option.some.inj hf
        exact jr_return hF hE dX12_settles_49
    · refine jr_iload_n hF dX12_settles_26 2 rfl rfl ?_
      refine jr_aload_n hF dX12_settles_27 0 rfl rfl ?_
      refine jr_getRT (cr := 50) hF gf_X12_72 hT h0 rfl rfl dX12_settles_28 (fun th2 => ?_)
      refine jr_iload_n hF dX12_settles_31 1 rfl rfl ?_
      refine jr_iaload hF th2 dX12_settles_32 hf (fun hf => ?_)
      refine jr_icmp_gt (tgt := 50) hF dX12_settles_33 rfl hf (fun hf => ?_) (fun hf => ?_)
      · refine jr_sub [0, 1, 2] rfl ?_
        exact jb_X12_settles_50 hT h0 hF hE _ _ _ hf
      · refine jr_goto (tgt := 49) hF dX12_settles_36 rfl ?_
        obtain rfl := Option.some.inj hf
        exact jr_return hF hE dX12_settles_49
set_option maxRecDepth 100000 in
def fb_X12_settles_0 (σ : lt_S) (o : Nat) (x1 : Int32) (x2 : Int32) (w : lt_W) : Option lt_W := lt_ck x1 (lt_len σ (lt_r σ o 33)) (if (lt_gi w (lt_r σ o 33) x1.toNatClampNeg) = (-1) then fb_X12_settles_15 σ o x1 x2 1 w else fb_X12_settles_15 σ o x1 x2 0 w)
set_option maxHeartbeats 4000000 in
set_option maxRecDepth 100000 in
theorem jb_X12_settles_0 {X : lt_X} {σ : lt_S} (hT : lt_Wt σ) {o : Nat} (h0 : lt_c σ o = 12) {r : lt_W} (hF : lt_F X cX12_settles RX12 4 (lt_rm 1)) (hE : lt_E X 0 0 σ none none r) : ∀ (x1 : Int32) (x2 : Int32) (w : lt_W), fb_X12_settles_0 σ o x1 x2 w = some r → lt_J X 0 0 σ w 0 [(0, .ref (lt_z X + o)), (1, .int x1), (2, .int x2)] [] := by
  intro x1 x2 w hf
  unfold fb_X12_settles_0 at hf
  refine jr_aload_n hF dX12_settles_0 0 rfl rfl ?_
  refine jr_getRT (cr := 50) hF gf_X12_75 hT h0 rfl rfl dX12_settles_1 (fun th1 => ?_)
  refine jr_iload_n hF dX12_settles_4 1 rfl rfl ?_
  refine jr_iaload hF th1 dX12_settles_5 hf (fun hf => ?_)
  refine jr_iconst (v := (-1)) hF dX12_settles_6 rfl ?_
  refine jr_icmp_ne (tgt := 14) hF dX12_settles_7 rfl hf (fun hf => ?_) (fun hf => ?_)
  · refine jr_iconst (v := 0) hF dX12_settles_14 rfl ?_
    exact jb_X12_settles_15 hT h0 hF hE _ _ _ _ hf
  · refine jr_iconst (v := 1) hF dX12_settles_10 rfl ?_
    refine jr_goto (tgt := 15) hF dX12_settles_11 rfl ?_
    exact jb_X12_settles_15 hT h0 hF hE _ _ _ _ hf
def f_X12_settles (σ : lt_S) (o : Nat) (x1 : Int32) (x2 : Int32) (w : lt_W) : Option lt_W := fb_X12_settles_0 σ o x1 x2 w
set_option maxRecDepth 100000 in
theorem c_X12_settles {l : Launch} {D : va_G} {gA : Nat → ClassId} {s0 : State} {σ : lt_S} (hT : lt_Wt σ) {o : Nat} (h0 : lt_c σ o = 12) {x1 : Int32} {x2 : Int32} {w : lt_W} {r : lt_W} (hf : f_X12_settles σ o x1 x2 w = some r) : lt_C l D gA s0 yX12_settles cX12_settles 4 none (lt_rm 1) [.ref (s0.heap.size + o), .int x1, .int x2] σ w σ none r := by
  refine lt_enter rfl (Nat.le_of_ble_eq_true rfl) (fun X e1 e2 e3 e4 hF hE => ?_)
  subst e1 e2 e3 e4
  exact jb_X12_settles_0 hT h0 hF hE _ _ _ hf
