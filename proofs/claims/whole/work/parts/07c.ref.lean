set_option maxRecDepth 100000 in
def fb_X12_copies_41 (σ : lt_S) (o : Nat) : Nat → Int32 → Int32 → Int32 → lt_W → Option lt_W
  | 0, _, _, _, _ => none
  | n + 1, x1, x2, x3, w => if 7 ≤ x3 then some w else lt_ck ((7 * x1) + x3) (lt_len σ (lt_r σ o 1)) (lt_ck ((7 * x2) + x3) (lt_len σ (lt_r σ o 1)) (lt_let (lt_sl w (lt_r σ o 1) ((7 * x2) + x3).toNatClampNeg (lt_gl w (lt_r σ o 1) ((7 * x1) + x3).toNatClampNeg)) (fun w3 => fb_X12_copies_41 σ o n x1 x2 (x3 + 1) w3)))
set_option maxHeartbeats 4000000 in
set_option maxRecDepth 100000 in
theorem jb_X12_copies_41 {X : lt_X} {σ : lt_S} (hT : lt_Wt σ) {o : Nat} (h0 : lt_c σ o = 12) {r : lt_W} (hF : lt_F X cX12_copies RX12 4 (lt_rm 1)) (hE : lt_E X 0 0 σ none none r) (n : Nat) : ∀ (x1 : Int32) (x2 : Int32) (x3 : Int32) (w : lt_W), fb_X12_copies_41 σ o n x1 x2 x3 w = some r → lt_J X 0 0 σ w 41 [(0, .ref (lt_z X + o)), (1, .int x1), (2, .int x2), (3, .int x3)] [] := by
  induction n with
  | zero => intro x1 x2 x3 w hf; rw [fb_X12_copies_41] at hf; cases hf
  | succ n ih =>
    intro x1 x2 x3 w hf
    rw [fb_X12_copies_41] at hf
    refine jr_iload_n hF dX12_copies_41 3 rfl rfl ?_
    refine jr_bipush (v := 7) hF dX12_copies_42 rfl ?_
    refine jr_icmp_ge (tgt := 75) hF dX12_copies_44 rfl hf (fun hf => ?_) (fun hf => ?_)
    · obtain rfl := Option.some.inj hf
      exact jr_return hF hE dX12_copies_75
    · refine jr_aload_n hF dX12_copies_47 0 rfl rfl ?_
      refine jr_getRT (cr := 51) hF gf_X12_13 hT h0 rfl rfl dX12_copies_48 (fun th1 => ?_)
      refine jr_bipush (v := 7) hF dX12_copies_51 rfl ?_
      refine jr_iload_n hF dX12_copies_53 2 rfl rfl ?_
      refine jr_imul hF dX12_copies_54 ?_
      refine jr_iload_n hF dX12_copies_55 3 rfl rfl ?_
      refine jr_iadd hF dX12_copies_56 ?_
      refine jr_aload_n hF dX12_copies_57 0 rfl rfl ?_
      refine jr_getRT (cr := 51) hF gf_X12_13 hT h0 rfl rfl dX12_copies_58 (fun th2 => ?_)
      refine jr_bipush (v := 7) hF dX12_copies_61 rfl ?_
      refine jr_iload_n hF dX12_copies_63 1 rfl rfl ?_
      refine jr_imul hF dX12_copies_64 ?_
      refine jr_iload_n hF dX12_copies_65 3 rfl rfl ?_
      refine jr_iadd hF dX12_copies_66 ?_
      refine jr_laload hF th2 dX12_copies_67 hf (fun hf => ?_)
      refine jr_lastore hF th1 dX12_copies_68 hf (fun hf => ?_)
      refine jr_letW hf (fun w3 hf => ?_)
      refine jr_iinc (v := x3 + 1) (lv' := [(0, .ref (lt_z X + o)), (1, .int x1), (2, .int x2), (3, .int (x3 + 1))]) hF dX12_copies_69 3 rfl rfl (by decide) [1, 2, 3, 0] rfl ?_
      refine jr_goto (tgt := 41) hF dX12_copies_72 rfl ?_
      exact ih _ _ _ _ hf
set_option maxRecDepth 100000 in
def fb_X12_copies_2 (σ : lt_S) (o : Nat) : Nat → Int32 → Int32 → Int32 → lt_W → Option lt_W
  | 0, _, _, _, _ => none
  | n + 1, x1, x2, x3, w => if 428 ≤ x3 then fb_X12_copies_41 σ o lt_fu x1 x2 0 w else lt_ck ((428 * x1) + x3) (lt_len σ (lt_r σ o 0)) (lt_ck ((428 * x2) + x3) (lt_len σ (lt_r σ o 0)) (lt_let (lt_si w (lt_r σ o 0) ((428 * x2) + x3).toNatClampNeg (lt_gi w (lt_r σ o 0) ((428 * x1) + x3).toNatClampNeg)) (fun w3 => fb_X12_copies_2 σ o n x1 x2 (x3 + 1) w3)))
set_option maxHeartbeats 4000000 in
set_option maxRecDepth 100000 in
theorem jb_X12_copies_2 {X : lt_X} {σ : lt_S} (hT : lt_Wt σ) {o : Nat} (h0 : lt_c σ o = 12) {r : lt_W} (hF : lt_F X cX12_copies RX12 4 (lt_rm 1)) (hE : lt_E X 0 0 σ none none r) (n : Nat) : ∀ (x1 : Int32) (x2 : Int32) (x3 : Int32) (w : lt_W), fb_X12_copies_2 σ o n x1 x2 x3 w = some r → lt_J X 0 0 σ w 2 [(0, .ref (lt_z X + o)), (1, .int x1), (2, .int x2), (3, .int x3)] [] := by
  induction n with
  | zero => intro x1 x2 x3 w hf; rw [fb_X12_copies_2] at hf; cases hf
  | succ n ih =>
    intro x1 x2 x3 w hf
    rw [fb_X12_copies_2] at hf
    refine jr_iload_n hF dX12_copies_2 3 rfl rfl ?_
    refine jr_sipush (v := 428) hF dX12_copies_3 rfl ?_
    refine jr_icmp_ge (tgt := 39) hF dX12_copies_6 rfl hf (fun hf => ?_) (fun hf => ?_)
    · refine jr_iconst (v := 0) hF dX12_copies_39 rfl ?_
      refine jr_istore_n (lv' := [(0, .ref (lt_z X + o)), (1, .int x1), (2, .int x2), (3, .int 0)]) hF dX12_copies_40 rfl (by decide) [1, 2, 3, 0] rfl ?_
      exact jb_X12_copies_41 hT h0 hF hE lt_fu _ _ _ _ hf
    · refine jr_aload_n hF dX12_copies_9 0 rfl rfl ?_
      refine jr_getRT (cr := 50) hF gf_X12_7 hT h0 rfl rfl dX12_copies_10 (fun th1 => ?_)
      refine jr_sipush (v := 428) hF dX12_copies_13 rfl ?_
      refine jr_iload_n hF dX12_copies_16 2 rfl rfl ?_
      refine jr_imul hF dX12_copies_17 ?_
      refine jr_iload_n hF dX12_copies_18 3 rfl rfl ?_
      refine jr_iadd hF dX12_copies_19 ?_
      refine jr_aload_n hF dX12_copies_20 0 rfl rfl ?_
      refine jr_getRT (cr := 50) hF gf_X12_7 hT h0 rfl rfl dX12_copies_21 (fun th2 => ?_)
      refine jr_sipush (v := 428) hF dX12_copies_24 rfl ?_
      refine jr_iload_n hF dX12_copies_27 1 rfl rfl ?_
      refine jr_imul hF dX12_copies_28 ?_
      refine jr_iload_n hF dX12_copies_29 3 rfl rfl ?_
      refine jr_iadd hF dX12_copies_30 ?_
      refine jr_iaload hF th2 dX12_copies_31 hf (fun hf => ?_)
      refine jr_iastore hF th1 dX12_copies_32 hf (fun hf => ?_)
      refine jr_letW hf (fun w3 hf => ?_)
      refine jr_iinc (v := x3 + 1) (lv' := [(0, .ref (lt_z X + o)), (1, .int x1), (2, .int x2), (3, .int (x3 + 1))]) hF dX12_copies_33 3 rfl rfl (by decide) [1, 2, 3, 0] rfl ?_
      refine jr_goto (tgt := 2) hF dX12_copies_36 rfl ?_
      exact ih _ _ _ _ hf
set_option maxRecDepth 100000 in
def fb_X12_copies_0 (σ : lt_S) (o : Nat) (x1 : Int32) (x2 : Int32) (w : lt_W) : Option lt_W := fb_X12_copies_2 σ o lt_fu x1 x2 0 w
set_option maxHeartbeats 4000000 in
set_option maxRecDepth 100000 in
theorem jb_X12_copies_0 {X : lt_X} {σ : lt_S} (hT : lt_Wt σ) {o : Nat} (h0 : lt_c σ o = 12) {r : lt_W} (hF : lt_F X cX12_copies RX12 4 (lt_rm 1)) (hE : lt_E X 0 0 σ none none r) : ∀ (x1 : Int32) (x2 : Int32) (w : lt_W), fb_X12_copies_0 σ o x1 x2 w = some r → lt_J X 0 0 σ w 0 [(0, .ref (lt_z X + o)), (1, .int x1), (2, .int x2)] [] := by
  intro x1 x2 w hf
  unfold fb_X12_copies_0 at hf
  refine jr_iconst (v := 0) hF dX12_copies_0 rfl ?_
  refine jr_istore_n (lv' := [(0, .ref (lt_z X + o)), (1, .int x1), (2, .int x2), (3, .int 0)]) hF dX12_copies_1 rfl (by decide) [1, 2, 3, 0] rfl ?_
  exact jb_X12_copies_2 hT h0 hF hE lt_fu _ _ _ _ hf
def f_X12_copies (σ : lt_S) (o : Nat) (x1 : Int32) (x2 : Int32) (w : lt_W) : Option lt_W := fb_X12_copies_0 σ o x1 x2 w
set_option maxRecDepth 100000 in
theorem c_X12_copies {l : Launch} {D : va_G} {gA : Nat → ClassId} {s0 : State} {σ : lt_S} (hT : lt_Wt σ) {o : Nat} (h0 : lt_c σ o = 12) {x1 : Int32} {x2 : Int32} {w : lt_W} {r : lt_W} (hf : f_X12_copies σ o x1 x2 w = some r) : lt_C l D gA s0 yX12_copies cX12_copies 4 none (lt_rm 1) [.ref (s0.heap.size + o), .int x1, .int x2] σ w σ none r := by
  refine lt_enter rfl (Nat.le_of_ble_eq_true rfl) (fun X e1 e2 e3 e4 hF hE => ?_)
  subst e1 e2 e3 e4
  exact jb_X12_copies_0 hT h0 hF hE _ _ _ hf

set_option maxRecDepth 100000 in
def fb_X12_shrunk_0 (x0 : Int64) (x2 : Int32) : Option Int64 := if x2 = 0 then some x0.toInt32.toInt8.toInt32.toInt64 else if x2 = 1 then some x0.toInt32.toInt16.toInt32.toInt64 else if x2 = 2 then some x0.toInt32.toInt64 else some x0
set_option maxHeartbeats 4000000 in
set_option maxRecDepth 100000 in
theorem jb_X12_shrunk_0 {X : lt_X} {σ : lt_S} {r : Int64} {w : lt_W} (hF : lt_F X cX12_shrunk RX12 3 (lt_rm 1)) (hE : lt_E X 0 0 σ (some .long) (some (.long r)) w) : ∀ (x0 : Int64) (x2 : Int32), fb_X12_shrunk_0 x0 x2 = some r → lt_J X 0 0 σ w 0 [(0, .long x0), (2, .int x2)] [] := by
  intro x0 x2 hf
  unfold fb_X12_shrunk_0 at hf
  refine jr_iload_n hF dX12_shrunk_0 1 rfl rfl ?_
  refine jr_if_ne (tgt := 11) hF dX12_shrunk_1 rfl hf (fun hf => ?_) (fun hf => ?_)
  · refine jr_iload_n hF dX12_shrunk_11 1 rfl rfl ?_
    refine jr_iconst (v := 1) hF dX12_shrunk_12 rfl ?_
    refine jr_icmp_ne (tgt := 23) hF dX12_shrunk_13 rfl hf (fun hf => ?_) (fun hf => ?_)
    · refine jr_iload_n hF dX12_shrunk_23 1 rfl rfl ?_
      refine jr_iconst (v := 2) hF dX12_shrunk_24 rfl ?_
      refine jr_icmp_ne (tgt := 34) hF dX12_shrunk_25 rfl hf (fun hf => ?_) (fun hf => ?_)
      · refine jr_lload_n hF dX12_shrunk_34 0 rfl rfl ?_
        obtain rfl := Option.some.inj hf
        exact jr_lreturn hF hE dX12_shrunk_35
      · refine jr_lload_n hF dX12_shrunk_28 0 rfl rfl ?_
        refine jr_l2i hF dX12_shrunk_29 ?_
        refine jr_i2l hF dX12_shrunk_30 ?_
        refine jr_goto (tgt := 35) hF dX12_shrunk_31 rfl ?_
        obtain rfl := Option.some.inj hf
        exact jr_lreturn hF hE dX12_shrunk_35
    · refine jr_lload_n hF dX12_shrunk_16 0 rfl rfl ?_
      refine jr_l2i hF dX12_shrunk_17 ?_
      refine jr_i2s hF dX12_shrunk_18 ?_
      refine jr_i2l hF dX12_shrunk_19 ?_
      refine jr_goto (tgt := 35) hF dX12_shrunk_20 rfl ?_
      obtain rfl := Option.some.inj hf
      exact jr_lreturn hF hE dX12_shrunk_35
  · refine jr_lload_n hF dX12_shrunk_4 0 rfl rfl ?_
    refine jr_l2i hF dX12_shrunk_5 ?_
    refine jr_i2b hF dX12_shrunk_6 ?_
    refine jr_i2l hF dX12_shrunk_7 ?_
    refine jr_goto (tgt := 35) hF dX12_shrunk_8 rfl ?_
    obtain rfl := Option.some.inj hf
    exact jr_lreturn hF hE dX12_shrunk_35
def f_X12_shrunk (x0 : Int64) (x2 : Int32) : Option Int64 := fb_X12_shrunk_0 x0 x2
set_option maxRecDepth 100000 in
theorem c_X12_shrunk {l : Launch} {D : va_G} {gA : Nat → ClassId} {s0 : State} {σ : lt_S} {x0 : Int64} {x2 : Int32} {w : lt_W} {r : Int64} (hf : f_X12_shrunk x0 x2 = some r) : lt_C l D gA s0 yX12_shrunk cX12_shrunk 3 (some .long) (lt_rm 1) [.long x0, .int x2] σ w σ (some (.long r)) w := by
  refine lt_enter rfl (Nat.le_of_ble_eq_true rfl) (fun X e1 e2 e3 e4 hF hE => ?_)
  subst e1 e2 e3 e4
  exact jb_X12_shrunk_0 hF hE _ _ hf

set_option maxRecDepth 100000 in
def fb_X12_copyWishes_52 (σ : lt_S) (o : Nat) : Nat → Int32 → Int32 → lt_W → Option (Int32 × lt_W)
  | 0, _, _, _ => none
  | n + 1, x1, x2, w => lt_ck 0 (lt_len σ (lt_r σ o 0)) (if (lt_gi w (lt_r σ o 0) (0 : Int32).toNatClampNeg) ≤ x2 then lt_ck 0 (lt_len σ (lt_r σ o 0)) (Option.bind (f_X12_gives σ o (lt_gi w (lt_r σ o 0) (0 : Int32).toNatClampNeg) w) (fun q3 => some (q3.1, q3.2))) else Option.bind (f_X12_guestOf σ o x2 0 w) (fun q5 => lt_ck x1 (lt_len σ (lt_r σ o 5)) (Option.bind (f_X12_shrunk q5.toInt64 (lt_gi w (lt_r σ o 5) x1.toNatClampNeg)) (fun q7 => lt_ck ((60 * x1) + x2) (lt_len σ (lt_r σ o 7)) (lt_let (lt_sl w (lt_r σ o 7) ((60 * x1) + x2).toNatClampNeg q7) (fun w8 => fb_X12_copyWishes_52 σ o n x1 (x2 + 1) w8))))))
set_option maxHeartbeats 4000000 in
set_option maxRecDepth 100000 in
theorem jb_X12_copyWishes_52 {X : lt_X} {σ : lt_S} (hT : lt_Wt σ) {o : Nat} (h0 : lt_c σ o = 12) {r : Int32 × lt_W} (hF : lt_F X cX12_copyWishes RX12 3 (lt_rm 3)) (hE : lt_E X 0 0 σ (some .int) (some (.int r.1)) r.2) (n : Nat) : ∀ (x1 : Int32) (x2 : Int32) (w : lt_W), fb_X12_copyWishes_52 σ o n x1 x2 w = some r → lt_J X 0 0 σ w 52 [(0, .ref (lt_z X + o)), (1, .int x1), (2, .int x2)] [] := by
  induction n with
  | zero => intro x1 x2 w hf; rw [fb_X12_copyWishes_52] at hf; cases hf
  | succ n ih =>
    intro x1 x2 w hf
    rw [fb_X12_copyWishes_52] at hf
    refine jr_iload_n hF dX12_copyWishes_52 2 rfl rfl ?_
    refine jr_aload_n hF dX12_copyWishes_53 0 rfl rfl ?_
    refine jr_getRT (cr := 50) hF gf_X12_7 hT h0 rfl rfl dX12_copyWishes_54 (fun th1 => ?_)
    refine jr_iconst (v := 0) hF dX12_copyWishes_57 rfl ?_
    refine jr_iaload hF th1 dX12_copyWishes_58 hf (fun hf => ?_)
    refine jr_icmp_ge (tgt := 95) hF dX12_copyWishes_59 rfl hf (fun hf => ?_) (fun hf => ?_)
    · refine jr_aload_n hF dX12_copyWishes_95 0 rfl rfl ?_
      refine jr_aload_n hF dX12_copyWishes_96 0 rfl rfl ?_
      refine jr_getRT (cr := 50) hF gf_X12_7 hT h0 rfl rfl dX12_copyWishes_97 (fun th2 => ?_)
      refine jr_iconst (v := 0) hF dX12_copyWishes_100 rfl ?_
      refine jr_iaload hF th2 dX12_copyWishes_101 hf (fun hf => ?_)
      obtain ⟨q3, hq3, hf⟩ := Option.bind_eq_some_iff.mp hf
      refine jr_cV11 hF ml_X12_101 (c_X12_gives h0 hq3) h0 ⟨Nat.le_of_ble_eq_true rfl, Nat.le_of_ble_eq_true rfl⟩ (Nat.le_of_ble_eq_true rfl) dX12_copyWishes_102 ?_
      obtain rfl := Option.some.inj hf
      exact jr_ireturn hF hE dX12_copyWishes_105
    · refine jr_aload_n hF dX12_copyWishes_62 0 rfl rfl ?_
      refine jr_getRT (cr := 51) hF gf_X12_27 hT h0 rfl rfl dX12_copyWishes_63 (fun th4 => ?_)
      refine jr_bipush (v := 60) hF dX12_copyWishes_66 rfl ?_
      refine jr_iload_n hF dX12_copyWishes_68 1 rfl rfl ?_
      refine jr_imul hF dX12_copyWishes_69 ?_
      refine jr_iload_n hF dX12_copyWishes_70 2 rfl rfl ?_
      refine jr_iadd hF dX12_copyWishes_71 ?_
      refine jr_aload_n hF dX12_copyWishes_72 0 rfl rfl ?_
      refine jr_iload_n hF dX12_copyWishes_73 2 rfl rfl ?_
      refine jr_iconst (v := 0) hF dX12_copyWishes_74 rfl ?_
      obtain ⟨q5, hq5, hf⟩ := Option.bind_eq_some_iff.mp hf
      refine jr_cV21 hF ml_X12_269 (c_X12_guestOf hT h0 hq5) h0 ⟨Nat.le_of_ble_eq_true rfl, Nat.le_of_ble_eq_true rfl⟩ (Nat.le_of_ble_eq_true rfl) dX12_copyWishes_75 ?_
      refine jr_i2l hF dX12_copyWishes_78 ?_
      refine jr_aload_n hF dX12_copyWishes_79 0 rfl rfl ?_
      refine jr_getRT (cr := 50) hF gf_X12_21 hT h0 rfl rfl dX12_copyWishes_80 (fun th6 => ?_)
      refine jr_iload_n hF dX12_copyWishes_83 1 rfl rfl ?_
      refine jr_iaload hF th6 dX12_copyWishes_84 hf (fun hf => ?_)
      obtain ⟨q7, hq7, hf⟩ := Option.bind_eq_some_iff.mp hf
      refine jr_cS21 hF ml_X12_115 (c_X12_shrunk hq7) ⟨Nat.le_of_ble_eq_true rfl, Nat.le_of_ble_eq_true rfl⟩ (Nat.le_of_ble_eq_true rfl) dX12_copyWishes_85 ?_
      refine jr_lastore hF th4 dX12_copyWishes_88 hf (fun hf => ?_)
      refine jr_letW hf (fun w8 hf => ?_)
      refine jr_iinc (v := x2 + 1) (lv' := [(0, .ref (lt_z X + o)), (1, .int x1), (2, .int (x2 + 1))]) hF dX12_copyWishes_89 2 rfl rfl (by decide) [1, 2, 0] rfl ?_
      refine jr_goto (tgt := 52) hF dX12_copyWishes_92 rfl ?_
      exact ih _ _ _ hf
set_option maxRecDepth 100000 in
def fb_X12_copyWishes_0 (σ : lt_S) (o : Nat) (x1 : Int32) (w : lt_W) : Option (Int32 × lt_W) := Option.bind (f_X12_isTray x1) (fun q1 => if q1 = 0 then Option.bind (f_X12_refuse σ o 1 w) (fun q7 => some (q7.1, q7.2)) else lt_ck x1 (lt_len σ (lt_r σ o 6)) (if (lt_gi w (lt_r σ o 6) x1.toNatClampNeg) = (-1) then Option.bind (f_X12_refuse σ o 2 w) (fun q6 => some (q6.1, q6.2)) else lt_ck x1 (lt_len σ (lt_r σ o 6)) (lt_ck 0 (lt_len σ (lt_r σ o 0)) (if (lt_gi w (lt_r σ o 0) (0 : Int32).toNatClampNeg) ≤ (lt_gi w (lt_r σ o 6) x1.toNatClampNeg) then fb_X12_copyWishes_52 σ o lt_fu x1 0 w else Option.bind (f_X12_refuse σ o 3 w) (fun q5 => some (q5.1, q5.2))))))
set_option maxHeartbeats 4000000 in
set_option maxRecDepth 100000 in
theorem jb_X12_copyWishes_0 {X : lt_X} {σ : lt_S} (hT : lt_Wt σ) {o : Nat} (h0 : lt_c σ o = 12) {r : Int32 × lt_W} (hF : lt_F X cX12_copyWishes RX12 3 (lt_rm 3)) (hE : lt_E X 0 0 σ (some .int) (some (.int r.1)) r.2) : ∀ (x1 : Int32) (w : lt_W), fb_X12_copyWishes_0 σ o x1 w = some r → lt_J X 0 0 σ w 0 [(0, .ref (lt_z X + o)), (1, .int x1)] [] := by
  intro x1 w hf
  unfold fb_X12_copyWishes_0 at hf
  refine jr_iload_n hF dX12_copyWishes_0 1 rfl rfl ?_
  obtain ⟨q1, hq1, hf⟩ := Option.bind_eq_some_iff.mp hf
  refine jr_cS11 hF ml_X12_108 (c_X12_isTray hq1) ⟨Nat.le_of_ble_eq_true rfl, Nat.le_of_ble_eq_true rfl⟩ (Nat.le_of_ble_eq_true rfl) dX12_copyWishes_1 ?_
  refine jr_if_ne (tgt := 13) hF dX12_copyWishes_4 rfl hf (fun hf => ?_) (fun hf => ?_)
  · refine jr_aload_n hF dX12_copyWishes_13 0 rfl rfl ?_
    refine jr_getRT (cr := 50) hF gf_X12_24 hT h0 rfl rfl dX12_copyWishes_14 (fun th2 => ?_)
    refine jr_iload_n hF dX12_copyWishes_17 1 rfl rfl ?_
    refine jr_iaload hF th2 dX12_copyWishes_18 hf (fun hf => ?_)
    refine jr_iconst (v := (-1)) hF dX12_copyWishes_19 rfl ?_
    refine jr_icmp_ne (tgt := 29) hF dX12_copyWishes_20 rfl hf (fun hf => ?_) (fun hf => ?_)
    · refine jr_aload_n hF dX12_copyWishes_29 0 rfl rfl ?_
      refine jr_getRT (cr := 50) hF gf_X12_24 hT h0 rfl rfl dX12_copyWishes_30 (fun th3 => ?_)
      refine jr_iload_n hF dX12_copyWishes_33 1 rfl rfl ?_
      refine jr_iaload hF th3 dX12_copyWishes_34 hf (fun hf => ?_)
      refine jr_aload_n hF dX12_copyWishes_35 0 rfl rfl ?_
      refine jr_getRT (cr := 50) hF gf_X12_7 hT h0 rfl rfl dX12_copyWishes_36 (fun th4 => ?_)
      refine jr_iconst (v := 0) hF dX12_copyWishes_39 rfl ?_
      refine jr_iaload hF th4 dX12_copyWishes_40 hf (fun hf => ?_)
      refine jr_icmp_ge (tgt := 50) hF dX12_copyWishes_41 rfl hf (fun hf => ?_) (fun hf => ?_)
      · refine jr_iconst (v := 0) hF dX12_copyWishes_50 rfl ?_
        refine jr_istore_n (lv' := [(0, .ref (lt_z X + o)), (1, .int x1), (2, .int 0)]) hF dX12_copyWishes_51 rfl (by decide) [1, 2, 0] rfl ?_
        exact jb_X12_copyWishes_52 hT h0 hF hE lt_fu _ _ _ hf
      · refine jr_aload_n hF dX12_copyWishes_44 0 rfl rfl ?_
        refine jr_iconst (v := 3) hF dX12_copyWishes_45 rfl ?_
        obtain ⟨q5, hq5, hf⟩ := Option.bind_eq_some_iff.mp hf
        refine jr_cV11 hF ml_X12_97 (c_X12_refuse h0 hq5) h0 ⟨Nat.le_of_ble_eq_true rfl, Nat.le_of_ble_eq_true rfl⟩ (Nat.le_of_ble_eq_true rfl) dX12_copyWishes_46 ?_
        obtain rfl := Option.some.inj hf
        exact jr_ireturn hF hE dX12_copyWishes_49
    · refine jr_aload_n hF dX12_copyWishes_23 0 rfl rfl ?_
      refine jr_iconst (v := 2) hF dX12_copyWishes_24 rfl ?_
      obtain ⟨q6, hq6, hf⟩ := Option.bind_eq_some_iff.mp hf
      refine jr_cV11 hF ml_X12_97 (c_X12_refuse h0 hq6) h0 ⟨Nat.le_of_ble_eq_true rfl, Nat.le_of_ble_eq_true rfl⟩ (Nat.le_of_ble_eq_true rfl) dX12_copyWishes_25 ?_
      obtain rfl := Option.some.inj hf
      exact jr_ireturn hF hE dX12_copyWishes_28
  · refine jr_aload_n hF dX12_copyWishes_7 0 rfl rfl ?_
    refine jr_iconst (v := 1) hF dX12_copyWishes_8 rfl ?_
    obtain ⟨q7, hq7, hf⟩ := Option.bind_eq_some_iff.mp hf
    refine jr_cV11 hF ml_X12_97 (c_X12_refuse h0 hq7) h0 ⟨Nat.le_of_ble_eq_true rfl, Nat.le_of_ble_eq_true rfl⟩ (Nat.le_of_ble_eq_true rfl) dX12_copyWishes_9 ?_
    obtain rfl := Option.some.inj hf
    exact jr_ireturn hF hE dX12_copyWishes_12
def f_X12_copyWishes (σ : lt_S) (o : Nat) (x1 : Int32) (w : lt_W) : Option (Int32 × lt_W) := fb_X12_copyWishes_0 σ o x1 w
set_option maxRecDepth 100000 in
theorem c_X12_copyWishes {l : Launch} {D : va_G} {gA : Nat → ClassId} {s0 : State} {σ : lt_S} (hT : lt_Wt σ) {o : Nat} (h0 : lt_c σ o = 12) {x1 : Int32} {w : lt_W} {r : Int32 × lt_W} (hf : f_X12_copyWishes σ o x1 w = some r) : lt_C l D gA s0 yX12_copyWishes cX12_copyWishes 3 (some .int) (lt_rm 3) [.ref (s0.heap.size + o), .int x1] σ w σ (some (.int r.1)) r.2 := by
  refine lt_enter rfl (Nat.le_of_ble_eq_true rfl) (fun X e1 e2 e3 e4 hF hE => ?_)
  subst e1 e2 e3 e4
  exact jb_X12_copyWishes_0 hT h0 hF hE _ _ hf

set_option maxRecDepth 100000 in
def fb_X12_cut_0 (σ : lt_S) (o : Nat) (x1 : Int32) (w : lt_W) : Option (Int32 × lt_W) := Option.bind (f_X12_isGuest σ o x1 w) (fun q1 => if q1 = 0 then Option.bind (f_X12_refuse σ o 1 w) (fun q7 => some (q7.1, q7.2)) else Option.bind (f_X12_canCut σ o x1 w) (fun q2 => if q2 = 0 then Option.bind (f_X12_refuse σ o 7 w) (fun q6 => some (q6.1, q6.2)) else Option.bind (f_X12_cuts1 σ o x1 w) (fun q3 => lt_ck 5 (lt_len σ (lt_r σ o 0)) (Option.bind (f_X12_gives σ o (lt_gi q3.2 (lt_r σ o 0) (5 : Int32).toNatClampNeg) q3.2) (fun q5 => some (q5.1, q5.2))))))
set_option maxHeartbeats 4000000 in
set_option maxRecDepth 100000 in
theorem jb_X12_cut_0 {X : lt_X} {σ : lt_S} (hT : lt_Wt σ) {o : Nat} (h0 : lt_c σ o = 12) {r : Int32 × lt_W} (hF : lt_F X cX12_cut RX12 2 (lt_rm 5)) (hE : lt_E X 0 0 σ (some .int) (some (.int r.1)) r.2) : ∀ (x1 : Int32) (w : lt_W), fb_X12_cut_0 σ o x1 w = some r → lt_J X 0 0 σ w 0 [(0, .ref (lt_z X + o)), (1, .int x1)] [] := by
  intro x1 w hf
  unfold fb_X12_cut_0 at hf
  refine jr_aload_n hF dX12_cut_0 0 rfl rfl ?_
  refine jr_iload_n hF dX12_cut_1 1 rfl rfl ?_
  obtain ⟨q1, hq1, hf⟩ := Option.bind_eq_some_iff.mp hf
  refine jr_cV11 hF ml_X12_266 (c_X12_isGuest hT h0 hq1) h0 ⟨Nat.le_of_ble_eq_true rfl, Nat.le_of_ble_eq_true rfl⟩ (Nat.le_of_ble_eq_true rfl) dX12_cut_2 ?_
  refine jr_if_ne (tgt := 14) hF dX12_cut_5 rfl hf (fun hf => ?_) (fun hf => ?_)
  · refine jr_aload_n hF dX12_cut_14 0 rfl rfl ?_
    refine jr_iload_n hF dX12_cut_15 1 rfl rfl ?_
    obtain ⟨q2, hq2, hf⟩ := Option.bind_eq_some_iff.mp hf
    refine jr_cV11 hF ml_X12_314 (c_X12_canCut hT h0 hq2) h0 ⟨Nat.le_of_ble_eq_true rfl, Nat.le_of_ble_eq_true rfl⟩ (Nat.le_of_ble_eq_true rfl) dX12_cut_16 ?_
    refine jr_if_ne (tgt := 29) hF dX12_cut_19 rfl hf (fun hf => ?_) (fun hf => ?_)
    · refine jr_aload_n hF dX12_cut_29 0 rfl rfl ?_
      refine jr_iload_n hF dX12_cut_30 1 rfl rfl ?_
      obtain ⟨q3, hq3, hf⟩ := Option.bind_eq_some_iff.mp hf
      refine jr_cV11 hF ml_X12_296 (c_X12_cuts1 hT h0 hq3) h0 ⟨Nat.le_of_ble_eq_true rfl, Nat.le_of_ble_eq_true rfl⟩ (Nat.le_of_ble_eq_true rfl) dX12_cut_31 ?_
      refine jr_pop hF dX12_cut_34 rfl ?_
      refine jr_aload_n hF dX12_cut_35 0 rfl rfl ?_
      refine jr_aload_n hF dX12_cut_36 0 rfl rfl ?_
      refine jr_getRT (cr := 50) hF gf_X12_7 hT h0 rfl rfl dX12_cut_37 (fun th4 => ?_)
      refine jr_iconst (v := 5) hF dX12_cut_40 rfl ?_
      refine jr_iaload hF th4 dX12_cut_41 hf (fun hf => ?_)
      obtain ⟨q5, hq5, hf⟩ := Option.bind_eq_some_iff.mp hf
      refine jr_cV11 hF ml_X12_101 (c_X12_gives h0 hq5) h0 ⟨Nat.le_of_ble_eq_true rfl, Nat.le_of_ble_eq_true rfl⟩ (Nat.le_of_ble_eq_true rfl) dX12_cut_42 ?_
      obtain rfl := Option.some.inj hf
      exact jr_ireturn hF hE dX12_cut_45
    · refine jr_aload_n hF dX12_cut_22 0 rfl rfl ?_
      refine jr_bipush (v := 7) hF dX12_cut_23 rfl ?_
      obtain ⟨q6, hq6, hf⟩ := Option.bind_eq_some_iff.mp hf
      refine jr_cV11 hF ml_X12_97 (c_X12_refuse h0 hq6) h0 ⟨Nat.le_of_ble_eq_true rfl, Nat.le_of_ble_eq_true rfl⟩ (Nat.le_of_ble_eq_true rfl) dX12_cut_25 ?_
      obtain rfl := Option.some.inj hf
      exact jr_ireturn hF hE dX12_cut_28
  · refine jr_aload_n hF dX12_cut_8 0 rfl rfl ?_
    refine jr_iconst (v := 1) hF dX12_cut_9 rfl ?_
    obtain ⟨q7, hq7, hf⟩ := Option.bind_eq_some_iff.mp hf
    refine jr_cV11 hF ml_X12_97 (c_X12_refuse h0 hq7) h0 ⟨Nat.le_of_ble_eq_true rfl, Nat.le_of_ble_eq_true rfl⟩ (Nat.le_of_ble_eq_true rfl) dX12_cut_10 ?_
    obtain rfl := Option.some.inj hf
    exact jr_ireturn hF hE dX12_cut_13
def f_X12_cut (σ : lt_S) (o : Nat) (x1 : Int32) (w : lt_W) : Option (Int32 × lt_W) := fb_X12_cut_0 σ o x1 w
set_option maxRecDepth 100000 in
theorem c_X12_cut {l : Launch} {D : va_G} {gA : Nat → ClassId} {s0 : State} {σ : lt_S} (hT : lt_Wt σ) {o : Nat} (h0 : lt_c σ o = 12) {x1 : Int32} {w : lt_W} {r : Int32 × lt_W} (hf : f_X12_cut σ o x1 w = some r) : lt_C l D gA s0 yX12_cut cX12_cut 2 (some .int) (lt_rm 5) [.ref (s0.heap.size + o), .int x1] σ w σ (some (.int r.1)) r.2 := by
  refine lt_enter rfl (Nat.le_of_ble_eq_true rfl) (fun X e1 e2 e3 e4 hF hE => ?_)
  subst e1 e2 e3 e4
  exact jb_X12_cut_0 hT h0 hF hE _ _ hf

set_option maxRecDepth 100000 in
def fb_X12_cutsBy_0 (σ : lt_S) (o : Nat) (x1 : Int32) (w : lt_W) : Option (Int32 × lt_W) := Option.bind (f_X12_canCut σ o x1 w) (fun q1 => if q1 = 0 then some (0, w) else lt_ck 2 (lt_len σ (lt_r σ o 37)) (lt_ck 2 (lt_len σ (lt_r σ o 37)) (lt_let (lt_si w (lt_r σ o 37) (2 : Int32).toNatClampNeg ((lt_gi w (lt_r σ o 37) (2 : Int32).toNatClampNeg) + 1)) (fun w3 => lt_ck 3 (lt_len σ (lt_r σ o 37)) (Option.bind (f_X12_cuts1 σ o x1 w3) (fun q5 => lt_ck 3 (lt_len σ (lt_r σ o 37)) (lt_let (lt_si q5.2 (lt_r σ o 37) (3 : Int32).toNatClampNeg ((lt_gi w3 (lt_r σ o 37) (3 : Int32).toNatClampNeg) + q5.1)) (fun w6 => some (1, w6)))))))))
set_option maxHeartbeats 4000000 in
set_option maxRecDepth 100000 in
theorem jb_X12_cutsBy_0 {X : lt_X} {σ : lt_S} (hT : lt_Wt σ) {o : Nat} (h0 : lt_c σ o = 12) {r : Int32 × lt_W} (hF : lt_F X cX12_cutsBy RX12 2 (lt_rm 5)) (hE : lt_E X 0 0 σ (some .boolean) (some (.int r.1)) r.2) : ∀ (x1 : Int32) (w : lt_W), fb_X12_cutsBy_0 σ o x1 w = some r → lt_J X 0 0 σ w 0 [(0, .ref (lt_z X + o)), (1, .int x1)] [] := by
  intro x1 w hf
  unfold fb_X12_cutsBy_0 at hf
  refine jr_aload_n hF dX12_cutsBy_0 0 rfl rfl ?_
  refine jr_iload_n hF dX12_cutsBy_1 1 rfl rfl ?_
  obtain ⟨q1, hq1, hf⟩ := Option.bind_eq_some_iff.mp hf
  refine jr_cV11 hF ml_X12_314 (c_X12_canCut hT h0 hq1) h0 ⟨Nat.le_of_ble_eq_true rfl, Nat.le_of_ble_eq_true rfl⟩ (Nat.le_of_ble_eq_true rfl) dX12_cutsBy_2 ?_
  refine jr_if_ne (tgt := 10) hF dX12_cutsBy_5 rfl hf (fun hf => ?_) (fun hf => ?_)
  · refine jr_aload_n hF dX12_cutsBy_10 0 rfl rfl ?_
    refine jr_getRT (cr := 50) hF gf_X12_81 hT h0 rfl rfl dX12_cutsBy_11 (fun th2 => ?_)
    refine jr_iconst (v := 2) hF dX12_cutsBy_14 rfl ?_
    refine jr_dup2 hF dX12_cutsBy_15 rfl rfl ?_
    refine jr_iaload hF th2 dX12_cutsBy_16 hf (fun hf => ?_)
    refine jr_iconst (v := 1) hF dX12_cutsBy_17 rfl ?_
    refine jr_iadd hF dX12_cutsBy_18 ?_
    refine jr_iastore hF th2 dX12_cutsBy_19 hf (fun hf => ?_)
    refine jr_letW hf (fun w3 hf => ?_)
    refine jr_aload_n hF dX12_cutsBy_20 0 rfl rfl ?_
    refine jr_getRT (cr := 50) hF gf_X12_81 hT h0 rfl rfl dX12_cutsBy_21 (fun th4 => ?_)
    refine jr_iconst (v := 3) hF dX12_cutsBy_24 rfl ?_
    refine jr_dup2 hF dX12_cutsBy_25 rfl rfl ?_
    refine jr_iaload hF th4 dX12_cutsBy_26 hf (fun hf => ?_)
    refine jr_aload_n hF dX12_cutsBy_27 0 rfl rfl ?_
    refine jr_iload_n hF dX12_cutsBy_28 1 rfl rfl ?_
    obtain ⟨q5, hq5, hf⟩ := Option.bind_eq_some_iff.mp hf
    refine jr_cV11 hF ml_X12_296 (c_X12_cuts1 hT h0 hq5) h0 ⟨Nat.le_of_ble_eq_true rfl, Nat.le_of_ble_eq_true rfl⟩ (Nat.le_of_ble_eq_true rfl) dX12_cutsBy_29 ?_
    refine jr_iadd hF dX12_cutsBy_32 ?_
    refine jr_iastore hF th4 dX12_cutsBy_33 hf (fun hf => ?_)
    refine jr_letW hf (fun w6 hf => ?_)
    refine jr_iconst (v := 1) hF dX12_cutsBy_34 rfl ?_
    obtain rfl := Option.some.inj hf
    exact jr_zreturn hF hE (Or.inr rfl) dX12_cutsBy_35
  · refine jr_iconst (v := 0) hF dX12_cutsBy_8 rfl ?_
    obtain rfl := Option.some.inj hf
    exact jr_zreturn hF hE (Or.inl rfl) dX12_cutsBy_9
def f_X12_cutsBy (σ : lt_S) (o : Nat) (x1 : Int32) (w : lt_W) : Option (Int32 × lt_W) := fb_X12_cutsBy_0 σ o x1 w
set_option maxRecDepth 100000 in
theorem c_X12_cutsBy {l : Launch} {D : va_G} {gA : Nat → ClassId} {s0 : State} {σ : lt_S} (hT : lt_Wt σ) {o : Nat} (h0 : lt_c σ o = 12) {x1 : Int32} {w : lt_W} {r : Int32 × lt_W} (hf : f_X12_cutsBy σ o x1 w = some r) : lt_C l D gA s0 yX12_cutsBy cX12_cutsBy 2 (some .boolean) (lt_rm 5) [.ref (s0.heap.size + o), .int x1] σ w σ (some (.int r.1)) r.2 := by
  refine lt_enter rfl (Nat.le_of_ble_eq_true rfl) (fun X e1 e2 e3 e4 hF hE => ?_)
  subst e1 e2 e3 e4
  exact jb_X12_cutsBy_0 hT h0 hF hE _ _ hf

set_option maxRecDepth 100000 in
def fb_X12_orNone_0 (σ : lt_S) (o : Nat) (x1 : Int32) (w : lt_W) : Option (Int32 × lt_W) := if x1 = (-1) then Option.bind (f_X12_refuse σ o 6 w) (fun q2 => some (q2.1, q2.2)) else Option.bind (f_X12_gives σ o x1 w) (fun q1 => some (q1.1, q1.2))
set_option maxHeartbeats 4000000 in
set_option maxRecDepth 100000 in
theorem jb_X12_orNone_0 {X : lt_X} {σ : lt_S} {o : Nat} (h0 : lt_c σ o = 12) {r : Int32 × lt_W} (hF : lt_F X cX12_orNone RX12 2 (lt_rm 2)) (hE : lt_E X 0 0 σ (some .int) (some (.int r.1)) r.2) : ∀ (x1 : Int32) (w : lt_W), fb_X12_orNone_0 σ o x1 w = some r → lt_J X 0 0 σ w 0 [(0, .ref (lt_z X + o)), (1, .int x1)] [] := by
  intro x1 w hf
  unfold fb_X12_orNone_0 at hf
  refine jr_iload_n hF dX12_orNone_0 1 rfl rfl ?_
  refine jr_iconst (v := (-1)) hF dX12_orNone_1 rfl ?_
  refine jr_icmp_ne (tgt := 12) hF dX12_orNone_2 rfl hf (fun hf => ?_) (fun hf => ?_)
  · refine jr_aload_n hF dX12_orNone_12 0 rfl rfl ?_
    refine jr_iload_n hF dX12_orNone_13 1 rfl rfl ?_
    obtain ⟨q1, hq1, hf⟩ := Option.bind_eq_some_iff.mp hf
    refine jr_cV11 hF ml_X12_101 (c_X12_gives h0 hq1) h0 ⟨Nat.le_of_ble_eq_true rfl, Nat.le_of_ble_eq_true rfl⟩ (Nat.le_of_ble_eq_true rfl) dX12_orNone_14 ?_
    obtain rfl := Option.some.inj hf
    exact jr_ireturn hF hE dX12_orNone_17
  · refine jr_aload_n hF dX12_orNone_5 0 rfl rfl ?_
    refine jr_bipush (v := 6) hF dX12_orNone_6 rfl ?_
    obtain ⟨q2, hq2, hf⟩ := Option.bind_eq_some_iff.mp hf
    refine jr_cV11 hF ml_X12_97 (c_X12_refuse h0 hq2) h0 ⟨Nat.le_of_ble_eq_true rfl, Nat.le_of_ble_eq_true rfl⟩ (Nat.le_of_ble_eq_true rfl) dX12_orNone_8 ?_
    obtain rfl := Option.some.inj hf
    exact jr_ireturn hF hE dX12_orNone_11
def f_X12_orNone (σ : lt_S) (o : Nat) (x1 : Int32) (w : lt_W) : Option (Int32 × lt_W) := fb_X12_orNone_0 σ o x1 w
set_option maxRecDepth 100000 in
theorem c_X12_orNone {l : Launch} {D : va_G} {gA : Nat → ClassId} {s0 : State} {σ : lt_S} {o : Nat} (h0 : lt_c σ o = 12) {x1 : Int32} {w : lt_W} {r : Int32 × lt_W} (hf : f_X12_orNone σ o x1 w = some r) : lt_C l D gA s0 yX12_orNone cX12_orNone 2 (some .int) (lt_rm 2) [.ref (s0.heap.size + o), .int x1] σ w σ (some (.int r.1)) r.2 := by
  refine lt_enter rfl (Nat.le_of_ble_eq_true rfl) (fun X e1 e2 e3 e4 hF hE => ?_)
  subst e1 e2 e3 e4
  exact jb_X12_orNone_0 h0 hF hE _ _ hf

set_option maxRecDepth 100000 in
def fb_X12_cutter_0 (σ : lt_S) (o : Nat) (w : lt_W) : Option (Int32 × lt_W) := Option.bind (f_X12_firstCutter σ o w) (fun q1 => Option.bind (f_X12_orNone σ o q1 w) (fun q2 => some (q2.1, q2.2)))
set_option maxHeartbeats 4000000 in
set_option maxRecDepth 100000 in
theorem jb_X12_cutter_0 {X : lt_X} {σ : lt_S} (hT : lt_Wt σ) {o : Nat} (h0 : lt_c σ o = 12) {r : Int32 × lt_W} (hF : lt_F X cX12_cutter RX12 1 (lt_rm 5)) (hE : lt_E X 0 0 σ (some .int) (some (.int r.1)) r.2) : ∀ (w : lt_W), fb_X12_cutter_0 σ o w = some r → lt_J X 0 0 σ w 0 [(0, .ref (lt_z X + o))] [] := by
  intro w hf
  unfold fb_X12_cutter_0 at hf
  refine jr_aload_n hF dX12_cutter_0 0 rfl rfl ?_
  refine jr_aload_n hF dX12_cutter_1 0 rfl rfl ?_
  obtain ⟨q1, hq1, hf⟩ := Option.bind_eq_some_iff.mp hf
  refine jr_cV01 hF ml_X12_290 (c_X12_firstCutter hT h0 hq1) h0 ⟨Nat.le_of_ble_eq_true rfl, Nat.le_of_ble_eq_true rfl⟩ (Nat.le_of_ble_eq_true rfl) dX12_cutter_2 ?_
  obtain ⟨q2, hq2, hf⟩ := Option.bind_eq_some_iff.mp hf
  refine jr_cV11 hF ml_X12_284 (c_X12_orNone h0 hq2) h0 ⟨Nat.le_of_ble_eq_true rfl, Nat.le_of_ble_eq_true rfl⟩ (Nat.le_of_ble_eq_true rfl) dX12_cutter_5 ?_
  obtain rfl := Option.some.inj hf
  exact jr_ireturn hF hE dX12_cutter_8
def f_X12_cutter (σ : lt_S) (o : Nat) (w : lt_W) : Option (Int32 × lt_W) := fb_X12_cutter_0 σ o w
set_option maxRecDepth 100000 in
theorem c_X12_cutter {l : Launch} {D : va_G} {gA : Nat → ClassId} {s0 : State} {σ : lt_S} (hT : lt_Wt σ) {o : Nat} (h0 : lt_c σ o = 12) {w : lt_W} {r : Int32 × lt_W} (hf : f_X12_cutter σ o w = some r) : lt_C l D gA s0 yX12_cutter cX12_cutter 1 (some .int) (lt_rm 5) [.ref (s0.heap.size + o)] σ w σ (some (.int r.1)) r.2 := by
  refine lt_enter rfl (Nat.le_of_ble_eq_true rfl) (fun X e1 e2 e3 e4 hF hE => ?_)
  subst e1 e2 e3 e4
  exact jb_X12_cutter_0 hT h0 hF hE _ hf

set_option maxRecDepth 100000 in
def fb_X12_day_0 (σ : lt_S) (o : Nat) (x1 : Int32) (w : lt_W) : Option (Int32 × lt_W) := Option.bind (f_X12_isFrom x1.toInt64 1 999) (fun q1 => if q1 = 0 then Option.bind (f_X12_refuse σ o 1 w) (fun q8 => some (q8.1, q8.2)) else lt_ck 6 (lt_len σ (lt_r σ o 0)) (if ((lt_gi w (lt_r σ o 0) (6 : Int32).toNatClampNeg) + x1) ≤ 9999 then Option.bind (f_X12_daysGo σ o x1 w) (fun q3 => Option.bind (f_X12_areHere σ o q3) (fun q4 => Option.bind (f_X12_bits q4) (fun q5 => Option.bind (f_X12_gives σ o q5 q3) (fun q6 => some (q6.1, q6.2))))) else Option.bind (f_X12_refuse σ o 7 w) (fun q7 => some (q7.1, q7.2))))
set_option maxHeartbeats 4000000 in
set_option maxRecDepth 100000 in
theorem jb_X12_day_0 {X : lt_X} {σ : lt_S} (hT : lt_Wt σ) {o : Nat} (h0 : lt_c σ o = 12) {r : Int32 × lt_W} (hF : lt_F X cX12_day RX12 2 (lt_rm 8)) (hE : lt_E X 0 0 σ (some .int) (some (.int r.1)) r.2) : ∀ (x1 : Int32) (w : lt_W), fb_X12_day_0 σ o x1 w = some r → lt_J X 0 0 σ w 0 [(0, .ref (lt_z X + o)), (1, .int x1)] [] := by
  intro x1 w hf
  unfold fb_X12_day_0 at hf
  refine jr_iload_n hF dX12_day_0 1 rfl rfl ?_
  refine jr_i2l hF dX12_day_1 ?_
  refine jr_lconst (v := 1) hF dX12_day_2 rfl ?_
  refine jr_ldc2 (v := 999) hF dX12_day_3 kc_X12_305 ?_
  obtain ⟨q1, hq1, hf⟩ := Option.bind_eq_some_iff.mp hf
  refine jr_cS31 hF ml_X12_307 (c_X12_isFrom hq1) ⟨Nat.le_of_ble_eq_true rfl, Nat.le_of_ble_eq_true rfl⟩ (Nat.le_of_ble_eq_true rfl) dX12_day_6 ?_
  refine jr_if_ne (tgt := 18) hF dX12_day_9 rfl hf (fun hf => ?_) (fun hf => ?_)
  · refine jr_aload_n hF dX12_day_18 0 rfl rfl ?_
    refine jr_getRT (cr := 50) hF gf_X12_7 hT h0 rfl rfl dX12_day_19 (fun th2 => ?_)
    refine jr_bipush (v := 6) hF dX12_day_22 rfl ?_
    refine jr_iaload hF th2 dX12_day_24 hf (fun hf => ?_)
    refine jr_iload_n hF dX12_day_25 1 rfl rfl ?_
    refine jr_iadd hF dX12_day_26 ?_
    refine jr_sipush (v := 9999) hF dX12_day_27 rfl ?_
    refine jr_icmp_le (tgt := 40) hF dX12_day_30 rfl hf (fun hf => ?_) (fun hf => ?_)
    · refine jr_aload_n hF dX12_day_40 0 rfl rfl ?_
      refine jr_iload_n hF dX12_day_41 1 rfl rfl ?_
      obtain ⟨q3, hq3, hf⟩ := Option.bind_eq_some_iff.mp hf
      refine jr_cV1v hF ml_X12_311 (c_X12_daysGo hT h0 hq3) h0 ⟨Nat.le_of_ble_eq_true rfl, Nat.le_of_ble_eq_true rfl⟩ (Nat.le_of_ble_eq_true rfl) dX12_day_42 ?_
      refine jr_aload_n hF dX12_day_45 0 rfl rfl ?_
      refine jr_aload_n hF dX12_day_46 0 rfl rfl ?_
      obtain ⟨q4, hq4, hf⟩ := Option.bind_eq_some_iff.mp hf
      refine jr_cV01 hF ml_X12_275 (c_X12_areHere hT h0 hq4) h0 ⟨Nat.le_of_ble_eq_true rfl, Nat.le_of_ble_eq_true rfl⟩ (Nat.le_of_ble_eq_true rfl) dX12_day_47 ?_
      obtain ⟨q5, hq5, hf⟩ := Option.bind_eq_some_iff.mp hf
      refine jr_cS11 hF ml_X12_293 (c_X12_bits hq5) ⟨Nat.le_of_ble_eq_true rfl, Nat.le_of_ble_eq_true rfl⟩ (Nat.le_of_ble_eq_true rfl) dX12_day_50 ?_
      obtain ⟨q6, hq6, hf⟩ := Option.bind_eq_some_iff.mp hf
      refine jr_cV11 hF ml_X12_101 (c_X12_gives h0 hq6) h0 ⟨Nat.le_of_ble_eq_true rfl, Nat.le_of_ble_eq_true rfl⟩ (Nat.le_of_ble_eq_true rfl) dX12_day_53 ?_
      obtain rfl := Option.some.inj hf
      exact jr_ireturn hF hE dX12_day_56
    · refine jr_aload_n hF dX12_day_33 0 rfl rfl ?_
      refine jr_bipush (v := 7) hF dX12_day_34 rfl ?_
      obtain ⟨q7, hq7, hf⟩ := Option.bind_eq_some_iff.mp hf
      refine jr_cV11 hF ml_X12_97 (c_X12_refuse h0 hq7) h0 ⟨Nat.le_of_ble_eq_true rfl, Nat.le_of_ble_eq_true rfl⟩ (Nat.le_of_ble_eq_true rfl) dX12_day_36 ?_
      obtain rfl := Option.some.inj hf
      exact jr_ireturn hF hE dX12_day_39
  · refine jr_aload_n hF dX12_day_12 0 rfl rfl ?_
    refine jr_iconst (v := 1) hF dX12_day_13 rfl ?_
    obtain ⟨q8, hq8, hf⟩ := Option.bind_eq_some_iff.mp hf
    refine jr_cV11 hF ml_X12_97 (c_X12_refuse h0 hq8) h0 ⟨Nat.le_of_ble_eq_true rfl, Nat.le_of_ble_eq_true rfl⟩ (Nat.le_of_ble_eq_true rfl) dX12_day_14 ?_
    obtain rfl := Option.some.inj hf
    exact jr_ireturn hF hE dX12_day_17
def f_X12_day (σ : lt_S) (o : Nat) (x1 : Int32) (w : lt_W) : Option (Int32 × lt_W) := fb_X12_day_0 σ o x1 w
set_option maxRecDepth 100000 in
theorem c_X12_day {l : Launch} {D : va_G} {gA : Nat → ClassId} {s0 : State} {σ : lt_S} (hT : lt_Wt σ) {o : Nat} (h0 : lt_c σ o = 12) {x1 : Int32} {w : lt_W} {r : Int32 × lt_W} (hf : f_X12_day σ o x1 w = some r) : lt_C l D gA s0 yX12_day cX12_day 2 (some .int) (lt_rm 8) [.ref (s0.heap.size + o), .int x1] σ w σ (some (.int r.1)) r.2 := by
  refine lt_enter rfl (Nat.le_of_ble_eq_true rfl) (fun X e1 e2 e3 e4 hF hE => ?_)
  subst e1 e2 e3 e4
  exact jb_X12_day_0 hT h0 hF hE _ _ hf

set_option maxRecDepth 100000 in
def fb_X12_daysBy_73 (σ : lt_S) (o : Nat) (k19 : Int32 → Int32 → lt_W → Option (Int32 × lt_W)) (x1 : Int32) (x2 : Int32) (y0 : Nat) (y1 : Int32) (y2 : Int32) (y3 : Int32) (w : lt_W) : Option (Int32 × lt_W) := lt_ck y1 (lt_len σ y0) (lt_let (lt_si w y0 y1.toNatClampNeg (y2 + y3)) (fun w1 => k19 x1 (x2 + 1) w1))
set_option maxHeartbeats 4000000 in
set_option maxRecDepth 100000 in
theorem jb_X12_daysBy_73 {X : lt_X} {σ : lt_S} (hT : lt_Wt σ) {o : Nat} (h0 : lt_c σ o = 12) {r : Int32 × lt_W} {k19 : Int32 → Int32 → lt_W → Option (Int32 × lt_W)} (hF : lt_F X cX12_daysBy RX12 4 (lt_rm 7)) (hE : lt_E X 0 0 σ (some .boolean) (some (.int r.1)) r.2) (hk19 : ∀ (x1 : Int32) (x2 : Int32) (w : lt_W), k19 x1 x2 w = some r → lt_J X 0 0 σ w 19 [(0, .ref (lt_z X + o)), (1, .int x1), (2, .int x2)] []) : ∀ (x1 : Int32) (x2 : Int32) (y0 : Nat) (y1 : Int32) (y2 : Int32) (y3 : Int32) (w : lt_W), lt_c σ y0 = 50 → fb_X12_daysBy_73 σ o k19 x1 x2 y0 y1 y2 y3 w = some r → lt_J X 0 0 σ w 73 [(0, .ref (lt_z X + o)), (1, .int x1), (2, .int x2)] [.int y3, .int y2, .int y1, .ref (lt_z X + y0)] := by
  intro x1 x2 y0 y1 y2 y3 w u0 hf
  unfold fb_X12_daysBy_73 at hf
  refine jr_iadd hF dX12_daysBy_73 ?_
  refine jr_iastore hF u0 dX12_daysBy_74 hf (fun hf => ?_)
  refine jr_letW hf (fun w1 hf => ?_)
  refine jr_iinc (v := x2 + 1) (lv' := [(0, .ref (lt_z X + o)), (1, .int x1), (2, .int (x2 + 1))]) hF dX12_daysBy_75 2 rfl rfl (by decide) [1, 2, 0] rfl ?_
  refine jr_goto (tgt := 19) hF dX12_daysBy_78 rfl ?_
  exact hk19 _ _ _ hf
set_option maxRecDepth 100000 in
def fb_X12_daysBy_72 (σ : lt_S) (o : Nat) (k19 : Int32 → Int32 → lt_W → Option (Int32 × lt_W)) (x1 : Int32) (x2 : Int32) (y0 : Nat) (y1 : Int32) (y2 : Int32) (w : lt_W) : Option (Int32 × lt_W) := fb_X12_daysBy_73 σ o k19 x1 x2 y0 y1 y2 0 w
set_option maxHeartbeats 4000000 in
set_option maxRecDepth 100000 in
theorem jb_X12_daysBy_72 {X : lt_X} {σ : lt_S} (hT : lt_Wt σ) {o : Nat} (h0 : lt_c σ o = 12) {r : Int32 × lt_W} {k19 : Int32 → Int32 → lt_W → Option (Int32 × lt_W)} (hF : lt_F X cX12_daysBy RX12 4 (lt_rm 7)) (hE : lt_E X 0 0 σ (some .boolean) (some (.int r.1)) r.2) (hk19 : ∀ (x1 : Int32) (x2 : Int32) (w : lt_W), k19 x1 x2 w = some r → lt_J X 0 0 σ w 19 [(0, .ref (lt_z X + o)), (1, .int x1), (2, .int x2)] []) : ∀ (x1 : Int32) (x2 : Int32) (y0 : Nat) (y1 : Int32) (y2 : Int32) (w : lt_W), lt_c σ y0 = 50 → fb_X12_daysBy_72 σ o k19 x1 x2 y0 y1 y2 w = some r → lt_J X 0 0 σ w 72 [(0, .ref (lt_z X + o)), (1, .int x1), (2, .int x2)] [.int y2, .int y1, .ref (lt_z X + y0)] := by
  intro x1 x2 y0 y1 y2 w u0 hf
  unfold fb_X12_daysBy_72 at hf
  refine jr_iconst (v := 0) hF dX12_daysBy_72 rfl ?_
  exact jb_X12_daysBy_73 hT h0 hF hE hk19 _ _ _ _ _ _ _ u0 hf
set_option maxRecDepth 100000 in
def fb_X12_daysBy_46 (σ : lt_S) (o : Nat) (k19 : Int32 → Int32 → lt_W → Option (Int32 × lt_W)) (x1 : Int32) (x2 : Int32) (x3 : Int32) (y0 : Nat) (y1 : Int32) (y2 : Int32) (y3 : Int32) (w : lt_W) : Option (Int32 × lt_W) := lt_ck y1 (lt_len σ y0) (lt_let (lt_si w y0 y1.toNatClampNeg (y2 + y3)) (fun w1 => lt_ck 3 (lt_len σ (lt_r σ o 37)) (if x3 = (-1) then fb_X12_daysBy_72 σ o k19 x1 x2 (lt_r σ o 37) 3 (lt_gi w1 (lt_r σ o 37) (3 : Int32).toNatClampNeg) w1 else Option.bind (f_X12_isHere σ o x3 w1) (fun q3 => if q3 = 0 then fb_X12_daysBy_73 σ o k19 x1 x2 (lt_r σ o 37) 3 (lt_gi w1 (lt_r σ o 37) (3 : Int32).toNatClampNeg) 1 w1 else fb_X12_daysBy_72 σ o k19 x1 x2 (lt_r σ o 37) 3 (lt_gi w1 (lt_r σ o 37) (3 : Int32).toNatClampNeg) w1))))
set_option maxHeartbeats 4000000 in
set_option maxRecDepth 100000 in
theorem jb_X12_daysBy_46 {X : lt_X} {σ : lt_S} (hT : lt_Wt σ) {o : Nat} (h0 : lt_c σ o = 12) {r : Int32 × lt_W} {k19 : Int32 → Int32 → lt_W → Option (Int32 × lt_W)} (hF : lt_F X cX12_daysBy RX12 4 (lt_rm 7)) (hE : lt_E X 0 0 σ (some .boolean) (some (.int r.1)) r.2) (hk19 : ∀ (x1 : Int32) (x2 : Int32) (w : lt_W), k19 x1 x2 w = some r → lt_J X 0 0 σ w 19 [(0, .ref (lt_z X + o)), (1, .int x1), (2, .int x2)] []) : ∀ (x1 : Int32) (x2 : Int32) (x3 : Int32) (y0 : Nat) (y1 : Int32) (y2 : Int32) (y3 : Int32) (w : lt_W), lt_c σ y0 = 50 → fb_X12_daysBy_46 σ o k19 x1 x2 x3 y0 y1 y2 y3 w = some r → lt_J X 0 0 σ w 46 [(0, .ref (lt_z X + o)), (1, .int x1), (2, .int x2), (3, .int x3)] [.int y3, .int y2, .int y1, .ref (lt_z X + y0)] := by
  intro x1 x2 x3 y0 y1 y2 y3 w u0 hf
  unfold fb_X12_daysBy_46 at hf
  refine jr_iadd hF dX12_daysBy_46 ?_
  refine jr_iastore hF u0 dX12_daysBy_47 hf (fun hf => ?_)
  refine jr_letW hf (fun w1 hf => ?_)
  refine jr_aload_n hF dX12_daysBy_48 0 rfl rfl ?_
  refine jr_getRT (cr := 50) hF gf_X12_81 hT h0 rfl rfl dX12_daysBy_49 (fun th2 => ?_)
  refine jr_iconst (v := 3) hF dX12_daysBy_52 rfl ?_
  refine jr_dup2 hF dX12_daysBy_53 rfl rfl ?_
  refine jr_iaload hF th2 dX12_daysBy_54 hf (fun hf => ?_)
  refine jr_iload_n hF dX12_daysBy_55 3 rfl rfl ?_
  refine jr_iconst (v := (-1)) hF dX12_daysBy_56 rfl ?_
  refine jr_icmp_eq (tgt := 72) hF dX12_daysBy_57 rfl hf (fun hf => ?_) (fun hf => ?_)
  · refine jr_sub [0, 1, 2] rfl ?_
    exact jb_X12_daysBy_72 hT h0 hF hE hk19 _ _ _ _ _ _ th2 hf
  · refine jr_aload_n hF dX12_daysBy_60 0 rfl rfl ?_
    refine jr_iload_n hF dX12_daysBy_61 3 rfl rfl ?_
    obtain ⟨q3, hq3, hf⟩ := Option.bind_eq_some_iff.mp hf
    refine jr_cV11 hF ml_X12_272 (c_X12_isHere hT h0 hq3) h0 ⟨Nat.le_of_ble_eq_true rfl, Nat.le_of_ble_eq_true rfl⟩ (Nat.le_of_ble_eq_true rfl) dX12_daysBy_62 ?_
    refine jr_if_ne (tgt := 72) hF dX12_daysBy_65 rfl hf (fun hf => ?_) (fun hf => ?_)
    · refine jr_sub [0, 1, 2] rfl ?_
      exact jb_X12_daysBy_72 hT h0 hF hE hk19 _ _ _ _ _ _ th2 hf
    · refine jr_iconst (v := 1) hF dX12_daysBy_68 rfl ?_
      refine jr_goto (tgt := 73) hF dX12_daysBy_69 rfl ?_
      refine jr_sub [0, 1, 2] rfl ?_
      exact jb_X12_daysBy_73 hT h0 hF hE hk19 _ _ _ _ _ _ _ th2 hf
set_option maxRecDepth 100000 in
def fb_X12_daysBy_19 (σ : lt_S) (o : Nat) : Nat → Int32 → Int32 → lt_W → Option (Int32 × lt_W)
  | 0, _, _, _ => none
  | n + 1, x1, x2, w => if x1 ≤ x2 then lt_ck 1 (lt_len σ (lt_r σ o 37)) (lt_ck 1 (lt_len σ (lt_r σ o 37)) (lt_let (lt_si w (lt_r σ o 37) (1 : Int32).toNatClampNeg ((lt_gi w (lt_r σ o 37) (1 : Int32).toNatClampNeg) + x1)) (fun w2 => some (1, w2)))) else Option.bind (f_X12_dayGoes σ o w) (fun q3 => lt_ck 2 (lt_len σ (lt_r σ o 37)) (if q3.1 = (-1) then fb_X12_daysBy_46 σ o (fun x1 x2 w => fb_X12_daysBy_19 σ o n x1 x2 w) x1 x2 q3.1 (lt_r σ o 37) 2 (lt_gi q3.2 (lt_r σ o 37) (2 : Int32).toNatClampNeg) 0 q3.2 else fb_X12_daysBy_46 σ o (fun x1 x2 w => fb_X12_daysBy_19 σ o n x1 x2 w) x1 x2 q3.1 (lt_r σ o 37) 2 (lt_gi q3.2 (lt_r σ o 37) (2 : Int32).toNatClampNeg) 1 q3.2))
set_option maxHeartbeats 4000000 in
set_option maxRecDepth 100000 in
theorem jb_X12_daysBy_19 {X : lt_X} {σ : lt_S} (hT : lt_Wt σ) {o : Nat} (h0 : lt_c σ o = 12) {r : Int32 × lt_W} (hF : lt_F X cX12_daysBy RX12 4 (lt_rm 7)) (hE : lt_E X 0 0 σ (some .boolean) (some (.int r.1)) r.2) (n : Nat) : ∀ (x1 : Int32) (x2 : Int32) (w : lt_W), fb_X12_daysBy_19 σ o n x1 x2 w = some r → lt_J X 0 0 σ w 19 [(0, .ref (lt_z X + o)), (1, .int x1), (2, .int x2)] [] := by
  induction n with
  | zero => intro x1 x2 w hf; rw [fb_X12_daysBy_19] at hf; cases hf
  | succ n ih =>
    intro x1 x2 w hf
    rw [fb_X12_daysBy_19] at hf
    refine jr_iload_n hF dX12_daysBy_19 2 rfl rfl ?_
    refine jr_iload_n hF dX12_daysBy_20 1 rfl rfl ?_
    refine jr_icmp_ge (tgt := 81) hF dX12_daysBy_21 rfl hf (fun hf => ?_) (fun hf => ?_)
    · refine jr_aload_n hF dX12_daysBy_81 0 rfl rfl ?_
      refine jr_getRT (cr := 50) hF gf_X12_81 hT h0 rfl rfl dX12_daysBy_82 (fun th1 => ?_)
      refine jr_iconst (v := 1) hF dX12_daysBy_85 rfl ?_
      refine jr_dup2 hF dX12_daysBy_86 rfl rfl ?_
      refine jr_iaload hF th1 dX12_daysBy_87 hf (fun hf => ?_)
      refine jr_iload_n hF dX12_daysBy_88 1 rfl rfl ?_
      refine jr_iadd hF dX12_daysBy_89 ?_
      refine jr_iastore hF th1 dX12_daysBy_90 hf (fun hf => ?_)
      refine jr_letW hf (fun w2 hf => ?_)
      refine jr_iconst (v := 1) hF dX12_daysBy_91 rfl ?_
      obtain rfl := Option.some.inj hf
      exact jr_zreturn hF hE (Or.inr rfl) dX12_daysBy_92
    · refine jr_aload_n hF dX12_daysBy_24 0 rfl rfl ?_
      obtain ⟨q3, hq3, hf⟩ := Option.bind_eq_some_iff.mp hf
      refine jr_cV01 hF ml_X12_302 (c_X12_dayGoes hT h0 hq3) h0 ⟨Nat.le_of_ble_eq_true rfl, Nat.le_of_ble_eq_true rfl⟩ (Nat.le_of_ble_eq_true rfl) dX12_daysBy_25 ?_
      refine jr_istore_n (lv' := [(0, .ref (lt_z X + o)), (1, .int x1), (2, .int x2), (3, .int q3.1)]) hF dX12_daysBy_28 rfl (by decide) [1, 2, 3, 0] rfl ?_
      refine jr_aload_n hF dX12_daysBy_29 0 rfl rfl ?_
      refine jr_getRT (cr := 50) hF gf_X12_81 hT h0 rfl rfl dX12_daysBy_30 (fun th4 => ?_)
      refine jr_iconst (v := 2) hF dX12_daysBy_33 rfl ?_
      refine jr_dup2 hF dX12_daysBy_34 rfl rfl ?_
      refine jr_iaload hF th4 dX12_daysBy_35 hf (fun hf => ?_)
      refine jr_iload_n hF dX12_daysBy_36 3 rfl rfl ?_
      refine jr_iconst (v := (-1)) hF dX12_daysBy_37 rfl ?_
      refine jr_icmp_ne (tgt := 45) hF dX12_daysBy_38 rfl hf (fun hf => ?_) (fun hf => ?_)
      · refine jr_iconst (v := 1) hF dX12_daysBy_45 rfl ?_
        exact jb_X12_daysBy_46 hT h0 hF hE ih _ _ _ _ _ _ _ _ th4 hf
      · refine jr_iconst (v := 0) hF dX12_daysBy_41 rfl ?_
        refine jr_goto (tgt := 46) hF dX12_daysBy_42 rfl ?_
        exact jb_X12_daysBy_46 hT h0 hF hE ih _ _ _ _ _ _ _ _ th4 hf
set_option maxRecDepth 100000 in
def fb_X12_daysBy_0 (σ : lt_S) (o : Nat) (x1 : Int32) (w : lt_W) : Option (Int32 × lt_W) := lt_ck 6 (lt_len σ (lt_r σ o 0)) (if ((lt_gi w (lt_r σ o 0) (6 : Int32).toNatClampNeg) + x1) ≤ 9999 then fb_X12_daysBy_19 σ o lt_fu x1 0 w else some (0, w))
set_option maxHeartbeats 4000000 in
set_option maxRecDepth 100000 in
theorem jb_X12_daysBy_0 {X : lt_X} {σ : lt_S} (hT : lt_Wt σ) {o : Nat} (h0 : lt_c σ o = 12) {r : Int32 × lt_W} (hF : lt_F X cX12_daysBy RX12 4 (lt_rm 7)) (hE : lt_E X 0 0 σ (some .boolean) (some (.int r.1)) r.2) : ∀ (x1 : Int32) (w : lt_W), fb_X12_daysBy_0 σ o x1 w = some r → lt_J X 0 0 σ w 0 [(0, .ref (lt_z X + o)), (1, .int x1)] [] := by
  intro x1 w hf
  unfold fb_X12_daysBy_0 at hf
  refine jr_aload_n hF dX12_daysBy_0 0 rfl rfl ?_
  refine jr_getRT (cr := 50) hF gf_X12_7 hT h0 rfl rfl dX12_daysBy_1 (fun th1 => ?_)
  refine jr_bipush (v := 6) hF dX12_daysBy_4 rfl ?_
  refine jr_iaload hF th1 dX12_daysBy_6 hf (fun hf => ?_)
  refine jr_iload_n hF dX12_daysBy_7 1 rfl rfl ?_
  refine jr_iadd hF dX12_daysBy_8 ?_
  refine jr_sipush (v := 9999) hF dX12_daysBy_9 rfl ?_
  refine jr_icmp_le (tgt := 17) hF dX12_daysBy_12 rfl hf (fun hf => ?_) (fun hf => ?_)
  · refine jr_iconst (v := 0) hF dX12_daysBy_17 rfl ?_
    refine jr_istore_n (lv' := [(0, .ref (lt_z X + o)), (1, .int x1), (2, .int 0)]) hF dX12_daysBy_18 rfl (by decide) [1, 2, 0] rfl ?_
    exact jb_X12_daysBy_19 hT h0 hF hE lt_fu _ _ _ hf
  · refine jr_iconst (v := 0) hF dX12_daysBy_15 rfl ?_
    obtain rfl := Option.some.inj hf
    exact jr_zreturn hF hE (Or.inl rfl) dX12_daysBy_16
def f_X12_daysBy (σ : lt_S) (o : Nat) (x1 : Int32) (w : lt_W) : Option (Int32 × lt_W) := fb_X12_daysBy_0 σ o x1 w
set_option maxRecDepth 100000 in
theorem c_X12_daysBy {l : Launch} {D : va_G} {gA : Nat → ClassId} {s0 : State} {σ : lt_S} (hT : lt_Wt σ) {o : Nat} (h0 : lt_c σ o = 12) {x1 : Int32} {w : lt_W} {r : Int32 × lt_W} (hf : f_X12_daysBy σ o x1 w = some r) : lt_C l D gA s0 yX12_daysBy cX12_daysBy 4 (some .boolean) (lt_rm 7) [.ref (s0.heap.size + o), .int x1] σ w σ (some (.int r.1)) r.2 := by
  refine lt_enter rfl (Nat.le_of_ble_eq_true rfl) (fun X e1 e2 e3 e4 hF hE => ?_)
  subst e1 e2 e3 e4
  exact jb_X12_daysBy_0 hT h0 hF hE _ _ hf

set_option maxRecDepth 100000 in
def fb_X12_fedBy_0 (σ : lt_S) (o : Nat) (x1 : Int32) (w : lt_W) : Option (Int32 × lt_W) := Option.bind (f_X12_isHere σ o x1 w) (fun q1 => if q1 = 0 then some (0, w) else Option.bind (f_X12_guestOf σ o x1 4 w) (fun q2 => if q2 = 0 then some (0, w) else Option.bind (f_X12_guestRow x1) (fun q4 => lt_ck (q4 + 4) (lt_len σ (lt_r σ o 0)) (lt_let (lt_si w (lt_r σ o 0) (q4 + 4).toNatClampNeg 0) (fun w5 => some (1, w5))))))
set_option maxHeartbeats 4000000 in
set_option maxRecDepth 100000 in
theorem jb_X12_fedBy_0 {X : lt_X} {σ : lt_S} (hT : lt_Wt σ) {o : Nat} (h0 : lt_c σ o = 12) {r : Int32 × lt_W} (hF : lt_F X cX12_fedBy RX12 2 (lt_rm 4)) (hE : lt_E X 0 0 σ (some .boolean) (some (.int r.1)) r.2) : ∀ (x1 : Int32) (w : lt_W), fb_X12_fedBy_0 σ o x1 w = some r → lt_J X 0 0 σ w 0 [(0, .ref (lt_z X + o)), (1, .int x1)] [] := by
  intro x1 w hf
  unfold fb_X12_fedBy_0 at hf
  refine jr_aload_n hF dX12_fedBy_0 0 rfl rfl ?_
  refine jr_iload_n hF dX12_fedBy_1 1 rfl rfl ?_
  obtain ⟨q1, hq1, hf⟩ := Option.bind_eq_some_iff.mp hf
  refine jr_cV11 hF ml_X12_272 (c_X12_isHere hT h0 hq1) h0 ⟨Nat.le_of_ble_eq_true rfl, Nat.le_of_ble_eq_true rfl⟩ (Nat.le_of_ble_eq_true rfl) dX12_fedBy_2 ?_
  refine jr_if_eq (tgt := 17) hF dX12_fedBy_5 rfl hf (fun hf => ?_) (fun hf => ?_)
  · refine jr_iconst (v := 0) hF dX12_fedBy_17 rfl ?_
    obtain rfl := Option.some.inj hf
    exact jr_zreturn hF hE (Or.inl rfl) dX12_fedBy_18
  · refine jr_aload_n hF dX12_fedBy_8 0 rfl rfl ?_
    refine jr_iload_n hF dX12_fedBy_9 1 rfl rfl ?_
    refine jr_iconst (v := 4) hF dX12_fedBy_10 rfl ?_
    obtain ⟨q2, hq2, hf⟩ := Option.bind_eq_some_iff.mp hf
    refine jr_cV21 hF ml_X12_269 (c_X12_guestOf hT h0 hq2) h0 ⟨Nat.le_of_ble_eq_true rfl, Nat.le_of_ble_eq_true rfl⟩ (Nat.le_of_ble_eq_true rfl) dX12_fedBy_11 ?_
    refine jr_if_ne (tgt := 19) hF dX12_fedBy_14 rfl hf (fun hf => ?_) (fun hf => ?_)
    · refine jr_aload_n hF dX12_fedBy_19 0 rfl rfl ?_
      refine jr_getRT (cr := 50) hF gf_X12_7 hT h0 rfl rfl dX12_fedBy_20 (fun th3 => ?_)
      refine jr_iload_n hF dX12_fedBy_23 1 rfl rfl ?_
      obtain ⟨q4, hq4, hf⟩ := Option.bind_eq_some_iff.mp hf
      refine jr_cS11 hF ml_X12_192 (c_X12_guestRow hq4) ⟨Nat.le_of_ble_eq_true rfl, Nat.le_of_ble_eq_true rfl⟩ (Nat.le_of_ble_eq_true rfl) dX12_fedBy_24 ?_
      refine jr_iconst (v := 4) hF dX12_fedBy_27 rfl ?_
      refine jr_iadd hF dX12_fedBy_28 ?_
      refine jr_iconst (v := 0) hF dX12_fedBy_29 rfl ?_
      refine jr_iastore hF th3 dX12_fedBy_30 hf (fun hf => ?_)
      refine jr_letW hf (fun w5 hf => ?_)
      refine jr_iconst (v := 1) hF dX12_fedBy_31 rfl ?_
      obtain rfl := Option.some.inj hf
      exact jr_zreturn hF hE (Or.inr rfl) dX12_fedBy_32
    · refine jr_iconst (v := 0) hF dX12_fedBy_17 rfl ?_
      obtain rfl := Option.some.inj hf
      exact jr_zreturn hF hE (Or.inl rfl) dX12_fedBy_18
def f_X12_fedBy (σ : lt_S) (o : Nat) (x1 : Int32) (w : lt_W) : Option (Int32 × lt_W) := fb_X12_fedBy_0 σ o x1 w
set_option maxRecDepth 100000 in
theorem c_X12_fedBy {l : Launch} {D : va_G} {gA : Nat → ClassId} {s0 : State} {σ : lt_S} (hT : lt_Wt σ) {o : Nat} (h0 : lt_c σ o = 12) {x1 : Int32} {w : lt_W} {r : Int32 × lt_W} (hf : f_X12_fedBy σ o x1 w = some r) : lt_C l D gA s0 yX12_fedBy cX12_fedBy 2 (some .boolean) (lt_rm 4) [.ref (s0.heap.size + o), .int x1] σ w σ (some (.int r.1)) r.2 := by
  refine lt_enter rfl (Nat.le_of_ble_eq_true rfl) (fun X e1 e2 e3 e4 hF hE => ?_)
  subst e1 e2 e3 e4
  exact jb_X12_fedBy_0 hT h0 hF hE _ _ hf

set_option maxRecDepth 100000 in
def fb_X12_draw_0 (σ : lt_S) (o : Nat) (x1 : Int32) (w : lt_W) : Option (Int32 × lt_W) := lt_let (lt_si w o 34 ((((lt_gi w o 34) * 3283) + 11511) - (((lt_gi w o 34) * 3283) + 11511) / 65536 * 65536)) (fun w1 => lt_nz x1 (some (((lt_gi w1 o 34) / 8) - ((lt_gi w1 o 34) / 8) / x1 * x1, w1)))
set_option maxHeartbeats 4000000 in
set_option maxRecDepth 100000 in
theorem jb_X12_draw_0 {X : lt_X} {σ : lt_S} {o : Nat} (h0 : lt_c σ o = 12) {r : Int32 × lt_W} (hF : lt_F X cX12_draw RX12 2 (lt_rm 1)) (hE : lt_E X 0 0 σ (some .int) (some (.int r.1)) r.2) : ∀ (x1 : Int32) (w : lt_W), fb_X12_draw_0 σ o x1 w = some r → lt_J X 0 0 σ w 0 [(0, .ref (lt_z X + o)), (1, .int x1)] [] := by
  intro x1 w hf
  unfold fb_X12_draw_0 at hf
  refine jr_aload_n hF dX12_draw_0 0 rfl rfl ?_
  refine jr_aload_n hF dX12_draw_1 0 rfl rfl ?_
  refine jr_getI hF gf_X12_397 h0 dX12_draw_2 ?_
  refine jr_sipush (v := 3283) hF dX12_draw_5 rfl ?_
  refine jr_imul hF dX12_draw_8 ?_
  refine jr_sipush (v := 11511) hF dX12_draw_9 rfl ?_
  refine jr_iadd hF dX12_draw_12 ?_
  refine jr_ldcw (v := 65536) hF dX12_draw_13 kc_X12_400 ?_
  refine jr_iremc hF dX12_draw_16 (by decide) ?_
  refine jr_putI hF pf_X12_397 h0 dX12_draw_17 ?_
  refine jr_letW hf (fun w1 hf => ?_)
  refine jr_aload_n hF dX12_draw_20 0 rfl rfl ?_
  refine jr_getI hF gf_X12_397 h0 dX12_draw_21 ?_
  refine jr_bipush (v := 8) hF dX12_draw_24 rfl ?_
  refine jr_idivc hF dX12_draw_26 (by decide) ?_
  refine jr_iload_n hF dX12_draw_27 1 rfl rfl ?_
  refine jr_irem hF dX12_draw_28 hf (fun hf => ?_)
  obtain rfl := Option.some.inj hf
  exact jr_ireturn hF hE dX12_draw_29
def f_X12_draw (σ : lt_S) (o : Nat) (x1 : Int32) (w : lt_W) : Option (Int32 × lt_W) := fb_X12_draw_0 σ o x1 w
set_option maxRecDepth 100000 in
theorem c_X12_draw {l : Launch} {D : va_G} {gA : Nat → ClassId} {s0 : State} {σ : lt_S} {o : Nat} (h0 : lt_c σ o = 12) {x1 : Int32} {w : lt_W} {r : Int32 × lt_W} (hf : f_X12_draw σ o x1 w = some r) : lt_C l D gA s0 yX12_draw cX12_draw 2 (some .int) (lt_rm 1) [.ref (s0.heap.size + o), .int x1] σ w σ (some (.int r.1)) r.2 := by
  refine lt_enter rfl (Nat.le_of_ble_eq_true rfl) (fun X e1 e2 e3 e4 hF hE => ?_)
  subst e1 e2 e3 e4
  exact jb_X12_draw_0 h0 hF hE _ _ hf

set_option maxRecDepth 100000 in
def fb_X12_doesAny_0 (σ : lt_S) (o : Nat) (w : lt_W) : Option (Int32 × lt_W) := lt_ck 0 (lt_len σ (lt_r σ o 0)) (if (lt_gi w (lt_r σ o 0) (0 : Int32).toNatClampNeg) = 0 then some (0, w) else lt_ck 0 (lt_len σ (lt_r σ o 0)) (Option.bind (f_X12_draw σ o (lt_gi w (lt_r σ o 0) (0 : Int32).toNatClampNeg) w) (fun q3 => Option.bind (f_X12_draw σ o 16 q3.2) (fun q4 => lt_ck 1 (lt_len σ (lt_r σ o 0)) (if q4.1 < (lt_gi q4.2 (lt_r σ o 0) (1 : Int32).toNatClampNeg) then Option.bind (f_X12_isHere σ o q3.1 q4.2) (fun q6 => if q6 = 0 then some (0, q4.2) else Option.bind (f_X12_guestOf σ o q3.1 0 q4.2) (fun q7 => if q7 = 20 then some (0, q4.2) else Option.bind (f_X12_guestRow q3.1) (fun q9 => lt_ck q9 (lt_len σ (lt_r σ o 0)) (lt_ck q9 (lt_len σ (lt_r σ o 0)) (lt_let (lt_si q4.2 (lt_r σ o 0) q9.toNatClampNeg ((lt_gi q4.2 (lt_r σ o 0) q9.toNatClampNeg) + 1)) (fun w10 => some (1, w10))))))) else Option.bind (f_X12_daysBy σ o 1 q4.2) (fun q11 => lt_bz q11.1 (some (q11.1, q11.2))))))))
set_option maxHeartbeats 4000000 in
set_option maxRecDepth 100000 in
theorem jb_X12_doesAny_0 {X : lt_X} {σ : lt_S} (hT : lt_Wt σ) {o : Nat} (h0 : lt_c σ o = 12) {r : Int32 × lt_W} (hF : lt_F X cX12_doesAny RX12 2 (lt_rm 8)) (hE : lt_E X 0 0 σ (some .boolean) (some (.int r.1)) r.2) : ∀ (w : lt_W), fb_X12_doesAny_0 σ o w = some r → lt_J X 0 0 σ w 0 [(0, .ref (lt_z X + o))] [] := by
  intro w hf
  unfold fb_X12_doesAny_0 at hf
  refine jr_aload_n hF dX12_doesAny_0 0 rfl rfl ?_
  refine jr_getRT (cr := 50) hF gf_X12_7 hT h0 rfl rfl dX12_doesAny_1 (fun th1 => ?_)
  refine jr_iconst (v := 0) hF dX12_doesAny_4 rfl ?_
  refine jr_iaload hF th1 dX12_doesAny_5 hf (fun hf => ?_)
  refine jr_if_ne (tgt := 11) hF dX12_doesAny_6 rfl hf (fun hf => ?_) (fun hf => ?_)
  · refine jr_aload_n hF dX12_doesAny_11 0 rfl rfl ?_
    refine jr_aload_n hF dX12_doesAny_12 0 rfl rfl ?_
    refine jr_getRT (cr := 50) hF gf_X12_7 hT h0 rfl rfl dX12_doesAny_13 (fun th2 => ?_)
    refine jr_iconst (v := 0) hF dX12_doesAny_16 rfl ?_
    refine jr_iaload hF th2 dX12_doesAny_17 hf (fun hf => ?_)
    obtain ⟨q3, hq3, hf⟩ := Option.bind_eq_some_iff.mp hf
    refine jr_cV11 hF ml_X12_401 (c_X12_draw h0 hq3) h0 ⟨Nat.le_of_ble_eq_true rfl, Nat.le_of_ble_eq_true rfl⟩ (Nat.le_of_ble_eq_true rfl) dX12_doesAny_18 ?_
    refine jr_istore_n (lv' := [(0, .ref (lt_z X + o)), (1, .int q3.1)]) hF dX12_doesAny_21 rfl (by decide) [1, 0] rfl ?_
    refine jr_aload_n hF dX12_doesAny_22 0 rfl rfl ?_
    refine jr_bipush (v := 16) hF dX12_doesAny_23 rfl ?_
    obtain ⟨q4, hq4, hf⟩ := Option.bind_eq_some_iff.mp hf
    refine jr_cV11 hF ml_X12_401 (c_X12_draw h0 hq4) h0 ⟨Nat.le_of_ble_eq_true rfl, Nat.le_of_ble_eq_true rfl⟩ (Nat.le_of_ble_eq_true rfl) dX12_doesAny_25 ?_
    refine jr_aload_n hF dX12_doesAny_28 0 rfl rfl ?_
    refine jr_getRT (cr := 50) hF gf_X12_7 hT h0 rfl rfl dX12_doesAny_29 (fun th5 => ?_)
    refine jr_iconst (v := 1) hF dX12_doesAny_32 rfl ?_
    refine jr_iaload hF th5 dX12_doesAny_33 hf (fun hf => ?_)
    refine jr_icmp_lt (tgt := 43) hF dX12_doesAny_34 rfl hf (fun hf => ?_) (fun hf => ?_)
    · refine jr_aload_n hF dX12_doesAny_43 0 rfl rfl ?_
      refine jr_iload_n hF dX12_doesAny_44 1 rfl rfl ?_
      obtain ⟨q6, hq6, hf⟩ := Option.bind_eq_some_iff.mp hf
      refine jr_cV11 hF ml_X12_272 (c_X12_isHere hT h0 hq6) h0 ⟨Nat.le_of_ble_eq_true rfl, Nat.le_of_ble_eq_true rfl⟩ (Nat.le_of_ble_eq_true rfl) dX12_doesAny_45 ?_
      refine jr_if_eq (tgt := 62) hF dX12_doesAny_48 rfl hf (fun hf => ?_) (fun hf => ?_)
      · refine jr_iconst (v := 0) hF dX12_doesAny_62 rfl ?_
        obtain rfl := Option.some.inj hf
        exact jr_zreturn hF hE (Or.inl rfl) dX12_doesAny_63
      · refine jr_aload_n hF dX12_doesAny_51 0 rfl rfl ?_
        refine jr_iload_n hF dX12_doesAny_52 1 rfl rfl ?_
        refine jr_iconst (v := 0) hF dX12_doesAny_53 rfl ?_
        obtain ⟨q7, hq7, hf⟩ := Option.bind_eq_some_iff.mp hf
        refine jr_cV21 hF ml_X12_269 (c_X12_guestOf hT h0 hq7) h0 ⟨Nat.le_of_ble_eq_true rfl, Nat.le_of_ble_eq_true rfl⟩ (Nat.le_of_ble_eq_true rfl) dX12_doesAny_54 ?_
        refine jr_bipush (v := 20) hF dX12_doesAny_57 rfl ?_
        refine jr_icmp_ne (tgt := 64) hF dX12_doesAny_59 rfl hf (fun hf => ?_) (fun hf => ?_)
        · refine jr_aload_n hF dX12_doesAny_64 0 rfl rfl ?_
          refine jr_getRT (cr := 50) hF gf_X12_7 hT h0 rfl rfl dX12_doesAny_65 (fun th8 => ?_)
          refine jr_iload_n hF dX12_doesAny_68 1 rfl rfl ?_
          obtain ⟨q9, hq9, hf⟩ := Option.bind_eq_some_iff.mp hf
          refine jr_cS11 hF ml_X12_192 (c_X12_guestRow hq9) ⟨Nat.le_of_ble_eq_true rfl, Nat.le_of_ble_eq_true rfl⟩ (Nat.le_of_ble_eq_true rfl) dX12_doesAny_69 ?_
          refine jr_dup2 hF dX12_doesAny_72 rfl rfl ?_
          refine jr_iaload hF th8 dX12_doesAny_73 hf (fun hf => ?_)
          refine jr_iconst (v := 1) hF dX12_doesAny_74 rfl ?_
          refine jr_iadd hF dX12_doesAny_75 ?_
          refine jr_iastore hF th8 dX12_doesAny_76 hf (fun hf => ?_)
          refine jr_letW hf (fun w10 hf => ?_)
          refine jr_iconst (v := 1) hF dX12_doesAny_77 rfl ?_
          obtain rfl := Option.some.inj hf
          exact jr_zreturn hF hE (Or.inr rfl) dX12_doesAny_78
        · refine jr_iconst (v := 0) hF dX12_doesAny_62 rfl ?_
          obtain rfl := Option.some.inj hf
          exact jr_zreturn hF hE (Or.inl rfl) dX12_doesAny_63
    · refine jr_aload_n hF dX12_doesAny_37 0 rfl rfl ?_
      refine jr_iconst (v := 1) hF dX12_doesAny_38 rfl ?_
      obtain ⟨q11, hq11, hf⟩ := Option.bind_eq_some_iff.mp hf
      refine jr_cV11 hF ml_X12_404 (c_X12_daysBy hT h0 hq11) h0 ⟨Nat.le_of_ble_eq_true rfl, Nat.le_of_ble_eq_true rfl⟩ (Nat.le_of_ble_eq_true rfl) dX12_doesAny_39 ?_
      obtain ⟨b12, hf⟩ := lt_bzE hf
      obtain rfl := Option.some.inj hf
      exact jr_zreturn hF hE b12 dX12_doesAny_42
  · refine jr_iconst (v := 0) hF dX12_doesAny_9 rfl ?_
    obtain rfl := Option.some.inj hf
    exact jr_zreturn hF hE (Or.inl rfl) dX12_doesAny_10
def f_X12_doesAny (σ : lt_S) (o : Nat) (w : lt_W) : Option (Int32 × lt_W) := fb_X12_doesAny_0 σ o w
set_option maxRecDepth 100000 in
theorem c_X12_doesAny {l : Launch} {D : va_G} {gA : Nat → ClassId} {s0 : State} {σ : lt_S} (hT : lt_Wt σ) {o : Nat} (h0 : lt_c σ o = 12) {w : lt_W} {r : Int32 × lt_W} (hf : f_X12_doesAny σ o w = some r) : lt_C l D gA s0 yX12_doesAny cX12_doesAny 2 (some .boolean) (lt_rm 8) [.ref (s0.heap.size + o)] σ w σ (some (.int r.1)) r.2 := by
  refine lt_enter rfl (Nat.le_of_ble_eq_true rfl) (fun X e1 e2 e3 e4 hF hE => ?_)
  subst e1 e2 e3 e4
  exact jb_X12_doesAny_0 hT h0 hF hE _ hf

set_option maxRecDepth 100000 in
def fb_X12_does_0 (σ : lt_S) (o : Nat) (x1 : Int32) (w : lt_W) : Option (Int32 × lt_W) := lt_ck (x1 + 1) (lt_len σ (lt_r σ o 0)) (lt_let (lt_gi w (lt_r σ o 0) (x1 + 1).toNatClampNeg) (fun z2 => lt_ck x1 (lt_len σ (lt_r σ o 0)) (if (lt_gi w (lt_r σ o 0) x1.toNatClampNeg) = 6 then lt_ck (x1 + 2) (lt_len σ (lt_r σ o 0)) (Option.bind (f_X12_passes σ o z2 (lt_gi w (lt_r σ o 0) (x1 + 2).toNatClampNeg) w) (fun q5 => lt_bz q5.1 (some (q5.1, q5.2)))) else if (lt_gi w (lt_r σ o 0) x1.toNatClampNeg) = 11 then Option.bind (f_X12_daysBy σ o z2 w) (fun q8 => lt_bz q8.1 (some (q8.1, q8.2))) else if (lt_gi w (lt_r σ o 0) x1.toNatClampNeg) = 12 then Option.bind (f_X12_cutsBy σ o z2 w) (fun q11 => lt_bz q11.1 (some (q11.1, q11.2))) else if (lt_gi w (lt_r σ o 0) x1.toNatClampNeg) = 13 then Option.bind (f_X12_fedBy σ o z2 w) (fun q14 => lt_bz q14.1 (some (q14.1, q14.2))) else if (lt_gi w (lt_r σ o 0) x1.toNatClampNeg) = 14 then Option.bind (f_X12_bakes σ o z2 w) (fun q17 => lt_bz q17.1 (some (q17.1, q17.2))) else if (lt_gi w (lt_r σ o 0) x1.toNatClampNeg) = 15 then Option.bind (f_X12_doesAny σ o w) (fun q20 => lt_bz q20.1 (some (q20.1, q20.2))) else some (1, w))))
set_option maxHeartbeats 4000000 in
set_option maxRecDepth 100000 in
theorem jb_X12_does_0 {X : lt_X} {σ : lt_S} (hT : lt_Wt σ) {o : Nat} (h0 : lt_c σ o = 12) {r : Int32 × lt_W} (hF : lt_F X cX12_does RX12 3 (lt_rm 9)) (hE : lt_E X 0 0 σ (some .boolean) (some (.int r.1)) r.2) : ∀ (x1 : Int32) (w : lt_W), fb_X12_does_0 σ o x1 w = some r → lt_J X 0 0 σ w 0 [(0, .ref (lt_z X + o)), (1, .int x1)] [] := by
  intro x1 w hf
  unfold fb_X12_does_0 at hf
  refine jr_aload_n hF dX12_does_0 0 rfl rfl ?_
  refine jr_getRT (cr := 50) hF gf_X12_7 hT h0 rfl rfl dX12_does_1 (fun th1 => ?_)
  refine jr_iload_n hF dX12_does_4 1 rfl rfl ?_
  refine jr_iconst (v := 1) hF dX12_does_5 rfl ?_
  refine jr_iadd hF dX12_does_6 ?_
  refine jr_iaload hF th1 dX12_does_7 hf (fun hf => ?_)
  refine jr_letI hf (fun z2 hf => ?_)
  refine jr_istore_n (lv' := [(0, .ref (lt_z X + o)), (1, .int x1), (2, .int z2)]) hF dX12_does_8 rfl (by decide) [1, 2, 0] rfl ?_
  refine jr_aload_n hF dX12_does_9 0 rfl rfl ?_
  refine jr_getRT (cr := 50) hF gf_X12_7 hT h0 rfl rfl dX12_does_10 (fun th3 => ?_)
  refine jr_iload_n hF dX12_does_13 1 rfl rfl ?_
  refine jr_iaload hF th3 dX12_does_14 hf (fun hf => ?_)
  by_cases c7 : (lt_gi w (lt_r σ o 0) x1.toNatClampNeg) = 6
  · rw [if_pos c7] at hf
    refine jr_tableIn (off := 65) (tgt := 80) hF dX12_does_15 (by rw [c7]; decide) (by rw [c7]; decide) (by rw [c7]; rfl) rfl ?_
    refine jr_aload_n hF dX12_does_80 0 rfl rfl ?_
    refine jr_iload_n hF dX12_does_81 2 rfl rfl ?_
    refine jr_aload_n hF dX12_does_82 0 rfl rfl ?_
    refine jr_getRT (cr := 50) hF gf_X12_7 hT h0 rfl rfl dX12_does_83 (fun th4 => ?_)
    refine jr_iload_n hF dX12_does_86 1 rfl rfl ?_
    refine jr_iconst (v := 2) hF dX12_does_87 rfl ?_
    refine jr_iadd hF dX12_does_88 ?_
    refine jr_iaload hF th4 dX12_does_89 hf (fun hf => ?_)
    obtain ⟨q5, hq5, hf⟩ := Option.bind_eq_some_iff.mp hf
    refine jr_cV21 hF ml_X12_320 (c_X12_passes hT h0 hq5) h0 ⟨Nat.le_of_ble_eq_true rfl, Nat.le_of_ble_eq_true rfl⟩ (Nat.le_of_ble_eq_true rfl) dX12_does_90 ?_
    obtain ⟨b6, hf⟩ := lt_bzE hf
    obtain rfl := Option.some.inj hf
    exact jr_zreturn hF hE b6 dX12_does_93
  rw [if_neg c7] at hf
  by_cases c10 : (lt_gi w (lt_r σ o 0) x1.toNatClampNeg) = 11
  · rw [if_pos c10] at hf
    refine jr_tableIn (off := 53) (tgt := 68) hF dX12_does_15 (by rw [c10]; decide) (by rw [c10]; decide) (by rw [c10]; rfl) rfl ?_
    refine jr_aload_n hF dX12_does_68 0 rfl rfl ?_
    refine jr_iload_n hF dX12_does_69 2 rfl rfl ?_
    obtain ⟨q8, hq8, hf⟩ := Option.bind_eq_some_iff.mp hf
    refine jr_cV11 hF ml_X12_404 (c_X12_daysBy hT h0 hq8) h0 ⟨Nat.le_of_ble_eq_true rfl, Nat.le_of_ble_eq_true rfl⟩ (Nat.le_of_ble_eq_true rfl) dX12_does_70 ?_
    obtain ⟨b9, hf⟩ := lt_bzE hf
    obtain rfl := Option.some.inj hf
    exact jr_zreturn hF hE b9 dX12_does_73
  rw [if_neg c10] at hf
  by_cases c13 : (lt_gi w (lt_r σ o 0) x1.toNatClampNeg) = 12
  · rw [if_pos c13] at hf
    refine jr_tableIn (off := 59) (tgt := 74) hF dX12_does_15 (by rw [c13]; decide) (by rw [c13]; decide) (by rw [c13]; rfl) rfl ?_
    refine jr_aload_n hF dX12_does_74 0 rfl rfl ?_
    refine jr_iload_n hF dX12_does_75 2 rfl rfl ?_
    obtain ⟨q11, hq11, hf⟩ := Option.bind_eq_some_iff.mp hf
    refine jr_cV11 hF ml_X12_407 (c_X12_cutsBy hT h0 hq11) h0 ⟨Nat.le_of_ble_eq_true rfl, Nat.le_of_ble_eq_true rfl⟩ (Nat.le_of_ble_eq_true rfl) dX12_does_76 ?_
    obtain ⟨b12, hf⟩ := lt_bzE hf
    obtain rfl := Option.some.inj hf
    exact jr_zreturn hF hE b12 dX12_does_79
  rw [if_neg c13] at hf
  by_cases c16 : (lt_gi w (lt_r σ o 0) x1.toNatClampNeg) = 13
  · rw [if_pos c16] at hf
    refine jr_tableIn (off := 79) (tgt := 94) hF dX12_does_15 (by rw [c16]; decide) (by rw [c16]; decide) (by rw [c16]; rfl) rfl ?_
    refine jr_aload_n hF dX12_does_94 0 rfl rfl ?_
    refine jr_iload_n hF dX12_does_95 2 rfl rfl ?_
    obtain ⟨q14, hq14, hf⟩ := Option.bind_eq_some_iff.mp hf
    refine jr_cV11 hF ml_X12_323 (c_X12_fedBy hT h0 hq14) h0 ⟨Nat.le_of_ble_eq_true rfl, Nat.le_of_ble_eq_true rfl⟩ (Nat.le_of_ble_eq_true rfl) dX12_does_96 ?_
    obtain ⟨b15, hf⟩ := lt_bzE hf
    obtain rfl := Option.some.inj hf
    exact jr_zreturn hF hE b15 dX12_does_99
  rw [if_neg c16] at hf
  by_cases c19 : (lt_gi w (lt_r σ o 0) x1.toNatClampNeg) = 14
  · rw [if_pos c19] at hf
    refine jr_tableIn (off := 85) (tgt := 100) hF dX12_does_15 (by rw [c19]; decide) (by rw [c19]; decide) (by rw [c19]; rfl) rfl ?_
    refine jr_aload_n hF dX12_does_100 0 rfl rfl ?_
    refine jr_iload_n hF dX12_does_101 2 rfl rfl ?_
    obtain ⟨q17, hq17, hf⟩ := Option.bind_eq_some_iff.mp hf
    refine jr_cV11 hF ml_X12_410 (c_X12_bakes hT h0 hq17) h0 ⟨Nat.le_of_ble_eq_true rfl, Nat.le_of_ble_eq_true rfl⟩ (Nat.le_of_ble_eq_true rfl) dX12_does_102 ?_
    obtain ⟨b18, hf⟩ := lt_bzE hf
    obtain rfl := Option.some.inj hf
    exact jr_zreturn hF hE b18 dX12_does_105
  rw [if_neg c19] at hf
  by_cases c22 : (lt_gi w (lt_r σ o 0) x1.toNatClampNeg) = 15
  · rw [if_pos c22] at hf
    refine jr_tableIn (off := 91) (tgt := 106) hF dX12_does_15 (by rw [c22]; decide) (by rw [c22]; decide) (by rw [c22]; rfl) rfl ?_
    refine jr_aload_n hF dX12_does_106 0 rfl rfl ?_
    obtain ⟨q20, hq20, hf⟩ := Option.bind_eq_some_iff.mp hf
    refine jr_cV01 hF ml_X12_413 (c_X12_doesAny hT h0 hq20) h0 ⟨Nat.le_of_ble_eq_true rfl, Nat.le_of_ble_eq_true rfl⟩ (Nat.le_of_ble_eq_true rfl) dX12_does_107 ?_
    obtain ⟨b21, hf⟩ := lt_bzE hf
    obtain rfl := Option.some.inj hf
    exact jr_zreturn hF hE b21 dX12_does_110
  rw [if_neg c22] at hf
  by_cases c23 : (lt_gi w (lt_r σ o 0) x1.toNatClampNeg) = 7
  · refine jr_tableIn (off := 96) (tgt := 111) hF dX12_does_15 (by rw [c23]; decide) (by rw [c23]; decide) (by rw [c23]; rfl) rfl ?_
    refine jr_iconst (v := 1) hF dX12_does_111 rfl ?_
    obtain rfl := Option.some.inj hf
    exact jr_zreturn hF hE (Or.inr rfl) dX12_does_112
  by_cases c24 : (lt_gi w (lt_r σ o 0) x1.toNatClampNeg) = 8
  · refine jr_tableIn (off := 96) (tgt := 111) hF dX12_does_15 (by rw [c24]; decide) (by rw [c24]; decide) (by rw [c24]; rfl) rfl ?_
    refine jr_iconst (v := 1) hF dX12_does_111 rfl ?_
    obtain rfl := Option.some.inj hf
    exact jr_zreturn hF hE (Or.inr rfl) dX12_does_112
  by_cases c25 : (lt_gi w (lt_r σ o 0) x1.toNatClampNeg) = 9
  · refine jr_tableIn (off := 96) (tgt := 111) hF dX12_does_15 (by rw [c25]; decide) (by rw [c25]; decide) (by rw [c25]; rfl) rfl ?_
    refine jr_iconst (v := 1) hF dX12_does_111 rfl ?_
    obtain rfl := Option.some.inj hf
    exact jr_zreturn hF hE (Or.inr rfl) dX12_does_112
  by_cases c26 : (lt_gi w (lt_r σ o 0) x1.toNatClampNeg) = 10
  · refine jr_tableIn (off := 96) (tgt := 111) hF dX12_does_15 (by rw [c26]; decide) (by rw [c26]; decide) (by rw [c26]; rfl) rfl ?_
    refine jr_iconst (v := 1) hF dX12_does_111 rfl ?_
    obtain rfl := Option.some.inj hf
    exact jr_zreturn hF hE (Or.inr rfl) dX12_does_112
  refine jr_tableOut (tgt := 111) hF dX12_does_15 (lt_swd fun kk h1 h2 => by rcases (show kk = 6 ∨ kk = 11 ∨ kk = 12 ∨ kk = 13 ∨ kk = 14 ∨ kk = 15 ∨ kk = 7 ∨ kk = 8 ∨ kk = 9 ∨ kk = 10 by omega) with rfl | rfl | rfl | rfl | rfl | rfl | rfl | rfl | rfl | rfl <;> first | exact c7 | exact c10 | exact c13 | exact c16 | exact c19 | exact c22 | exact c23 | exact c24 | exact c25 | exact c26) rfl ?_
  refine jr_iconst (v := 1) hF dX12_does_111 rfl ?_
  obtain rfl := Option.some.inj hf
  exact jr_zreturn hF hE (Or.inr rfl) dX12_does_112
def f_X12_does (σ : lt_S) (o : Nat) (x1 : Int32) (w : lt_W) : Option (Int32 × lt_W) := fb_X12_does_0 σ o x1 w
set_option maxRecDepth 100000 in
theorem c_X12_does {l : Launch} {D : va_G} {gA : Nat → ClassId} {s0 : State} {σ : lt_S} (hT : lt_Wt σ) {o : Nat} (h0 : lt_c σ o = 12) {x1 : Int32} {w : lt_W} {r : Int32 × lt_W} (hf : f_X12_does σ o x1 w = some r) : lt_C l D gA s0 yX12_does cX12_does 3 (some .boolean) (lt_rm 9) [.ref (s0.heap.size + o), .int x1] σ w σ (some (.int r.1)) r.2 := by
  refine lt_enter rfl (Nat.le_of_ble_eq_true rfl) (fun X e1 e2 e3 e4 hF hE => ?_)
  subst e1 e2 e3 e4
  exact jb_X12_does_0 hT h0 hF hE _ _ hf

set_option maxRecDepth 100000 in
def fb_X12_fault_0 (σ : lt_S) (o : Nat) (w : lt_W) (x1 : Int32) : Option Int32 := if x1 = 0 then some (lt_gi w o 16) else if x1 = 1 then some (lt_gi w o 17) else some (-1)
set_option maxHeartbeats 4000000 in
set_option maxRecDepth 100000 in
theorem jb_X12_fault_0 {X : lt_X} {σ : lt_S} {o : Nat} (h0 : lt_c σ o = 12) {r : Int32} {w : lt_W} (hF : lt_F X cX12_fault RX12 2 (lt_rm 1)) (hE : lt_E X 0 0 σ (some .int) (some (.int r)) w) : ∀ (x1 : Int32), fb_X12_fault_0 σ o w x1 = some r → lt_J X 0 0 σ w 0 [(0, .ref (lt_z X + o)), (1, .int x1)] [] := by
  intro x1 hf
  unfold fb_X12_fault_0 at hf
  refine jr_iload_n hF dX12_fault_0 1 rfl rfl ?_
  refine jr_if_ne (tgt := 11) hF dX12_fault_1 rfl hf (fun hf => ?_) (fun hf => ?_)
  · refine jr_iload_n hF dX12_fault_11 1 rfl rfl ?_
    refine jr_iconst (v := 1) hF dX12_fault_12 rfl ?_
    refine jr_icmp_ne (tgt := 23) hF dX12_fault_13 rfl hf (fun hf => ?_) (fun hf => ?_)
    · refine jr_iconst (v := (-1)) hF dX12_fault_23 rfl ?_
      obtain rfl := Option.some.inj hf
      exact jr_ireturn hF hE dX12_fault_24
    · refine jr_aload_n hF dX12_fault_16 0 rfl rfl ?_
      refine jr_getI hF gf_X12_41 h0 dX12_fault_17 ?_
      refine jr_goto (tgt := 24) hF dX12_fault_20 rfl ?_
      obtain rfl := Option.some.inj hf
      exact jr_ireturn hF hE dX12_fault_24
  · refine jr_aload_n hF dX12_fault_4 0 rfl rfl ?_
    refine jr_getI hF gf_X12_37 h0 dX12_fault_5 ?_
    refine jr_goto (tgt := 24) hF dX12_fault_8 rfl ?_
    obtain rfl := Option.some.inj hf
    exact jr_ireturn hF hE dX12_fault_24
def f_X12_fault (σ : lt_S) (o : Nat) (x1 : Int32) (w : lt_W) : Option Int32 := fb_X12_fault_0 σ o w x1
set_option maxRecDepth 100000 in
theorem c_X12_fault {l : Launch} {D : va_G} {gA : Nat → ClassId} {s0 : State} {σ : lt_S} {o : Nat} (h0 : lt_c σ o = 12) {x1 : Int32} {w : lt_W} {r : Int32} (hf : f_X12_fault σ o x1 w = some r) : lt_C l D gA s0 yX12_fault cX12_fault 2 (some .int) (lt_rm 1) [.ref (s0.heap.size + o), .int x1] σ w σ (some (.int r)) w := by
  refine lt_enter rfl (Nat.le_of_ble_eq_true rfl) (fun X e1 e2 e3 e4 hF hE => ?_)
  subst e1 e2 e3 e4
  exact jb_X12_fault_0 h0 hF hE _ hf

set_option maxRecDepth 100000 in
def fb_X12_four_3 (σ : lt_S) (o : Nat) : Nat → Int32 → Int32 → lt_W → Option lt_W
  | 0, _, _, _ => none
  | n + 1, x1, x2, w => if x2 < 0 then some w else lt_ck (lt_gi w o 10) (lt_len σ (lt_r σ o 8)) (lt_let (lt_si w (lt_r σ o 8) (lt_gi w o 10).toNatClampNeg (vp_nar .byte ((x1 >>> (x2 &&& 31)).toInt8.toInt32))) (fun w2 => lt_let (lt_si w2 o 10 ((lt_gi w2 o 10) + 1)) (fun w3 => fb_X12_four_3 σ o n x1 (x2 + (-8)) w3)))
set_option maxHeartbeats 4000000 in
set_option maxRecDepth 100000 in
theorem jb_X12_four_3 {X : lt_X} {σ : lt_S} (hT : lt_Wt σ) {o : Nat} (h0 : lt_c σ o = 12) {r : lt_W} (hF : lt_F X cX12_four RX12 3 (lt_rm 1)) (hE : lt_E X 0 0 σ none none r) (n : Nat) : ∀ (x1 : Int32) (x2 : Int32) (w : lt_W), fb_X12_four_3 σ o n x1 x2 w = some r → lt_J X 0 0 σ w 3 [(0, .ref (lt_z X + o)), (1, .int x1), (2, .int x2)] [] := by
  induction n with
  | zero => intro x1 x2 w hf; rw [fb_X12_four_3] at hf; cases hf
  | succ n ih =>
    intro x1 x2 w hf
    rw [fb_X12_four_3] at hf
    refine jr_iload_n hF dX12_four_3 2 rfl rfl ?_
    refine jr_if_lt (tgt := 36) hF dX12_four_4 rfl hf (fun hf => ?_) (fun hf => ?_)
    · obtain rfl := Option.some.inj hf
      exact jr_return hF hE dX12_four_36
    · refine jr_aload_n hF dX12_four_7 0 rfl rfl ?_
      refine jr_getRT (cr := 52) hF gf_X12_30 hT h0 rfl rfl dX12_four_8 (fun th1 => ?_)
      refine jr_aload_n hF dX12_four_11 0 rfl rfl ?_
      refine jr_getI hF gf_X12_121 h0 dX12_four_12 ?_
      refine jr_iload_n hF dX12_four_15 1 rfl rfl ?_
      refine jr_iload_n hF dX12_four_16 2 rfl rfl ?_
      refine jr_ishr hF dX12_four_17 ?_
      refine jr_i2b hF dX12_four_18 ?_
      refine jr_bastoreB hF th1 dX12_four_19 hf (fun hf => ?_)
      refine jr_letW hf (fun w2 hf => ?_)
      refine jr_aload_n hF dX12_four_20 0 rfl rfl ?_
      refine jr_dup hF dX12_four_21 rfl ?_
      refine jr_getI hF gf_X12_121 h0 dX12_four_22 ?_
      refine jr_iconst (v := 1) hF dX12_four_25 rfl ?_
      refine jr_iadd hF dX12_four_26 ?_
      refine jr_putI hF pf_X12_121 h0 dX12_four_27 ?_
      refine jr_letW hf (fun w3 hf => ?_)
      refine jr_iinc (v := x2 + (-8)) (lv' := [(0, .ref (lt_z X + o)), (1, .int x1), (2, .int (x2 + (-8)))]) hF dX12_four_30 2 rfl rfl (by decide) [1, 2, 0] rfl ?_
      refine jr_goto (tgt := 3) hF dX12_four_33 rfl ?_
      exact ih _ _ _ hf
set_option maxRecDepth 100000 in
def fb_X12_four_0 (σ : lt_S) (o : Nat) (x1 : Int32) (w : lt_W) : Option lt_W := fb_X12_four_3 σ o lt_fu x1 24 w
set_option maxHeartbeats 4000000 in
set_option maxRecDepth 100000 in
theorem jb_X12_four_0 {X : lt_X} {σ : lt_S} (hT : lt_Wt σ) {o : Nat} (h0 : lt_c σ o = 12) {r : lt_W} (hF : lt_F X cX12_four RX12 3 (lt_rm 1)) (hE : lt_E X 0 0 σ none none r) : ∀ (x1 : Int32) (w : lt_W), fb_X12_four_0 σ o x1 w = some r → lt_J X 0 0 σ w 0 [(0, .ref (lt_z X + o)), (1, .int x1)] [] := by
  intro x1 w hf
  unfold fb_X12_four_0 at hf
  refine jr_bipush (v := 24) hF dX12_four_0 rfl ?_
  refine jr_istore_n (lv' := [(0, .ref (lt_z X + o)), (1, .int x1), (2, .int 24)]) hF dX12_four_2 rfl (by decide) [1, 2, 0] rfl ?_
  exact jb_X12_four_3 hT h0 hF hE lt_fu _ _ _ hf
def f_X12_four (σ : lt_S) (o : Nat) (x1 : Int32) (w : lt_W) : Option lt_W := fb_X12_four_0 σ o x1 w
set_option maxRecDepth 100000 in
theorem c_X12_four {l : Launch} {D : va_G} {gA : Nat → ClassId} {s0 : State} {σ : lt_S} (hT : lt_Wt σ) {o : Nat} (h0 : lt_c σ o = 12) {x1 : Int32} {w : lt_W} {r : lt_W} (hf : f_X12_four σ o x1 w = some r) : lt_C l D gA s0 yX12_four cX12_four 3 none (lt_rm 1) [.ref (s0.heap.size + o), .int x1] σ w σ none r := by
  refine lt_enter rfl (Nat.le_of_ble_eq_true rfl) (fun X e1 e2 e3 e4 hF hE => ?_)
  subst e1 e2 e3 e4
  exact jb_X12_four_0 hT h0 hF hE _ _ hf

set_option maxRecDepth 100000 in
def fb_X12_feed_0 (σ : lt_S) (o : Nat) (x1 : Int32) (x2 : Int32) (x3 : Int32) (x4 : Int32) (x5 : Int32) (w : lt_W) : Option (Int32 × lt_W) := if ((lt_gi w o 10) + 20) ≤ 900 then Option.bind (f_X12_four σ o x1 w) (fun q1 => Option.bind (f_X12_four σ o x2 q1) (fun q2 => Option.bind (f_X12_four σ o x3 q2) (fun q3 => Option.bind (f_X12_four σ o x4 q3) (fun q4 => Option.bind (f_X12_four σ o x5 q4) (fun q5 => some (lt_gi q5 o 10, q5)))))) else some ((-1), w)
set_option maxHeartbeats 4000000 in
set_option maxRecDepth 100000 in
theorem jb_X12_feed_0 {X : lt_X} {σ : lt_S} (hT : lt_Wt σ) {o : Nat} (h0 : lt_c σ o = 12) {r : Int32 × lt_W} (hF : lt_F X cX12_feed RX12 6 (lt_rm 2)) (hE : lt_E X 0 0 σ (some .int) (some (.int r.1)) r.2) : ∀ (x1 : Int32) (x2 : Int32) (x3 : Int32) (x4 : Int32) (x5 : Int32) (w : lt_W), fb_X12_feed_0 σ o x1 x2 x3 x4 x5 w = some r → lt_J X 0 0 σ w 0 [(0, .ref (lt_z X + o)), (1, .int x1), (2, .int x2), (3, .int x3), (4, .int x4), (5, .int x5)] [] := by
  intro x1 x2 x3 x4 x5 w hf
  unfold fb_X12_feed_0 at hf
  refine jr_aload_n hF dX12_feed_0 0 rfl rfl ?_
  refine jr_getI hF gf_X12_121 h0 dX12_feed_1 ?_
  refine jr_bipush (v := 20) hF dX12_feed_4 rfl ?_
  refine jr_iadd hF dX12_feed_6 ?_
  refine jr_sipush (v := 900) hF dX12_feed_7 rfl ?_
  refine jr_icmp_le (tgt := 15) hF dX12_feed_10 rfl hf (fun hf => ?_) (fun hf => ?_)
  · refine jr_aload_n hF dX12_feed_15 0 rfl rfl ?_
    refine jr_iload_n hF dX12_feed_16 1 rfl rfl ?_
    obtain ⟨q1, hq1, hf⟩ := Option.bind_eq_some_iff.mp hf
    refine jr_cV1v hF ml_X12_124 (c_X12_four hT h0 hq1) h0 ⟨Nat.le_of_ble_eq_true rfl, Nat.le_of_ble_eq_true rfl⟩ (Nat.le_of_ble_eq_true rfl) dX12_feed_17 ?_
    refine jr_aload_n hF dX12_feed_20 0 rfl rfl ?_
    refine jr_iload_n hF dX12_feed_21 2 rfl rfl ?_
    obtain ⟨q2, hq2, hf⟩ := Option.bind_eq_some_iff.mp hf
    refine jr_cV1v hF ml_X12_124 (c_X12_four hT h0 hq2) h0 ⟨Nat.le_of_ble_eq_true rfl, Nat.le_of_ble_eq_true rfl⟩ (Nat.le_of_ble_eq_true rfl) dX12_feed_22 ?_
    refine jr_aload_n hF dX12_feed_25 0 rfl rfl ?_
    refine jr_iload_n hF dX12_feed_26 3 rfl rfl ?_
    obtain ⟨q3, hq3, hf⟩ := Option.bind_eq_some_iff.mp hf
    refine jr_cV1v hF ml_X12_124 (c_X12_four hT h0 hq3) h0 ⟨Nat.le_of_ble_eq_true rfl, Nat.le_of_ble_eq_true rfl⟩ (Nat.le_of_ble_eq_true rfl) dX12_feed_27 ?_
    refine jr_aload_n hF dX12_feed_30 0 rfl rfl ?_
    refine jr_iload hF dX12_feed_31 4 rfl ?_
    obtain ⟨q4, hq4, hf⟩ := Option.bind_eq_some_iff.mp hf
    refine jr_cV1v hF ml_X12_124 (c_X12_four hT h0 hq4) h0 ⟨Nat.le_of_ble_eq_true rfl, Nat.le_of_ble_eq_true rfl⟩ (Nat.le_of_ble_eq_true rfl) dX12_feed_33 ?_
    refine jr_aload_n hF dX12_feed_36 0 rfl rfl ?_
    refine jr_iload hF dX12_feed_37 5 rfl ?_
    obtain ⟨q5, hq5, hf⟩ := Option.bind_eq_some_iff.mp hf
    refine jr_cV1v hF ml_X12_124 (c_X12_four hT h0 hq5) h0 ⟨Nat.le_of_ble_eq_true rfl, Nat.le_of_ble_eq_true rfl⟩ (Nat.le_of_ble_eq_true rfl) dX12_feed_39 ?_
    refine jr_aload_n hF dX12_feed_42 0 rfl rfl ?_
    refine jr_getI hF gf_X12_121 h0 dX12_feed_43 ?_
    obtain rfl := Option.some.inj hf
    exact jr_ireturn hF hE dX12_feed_46
  · refine jr_iconst (v := (-1)) hF dX12_feed_13 rfl ?_
    obtain rfl := Option.some.inj hf
    exact jr_ireturn hF hE dX12_feed_14
def f_X12_feed (σ : lt_S) (o : Nat) (x1 : Int32) (x2 : Int32) (x3 : Int32) (x4 : Int32) (x5 : Int32) (w : lt_W) : Option (Int32 × lt_W) := fb_X12_feed_0 σ o x1 x2 x3 x4 x5 w
set_option maxRecDepth 100000 in
theorem c_X12_feed {l : Launch} {D : va_G} {gA : Nat → ClassId} {s0 : State} {σ : lt_S} (hT : lt_Wt σ) {o : Nat} (h0 : lt_c σ o = 12) {x1 : Int32} {x2 : Int32} {x3 : Int32} {x4 : Int32} {x5 : Int32} {w : lt_W} {r : Int32 × lt_W} (hf : f_X12_feed σ o x1 x2 x3 x4 x5 w = some r) : lt_C l D gA s0 yX12_feed cX12_feed 6 (some .int) (lt_rm 2) [.ref (s0.heap.size + o), .int x1, .int x2, .int x3, .int x4, .int x5] σ w σ (some (.int r.1)) r.2 := by
  refine lt_enter rfl (Nat.le_of_ble_eq_true rfl) (fun X e1 e2 e3 e4 hF hE => ?_)
  subst e1 e2 e3 e4
  exact jb_X12_feed_0 hT h0 hF hE _ _ _ _ _ _ hf

set_option maxRecDepth 100000 in
def fb_X12_settles_50 (σ : lt_S) (o : Nat) (x1 : Int32) (x2 : Int32) (w : lt_W) : Option lt_W := lt_ck x1 (lt_len σ (lt_r σ o 32)) (lt_let (lt_si w (lt_r σ o 32) x1.toNatClampNeg x2) (fun w2 => lt_ck x1 (lt_len σ (lt_r σ o 24)) (lt_ck x1 (lt_len σ (lt_r σ o 33)) (lt_let (lt_si w2 (lt_r σ o 33) x1.toNatClampNeg (lt_gi w2 (lt_r σ o 24) x1.toNatClampNeg)) (fun w5 => some w5)))))
set_option maxHeartbeats 4000000 in
set_option maxRecDepth 100000 in
theorem jb_X12_settles_50 {X : lt_X} {σ : lt_S} (hT : lt_Wt σ) {o : Nat} (h0 : lt_c σ o = 12) {r : lt_W} (hF : lt_F X cX12_settles RX12 4 (lt_rm 1)) (hE : lt_E X 0 0 σ none none r) : ∀ (x1 : Int32) (x2 : Int32) (w : lt_W), fb_X12_settles_50 σ o x1 x2 w = some r → lt_J X 0 0 σ w 50 [(0, .ref (lt_z X + o)), (1, .int x1), (2, .int x2)] [] := by
  intro x1 x2 w hf
  unfold fb_X12_settles_50 at hf
  refine jr_aload_n hF dX12_settles_50 0 rfl rfl ?_
  refine jr_getRT (cr := 50) hF gf_X12_72 hT h0 rfl rfl dX12_settles_51 (fun th1 => ?_)
  refine jr_iload_n hF dX12_settles_54 1 rfl rfl ?_
  refine jr_iload_n hF dX12_settles_55 2 rfl rfl ?_
  refine jr_iastore hF th1 dX12_settles_56 hf (fun hf => ?_)
  refine jr_letW hf (fun w2 hf => ?_)
  refine jr_aload_n hF dX12_settles_57 0 rfl rfl ?_
  refine jr_getRT (cr := 50) hF gf_X12_75 hT h0 rfl rfl dX12_settles_58 (fun th3 => ?_)
  refine jr_iload_n hF dX12_settles_61 1 rfl rfl ?_
  refine jr_aload_n hF dX12_settles_62 0 rfl rfl ?_
  refine jr_getRT (cr := 50) hF gf_X12_47 hT h0 rfl rfl dX12_settles_63 (fun th4 => ?_)
  refine jr_iload_n hF dX12_settles_66 1 rfl rfl ?_
  refine jr_iaload hF th4 dX12_settles_67 hf (fun hf => ?_)
  refine jr_iastore hF th3 dX12_settles_68 hf (fun hf => ?_)
  refine jr_letW hf (fun w5 hf => ?_)
  obtain rfl := Option.some.inj hf
  exact jr_return hF hE dX12_settles_69
set_option maxRecDepth 100000 in
def fb_X12_settles_15 (σ : lt_S) (o : Nat) (x1 : Int32) (x2 : Int32) (y0 : Int32) (w : lt_W) : Option lt_W := if y0 = 0 then if (x1 - x1 / 2 * 2) = 0 then lt_ck x1 (lt_len σ (lt_r σ o 32)) (if (lt_gi w (lt_r σ o 32) x1.toNatClampNeg) < x2 then fb_X12_settles_50 σ o x1 x2 w else some w) else lt_ck x1 (lt_len σ (lt_r σ o 32)) (if x2 < (lt_gi w (lt_r σ o 32) x1.toNatClampNeg) then fb_X12_settles_50 σ o x1 x2 w else some w) else fb_X12_settles_50 σ o x1 x2 w
set_option maxHeartbeats 4000000 in
set_option maxRecDepth 100000 in
theorem jb_X12_settles_15 {X : lt_X} {σ : lt_S} (hT : lt_Wt σ) {o : Nat} (h0 : lt_c σ o = 12) {r : lt_W} (hF : lt_F X cX12_settles RX12 4 (lt_rm 1)) (hE : lt_E X 0 0 σ none none r) : ∀ (x1 : Int32) (x2 : Int32) (y0 : Int32) (w : lt_W), fb_X12_settles_15 σ o x1 x2 y0 w = some r → lt_J X 0 0 σ w 15 [(0, .ref (lt_z X + o)), (1, .int x1), (2, .int x2)] [.int y0] := by
  intro x1 x2 y0 w hf
  unfold fb_X12_settles_15 at hf
  refine jr_istore_n (lv' := [(0, .ref (lt_z X + o)), (1, .int x1), (2, .int x2), (3, .int y0)]) hF dX12_settles_15 rfl (by decide) [1, 2, 3, 0] rfl ?_
  refine jr_iload_n hF dX12_settles_16 3 rfl rfl ?_
  refine jr_if_ne (tgt := 50) hF dX12_settles_17 rfl hf (fun hf => ?_) (fun hf => ?_)
  · refine jr_sub [0, 1, 2] rfl ?_
    exact jb_X12_settles_50 hT h0 hF hE _ _ _ hf
  · refine jr_iload_n hF dX12_settles_20 1 rfl rfl ?_
    refine jr_iconst (v := 2) hF dX12_settles_21 rfl ?_
    refine jr_iremc hF dX12_settles_22 (by decide) ?_
    refine jr_if_ne (tgt := 39) hF dX12_settles_23 rfl hf (fun hf => ?_) (fun hf => ?_)
    · refine jr_iload_n hF dX12_settles_39 2 rfl rfl ?_
      refine jr_aload_n hF dX12_settles_40 0 rfl rfl ?_
      refine jr_getRT (cr := 50) hF gf_X12_72 hT h0 rfl rfl dX12_settles_41 (fun th1 => ?_)
      refine jr_iload_n hF dX12_settles_44 1 rfl rfl ?_
      refine jr_iaload hF th1 dX12_settles_45 hf (fun hf => ?_)
      refine jr_icmp_lt (tgt := 50) hF dX12_settles_46 rfl hf (fun hf => ?_) (fun hf => ?_)
      · refine jr_sub [0, 1, 2] rfl ?_
        exact jb_X12_settles_50 hT h0 hF hE _ _ _ hf
      · obtain rfl := Option.some.inj hf
        exact jr_return hF hE dX12_settles_49
    · refine jr_iload_n hF dX12_settles_26 2 rfl rfl ?_
      refine jr_aload_n hF dX12_settles_27 0 rfl rfl ?_
      refine jr_getRT (cr := 50) hF gf_X12_72 hT h0 rfl rfl dX12_settles_28 (fun th2 => ?_)
      refine jr_iload_n hF dX12_settles_31 1 rfl rfl ?_
      refine jr_iaload hF th2 dX12_settles_32 hf (fun hf => ?_)
      refine jr_icmp_gt (tgt := 50) hF dX12_settles_33 rfl hf (fun hf => ?_) (fun hf => ?_)
      · refine jr_sub [0, 1, 2] rfl ?_
        exact jb_X12_settles_50 hT h0 hF hE _ _ _ hf
      · refine jr_goto (tgt := 49) hF dX12_settles_36 rfl ?_
        obtain rfl := Option.some.inj hf
        exact jr_return hF hE dX12_settles_49
set_option maxRecDepth 100000 in
def fb_X12_settles_0 (σ : lt_S) (o : Nat) (x1 : Int32) (x2 : Int32) (w : lt_W) : Option lt_W := lt_ck x1 (lt_len σ (lt_r σ o 33)) (if (lt_gi w (lt_r σ o 33) x1.toNatClampNeg) = (-1) then fb_X12_settles_15 σ o x1 x2 1 w else fb_X12_settles_15 σ o x1 x2 0 w)
set_option maxHeartbeats 4000000 in
set_option maxRecDepth 100000 in
theorem jb_X12_settles_0 {X : lt_X} {σ : lt_S} (hT : lt_Wt σ) {o : Nat} (h0 : lt_c σ o = 12) {r : lt_W} (hF : lt_F X cX12_settles RX12 4 (lt_rm 1)) (hE : lt_E X 0 0 σ none none r) : ∀ (x1 : Int32) (x2 : Int32) (w : lt_W), fb_X12_settles_0 σ o x1 x2 w = some r → lt_J X 0 0 σ w 0 [(0, .ref (lt_z X + o)), (1, .int x1), (2, .int x2)] [] := by
  intro x1 x2 w hf
  unfold fb_X12_settles_0 at hf
  refine jr_aload_n hF dX12_settles_0 0 rfl rfl ?_
  refine jr_getRT (cr := 50) hF gf_X12_75 hT h0 rfl rfl dX12_settles_1 (fun th1 => ?_)
  refine jr_iload_n hF dX12_settles_4 1 rfl rfl ?_
  refine jr_iaload hF th1 dX12_settles_5 hf (fun hf => ?_)
  refine jr_iconst (v := (-1)) hF dX12_settles_6 rfl ?_
  refine jr_icmp_ne (tgt := 14) hF dX12_settles_7 rfl hf (fun hf => ?_) (fun hf => ?_)
  · refine jr_iconst (v := 0) hF dX12_settles_14 rfl ?_
    exact jb_X12_settles_15 hT h0 hF hE _ _ _ _ hf
  · refine jr_iconst (v := 1) hF dX12_settles_10 rfl ?_
    refine jr_goto (tgt := 15) hF dX12_settles_11 rfl ?_
    exact jb_X12_settles_15 hT h0 hF hE _ _ _ _ hf
def f_X12_settles (σ : lt_S) (o : Nat) (x1 : Int32) (x2 : Int32) (w : lt_W) : Option lt_W := fb_X12_settles_0 σ o x1 x2 w
set_option maxRecDepth 100000 in
theorem c_X12_settles {l : Launch} {D : va_G} {gA : Nat → ClassId} {s0 : State} {σ : lt_S} (hT : lt_Wt σ) {o : Nat} (h0 : lt_c σ o = 12) {x1 : Int32} {x2 : Int32} {w : lt_W} {r : lt_W} (hf : f_X12_settles σ o x1 x2 w = some r) : lt_C l D gA s0 yX12_settles cX12_settles 4 none (lt_rm 1) [.ref (s0.heap.size + o), .int x1, .int x2] σ w σ none r := by
  refine lt_enter rfl (Nat.le_of_ble_eq_true rfl) (fun X e1 e2 e3 e4 hF hE => ?_)
  subst e1 e2 e3 e4
  exact jb_X12_settles_0 hT h0 hF hE _ _ _ hf

set_option maxRecDepth 100000 in
def fb_X12_playing_185 (σ : lt_S) (o : Nat) (w : lt_W) : Option (Int32 × lt_W) := Option.bind (f_X12_levelAt 0) (fun q1 => Option.bind (f_X12_brings σ o q1 w) (fun q2 => lt_ck 0 (lt_len σ (lt_r σ o 32)) (some (lt_gi q2 (lt_r σ o 32) (0 : Int32).toNatClampNeg, q2))))
set_option maxHeartbeats 4000000 in
set_option maxRecDepth 100000 in
theorem jb_X12_playing_185 {X : lt_X} {σ : lt_S} (hT : lt_Wt σ) {o : Nat} (h0 : lt_c σ o = 12) {r : Int32 × lt_W} (hF : lt_F X cX12_playing RX12 7 (lt_rm 9)) (hE : lt_E X 0 0 σ (some .int) (some (.int r.1)) r.2) : ∀ (w : lt_W), fb_X12_playing_185 σ o w = some r → lt_J X 0 0 σ w 185 [(0, .ref (lt_z X + o))] [] := by
  intro w hf
  unfold fb_X12_playing_185 at hf
  refine jr_aload_n hF dX12_playing_185 0 rfl rfl ?_
  refine jr_iconst (v := 0) hF dX12_playing_186 rfl ?_
  obtain ⟨q1, hq1, hf⟩ := Option.bind_eq_some_iff.mp hf
  refine jr_cS11 hF ml_X12_343 (c_X12_levelAt hq1) ⟨Nat.le_of_ble_eq_true rfl, Nat.le_of_ble_eq_true rfl⟩ (Nat.le_of_ble_eq_true rfl) dX12_playing_187 ?_
  obtain ⟨q2, hq2, hf⟩ := Option.bind_eq_some_iff.mp hf
  refine jr_cV1v hF ml_X12_337 (c_X12_brings hT h0 hq2) h0 ⟨Nat.le_of_ble_eq_true rfl, Nat.le_of_ble_eq_true rfl⟩ (Nat.le_of_ble_eq_true rfl) dX12_playing_190 ?_
  refine jr_aload_n hF dX12_playing_193 0 rfl rfl ?_
  refine jr_getRT (cr := 50) hF gf_X12_72 hT h0 rfl rfl dX12_playing_194 (fun th3 => ?_)
  refine jr_iconst (v := 0) hF dX12_playing_197 rfl ?_
  refine jr_iaload hF th3 dX12_playing_198 hf (fun hf => ?_)
  obtain rfl := Option.some.inj hf
  exact jr_ireturn hF hE dX12_playing_199
set_option maxRecDepth 100000 in
def fb_X12_playing_169 (σ : lt_S) (o : Nat) (x1 : Int32) (x2 : Int32) (x3 : Int32) (w : lt_W) : Option (Int32 × lt_W) := if x3 = 0 then Option.bind (f_X12_comesTo σ o x1 x2 w) (fun q2 => lt_ck 0 (lt_len σ (lt_r σ o 32)) (lt_let (lt_si q2.2 (lt_r σ o 32) (0 : Int32).toNatClampNeg q2.1) (fun w3 => fb_X12_playing_185 σ o w3))) else fb_X12_playing_185 σ o w
set_option maxHeartbeats 4000000 in
set_option maxRecDepth 100000 in
theorem jb_X12_playing_169 {X : lt_X} {σ : lt_S} (hT : lt_Wt σ) {o : Nat} (h0 : lt_c σ o = 12) {r : Int32 × lt_W} (hF : lt_F X cX12_playing RX12 7 (lt_rm 9)) (hE : lt_E X 0 0 σ (some .int) (some (.int r.1)) r.2) : ∀ (x1 : Int32) (x2 : Int32) (x3 : Int32) (w : lt_W), fb_X12_playing_169 σ o x1 x2 x3 w = some r → lt_J X 0 0 σ w 169 [(0, .ref (lt_z X + o)), (1, .int x1), (2, .int x2), (3, .int x3)] [] := by
  intro x1 x2 x3 w hf
  unfold fb_X12_playing_169 at hf
  refine jr_iload_n hF dX12_playing_169 3 rfl rfl ?_
  refine jr_if_ne (tgt := 185) hF dX12_playing_170 rfl hf (fun hf => ?_) (fun hf => ?_)
  · refine jr_sub [0] rfl ?_
    exact jb_X12_playing_185 hT h0 hF hE _ hf
  · refine jr_aload_n hF dX12_playing_173 0 rfl rfl ?_
    refine jr_getRT (cr := 50) hF gf_X12_72 hT h0 rfl rfl dX12_playing_174 (fun th1 => ?_)
    refine jr_iconst (v := 0) hF dX12_playing_177 rfl ?_
    refine jr_aload_n hF dX12_playing_178 0 rfl rfl ?_
    refine jr_iload_n hF dX12_playing_179 1 rfl rfl ?_
    refine jr_iload_n hF dX12_playing_180 2 rfl rfl ?_
    obtain ⟨q2, hq2, hf⟩ := Option.bind_eq_some_iff.mp hf
    refine jr_cV21 hF ml_X12_389 (c_X12_comesTo hT h0 hq2) h0 ⟨Nat.le_of_ble_eq_true rfl, Nat.le_of_ble_eq_true rfl⟩ (Nat.le_of_ble_eq_true rfl) dX12_playing_181 ?_
    refine jr_iastore hF th1 dX12_playing_184 hf (fun hf => ?_)
    refine jr_letW hf (fun w3 hf => ?_)
    refine jr_sub [0] rfl ?_
    exact jb_X12_playing_185 hT h0 hF hE _ hf
set_option maxRecDepth 100000 in
def fb_X12_playing_134 (σ : lt_S) (o : Nat) (k8 : Int32 → Int32 → Int32 → Int32 → lt_W → Option (Int32 × lt_W)) (x1 : Int32) (x2 : Int32) (x3 : Int32) (x4 : Int32) (w : lt_W) : Option (Int32 × lt_W) := if (x4 + 1) = x3 then Option.bind (f_X12_comesTo σ o x1 x2 w) (fun q2 => Option.bind (f_X12_settles σ o x4 q2.1 q2.2) (fun q3 => k8 x1 x2 x3 x4 q3)) else Option.bind (f_X12_beginsAt σ o (x4 + 1) w) (fun q1 => k8 x1 x2 x3 (x4 + 1) q1)
set_option maxHeartbeats 4000000 in
set_option maxRecDepth 100000 in
theorem jb_X12_playing_134 {X : lt_X} {σ : lt_S} (hT : lt_Wt σ) {o : Nat} (h0 : lt_c σ o = 12) {r : Int32 × lt_W} {k8 : Int32 → Int32 → Int32 → Int32 → lt_W → Option (Int32 × lt_W)} (hF : lt_F X cX12_playing RX12 7 (lt_rm 9)) (hE : lt_E X 0 0 σ (some .int) (some (.int r.1)) r.2) (hk8 : ∀ (x1 : Int32) (x2 : Int32) (x3 : Int32) (x4 : Int32) (w : lt_W), k8 x1 x2 x3 x4 w = some r → lt_J X 0 0 σ w 8 [(0, .ref (lt_z X + o)), (1, .int x1), (2, .int x2), (3, .int x3), (4, .int x4)] []) : ∀ (x1 : Int32) (x2 : Int32) (x3 : Int32) (x4 : Int32) (w : lt_W), fb_X12_playing_134 σ o k8 x1 x2 x3 x4 w = some r → lt_J X 0 0 σ w 134 [(0, .ref (lt_z X + o)), (1, .int x1), (2, .int x2), (3, .int x3), (4, .int x4)] [] := by
  intro x1 x2 x3 x4 w hf
  unfold fb_X12_playing_134 at hf
  refine jr_iload hF dX12_playing_134 4 rfl ?_
  refine jr_iconst (v := 1) hF dX12_playing_136 rfl ?_
  refine jr_iadd hF dX12_playing_137 ?_
  refine jr_iload_n hF dX12_playing_138 3 rfl rfl ?_
  refine jr_icmp_ne (tgt := 157) hF dX12_playing_139 rfl hf (fun hf => ?_) (fun hf => ?_)
  · refine jr_iinc (v := x4 + 1) (lv' := [(0, .ref (lt_z X + o)), (1, .int x1), (2, .int x2), (3, .int x3), (4, .int (x4 + 1))]) hF dX12_playing_157 4 rfl rfl (by decide) [1, 2, 3, 4, 0] rfl ?_
    refine jr_aload_n hF dX12_playing_160 0 rfl rfl ?_
    refine jr_iload hF dX12_playing_161 4 rfl ?_
    obtain ⟨q1, hq1, hf⟩ := Option.bind_eq_some_iff.mp hf
    refine jr_cV1v hF ml_X12_383 (c_X12_beginsAt hT h0 hq1) h0 ⟨Nat.le_of_ble_eq_true rfl, Nat.le_of_ble_eq_true rfl⟩ (Nat.le_of_ble_eq_true rfl) dX12_playing_163 ?_
    refine jr_goto (tgt := 8) hF dX12_playing_166 rfl ?_
    exact hk8 _ _ _ _ _ hf
  · refine jr_aload_n hF dX12_playing_142 0 rfl rfl ?_
    refine jr_iload hF dX12_playing_143 4 rfl ?_
    refine jr_aload_n hF dX12_playing_145 0 rfl rfl ?_
    refine jr_iload_n hF dX12_playing_146 1 rfl rfl ?_
    refine jr_iload_n hF dX12_playing_147 2 rfl rfl ?_
    obtain ⟨q2, hq2, hf⟩ := Option.bind_eq_some_iff.mp hf
    refine jr_cV21 hF ml_X12_389 (c_X12_comesTo hT h0 hq2) h0 ⟨Nat.le_of_ble_eq_true rfl, Nat.le_of_ble_eq_true rfl⟩ (Nat.le_of_ble_eq_true rfl) dX12_playing_148 ?_
    obtain ⟨q3, hq3, hf⟩ := Option.bind_eq_some_iff.mp hf
    refine jr_cV2v hF ml_X12_386 (c_X12_settles hT h0 hq3) h0 ⟨Nat.le_of_ble_eq_true rfl, Nat.le_of_ble_eq_true rfl⟩ (Nat.le_of_ble_eq_true rfl) dX12_playing_151 ?_
    refine jr_goto (tgt := 166) hF dX12_playing_154 rfl ?_
    refine jr_goto (tgt := 8) hF dX12_playing_166 rfl ?_
    exact hk8 _ _ _ _ _ hf
set_option maxRecDepth 100000 in
def fb_X12_playing_53 (σ : lt_S) (o : Nat) (k8 : Int32 → Int32 → Int32 → Int32 → lt_W → Option (Int32 × lt_W)) (x1 : Int32) (x2 : Int32) (x3 : Int32) (x4 : Int32) (x5 : Int32) (y0 : Int32) (w : lt_W) : Option (Int32 × lt_W) := lt_ck 0 (lt_len σ (lt_r σ o 0)) (if x5 ≤ (lt_gi w (lt_r σ o 0) (0 : Int32).toNatClampNeg) then lt_ck 0 (lt_len σ (lt_r σ o 0)) (if (lt_gi w (lt_r σ o 0) (0 : Int32).toNatClampNeg) ≤ x5 then fb_X12_playing_134 σ o k8 x1 x2 x3 x4 w else Option.bind (f_X12_isHere σ o x5 w) (fun q3 => if q3 = 0 then k8 x1 x2 x3 x4 w else if x5 = y0 then k8 x1 x2 x3 x4 w else Option.bind (f_X12_passes σ o x5 y0 w) (fun q4 => fb_X12_playing_134 σ o k8 x1 x2 x3 x4 q4.2))) else if x4 = 0 then fb_X12_playing_169 σ o x1 x2 x3 w else lt_ck ((x4 + (-1)) + 1) (lt_len σ (lt_r σ o 32)) (Option.bind (f_X12_settles σ o (x4 + (-1)) (lt_gi w (lt_r σ o 32) ((x4 + (-1)) + 1).toNatClampNeg) w) (fun q6 => k8 x1 x2 x3 (x4 + (-1)) q6)))
set_option maxHeartbeats 4000000 in
set_option maxRecDepth 100000 in
theorem jb_X12_playing_53 {X : lt_X} {σ : lt_S} (hT : lt_Wt σ) {o : Nat} (h0 : lt_c σ o = 12) {r : Int32 × lt_W} {k8 : Int32 → Int32 → Int32 → Int32 → lt_W → Option (Int32 × lt_W)} (hF : lt_F X cX12_playing RX12 7 (lt_rm 9)) (hE : lt_E X 0 0 σ (some .int) (some (.int r.1)) r.2) (hk8 : ∀ (x1 : Int32) (x2 : Int32) (x3 : Int32) (x4 : Int32) (w : lt_W), k8 x1 x2 x3 x4 w = some r → lt_J X 0 0 σ w 8 [(0, .ref (lt_z X + o)), (1, .int x1), (2, .int x2), (3, .int x3), (4, .int x4)] []) : ∀ (x1 : Int32) (x2 : Int32) (x3 : Int32) (x4 : Int32) (x5 : Int32) (y0 : Int32) (w : lt_W), fb_X12_playing_53 σ o k8 x1 x2 x3 x4 x5 y0 w = some r → lt_J X 0 0 σ w 53 [(0, .ref (lt_z X + o)), (1, .int x1), (2, .int x2), (3, .int x3), (4, .int x4), (5, .int x5)] [.int y0] := by
  intro x1 x2 x3 x4 x5 y0 w hf
  unfold fb_X12_playing_53 at hf
  refine jr_istore (lv' := [(0, .ref (lt_z X + o)), (1, .int x1), (2, .int x2), (3, .int x3), (4, .int x4), (5, .int x5), (6, .int y0)]) hF dX12_playing_53 (by decide) [1, 2, 3, 4, 5, 6, 0] rfl ?_
  refine jr_iload hF dX12_playing_55 5 rfl ?_
  refine jr_aload_n hF dX12_playing_57 0 rfl rfl ?_
  refine jr_getRT (cr := 50) hF gf_X12_7 hT h0 rfl rfl dX12_playing_58 (fun th1 => ?_)
  refine jr_iconst (v := 0) hF dX12_playing_61 rfl ?_
  refine jr_iaload hF th1 dX12_playing_62 hf (fun hf => ?_)
  refine jr_icmp_le (tgt := 95) hF dX12_playing_63 rfl hf (fun hf => ?_) (fun hf => ?_)
  · refine jr_iload hF dX12_playing_95 5 rfl ?_
    refine jr_aload_n hF dX12_playing_97 0 rfl rfl ?_
    refine jr_getRT (cr := 50) hF gf_X12_7 hT h0 rfl rfl dX12_playing_98 (fun th2 => ?_)
    refine jr_iconst (v := 0) hF dX12_playing_101 rfl ?_
    refine jr_iaload hF th2 dX12_playing_102 hf (fun hf => ?_)
    refine jr_icmp_ge (tgt := 134) hF dX12_playing_103 rfl hf (fun hf => ?_) (fun hf => ?_)
    · refine jr_sub [0, 1, 2, 3, 4] rfl ?_
      exact jb_X12_playing_134 hT h0 hF hE hk8 _ _ _ _ _ hf
    · refine jr_aload_n hF dX12_playing_106 0 rfl rfl ?_
      refine jr_iload hF dX12_playing_107 5 rfl ?_
      obtain ⟨q3, hq3, hf⟩ := Option.bind_eq_some_iff.mp hf
      refine jr_cV11 hF ml_X12_272 (c_X12_isHere hT h0 hq3) h0 ⟨Nat.le_of_ble_eq_true rfl, Nat.le_of_ble_eq_true rfl⟩ (Nat.le_of_ble_eq_true rfl) dX12_playing_109 ?_
      refine jr_if_eq (tgt := 8) hF dX12_playing_112 rfl hf (fun hf => ?_) (fun hf => ?_)
      · refine jr_sub [0, 1, 2, 3, 4] rfl ?_
        exact hk8 _ _ _ _ _ hf
      · refine jr_iload hF dX12_playing_115 5 rfl ?_
        refine jr_iload hF dX12_playing_117 6 rfl ?_
        refine jr_icmp_ne (tgt := 125) hF dX12_playing_119 rfl hf (fun hf => ?_) (fun hf => ?_)
        · refine jr_aload_n hF dX12_playing_125 0 rfl rfl ?_
          refine jr_iload hF dX12_playing_126 5 rfl ?_
          refine jr_iload hF dX12_playing_128 6 rfl ?_
          obtain ⟨q4, hq4, hf⟩ := Option.bind_eq_some_iff.mp hf
          refine jr_cV21 hF ml_X12_320 (c_X12_passes hT h0 hq4) h0 ⟨Nat.le_of_ble_eq_true rfl, Nat.le_of_ble_eq_true rfl⟩ (Nat.le_of_ble_eq_true rfl) dX12_playing_130 ?_
          refine jr_pop hF dX12_playing_133 rfl ?_
          refine jr_sub [0, 1, 2, 3, 4] rfl ?_
          exact jb_X12_playing_134 hT h0 hF hE hk8 _ _ _ _ _ hf
        · refine jr_goto (tgt := 8) hF dX12_playing_122 rfl ?_
          refine jr_sub [0, 1, 2, 3, 4] rfl ?_
          exact hk8 _ _ _ _ _ hf
  · refine jr_iload hF dX12_playing_66 4 rfl ?_
    refine jr_if_ne (tgt := 74) hF dX12_playing_68 rfl hf (fun hf => ?_) (fun hf => ?_)
    · refine jr_iinc (v := x4 + (-1)) (lv' := [(0, .ref (lt_z X + o)), (1, .int x1), (2, .int x2), (3, .int x3), (4, .int (x4 + (-1))), (5, .int x5), (6, .int y0)]) hF dX12_playing_74 4 rfl rfl (by decide) [1, 2, 3, 4, 0, 5, 6] rfl ?_
      refine jr_aload_n hF dX12_playing_77 0 rfl rfl ?_
      refine jr_iload hF dX12_playing_78 4 rfl ?_
      refine jr_aload_n hF dX12_playing_80 0 rfl rfl ?_
      refine jr_getRT (cr := 50) hF gf_X12_72 hT h0 rfl rfl dX12_playing_81 (fun th5 => ?_)
      refine jr_iload hF dX12_playing_84 4 rfl ?_
      refine jr_iconst (v := 1) hF dX12_playing_86 rfl ?_
      refine jr_iadd hF dX12_playing_87 ?_
      refine jr_iaload hF th5 dX12_playing_88 hf (fun hf => ?_)
      obtain ⟨q6, hq6, hf⟩ := Option.bind_eq_some_iff.mp hf
      refine jr_cV2v hF ml_X12_386 (c_X12_settles hT h0 hq6) h0 ⟨Nat.le_of_ble_eq_true rfl, Nat.le_of_ble_eq_true rfl⟩ (Nat.le_of_ble_eq_true rfl) dX12_playing_89 ?_
      refine jr_goto (tgt := 8) hF dX12_playing_92 rfl ?_
      refine jr_sub [0, 1, 2, 3, 4] rfl ?_
      exact hk8 _ _ _ _ _ hf
    · refine jr_goto (tgt := 169) hF dX12_playing_71 rfl ?_
      refine jr_sub [0, 1, 2, 3] rfl ?_
      exact jb_X12_playing_169 hT h0 hF hE _ _ _ _ hf
set_option maxRecDepth 100000 in
def fb_X12_playing_8 (σ : lt_S) (o : Nat) : Nat → Int32 → Int32 → Int32 → Int32 → lt_W → Option (Int32 × lt_W)
  | 0, _, _, _, _, _ => none
  | n + 1, x1, x2, x3, x4, w => if x3 ≤ 0 then fb_X12_playing_169 σ o x1 x2 x3 w else Option.bind (f_X12_levelAt x4) (fun q1 => Option.bind (f_X12_brings σ o q1 w) (fun q2 => lt_ck x4 (lt_len σ (lt_r σ o 24)) (lt_ck x4 (lt_len σ (lt_r σ o 24)) (lt_let (lt_si q2 (lt_r σ o 24) x4.toNatClampNeg ((lt_gi q2 (lt_r σ o 24) x4.toNatClampNeg) + 1)) (fun w4 => lt_ck x4 (lt_len σ (lt_r σ o 24)) (lt_let (lt_gi w4 (lt_r σ o 24) x4.toNatClampNeg) (fun z6 => if (x4 - x4 / 2 * 2) = 0 then fb_X12_playing_53 σ o (fun x1 x2 x3 x4 w => fb_X12_playing_8 σ o n x1 x2 x3 x4 w) x1 x2 x3 x4 z6 x1 w4 else fb_X12_playing_53 σ o (fun x1 x2 x3 x4 w => fb_X12_playing_8 σ o n x1 x2 x3 x4 w) x1 x2 x3 x4 z6 x2 w4)))))))
set_option maxHeartbeats 4000000 in
set_option maxRecDepth 100000 in
theorem jb_X12_playing_8 {X : lt_X} {σ : lt_S} (hT : lt_Wt σ) {o : Nat} (h0 : lt_c σ o = 12) {r : Int32 × lt_W} (hF : lt_F X cX12_playing RX12 7 (lt_rm 9)) (hE : lt_E X 0 0 σ (some .int) (some (.int r.1)) r.2) (n : Nat) : ∀ (x1 : Int32) (x2 : Int32) (x3 : Int32) (x4 : Int32) (w : lt_W), fb_X12_playing_8 σ o n x1 x2 x3 x4 w = some r → lt_J X 0 0 σ w 8 [(0, .ref (lt_z X + o)), (1, .int x1), (2, .int x2), (3, .int x3), (4, .int x4)] [] := by
  induction n with
  | zero => intro x1 x2 x3 x4 w hf; rw [fb_X12_playing_8] at hf; cases hf
  | succ n ih =>
    intro x1 x2 x3 x4 w hf
    rw [fb_X12_playing_8] at hf
    refine jr_iload_n hF dX12_playing_8 3 rfl rfl ?_
    refine jr_if_le (tgt := 169) hF dX12_playing_9 rfl hf (fun hf => ?_) (fun hf => ?_)
    · refine jr_sub [0, 1, 2, 3] rfl ?_
      exact jb_X12_playing_169 hT h0 hF hE _ _ _ _ hf
    · refine jr_aload_n hF dX12_playing_12 0 rfl rfl ?_
      refine jr_iload hF dX12_playing_13 4 rfl ?_
      obtain ⟨q1, hq1, hf⟩ := Option.bind_eq_some_iff.mp hf
      refine jr_cS11 hF ml_X12_343 (c_X12_levelAt hq1) ⟨Nat.le_of_ble_eq_true rfl, Nat.le_of_ble_eq_true rfl⟩ (Nat.le_of_ble_eq_true rfl) dX12_playing_15 ?_
      obtain ⟨q2, hq2, hf⟩ := Option.bind_eq_some_iff.mp hf
      refine jr_cV1v hF ml_X12_337 (c_X12_brings hT h0 hq2) h0 ⟨Nat.le_of_ble_eq_true rfl, Nat.le_of_ble_eq_true rfl⟩ (Nat.le_of_ble_eq_true rfl) dX12_playing_18 ?_
      refine jr_aload_n hF dX12_playing_21 0 rfl rfl ?_
      refine jr_getRT (cr := 50) hF gf_X12_47 hT h0 rfl rfl dX12_playing_22 (fun th3 => ?_)
      refine jr_iload hF dX12_playing_25 4 rfl ?_
      refine jr_dup2 hF dX12_playing_27 rfl rfl ?_
      refine jr_iaload hF th3 dX12_playing_28 hf (fun hf => ?_)
      refine jr_iconst (v := 1) hF dX12_playing_29 rfl ?_
      refine jr_iadd hF dX12_playing_30 ?_
      refine jr_iastore hF th3 dX12_playing_31 hf (fun hf => ?_)
      refine jr_letW hf (fun w4 hf => ?_)
      refine jr_aload_n hF dX12_playing_32 0 rfl rfl ?_
      refine jr_getRT (cr := 50) hF gf_X12_47 hT h0 rfl rfl dX12_playing_33 (fun th5 => ?_)
      refine jr_iload hF dX12_playing_36 4 rfl ?_
      refine jr_iaload hF th5 dX12_playing_38 hf (fun hf => ?_)
      refine jr_letI hf (fun z6 hf => ?_)
      refine jr_istore (lv' := [(0, .ref (lt_z X + o)), (1, .int x1), (2, .int x2), (3, .int x3), (4, .int x4), (5, .int z6)]) hF dX12_playing_39 (by decide) [1, 2, 3, 4, 5, 0] rfl ?_
      refine jr_iload hF dX12_playing_41 4 rfl ?_
      refine jr_iconst (v := 2) hF dX12_playing_43 rfl ?_
      refine jr_iremc hF dX12_playing_44 (by decide) ?_
      refine jr_if_ne (tgt := 52) hF dX12_playing_45 rfl hf (fun hf => ?_) (fun hf => ?_)
      · refine jr_iload_n hF dX12_playing_52 2 rfl rfl ?_
        exact jb_X12_playing_53 hT h0 hF hE ih _ _ _ _ _ _ _ hf
      · refine jr_iload_n hF dX12_playing_48 1 rfl rfl ?_
        refine jr_goto (tgt := 53) hF dX12_playing_49 rfl ?_
        exact jb_X12_playing_53 hT h0 hF hE ih _ _ _ _ _ _ _ hf
set_option maxRecDepth 100000 in
def fb_X12_playing_0 (σ : lt_S) (o : Nat) (x1 : Int32) (x2 : Int32) (x3 : Int32) (w : lt_W) : Option (Int32 × lt_W) := Option.bind (f_X12_beginsAt σ o 0 w) (fun q1 => fb_X12_playing_8 σ o lt_fu x1 x2 x3 0 q1)
set_option maxHeartbeats 4000000 in
set_option maxRecDepth 100000 in
theorem jb_X12_playing_0 {X : lt_X} {σ : lt_S} (hT : lt_Wt σ) {o : Nat} (h0 : lt_c σ o = 12) {r : Int32 × lt_W} (hF : lt_F X cX12_playing RX12 7 (lt_rm 9)) (hE : lt_E X 0 0 σ (some .int) (some (.int r.1)) r.2) : ∀ (x1 : Int32) (x2 : Int32) (x3 : Int32) (w : lt_W), fb_X12_playing_0 σ o x1 x2 x3 w = some r → lt_J X 0 0 σ w 0 [(0, .ref (lt_z X + o)), (1, .int x1), (2, .int x2), (3, .int x3)] [] := by
  intro x1 x2 x3 w hf
  unfold fb_X12_playing_0 at hf
  refine jr_iconst (v := 0) hF dX12_playing_0 rfl ?_
  refine jr_istore (lv' := [(0, .ref (lt_z X + o)), (1, .int x1), (2, .int x2), (3, .int x3), (4, .int 0)]) hF dX12_playing_1 (by decide) [1, 2, 3, 4, 0] rfl ?_
  refine jr_aload_n hF dX12_playing_3 0 rfl rfl ?_
  refine jr_iconst (v := 0) hF dX12_playing_4 rfl ?_
  obtain ⟨q1, hq1, hf⟩ := Option.bind_eq_some_iff.mp hf
  refine jr_cV1v hF ml_X12_383 (c_X12_beginsAt hT h0 hq1) h0 ⟨Nat.le_of_ble_eq_true rfl, Nat.le_of_ble_eq_true rfl⟩ (Nat.le_of_ble_eq_true rfl) dX12_playing_5 ?_
  exact jb_X12_playing_8 hT h0 hF hE lt_fu _ _ _ _ _ hf
def f_X12_playing (σ : lt_S) (o : Nat) (x1 : Int32) (x2 : Int32) (x3 : Int32) (w : lt_W) : Option (Int32 × lt_W) := fb_X12_playing_0 σ o x1 x2 x3 w
set_option maxRecDepth 100000 in
theorem c_X12_playing {l : Launch} {D : va_G} {gA : Nat → ClassId} {s0 : State} {σ : lt_S} (hT : lt_Wt σ) {o : Nat} (h0 : lt_c σ o = 12) {x1 : Int32} {x2 : Int32} {x3 : Int32} {w : lt_W} {r : Int32 × lt_W} (hf : f_X12_playing σ o x1 x2 x3 w = some r) : lt_C l D gA s0 yX12_playing cX12_playing 7 (some .int) (lt_rm 9) [.ref (s0.heap.size + o), .int x1, .int x2, .int x3] σ w σ (some (.int r.1)) r.2 := by
  refine lt_enter rfl (Nat.le_of_ble_eq_true rfl) (fun X e1 e2 e3 e4 hF hE => ?_)
  subst e1 e2 e3 e4
  exact jb_X12_playing_0 hT h0 hF hE _ _ _ _ hf

set_option maxRecDepth 100000 in
def fb_X12_game_21 (σ : lt_S) (o : Nat) (w : lt_W) : Option (Int32 × lt_W) := Option.bind (f_X12_refuse σ o 1 w) (fun q1 => some (q1.1, q1.2))
set_option maxHeartbeats 4000000 in
set_option maxRecDepth 100000 in
theorem jb_X12_game_21 {X : lt_X} {σ : lt_S} (hT : lt_Wt σ) {o : Nat} (h0 : lt_c σ o = 12) {r : Int32 × lt_W} (hF : lt_F X cX12_game RX12 4 (lt_rm 10)) (hE : lt_E X 0 0 σ (some .int) (some (.int r.1)) r.2) : ∀ (w : lt_W), fb_X12_game_21 σ o w = some r → lt_J X 0 0 σ w 21 [(0, .ref (lt_z X + o))] [] := by
  intro w hf
  unfold fb_X12_game_21 at hf
  refine jr_aload_n hF dX12_game_21 0 rfl rfl ?_
  refine jr_iconst (v := 1) hF dX12_game_22 rfl ?_
  obtain ⟨q1, hq1, hf⟩ := Option.bind_eq_some_iff.mp hf
  refine jr_cV11 hF ml_X12_97 (c_X12_refuse h0 hq1) h0 ⟨Nat.le_of_ble_eq_true rfl, Nat.le_of_ble_eq_true rfl⟩ (Nat.le_of_ble_eq_true rfl) dX12_game_23 ?_
  obtain rfl := Option.some.inj hf
  exact jr_ireturn hF hE dX12_game_26
set_option maxRecDepth 100000 in
def fb_X12_game_0 (σ : lt_S) (o : Nat) (x1 : Int32) (x2 : Int32) (x3 : Int32) (w : lt_W) : Option (Int32 × lt_W) := Option.bind (f_X12_areTwo σ o x1 x2 w) (fun q1 => if q1 = 0 then fb_X12_game_21 σ o w else Option.bind (f_X12_isFrom x3.toInt64 0 3) (fun q2 => if q2 = 0 then fb_X12_game_21 σ o w else Option.bind (f_X12_playing σ o x1 x2 x3 w) (fun q3 => Option.bind (f_X12_gives σ o q3.1 q3.2) (fun q4 => some (q4.1, q4.2)))))
set_option maxHeartbeats 4000000 in
set_option maxRecDepth 100000 in
theorem jb_X12_game_0 {X : lt_X} {σ : lt_S} (hT : lt_Wt σ) {o : Nat} (h0 : lt_c σ o = 12) {r : Int32 × lt_W} (hF : lt_F X cX12_game RX12 4 (lt_rm 10)) (hE : lt_E X 0 0 σ (some .int) (some (.int r.1)) r.2) : ∀ (x1 : Int32) (x2 : Int32) (x3 : Int32) (w : lt_W), fb_X12_game_0 σ o x1 x2 x3 w = some r → lt_J X 0 0 σ w 0 [(0, .ref (lt_z X + o)), (1, .int x1), (2, .int x2), (3, .int x3)] [] := by
  intro x1 x2 x3 w hf
  unfold fb_X12_game_0 at hf
  refine jr_aload_n hF dX12_game_0 0 rfl rfl ?_
  refine jr_iload_n hF dX12_game_1 1 rfl rfl ?_
  refine jr_iload_n hF dX12_game_2 2 rfl rfl ?_
  obtain ⟨q1, hq1, hf⟩ := Option.bind_eq_some_iff.mp hf
  refine jr_cV21 hF ml_X12_317 (c_X12_areTwo hT h0 hq1) h0 ⟨Nat.le_of_ble_eq_true rfl, Nat.le_of_ble_eq_true rfl⟩ (Nat.le_of_ble_eq_true rfl) dX12_game_3 ?_
  refine jr_if_eq (tgt := 21) hF dX12_game_6 rfl hf (fun hf => ?_) (fun hf => ?_)
  · refine jr_sub [0] rfl ?_
    exact jb_X12_game_21 hT h0 hF hE _ hf
  · refine jr_iload_n hF dX12_game_9 3 rfl rfl ?_
    refine jr_i2l hF dX12_game_10 ?_
    refine jr_lconst (v := 0) hF dX12_game_11 rfl ?_
    refine jr_ldc2 (v := 3) hF dX12_game_12 kc_X12_392 ?_
    obtain ⟨q2, hq2, hf⟩ := Option.bind_eq_some_iff.mp hf
    refine jr_cS31 hF ml_X12_307 (c_X12_isFrom hq2) ⟨Nat.le_of_ble_eq_true rfl, Nat.le_of_ble_eq_true rfl⟩ (Nat.le_of_ble_eq_true rfl) dX12_game_15 ?_
    refine jr_if_ne (tgt := 27) hF dX12_game_18 rfl hf (fun hf => ?_) (fun hf => ?_)
    · refine jr_aload_n hF dX12_game_27 0 rfl rfl ?_
      refine jr_aload_n hF dX12_game_28 0 rfl rfl ?_
      refine jr_iload_n hF dX12_game_29 1 rfl rfl ?_
      refine jr_iload_n hF dX12_game_30 2 rfl rfl ?_
      refine jr_iload_n hF dX12_game_31 3 rfl rfl ?_
      obtain ⟨q3, hq3, hf⟩ := Option.bind_eq_some_iff.mp hf
      refine jr_cV31 hF ml_X12_394 (c_X12_playing hT h0 hq3) h0 ⟨Nat.le_of_ble_eq_true rfl, Nat.le_of_ble_eq_true rfl⟩ (Nat.le_of_ble_eq_true rfl) dX12_game_32 ?_
      obtain ⟨q4, hq4, hf⟩ := Option.bind_eq_some_iff.mp hf
      refine jr_cV11 hF ml_X12_101 (c_X12_gives h0 hq4) h0 ⟨Nat.le_of_ble_eq_true rfl, Nat.le_of_ble_eq_true rfl⟩ (Nat.le_of_ble_eq_true rfl) dX12_game_35 ?_
      obtain rfl := Option.some.inj hf
      exact jr_ireturn hF hE dX12_game_38
    · refine jr_sub [0] rfl ?_
      exact jb_X12_game_21 hT h0 hF hE _ hf
def f_X12_game (σ : lt_S) (o : Nat) (x1 : Int32) (x2 : Int32) (x3 : Int32) (w : lt_W) : Option (Int32 × lt_W) := fb_X12_game_0 σ o x1 x2 x3 w
set_option maxRecDepth 100000 in
theorem c_X12_game {l : Launch} {D : va_G} {gA : Nat → ClassId} {s0 : State} {σ : lt_S} (hT : lt_Wt σ) {o : Nat} (h0 : lt_c σ o = 12) {x1 : Int32} {x2 : Int32} {x3 : Int32} {w : lt_W} {r : Int32 × lt_W} (hf : f_X12_game σ o x1 x2 x3 w = some r) : lt_C l D gA s0 yX12_game cX12_game 4 (some .int) (lt_rm 10) [.ref (s0.heap.size + o), .int x1, .int x2, .int x3] σ w σ (some (.int r.1)) r.2 := by
  refine lt_enter rfl (Nat.le_of_ble_eq_true rfl) (fun X e1 e2 e3 e4 hF hE => ?_)
  subst e1 e2 e3 e4
  exact jb_X12_game_0 hT h0 hF hE _ _ _ _ hf

set_option maxRecDepth 100000 in
def fb_X12_guest_18 (σ : lt_S) (o : Nat) (w : lt_W) : Option (Int32 × lt_W) := Option.bind (f_X12_refuse σ o 1 w) (fun q1 => some (q1.1, q1.2))
set_option maxHeartbeats 4000000 in
set_option maxRecDepth 100000 in
theorem jb_X12_guest_18 {X : lt_X} {σ : lt_S} (hT : lt_Wt σ) {o : Nat} (h0 : lt_c σ o = 12) {r : Int32 × lt_W} (hF : lt_F X cX12_guest RX12 3 (lt_rm 5)) (hE : lt_E X 0 0 σ (some .int) (some (.int r.1)) r.2) : ∀ (w : lt_W), fb_X12_guest_18 σ o w = some r → lt_J X 0 0 σ w 18 [(0, .ref (lt_z X + o))] [] := by
  intro w hf
  unfold fb_X12_guest_18 at hf
  refine jr_aload_n hF dX12_guest_18 0 rfl rfl ?_
  refine jr_iconst (v := 1) hF dX12_guest_19 rfl ?_
  obtain ⟨q1, hq1, hf⟩ := Option.bind_eq_some_iff.mp hf
  refine jr_cV11 hF ml_X12_97 (c_X12_refuse h0 hq1) h0 ⟨Nat.le_of_ble_eq_true rfl, Nat.le_of_ble_eq_true rfl⟩ (Nat.le_of_ble_eq_true rfl) dX12_guest_20 ?_
  obtain rfl := Option.some.inj hf
  exact jr_ireturn hF hE dX12_guest_23
set_option maxRecDepth 100000 in
def fb_X12_guest_63 (σ : lt_S) (o : Nat) (y1 : Int32) (w : lt_W) : Option (Int32 × lt_W) := Option.bind (f_X12_gives σ o y1 w) (fun q1 => some (q1.1, q1.2))
set_option maxHeartbeats 4000000 in
set_option maxRecDepth 100000 in
theorem jb_X12_guest_63 {X : lt_X} {σ : lt_S} (hT : lt_Wt σ) {o : Nat} (h0 : lt_c σ o = 12) {r : Int32 × lt_W} (hF : lt_F X cX12_guest RX12 3 (lt_rm 5)) (hE : lt_E X 0 0 σ (some .int) (some (.int r.1)) r.2) : ∀ (y1 : Int32) (w : lt_W), fb_X12_guest_63 σ o y1 w = some r → lt_J X 0 0 σ w 63 [(0, .ref (lt_z X + o))] [.int y1, .ref (lt_z X + o)] := by
  intro y1 w hf
  unfold fb_X12_guest_63 at hf
  obtain ⟨q1, hq1, hf⟩ := Option.bind_eq_some_iff.mp hf
  refine jr_cV11 hF ml_X12_101 (c_X12_gives h0 hq1) h0 ⟨Nat.le_of_ble_eq_true rfl, Nat.le_of_ble_eq_true rfl⟩ (Nat.le_of_ble_eq_true rfl) dX12_guest_63 ?_
  obtain rfl := Option.some.inj hf
  exact jr_ireturn hF hE dX12_guest_66
set_option maxRecDepth 100000 in
def fb_X12_guest_0 (σ : lt_S) (o : Nat) (x1 : Int32) (x2 : Int32) (w : lt_W) : Option (Int32 × lt_W) := Option.bind (f_X12_isGuest σ o x1 w) (fun q1 => if q1 = 0 then fb_X12_guest_18 σ o w else if x2 < 0 then fb_X12_guest_18 σ o w else if x2 ≤ 7 then if x2 = 6 then Option.bind (f_X12_guestOf σ o x1 6 w) (fun q4 => Option.bind (f_X12_orNone σ o q4 w) (fun q5 => some (q5.1, q5.2))) else if x2 = 7 then Option.bind (f_X12_passTo σ o x1 w) (fun q3 => fb_X12_guest_63 σ o q3 w) else Option.bind (f_X12_guestOf σ o x1 x2 w) (fun q2 => fb_X12_guest_63 σ o q2 w) else fb_X12_guest_18 σ o w)
set_option maxHeartbeats 4000000 in
set_option maxRecDepth 100000 in
theorem jb_X12_guest_0 {X : lt_X} {σ : lt_S} (hT : lt_Wt σ) {o : Nat} (h0 : lt_c σ o = 12) {r : Int32 × lt_W} (hF : lt_F X cX12_guest RX12 3 (lt_rm 5)) (hE : lt_E X 0 0 σ (some .int) (some (.int r.1)) r.2) : ∀ (x1 : Int32) (x2 : Int32) (w : lt_W), fb_X12_guest_0 σ o x1 x2 w = some r → lt_J X 0 0 σ w 0 [(0, .ref (lt_z X + o)), (1, .int x1), (2, .int x2)] [] := by
  intro x1 x2 w hf
  unfold fb_X12_guest_0 at hf
  refine jr_aload_n hF dX12_guest_0 0 rfl rfl ?_
  refine jr_iload_n hF dX12_guest_1 1 rfl rfl ?_
  obtain ⟨q1, hq1, hf⟩ := Option.bind_eq_some_iff.mp hf
  refine jr_cV11 hF ml_X12_266 (c_X12_isGuest hT h0 hq1) h0 ⟨Nat.le_of_ble_eq_true rfl, Nat.le_of_ble_eq_true rfl⟩ (Nat.le_of_ble_eq_true rfl) dX12_guest_2 ?_
  refine jr_if_eq (tgt := 18) hF dX12_guest_5 rfl hf (fun hf => ?_) (fun hf => ?_)
  · refine jr_sub [0] rfl ?_
    exact jb_X12_guest_18 hT h0 hF hE _ hf
  · refine jr_iload_n hF dX12_guest_8 2 rfl rfl ?_
    refine jr_if_lt (tgt := 18) hF dX12_guest_9 rfl hf (fun hf => ?_) (fun hf => ?_)
    · refine jr_sub [0] rfl ?_
      exact jb_X12_guest_18 hT h0 hF hE _ hf
    · refine jr_iload_n hF dX12_guest_12 2 rfl rfl ?_
      refine jr_bipush (v := 7) hF dX12_guest_13 rfl ?_
      refine jr_icmp_le (tgt := 24) hF dX12_guest_15 rfl hf (fun hf => ?_) (fun hf => ?_)
      · refine jr_iload_n hF dX12_guest_24 2 rfl rfl ?_
        refine jr_bipush (v := 6) hF dX12_guest_25 rfl ?_
        refine jr_icmp_ne (tgt := 42) hF dX12_guest_27 rfl hf (fun hf => ?_) (fun hf => ?_)
        · refine jr_aload_n hF dX12_guest_42 0 rfl rfl ?_
          refine jr_iload_n hF dX12_guest_43 2 rfl rfl ?_
          refine jr_bipush (v := 7) hF dX12_guest_44 rfl ?_
          refine jr_icmp_ne (tgt := 57) hF dX12_guest_46 rfl hf (fun hf => ?_) (fun hf => ?_)
          · refine jr_aload_n hF dX12_guest_57 0 rfl rfl ?_
            refine jr_iload_n hF dX12_guest_58 1 rfl rfl ?_
            refine jr_iload_n hF dX12_guest_59 2 rfl rfl ?_
            obtain ⟨q2, hq2, hf⟩ := Option.bind_eq_some_iff.mp hf
            refine jr_cV21 hF ml_X12_269 (c_X12_guestOf hT h0 hq2) h0 ⟨Nat.le_of_ble_eq_true rfl, Nat.le_of_ble_eq_true rfl⟩ (Nat.le_of_ble_eq_true rfl) dX12_guest_60 ?_
            refine jr_sub [0] rfl ?_
            exact jb_X12_guest_63 hT h0 hF hE _ _ hf
          · refine jr_aload_n hF dX12_guest_49 0 rfl rfl ?_
            refine jr_iload_n hF dX12_guest_50 1 rfl rfl ?_
            obtain ⟨q3, hq3, hf⟩ := Option.bind_eq_some_iff.mp hf
            refine jr_cV11 hF ml_X12_287 (c_X12_passTo hT h0 hq3) h0 ⟨Nat.le_of_ble_eq_true rfl, Nat.le_of_ble_eq_true rfl⟩ (Nat.le_of_ble_eq_true rfl) dX12_guest_51 ?_
            refine jr_goto (tgt := 63) hF dX12_guest_54 rfl ?_
            refine jr_sub [0] rfl ?_
            exact jb_X12_guest_63 hT h0 hF hE _ _ hf
        · refine jr_aload_n hF dX12_guest_30 0 rfl rfl ?_
          refine jr_aload_n hF dX12_guest_31 0 rfl rfl ?_
          refine jr_iload_n hF dX12_guest_32 1 rfl rfl ?_
          refine jr_bipush (v := 6) hF dX12_guest_33 rfl ?_
          obtain ⟨q4, hq4, hf⟩ := Option.bind_eq_some_iff.mp hf
          refine jr_cV21 hF ml_X12_269 (c_X12_guestOf hT h0 hq4) h0 ⟨Nat.le_of_ble_eq_true rfl, Nat.le_of_ble_eq_true rfl⟩ (Nat.le_of_ble_eq_true rfl) dX12_guest_35 ?_
          obtain ⟨q5, hq5, hf⟩ := Option.bind_eq_some_iff.mp hf
          refine jr_cV11 hF ml_X12_284 (c_X12_orNone h0 hq5) h0 ⟨Nat.le_of_ble_eq_true rfl, Nat.le_of_ble_eq_true rfl⟩ (Nat.le_of_ble_eq_true rfl) dX12_guest_38 ?_
          obtain rfl := Option.some.inj hf
          exact jr_ireturn hF hE dX12_guest_41
      · refine jr_sub [0] rfl ?_
        exact jb_X12_guest_18 hT h0 hF hE _ hf
def f_X12_guest (σ : lt_S) (o : Nat) (x1 : Int32) (x2 : Int32) (w : lt_W) : Option (Int32 × lt_W) := fb_X12_guest_0 σ o x1 x2 w
set_option maxRecDepth 100000 in
theorem c_X12_guest {l : Launch} {D : va_G} {gA : Nat → ClassId} {s0 : State} {σ : lt_S} (hT : lt_Wt σ) {o : Nat} (h0 : lt_c σ o = 12) {x1 : Int32} {x2 : Int32} {w : lt_W} {r : Int32 × lt_W} (hf : f_X12_guest σ o x1 x2 w = some r) : lt_C l D gA s0 yX12_guest cX12_guest 3 (some .int) (lt_rm 5) [.ref (s0.heap.size + o), .int x1, .int x2] σ w σ (some (.int r.1)) r.2 := by
  refine lt_enter rfl (Nat.le_of_ble_eq_true rfl) (fun X e1 e2 e3 e4 hF hE => ?_)
  subst e1 e2 e3 e4
  exact jb_X12_guest_0 hT h0 hF hE _ _ _ hf

set_option maxRecDepth 100000 in
def fb_X12_guestIn_29 (σ : lt_S) (o : Nat) (w : lt_W) : Option (Int32 × lt_W) := Option.bind (f_X12_refuse σ o 1 w) (fun q1 => some (q1.1, q1.2))
set_option maxHeartbeats 4000000 in
set_option maxRecDepth 100000 in
theorem jb_X12_guestIn_29 {X : lt_X} {σ : lt_S} (hT : lt_Wt σ) {o : Nat} (h0 : lt_c σ o = 12) {r : Int32 × lt_W} (hF : lt_F X cX12_guestIn RX12 5 (lt_rm 8)) (hE : lt_E X 0 0 σ (some .int) (some (.int r.1)) r.2) : ∀ (w : lt_W), fb_X12_guestIn_29 σ o w = some r → lt_J X 0 0 σ w 29 [(0, .ref (lt_z X + o))] [] := by
  intro w hf
  unfold fb_X12_guestIn_29 at hf
  refine jr_aload_n hF dX12_guestIn_29 0 rfl rfl ?_
  refine jr_iconst (v := 1) hF dX12_guestIn_30 rfl ?_
  obtain ⟨q1, hq1, hf⟩ := Option.bind_eq_some_iff.mp hf
  refine jr_cV11 hF ml_X12_97 (c_X12_refuse h0 hq1) h0 ⟨Nat.le_of_ble_eq_true rfl, Nat.le_of_ble_eq_true rfl⟩ (Nat.le_of_ble_eq_true rfl) dX12_guestIn_31 ?_
  obtain rfl := Option.some.inj hf
  exact jr_ireturn hF hE dX12_guestIn_34
set_option maxRecDepth 100000 in
def fb_X12_guestIn_58 (σ : lt_S) (o : Nat) (y1 : Int32) (y2 : Int32) (w : lt_W) : Option (Int32 × lt_W) := Option.bind (f_X12_guestOf σ o y1 y2 w) (fun q1 => Option.bind (f_X12_brings σ o 2140 w) (fun q2 => Option.bind (f_X12_gives σ o q1 q2) (fun q3 => some (q3.1, q3.2))))
set_option maxHeartbeats 4000000 in
set_option maxRecDepth 100000 in
theorem jb_X12_guestIn_58 {X : lt_X} {σ : lt_S} (hT : lt_Wt σ) {o : Nat} (h0 : lt_c σ o = 12) {r : Int32 × lt_W} (hF : lt_F X cX12_guestIn RX12 5 (lt_rm 8)) (hE : lt_E X 0 0 σ (some .int) (some (.int r.1)) r.2) : ∀ (y1 : Int32) (y2 : Int32) (w : lt_W), fb_X12_guestIn_58 σ o y1 y2 w = some r → lt_J X 0 0 σ w 58 [(0, .ref (lt_z X + o))] [.int y2, .int y1, .ref (lt_z X + o)] := by
  intro y1 y2 w hf
  unfold fb_X12_guestIn_58 at hf
  obtain ⟨q1, hq1, hf⟩ := Option.bind_eq_some_iff.mp hf
  refine jr_cV21 hF ml_X12_269 (c_X12_guestOf hT h0 hq1) h0 ⟨Nat.le_of_ble_eq_true rfl, Nat.le_of_ble_eq_true rfl⟩ (Nat.le_of_ble_eq_true rfl) dX12_guestIn_58 ?_
  refine jr_istore (lv' := [(0, .ref (lt_z X + o)), (4, .int q1)]) hF dX12_guestIn_61 (by decide) [1, 0] rfl ?_
  refine jr_aload_n hF dX12_guestIn_63 0 rfl rfl ?_
  refine jr_sipush (v := 2140) hF dX12_guestIn_64 rfl ?_
  obtain ⟨q2, hq2, hf⟩ := Option.bind_eq_some_iff.mp hf
  refine jr_cV1v hF ml_X12_337 (c_X12_brings hT h0 hq2) h0 ⟨Nat.le_of_ble_eq_true rfl, Nat.le_of_ble_eq_true rfl⟩ (Nat.le_of_ble_eq_true rfl) dX12_guestIn_67 ?_
  refine jr_aload_n hF dX12_guestIn_70 0 rfl rfl ?_
  refine jr_iload hF dX12_guestIn_71 1 rfl ?_
  obtain ⟨q3, hq3, hf⟩ := Option.bind_eq_some_iff.mp hf
  refine jr_cV11 hF ml_X12_101 (c_X12_gives h0 hq3) h0 ⟨Nat.le_of_ble_eq_true rfl, Nat.le_of_ble_eq_true rfl⟩ (Nat.le_of_ble_eq_true rfl) dX12_guestIn_73 ?_
  obtain rfl := Option.some.inj hf
  exact jr_ireturn hF hE dX12_guestIn_76
set_option maxRecDepth 100000 in
def fb_X12_guestIn_0 (σ : lt_S) (o : Nat) (x1 : Int32) (x2 : Int32) (x3 : Int32) (w : lt_W) : Option (Int32 × lt_W) := Option.bind (f_X12_isGuest σ o x1 w) (fun q1 => if q1 = 0 then fb_X12_guestIn_29 σ o w else Option.bind (f_X12_isFrom x2.toInt64 0 99) (fun q2 => if q2 = 0 then fb_X12_guestIn_29 σ o w else if x3 < 0 then fb_X12_guestIn_29 σ o w else if x3 ≤ 1 then Option.bind (f_X12_keeps σ o 2140 w) (fun q3 => Option.bind (f_X12_daysGo σ o x2 q3) (fun q4 => if x3 = 0 then fb_X12_guestIn_58 σ o x1 0 q4 else fb_X12_guestIn_58 σ o x1 4 q4)) else fb_X12_guestIn_29 σ o w))
set_option maxHeartbeats 4000000 in
set_option maxRecDepth 100000 in
theorem jb_X12_guestIn_0 {X : lt_X} {σ : lt_S} (hT : lt_Wt σ) {o : Nat} (h0 : lt_c σ o = 12) {r : Int32 × lt_W} (hF : lt_F X cX12_guestIn RX12 5 (lt_rm 8)) (hE : lt_E X 0 0 σ (some .int) (some (.int r.1)) r.2) : ∀ (x1 : Int32) (x2 : Int32) (x3 : Int32) (w : lt_W), fb_X12_guestIn_0 σ o x1 x2 x3 w = some r → lt_J X 0 0 σ w 0 [(0, .ref (lt_z X + o)), (1, .int x1), (2, .int x2), (3, .int x3)] [] := by
  intro x1 x2 x3 w hf
  unfold fb_X12_guestIn_0 at hf
  refine jr_aload_n hF dX12_guestIn_0 0 rfl rfl ?_
  refine jr_iload_n hF dX12_guestIn_1 1 rfl rfl ?_
  obtain ⟨q1, hq1, hf⟩ := Option.bind_eq_some_iff.mp hf
  refine jr_cV11 hF ml_X12_266 (c_X12_isGuest hT h0 hq1) h0 ⟨Nat.le_of_ble_eq_true rfl, Nat.le_of_ble_eq_true rfl⟩ (Nat.le_of_ble_eq_true rfl) dX12_guestIn_2 ?_
  refine jr_if_eq (tgt := 29) hF dX12_guestIn_5 rfl hf (fun hf => ?_) (fun hf => ?_)
  · refine jr_sub [0] rfl ?_
    exact jb_X12_guestIn_29 hT h0 hF hE _ hf
  · refine jr_iload_n hF dX12_guestIn_8 2 rfl rfl ?_
    refine jr_i2l hF dX12_guestIn_9 ?_
    refine jr_lconst (v := 0) hF dX12_guestIn_10 rfl ?_
    refine jr_ldc2 (v := 99) hF dX12_guestIn_11 kc_X12_332 ?_
    obtain ⟨q2, hq2, hf⟩ := Option.bind_eq_some_iff.mp hf
    refine jr_cS31 hF ml_X12_307 (c_X12_isFrom hq2) ⟨Nat.le_of_ble_eq_true rfl, Nat.le_of_ble_eq_true rfl⟩ (Nat.le_of_ble_eq_true rfl) dX12_guestIn_14 ?_
    refine jr_if_eq (tgt := 29) hF dX12_guestIn_17 rfl hf (fun hf => ?_) (fun hf => ?_)
    · refine jr_sub [0] rfl ?_
      exact jb_X12_guestIn_29 hT h0 hF hE _ hf
    · refine jr_iload_n hF dX12_guestIn_20 3 rfl rfl ?_
      refine jr_if_lt (tgt := 29) hF dX12_guestIn_21 rfl hf (fun hf => ?_) (fun hf => ?_)
      · refine jr_sub [0] rfl ?_
        exact jb_X12_guestIn_29 hT h0 hF hE _ hf
      · refine jr_iload_n hF dX12_guestIn_24 3 rfl rfl ?_
        refine jr_iconst (v := 1) hF dX12_guestIn_25 rfl ?_
        refine jr_icmp_le (tgt := 35) hF dX12_guestIn_26 rfl hf (fun hf => ?_) (fun hf => ?_)
        · refine jr_aload_n hF dX12_guestIn_35 0 rfl rfl ?_
          refine jr_sipush (v := 2140) hF dX12_guestIn_36 rfl ?_
          obtain ⟨q3, hq3, hf⟩ := Option.bind_eq_some_iff.mp hf
          refine jr_cV1v hF ml_X12_334 (c_X12_keeps hT h0 hq3) h0 ⟨Nat.le_of_ble_eq_true rfl, Nat.le_of_ble_eq_true rfl⟩ (Nat.le_of_ble_eq_true rfl) dX12_guestIn_39 ?_
          refine jr_aload_n hF dX12_guestIn_42 0 rfl rfl ?_
          refine jr_iload_n hF dX12_guestIn_43 2 rfl rfl ?_
          obtain ⟨q4, hq4, hf⟩ := Option.bind_eq_some_iff.mp hf
          refine jr_cV1v hF ml_X12_311 (c_X12_daysGo hT h0 hq4) h0 ⟨Nat.le_of_ble_eq_true rfl, Nat.le_of_ble_eq_true rfl⟩ (Nat.le_of_ble_eq_true rfl) dX12_guestIn_44 ?_
          refine jr_aload_n hF dX12_guestIn_47 0 rfl rfl ?_
          refine jr_iload_n hF dX12_guestIn_48 1 rfl rfl ?_
          refine jr_iload_n hF dX12_guestIn_49 3 rfl rfl ?_
          refine jr_if_ne (tgt := 57) hF dX12_guestIn_50 rfl hf (fun hf => ?_) (fun hf => ?_)
          · refine jr_iconst (v := 4) hF dX12_guestIn_57 rfl ?_
            refine jr_sub [0] rfl ?_
            exact jb_X12_guestIn_58 hT h0 hF hE _ _ _ hf
          · refine jr_iconst (v := 0) hF dX12_guestIn_53 rfl ?_
            refine jr_goto (tgt := 58) hF dX12_guestIn_54 rfl ?_
            refine jr_sub [0] rfl ?_
            exact jb_X12_guestIn_58 hT h0 hF hE _ _ _ hf
        · refine jr_sub [0] rfl ?_
          exact jb_X12_guestIn_29 hT h0 hF hE _ hf
def f_X12_guestIn (σ : lt_S) (o : Nat) (x1 : Int32) (x2 : Int32) (x3 : Int32) (w : lt_W) : Option (Int32 × lt_W) := fb_X12_guestIn_0 σ o x1 x2 x3 w
set_option maxRecDepth 100000 in
theorem c_X12_guestIn {l : Launch} {D : va_G} {gA : Nat → ClassId} {s0 : State} {σ : lt_S} (hT : lt_Wt σ) {o : Nat} (h0 : lt_c σ o = 12) {x1 : Int32} {x2 : Int32} {x3 : Int32} {w : lt_W} {r : Int32 × lt_W} (hf : f_X12_guestIn σ o x1 x2 x3 w = some r) : lt_C l D gA s0 yX12_guestIn cX12_guestIn 5 (some .int) (lt_rm 8) [.ref (s0.heap.size + o), .int x1, .int x2, .int x3] σ w σ (some (.int r.1)) r.2 := by
  refine lt_enter rfl (Nat.le_of_ble_eq_true rfl) (fun X e1 e2 e3 e4 hF hE => ?_)
  subst e1 e2 e3 e4
  exact jb_X12_guestIn_0 hT h0 hF hE _ _ _ _ hf

set_option maxRecDepth 100000 in
def fb_X12_nextCut_45 (σ : lt_S) (o : Nat) (x1 : Int32) (w : lt_W) : Option (Int32 × lt_W) := Option.bind (f_X12_brings σ o 2140 w) (fun q1 => some (x1, q1))
set_option maxHeartbeats 4000000 in
set_option maxRecDepth 100000 in
theorem jb_X12_nextCut_45 {X : lt_X} {σ : lt_S} (hT : lt_Wt σ) {o : Nat} (h0 : lt_c σ o = 12) {r : Int32 × lt_W} (hF : lt_F X cX12_nextCut RX12 4 (lt_rm 7)) (hE : lt_E X 0 0 σ (some .int) (some (.int r.1)) r.2) : ∀ (x1 : Int32) (w : lt_W), fb_X12_nextCut_45 σ o x1 w = some r → lt_J X 0 0 σ w 45 [(0, .ref (lt_z X + o)), (1, .int x1)] [] := by
  intro x1 w hf
  unfold fb_X12_nextCut_45 at hf
  refine jr_aload_n hF dX12_nextCut_45 0 rfl rfl ?_
  refine jr_sipush (v := 2140) hF dX12_nextCut_46 rfl ?_
  obtain ⟨q1, hq1, hf⟩ := Option.bind_eq_some_iff.mp hf
  refine jr_cV1v hF ml_X12_337 (c_X12_brings hT h0 hq1) h0 ⟨Nat.le_of_ble_eq_true rfl, Nat.le_of_ble_eq_true rfl⟩ (Nat.le_of_ble_eq_true rfl) dX12_nextCut_49 ?_
  refine jr_iload_n hF dX12_nextCut_52 1 rfl rfl ?_
  obtain rfl := Option.some.inj hf
  exact jr_ireturn hF hE dX12_nextCut_53
set_option maxRecDepth 100000 in
def fb_X12_nextCut_11 (σ : lt_S) (o : Nat) : Nat → Int32 → Int32 → lt_W → Option (Int32 × lt_W)
  | 0, _, _, _ => none
  | n + 1, x1, x2, w => if 99 < x2 then fb_X12_nextCut_45 σ o x1 w else if x1 = (-1) then Option.bind (f_X12_dayGoes σ o w) (fun q1 => if q1.1 = (-1) then fb_X12_nextCut_11 σ o n x1 (x2 + 1) q1.2 else fb_X12_nextCut_11 σ o n ((10 * x2) + q1.1) (x2 + 1) q1.2) else fb_X12_nextCut_45 σ o x1 w
set_option maxHeartbeats 4000000 in
set_option maxRecDepth 100000 in
theorem jb_X12_nextCut_11 {X : lt_X} {σ : lt_S} (hT : lt_Wt σ) {o : Nat} (h0 : lt_c σ o = 12) {r : Int32 × lt_W} (hF : lt_F X cX12_nextCut RX12 4 (lt_rm 7)) (hE : lt_E X 0 0 σ (some .int) (some (.int r.1)) r.2) (n : Nat) : ∀ (x1 : Int32) (x2 : Int32) (w : lt_W), fb_X12_nextCut_11 σ o n x1 x2 w = some r → lt_J X 0 0 σ w 11 [(0, .ref (lt_z X + o)), (1, .int x1), (2, .int x2)] [] := by
  induction n with
  | zero => intro x1 x2 w hf; rw [fb_X12_nextCut_11] at hf; cases hf
  | succ n ih =>
    intro x1 x2 w hf
    rw [fb_X12_nextCut_11] at hf
    refine jr_iload_n hF dX12_nextCut_11 2 rfl rfl ?_
    refine jr_bipush (v := 99) hF dX12_nextCut_12 rfl ?_
    refine jr_icmp_gt (tgt := 45) hF dX12_nextCut_14 rfl hf (fun hf => ?_) (fun hf => ?_)
    · refine jr_sub [0, 1] rfl ?_
      exact jb_X12_nextCut_45 hT h0 hF hE _ _ hf
    · refine jr_iload_n hF dX12_nextCut_17 1 rfl rfl ?_
      refine jr_iconst (v := (-1)) hF dX12_nextCut_18 rfl ?_
      refine jr_icmp_ne (tgt := 45) hF dX12_nextCut_19 rfl hf (fun hf => ?_) (fun hf => ?_)
      · refine jr_sub [0, 1] rfl ?_
        exact jb_X12_nextCut_45 hT h0 hF hE _ _ hf
      · refine jr_aload_n hF dX12_nextCut_22 0 rfl rfl ?_
        obtain ⟨q1, hq1, hf⟩ := Option.bind_eq_some_iff.mp hf
        refine jr_cV01 hF ml_X12_302 (c_X12_dayGoes hT h0 hq1) h0 ⟨Nat.le_of_ble_eq_true rfl, Nat.le_of_ble_eq_true rfl⟩ (Nat.le_of_ble_eq_true rfl) dX12_nextCut_23 ?_
        refine jr_istore_n (lv' := [(0, .ref (lt_z X + o)), (1, .int x1), (2, .int x2), (3, .int q1.1)]) hF dX12_nextCut_26 rfl (by decide) [1, 2, 3, 0] rfl ?_
        refine jr_iload_n hF dX12_nextCut_27 3 rfl rfl ?_
        refine jr_iconst (v := (-1)) hF dX12_nextCut_28 rfl ?_
        refine jr_icmp_eq (tgt := 39) hF dX12_nextCut_29 rfl hf (fun hf => ?_) (fun hf => ?_)
        · refine jr_iinc (v := x2 + 1) (lv' := [(0, .ref (lt_z X + o)), (1, .int x1), (2, .int (x2 + 1)), (3, .int q1.1)]) hF dX12_nextCut_39 2 rfl rfl (by decide) [1, 2, 0, 3] rfl ?_
          refine jr_goto (tgt := 11) hF dX12_nextCut_42 rfl ?_
          refine jr_sub [0, 1, 2] rfl ?_
          exact ih _ _ _ hf
        · refine jr_bipush (v := 10) hF dX12_nextCut_32 rfl ?_
          refine jr_iload_n hF dX12_nextCut_34 2 rfl rfl ?_
          refine jr_imul hF dX12_nextCut_35 ?_
          refine jr_iload_n hF dX12_nextCut_36 3 rfl rfl ?_
          refine jr_iadd hF dX12_nextCut_37 ?_
          refine jr_istore_n (lv' := [(0, .ref (lt_z X + o)), (1, .int ((10 * x2) + q1.1)), (2, .int x2)]) hF dX12_nextCut_38 rfl (by decide) [1, 0, 2] rfl ?_
          refine jr_iinc (v := x2 + 1) (lv' := [(0, .ref (lt_z X + o)), (1, .int ((10 * x2) + q1.1)), (2, .int (x2 + 1))]) hF dX12_nextCut_39 2 rfl rfl (by decide) [1, 2, 0] rfl ?_
          refine jr_goto (tgt := 11) hF dX12_nextCut_42 rfl ?_
          exact ih _ _ _ hf
set_option maxRecDepth 100000 in
def fb_X12_nextCut_0 (σ : lt_S) (o : Nat) (w : lt_W) : Option (Int32 × lt_W) := Option.bind (f_X12_keeps σ o 2140 w) (fun q1 => fb_X12_nextCut_11 σ o lt_fu (-1) 1 q1)
set_option maxHeartbeats 4000000 in
set_option maxRecDepth 100000 in
theorem jb_X12_nextCut_0 {X : lt_X} {σ : lt_S} (hT : lt_Wt σ) {o : Nat} (h0 : lt_c σ o = 12) {r : Int32 × lt_W} (hF : lt_F X cX12_nextCut RX12 4 (lt_rm 7)) (hE : lt_E X 0 0 σ (some .int) (some (.int r.1)) r.2) : ∀ (w : lt_W), fb_X12_nextCut_0 σ o w = some r → lt_J X 0 0 σ w 0 [(0, .ref (lt_z X + o))] [] := by
  intro w hf
  unfold fb_X12_nextCut_0 at hf
  refine jr_iconst (v := (-1)) hF dX12_nextCut_0 rfl ?_
  refine jr_istore_n (lv' := [(0, .ref (lt_z X + o)), (1, .int (-1))]) hF dX12_nextCut_1 rfl (by decide) [1, 0] rfl ?_
  refine jr_aload_n hF dX12_nextCut_2 0 rfl rfl ?_
  refine jr_sipush (v := 2140) hF dX12_nextCut_3 rfl ?_
  obtain ⟨q1, hq1, hf⟩ := Option.bind_eq_some_iff.mp hf
  refine jr_cV1v hF ml_X12_334 (c_X12_keeps hT h0 hq1) h0 ⟨Nat.le_of_ble_eq_true rfl, Nat.le_of_ble_eq_true rfl⟩ (Nat.le_of_ble_eq_true rfl) dX12_nextCut_6 ?_
  refine jr_iconst (v := 1) hF dX12_nextCut_9 rfl ?_
  refine jr_istore_n (lv' := [(0, .ref (lt_z X + o)), (1, .int (-1)), (2, .int 1)]) hF dX12_nextCut_10 rfl (by decide) [1, 2, 0] rfl ?_
  exact jb_X12_nextCut_11 hT h0 hF hE lt_fu _ _ _ hf
def f_X12_nextCut (σ : lt_S) (o : Nat) (w : lt_W) : Option (Int32 × lt_W) := fb_X12_nextCut_0 σ o w
set_option maxRecDepth 100000 in
theorem c_X12_nextCut {l : Launch} {D : va_G} {gA : Nat → ClassId} {s0 : State} {σ : lt_S} (hT : lt_Wt σ) {o : Nat} (h0 : lt_c σ o = 12) {w : lt_W} {r : Int32 × lt_W} (hf : f_X12_nextCut σ o w = some r) : lt_C l D gA s0 yX12_nextCut cX12_nextCut 4 (some .int) (lt_rm 7) [.ref (s0.heap.size + o)] σ w σ (some (.int r.1)) r.2 := by
  refine lt_enter rfl (Nat.le_of_ble_eq_true rfl) (fun X e1 e2 e3 e4 hF hE => ?_)
  subst e1 e2 e3 e4
  exact jb_X12_nextCut_0 hT h0 hF hE _ hf

set_option maxRecDepth 100000 in
def fb_X12_hangs_58 (σ : lt_S) (o : Nat) (k9 : Int32 → Int32 → Int32 → lt_W → Option (Int32 × lt_W)) (x1 : Int32) (x3 : Int32) (y0 : Int32) (y1 : Int32) (w : lt_W) : Option (Int32 × lt_W) := Option.bind (f_X12_guestRow x3) (fun q2 => lt_ck (q2 + 5) (lt_len σ (lt_r σ o 0)) (lt_let (lt_si w (lt_r σ o 0) (q2 + 5).toNatClampNeg 1) (fun w3 => k9 x1 (y0 ||| y1) (x3 + 1) w3)))
set_option maxHeartbeats 4000000 in
set_option maxRecDepth 100000 in
theorem jb_X12_hangs_58 {X : lt_X} {σ : lt_S} (hT : lt_Wt σ) {o : Nat} (h0 : lt_c σ o = 12) {r : Int32 × lt_W} {k9 : Int32 → Int32 → Int32 → lt_W → Option (Int32 × lt_W)} (hF : lt_F X cX12_hangs RX12 4 (lt_rm 8)) (hE : lt_E X 0 0 σ (some .int) (some (.int r.1)) r.2) (hk9 : ∀ (x1 : Int32) (x2 : Int32) (x3 : Int32) (w : lt_W), k9 x1 x2 x3 w = some r → lt_J X 0 0 σ w 9 [(0, .ref (lt_z X + o)), (1, .int x1), (2, .int x2), (3, .int x3)] []) : ∀ (x1 : Int32) (x3 : Int32) (y0 : Int32) (y1 : Int32) (w : lt_W), fb_X12_hangs_58 σ o k9 x1 x3 y0 y1 w = some r → lt_J X 0 0 σ w 58 [(0, .ref (lt_z X + o)), (1, .int x1), (3, .int x3)] [.int y1, .int y0] := by
  intro x1 x3 y0 y1 w hf
  unfold fb_X12_hangs_58 at hf
  refine jr_ior hF dX12_hangs_58 ?_
  refine jr_istore_n (lv' := [(0, .ref (lt_z X + o)), (1, .int x1), (2, .int (y0 ||| y1)), (3, .int x3)]) hF dX12_hangs_59 rfl (by decide) [1, 2, 0, 3] rfl ?_
  refine jr_aload_n hF dX12_hangs_60 0 rfl rfl ?_
  refine jr_getRT (cr := 50) hF gf_X12_7 hT h0 rfl rfl dX12_hangs_61 (fun th1 => ?_)
  refine jr_iload_n hF dX12_hangs_64 3 rfl rfl ?_
  obtain ⟨q2, hq2, hf⟩ := Option.bind_eq_some_iff.mp hf
  refine jr_cS11 hF ml_X12_192 (c_X12_guestRow hq2) ⟨Nat.le_of_ble_eq_true rfl, Nat.le_of_ble_eq_true rfl⟩ (Nat.le_of_ble_eq_true rfl) dX12_hangs_65 ?_
  refine jr_iconst (v := 5) hF dX12_hangs_68 rfl ?_
  refine jr_iadd hF dX12_hangs_69 ?_
  refine jr_iconst (v := 1) hF dX12_hangs_70 rfl ?_
  refine jr_iastore hF th1 dX12_hangs_71 hf (fun hf => ?_)
  refine jr_letW hf (fun w3 hf => ?_)
  refine jr_iinc (v := x3 + 1) (lv' := [(0, .ref (lt_z X + o)), (1, .int x1), (2, .int (y0 ||| y1)), (3, .int (x3 + 1))]) hF dX12_hangs_72 3 rfl rfl (by decide) [1, 2, 3, 0] rfl ?_
  refine jr_goto (tgt := 9) hF dX12_hangs_75 rfl ?_
  exact hk9 _ _ _ _ hf
set_option maxRecDepth 100000 in
def fb_X12_hangs_9 (σ : lt_S) (o : Nat) : Nat → Int32 → Int32 → Int32 → lt_W → Option (Int32 × lt_W)
  | 0, _, _, _, _ => none
  | n + 1, x1, x2, x3, w => lt_ck 0 (lt_len σ (lt_r σ o 0)) (if (lt_gi w (lt_r σ o 0) (0 : Int32).toNatClampNeg) ≤ x3 then Option.bind (f_X12_gives σ o x2 w) (fun q2 => some (q2.1, q2.2)) else Option.bind (f_X12_isHere σ o x3 w) (fun q3 => if q3 = 0 then fb_X12_hangs_9 σ o n x1 x2 (x3 + 1) w else Option.bind (f_X12_guestRow x3) (fun q5 => lt_ck (q5 + 5) (lt_len σ (lt_r σ o 0)) (lt_let (lt_si w (lt_r σ o 0) (q5 + 5).toNatClampNeg 0) (fun w6 => Option.bind (f_X12_nextCut σ o w6) (fun q7 => if q7.1 = x1 then fb_X12_hangs_58 σ o (fun x1 x2 x3 w => fb_X12_hangs_9 σ o n x1 x2 x3 w) x1 x3 x2 0 q7.2 else fb_X12_hangs_58 σ o (fun x1 x2 x3 w => fb_X12_hangs_9 σ o n x1 x2 x3 w) x1 x3 x2 (1 <<< (x3 &&& 31)) q7.2))))))
set_option maxHeartbeats 4000000 in
set_option maxRecDepth 100000 in
theorem jb_X12_hangs_9 {X : lt_X} {σ : lt_S} (hT : lt_Wt σ) {o : Nat} (h0 : lt_c σ o = 12) {r : Int32 × lt_W} (hF : lt_F X cX12_hangs RX12 4 (lt_rm 8)) (hE : lt_E X 0 0 σ (some .int) (some (.int r.1)) r.2) (n : Nat) : ∀ (x1 : Int32) (x2 : Int32) (x3 : Int32) (w : lt_W), fb_X12_hangs_9 σ o n x1 x2 x3 w = some r → lt_J X 0 0 σ w 9 [(0, .ref (lt_z X + o)), (1, .int x1), (2, .int x2), (3, .int x3)] [] := by
  induction n with
  | zero => intro x1 x2 x3 w hf; rw [fb_X12_hangs_9] at hf; cases hf
  | succ n ih =>
    intro x1 x2 x3 w hf
    rw [fb_X12_hangs_9] at hf
    refine jr_iload_n hF dX12_hangs_9 3 rfl rfl ?_
    refine jr_aload_n hF dX12_hangs_10 0 rfl rfl ?_
    refine jr_getRT (cr := 50) hF gf_X12_7 hT h0 rfl rfl dX12_hangs_11 (fun th1 => ?_)
    refine jr_iconst (v := 0) hF dX12_hangs_14 rfl ?_
    refine jr_iaload hF th1 dX12_hangs_15 hf (fun hf => ?_)
    refine jr_icmp_ge (tgt := 78) hF dX12_hangs_16 rfl hf (fun hf => ?_) (fun hf => ?_)
    · refine jr_aload_n hF dX12_hangs_78 0 rfl rfl ?_
      refine jr_iload_n hF dX12_hangs_79 2 rfl rfl ?_
      obtain ⟨q2, hq2, hf⟩ := Option.bind_eq_some_iff.mp hf
      refine jr_cV11 hF ml_X12_101 (c_X12_gives h0 hq2) h0 ⟨Nat.le_of_ble_eq_true rfl, Nat.le_of_ble_eq_true rfl⟩ (Nat.le_of_ble_eq_true rfl) dX12_hangs_80 ?_
      obtain rfl := Option.some.inj hf
      exact jr_ireturn hF hE dX12_hangs_83
    · refine jr_aload_n hF dX12_hangs_19 0 rfl rfl ?_
      refine jr_iload_n hF dX12_hangs_20 3 rfl rfl ?_
      obtain ⟨q3, hq3, hf⟩ := Option.bind_eq_some_iff.mp hf
      refine jr_cV11 hF ml_X12_272 (c_X12_isHere hT h0 hq3) h0 ⟨Nat.le_of_ble_eq_true rfl, Nat.le_of_ble_eq_true rfl⟩ (Nat.le_of_ble_eq_true rfl) dX12_hangs_21 ?_
      refine jr_if_ne (tgt := 30) hF dX12_hangs_24 rfl hf (fun hf => ?_) (fun hf => ?_)
      · refine jr_aload_n hF dX12_hangs_30 0 rfl rfl ?_
        refine jr_getRT (cr := 50) hF gf_X12_7 hT h0 rfl rfl dX12_hangs_31 (fun th4 => ?_)
        refine jr_iload_n hF dX12_hangs_34 3 rfl rfl ?_
        obtain ⟨q5, hq5, hf⟩ := Option.bind_eq_some_iff.mp hf
        refine jr_cS11 hF ml_X12_192 (c_X12_guestRow hq5) ⟨Nat.le_of_ble_eq_true rfl, Nat.le_of_ble_eq_true rfl⟩ (Nat.le_of_ble_eq_true rfl) dX12_hangs_35 ?_
        refine jr_iconst (v := 5) hF dX12_hangs_38 rfl ?_
        refine jr_iadd hF dX12_hangs_39 ?_
        refine jr_iconst (v := 0) hF dX12_hangs_40 rfl ?_
        refine jr_iastore hF th4 dX12_hangs_41 hf (fun hf => ?_)
        refine jr_letW hf (fun w6 hf => ?_)
        refine jr_iload_n hF dX12_hangs_42 2 rfl rfl ?_
        refine jr_aload_n hF dX12_hangs_43 0 rfl rfl ?_
        obtain ⟨q7, hq7, hf⟩ := Option.bind_eq_some_iff.mp hf
        refine jr_cV01 hF ml_X12_340 (c_X12_nextCut hT h0 hq7) h0 ⟨Nat.le_of_ble_eq_true rfl, Nat.le_of_ble_eq_true rfl⟩ (Nat.le_of_ble_eq_true rfl) dX12_hangs_44 ?_
        refine jr_iload_n hF dX12_hangs_47 1 rfl rfl ?_
        refine jr_icmp_eq (tgt := 57) hF dX12_hangs_48 rfl hf (fun hf => ?_) (fun hf => ?_)
        · refine jr_iconst (v := 0) hF dX12_hangs_57 rfl ?_
          refine jr_sub [0, 1, 3] rfl ?_
          exact jb_X12_hangs_58 hT h0 hF hE ih _ _ _ _ _ hf
        · refine jr_iconst (v := 1) hF dX12_hangs_51 rfl ?_
          refine jr_iload_n hF dX12_hangs_52 3 rfl rfl ?_
          refine jr_ishl hF dX12_hangs_53 ?_
          refine jr_goto (tgt := 58) hF dX12_hangs_54 rfl ?_
          refine jr_sub [0, 1, 3] rfl ?_
          exact jb_X12_hangs_58 hT h0 hF hE ih _ _ _ _ _ hf
      · refine jr_goto (tgt := 72) hF dX12_hangs_27 rfl ?_
        refine jr_iinc (v := x3 + 1) (lv' := [(0, .ref (lt_z X + o)), (1, .int x1), (2, .int x2), (3, .int (x3 + 1))]) hF dX12_hangs_72 3 rfl rfl (by decide) [1, 2, 3, 0] rfl ?_
        refine jr_goto (tgt := 9) hF dX12_hangs_75 rfl ?_
        exact ih _ _ _ _ hf
set_option maxRecDepth 100000 in
def fb_X12_hangs_0 (σ : lt_S) (o : Nat) (w : lt_W) : Option (Int32 × lt_W) := Option.bind (f_X12_nextCut σ o w) (fun q1 => fb_X12_hangs_9 σ o lt_fu q1.1 0 0 q1.2)
set_option maxHeartbeats 4000000 in
set_option maxRecDepth 100000 in
theorem jb_X12_hangs_0 {X : lt_X} {σ : lt_S} (hT : lt_Wt σ) {o : Nat} (h0 : lt_c σ o = 12) {r : Int32 × lt_W} (hF : lt_F X cX12_hangs RX12 4 (lt_rm 8)) (hE : lt_E X 0 0 σ (some .int) (some (.int r.1)) r.2) : ∀ (w : lt_W), fb_X12_hangs_0 σ o w = some r → lt_J X 0 0 σ w 0 [(0, .ref (lt_z X + o))] [] := by
  intro w hf
  unfold fb_X12_hangs_0 at hf
  refine jr_aload_n hF dX12_hangs_0 0 rfl rfl ?_
  obtain ⟨q1, hq1, hf⟩ := Option.bind_eq_some_iff.mp hf
  refine jr_cV01 hF ml_X12_340 (c_X12_nextCut hT h0 hq1) h0 ⟨Nat.le_of_ble_eq_true rfl, Nat.le_of_ble_eq_true rfl⟩ (Nat.le_of_ble_eq_true rfl) dX12_hangs_1 ?_
  refine jr_istore_n (lv' := [(0, .ref (lt_z X + o)), (1, .int q1.1)]) hF dX12_hangs_4 rfl (by decide) [1, 0] rfl ?_
  refine jr_iconst (v := 0) hF dX12_hangs_5 rfl ?_
  refine jr_istore_n (lv' := [(0, .ref (lt_z X + o)), (1, .int q1.1), (2, .int 0)]) hF dX12_hangs_6 rfl (by decide) [1, 2, 0] rfl ?_
  refine jr_iconst (v := 0) hF dX12_hangs_7 rfl ?_
  refine jr_istore_n (lv' := [(0, .ref (lt_z X + o)), (1, .int q1.1), (2, .int 0), (3, .int 0)]) hF dX12_hangs_8 rfl (by decide) [1, 2, 3, 0] rfl ?_
  exact jb_X12_hangs_9 hT h0 hF hE lt_fu _ _ _ _ hf
def f_X12_hangs (σ : lt_S) (o : Nat) (w : lt_W) : Option (Int32 × lt_W) := fb_X12_hangs_0 σ o w
set_option maxRecDepth 100000 in
theorem c_X12_hangs {l : Launch} {D : va_G} {gA : Nat → ClassId} {s0 : State} {σ : lt_S} (hT : lt_Wt σ) {o : Nat} (h0 : lt_c σ o = 12) {w : lt_W} {r : Int32 × lt_W} (hf : f_X12_hangs σ o w = some r) : lt_C l D gA s0 yX12_hangs cX12_hangs 4 (some .int) (lt_rm 8) [.ref (s0.heap.size + o)] σ w σ (some (.int r.1)) r.2 := by
  refine lt_enter rfl (Nat.le_of_ble_eq_true rfl) (fun X e1 e2 e3 e4 hF hE => ?_)
  subst e1 e2 e3 e4
  exact jb_X12_hangs_0 hT h0 hF hE _ hf

set_option maxRecDepth 100000 in
def fb_X12_isIn_0 (o : Nat) (x1 : Int32) (x2 : Int32) : Option Int32 := if ((x1 >>> (x2 &&& 31)) &&& 1) = 1 then some 1 else some 0
set_option maxHeartbeats 4000000 in
set_option maxRecDepth 100000 in
theorem jb_X12_isIn_0 {X : lt_X} {σ : lt_S} {o : Nat} (h0 : lt_c σ o = 12) {r : Int32} {w : lt_W} (hF : lt_F X cX12_isIn RX12 3 (lt_rm 1)) (hE : lt_E X 0 0 σ (some .boolean) (some (.int r)) w) : ∀ (x1 : Int32) (x2 : Int32), fb_X12_isIn_0 o x1 x2 = some r → lt_J X 0 0 σ w 0 [(0, .ref (lt_z X + o)), (1, .int x1), (2, .int x2)] [] := by
  intro x1 x2 hf
  unfold fb_X12_isIn_0 at hf
  refine jr_iload_n hF dX12_isIn_0 1 rfl rfl ?_
  refine jr_iload_n hF dX12_isIn_1 2 rfl rfl ?_
  refine jr_ishr hF dX12_isIn_2 ?_
  refine jr_iconst (v := 1) hF dX12_isIn_3 rfl ?_
  refine jr_iand hF dX12_isIn_4 ?_
  refine jr_iconst (v := 1) hF dX12_isIn_5 rfl ?_
  refine jr_icmp_ne (tgt := 13) hF dX12_isIn_6 rfl hf (fun hf => ?_) (fun hf => ?_)
  · refine jr_iconst (v := 0) hF dX12_isIn_13 rfl ?_
    obtain rfl := Option.some.inj hf
    exact jr_zreturn hF hE (Or.inl rfl) dX12_isIn_14
  · refine jr_iconst (v := 1) hF dX12_isIn_9 rfl ?_
    refine jr_goto (tgt := 14) hF dX12_isIn_10 rfl ?_
    obtain rfl := Option.some.inj hf
    exact jr_zreturn hF hE (Or.inr rfl) dX12_isIn_14
def f_X12_isIn (o : Nat) (x1 : Int32) (x2 : Int32) : Option Int32 := fb_X12_isIn_0 o x1 x2
set_option maxRecDepth 100000 in
theorem c_X12_isIn {l : Launch} {D : va_G} {gA : Nat → ClassId} {s0 : State} {σ : lt_S} {o : Nat} (h0 : lt_c σ o = 12) {x1 : Int32} {x2 : Int32} {w : lt_W} {r : Int32} (hf : f_X12_isIn o x1 x2 = some r) : lt_C l D gA s0 yX12_isIn cX12_isIn 3 (some .boolean) (lt_rm 1) [.ref (s0.heap.size + o), .int x1, .int x2] σ w σ (some (.int r)) w := by
  refine lt_enter rfl (Nat.le_of_ble_eq_true rfl) (fun X e1 e2 e3 e4 hF hE => ?_)
  subst e1 e2 e3 e4
  exact jb_X12_isIn_0 h0 hF hE _ _ hf

set_option maxRecDepth 100000 in
def fb_X12_holds_69 (σ : lt_S) (o : Nat) (w : lt_W) (x1 : Int32) (y0 : Int32) : Option Int32 := lt_ck (x1 + 5) (lt_len σ (lt_r σ o 0)) (if (lt_gi w (lt_r σ o 0) (x1 + 5).toNatClampNeg) = 60 then lt_ck (x1 + 2) (lt_len σ (lt_r σ o 0)) (if (lt_gi w (lt_r σ o 0) (x1 + 2).toNatClampNeg) ≤ y0 then some 0 else some 1) else lt_ck (x1 + 5) (lt_len σ (lt_r σ o 0)) (if (lt_gi w (lt_r σ o 0) (x1 + 5).toNatClampNeg) = 62 then lt_ck (x1 + 2) (lt_len σ (lt_r σ o 0)) (if y0 ≤ (lt_gi w (lt_r σ o 0) (x1 + 2).toNatClampNeg) then some 0 else some 1) else lt_ck (x1 + 2) (lt_len σ (lt_r σ o 0)) (if y0 = (lt_gi w (lt_r σ o 0) (x1 + 2).toNatClampNeg) then some 1 else some 0)))
set_option maxHeartbeats 4000000 in
set_option maxRecDepth 100000 in
theorem jb_X12_holds_69 {X : lt_X} {σ : lt_S} (hT : lt_Wt σ) {o : Nat} (h0 : lt_c σ o = 12) {r : Int32} {w : lt_W} (hF : lt_F X cX12_holds RX12 5 (lt_rm 5)) (hE : lt_E X 0 0 σ (some .boolean) (some (.int r)) w) : ∀ (x1 : Int32) (y0 : Int32), fb_X12_holds_69 σ o w x1 y0 = some r → lt_J X 0 0 σ w 69 [(0, .ref (lt_z X + o)), (1, .int x1)] [.int y0] := by
  intro x1 y0 hf
  unfold fb_X12_holds_69 at hf
  refine jr_istore (lv' := [(0, .ref (lt_z X + o)), (1, .int x1), (4, .int y0)]) hF dX12_holds_69 (by decide) [1, 2, 0] rfl ?_
  refine jr_aload_n hF dX12_holds_71 0 rfl rfl ?_
  refine jr_getRT (cr := 50) hF gf_X12_7 hT h0 rfl rfl dX12_holds_72 (fun th1 => ?_)
  refine jr_iload_n hF dX12_holds_75 1 rfl rfl ?_
  refine jr_iconst (v := 5) hF dX12_holds_76 rfl ?_
  refine jr_iadd hF dX12_holds_77 ?_
  refine jr_iaload hF th1 dX12_holds_78 hf (fun hf => ?_)
  refine jr_bipush (v := 60) hF dX12_holds_79 rfl ?_
  refine jr_icmp_ne (tgt := 105) hF dX12_holds_81 rfl hf (fun hf => ?_) (fun hf => ?_)
  · refine jr_aload_n hF dX12_holds_105 0 rfl rfl ?_
    refine jr_getRT (cr := 50) hF gf_X12_7 hT h0 rfl rfl dX12_holds_106 (fun th2 => ?_)
    refine jr_iload_n hF dX12_holds_109 1 rfl rfl ?_
    refine jr_iconst (v := 5) hF dX12_holds_110 rfl ?_
    refine jr_iadd hF dX12_holds_111 ?_
    refine jr_iaload hF th2 dX12_holds_112 hf (fun hf => ?_)
    refine jr_bipush (v := 62) hF dX12_holds_113 rfl ?_
    refine jr_icmp_ne (tgt := 139) hF dX12_holds_115 rfl hf (fun hf => ?_) (fun hf => ?_)
    · refine jr_iload hF dX12_holds_139 2 rfl ?_
      refine jr_aload_n hF dX12_holds_141 0 rfl rfl ?_
      refine jr_getRT (cr := 50) hF gf_X12_7 hT h0 rfl rfl dX12_holds_142 (fun th3 => ?_)
      refine jr_iload_n hF dX12_holds_145 1 rfl rfl ?_
      refine jr_iconst (v := 2) hF dX12_holds_146 rfl ?_
      refine jr_iadd hF dX12_holds_147 ?_
      refine jr_iaload hF th3 dX12_holds_148 hf (fun hf => ?_)
      refine jr_icmp_ne (tgt := 156) hF dX12_holds_149 rfl hf (fun hf => ?_) (fun hf => ?_)
      · refine jr_iconst (v := 0) hF dX12_holds_156 rfl ?_
        obtain rfl := Option.some.inj hf
        exact jr_zreturn hF hE (Or.inl rfl) dX12_holds_157
      · refine jr_iconst (v := 1) hF dX12_holds_152 rfl ?_
        refine jr_goto (tgt := 157) hF dX12_holds_153 rfl ?_
        obtain rfl := Option.some.inj hf
        exact jr_zreturn hF hE (Or.inr rfl) dX12_holds_157
    · refine jr_iload hF dX12_holds_118 2 rfl ?_
      refine jr_aload_n hF dX12_holds_120 0 rfl rfl ?_
      refine jr_getRT (cr := 50) hF gf_X12_7 hT h0 rfl rfl dX12_holds_121 (fun th4 => ?_)
      refine jr_iload_n hF dX12_holds_124 1 rfl rfl ?_
      refine jr_iconst (v := 2) hF dX12_holds_125 rfl ?_
      refine jr_iadd hF dX12_holds_126 ?_
      refine jr_iaload hF th4 dX12_holds_127 hf (fun hf => ?_)
      refine jr_icmp_le (tgt := 135) hF dX12_holds_128 rfl hf (fun hf => ?_) (fun hf => ?_)
      · refine jr_iconst (v := 0) hF dX12_holds_135 rfl ?_
        refine jr_goto (tgt := 157) hF dX12_holds_136 rfl ?_
        obtain rfl := Option.some.inj hf
        exact jr_zreturn hF hE (Or.inl rfl) dX12_holds_157
      · refine jr_iconst (v := 1) hF dX12_holds_131 rfl ?_
        refine jr_goto (tgt := 157) hF dX12_holds_132 rfl ?_
        obtain rfl := Option.some.inj hf
        exact jr_zreturn hF hE (Or.inr rfl) dX12_holds_157
  · refine jr_iload hF dX12_holds_84 2 rfl ?_
    refine jr_aload_n hF dX12_holds_86 0 rfl rfl ?_
    refine jr_getRT (cr := 50) hF gf_X12_7 hT h0 rfl rfl dX12_holds_87 (fun th5 => ?_)
    refine jr_iload_n hF dX12_holds_90 1 rfl rfl ?_
    refine jr_iconst (v := 2) hF dX12_holds_91 rfl ?_
    refine jr_iadd hF dX12_holds_92 ?_
    refine jr_iaload hF th5 dX12_holds_93 hf (fun hf => ?_)
    refine jr_icmp_ge (tgt := 101) hF dX12_holds_94 rfl hf (fun hf => ?_) (fun hf => ?_)
    · refine jr_iconst (v := 0) hF dX12_holds_101 rfl ?_
      refine jr_goto (tgt := 157) hF dX12_holds_102 rfl ?_
      obtain rfl := Option.some.inj hf
      exact jr_zreturn hF hE (Or.inl rfl) dX12_holds_157
    · refine jr_iconst (v := 1) hF dX12_holds_97 rfl ?_
      refine jr_goto (tgt := 157) hF dX12_holds_98 rfl ?_
      obtain rfl := Option.some.inj hf
      exact jr_zreturn hF hE (Or.inr rfl) dX12_holds_157
set_option maxRecDepth 100000 in
def fb_X12_holds_0 (σ : lt_S) (o : Nat) (w : lt_W) (x1 : Int32) : Option Int32 := lt_ck x1 (lt_len σ (lt_r σ o 0)) (lt_let ((lt_gi w (lt_r σ o 0) x1.toNatClampNeg) - 1600) (fun z2 => lt_ck (x1 + 1) (lt_len σ (lt_r σ o 0)) (lt_let (lt_gi w (lt_r σ o 0) (x1 + 1).toNatClampNeg) (fun z4 => if z2 = 20 then Option.bind (f_X12_isHere σ o z4 w) (fun q10 => lt_bz q10 (some q10)) else if z2 = 21 then Option.bind (f_X12_areHungry σ o w) (fun q7 => Option.bind (f_X12_isIn o q7 z4) (fun q8 => lt_bz q8 (some q8))) else if z2 = 22 then lt_ck 5 (lt_len σ (lt_r σ o 0)) (fb_X12_holds_69 σ o w x1 (lt_gi w (lt_r σ o 0) (5 : Int32).toNatClampNeg)) else Option.bind (f_X12_guestOf σ o z4 0 w) (fun q5 => fb_X12_holds_69 σ o w x1 q5)))))
set_option maxHeartbeats 4000000 in
set_option maxRecDepth 100000 in
theorem jb_X12_holds_0 {X : lt_X} {σ : lt_S} (hT : lt_Wt σ) {o : Nat} (h0 : lt_c σ o = 12) {r : Int32} {w : lt_W} (hF : lt_F X cX12_holds RX12 5 (lt_rm 5)) (hE : lt_E X 0 0 σ (some .boolean) (some (.int r)) w) : ∀ (x1 : Int32), fb_X12_holds_0 σ o w x1 = some r → lt_J X 0 0 σ w 0 [(0, .ref (lt_z X + o)), (1, .int x1)] [] := by
  intro x1 hf
  unfold fb_X12_holds_0 at hf
  refine jr_aload_n hF dX12_holds_0 0 rfl rfl ?_
  refine jr_getRT (cr := 50) hF gf_X12_7 hT h0 rfl rfl dX12_holds_1 (fun th1 => ?_)
  refine jr_iload_n hF dX12_holds_4 1 rfl rfl ?_
  refine jr_iaload hF th1 dX12_holds_5 hf (fun hf => ?_)
  refine jr_sipush (v := 1600) hF dX12_holds_6 rfl ?_
  refine jr_isub hF dX12_holds_9 ?_
  refine jr_letI hf (fun z2 hf => ?_)
  refine jr_istore_n (lv' := [(0, .ref (lt_z X + o)), (1, .int x1), (2, .int z2)]) hF dX12_holds_10 rfl (by decide) [1, 2, 0] rfl ?_
  refine jr_aload_n hF dX12_holds_11 0 rfl rfl ?_
  refine jr_getRT (cr := 50) hF gf_X12_7 hT h0 rfl rfl dX12_holds_12 (fun th3 => ?_)
  refine jr_iload_n hF dX12_holds_15 1 rfl rfl ?_
  refine jr_iconst (v := 1) hF dX12_holds_16 rfl ?_
  refine jr_iadd hF dX12_holds_17 ?_
  refine jr_iaload hF th3 dX12_holds_18 hf (fun hf => ?_)
  refine jr_letI hf (fun z4 hf => ?_)
  refine jr_istore_n (lv' := [(0, .ref (lt_z X + o)), (1, .int x1), (2, .int z2), (3, .int z4)]) hF dX12_holds_19 rfl (by decide) [1, 2, 3, 0] rfl ?_
  refine jr_iload_n hF dX12_holds_20 2 rfl rfl ?_
  refine jr_bipush (v := 20) hF dX12_holds_21 rfl ?_
  refine jr_icmp_ne (tgt := 32) hF dX12_holds_23 rfl hf (fun hf => ?_) (fun hf => ?_)
  · refine jr_iload_n hF dX12_holds_32 2 rfl rfl ?_
    refine jr_bipush (v := 21) hF dX12_holds_33 rfl ?_
    refine jr_icmp_ne (tgt := 48) hF dX12_holds_35 rfl hf (fun hf => ?_) (fun hf => ?_)
    · refine jr_iload_n hF dX12_holds_48 2 rfl rfl ?_
      refine jr_bipush (v := 22) hF dX12_holds_49 rfl ?_
      refine jr_icmp_ne (tgt := 63) hF dX12_holds_51 rfl hf (fun hf => ?_) (fun hf => ?_)
      · refine jr_aload_n hF dX12_holds_63 0 rfl rfl ?_
        refine jr_iload_n hF dX12_holds_64 3 rfl rfl ?_
        refine jr_iconst (v := 0) hF dX12_holds_65 rfl ?_
        obtain ⟨q5, hq5, hf⟩ := Option.bind_eq_some_iff.mp hf
        refine jr_cV21 hF ml_X12_269 (c_X12_guestOf hT h0 hq5) h0 ⟨Nat.le_of_ble_eq_true rfl, Nat.le_of_ble_eq_true rfl⟩ (Nat.le_of_ble_eq_true rfl) dX12_holds_66 ?_
        refine jr_sub [0, 1] rfl ?_
        exact jb_X12_holds_69 hT h0 hF hE _ _ hf
      · refine jr_aload_n hF dX12_holds_54 0 rfl rfl ?_
        refine jr_getRT (cr := 50) hF gf_X12_7 hT h0 rfl rfl dX12_holds_55 (fun th6 => ?_)
        refine jr_iconst (v := 5) hF dX12_holds_58 rfl ?_
        refine jr_iaload hF th6 dX12_holds_59 hf (fun hf => ?_)
        refine jr_goto (tgt := 69) hF dX12_holds_60 rfl ?_
        refine jr_sub [0, 1] rfl ?_
        exact jb_X12_holds_69 hT h0 hF hE _ _ hf
    · refine jr_aload_n hF dX12_holds_38 0 rfl rfl ?_
      refine jr_aload_n hF dX12_holds_39 0 rfl rfl ?_
      obtain ⟨q7, hq7, hf⟩ := Option.bind_eq_some_iff.mp hf
      refine jr_cV01 hF ml_X12_278 (c_X12_areHungry hT h0 hq7) h0 ⟨Nat.le_of_ble_eq_true rfl, Nat.le_of_ble_eq_true rfl⟩ (Nat.le_of_ble_eq_true rfl) dX12_holds_40 ?_
      refine jr_iload_n hF dX12_holds_43 3 rfl rfl ?_
      obtain ⟨q8, hq8, hf⟩ := Option.bind_eq_some_iff.mp hf
      refine jr_cV21 hF ml_X12_233 (c_X12_isIn h0 hq8) h0 ⟨Nat.le_of_ble_eq_true rfl, Nat.le_of_ble_eq_true rfl⟩ (Nat.le_of_ble_eq_true rfl) dX12_holds_44 ?_
      obtain ⟨b9, hf⟩ := lt_bzE hf
      obtain rfl := Option.some.inj hf
      exact jr_zreturn hF hE b9 dX12_holds_47
  · refine jr_aload_n hF dX12_holds_26 0 rfl rfl ?_
    refine jr_iload_n hF dX12_holds_27 3 rfl rfl ?_
    obtain ⟨q10, hq10, hf⟩ := Option.bind_eq_some_iff.mp hf
    refine jr_cV11 hF ml_X12_272 (c_X12_isHere hT h0 hq10) h0 ⟨Nat.le_of_ble_eq_true rfl, Nat.le_of_ble_eq_true rfl⟩ (Nat.le_of_ble_eq_true rfl) dX12_holds_28 ?_
    obtain ⟨b11, hf⟩ := lt_bzE hf
    obtain rfl := Option.some.inj hf
    exact jr_zreturn hF hE b11 dX12_holds_31
def f_X12_holds (σ : lt_S) (o : Nat) (x1 : Int32) (w : lt_W) : Option Int32 := fb_X12_holds_0 σ o w x1
set_option maxRecDepth 100000 in
theorem c_X12_holds {l : Launch} {D : va_G} {gA : Nat → ClassId} {s0 : State} {σ : lt_S} (hT : lt_Wt σ) {o : Nat} (h0 : lt_c σ o = 12) {x1 : Int32} {w : lt_W} {r : Int32} (hf : f_X12_holds σ o x1 w = some r) : lt_C l D gA s0 yX12_holds cX12_holds 5 (some .boolean) (lt_rm 5) [.ref (s0.heap.size + o), .int x1] σ w σ (some (.int r)) w := by
  refine lt_enter rfl (Nat.le_of_ble_eq_true rfl) (fun X e1 e2 e3 e4 hF hE => ?_)
  subst e1 e2 e3 e4
  exact jb_X12_holds_0 hT h0 hF hE _ hf
