set_option maxRecDepth 100000 in
def fb_X11_within_0 (x0 : Int32) (x1 : Int32) (x2 : Int32) : Option Int32 := if x0 < x1 then some 0 else if x2 < x0 then some 0 else some 1
set_option maxHeartbeats 4000000 in
set_option maxRecDepth 100000 in
theorem jb_X11_within_0 {X : lt_X} {σ : lt_S} {r : Int32} {w : lt_W} (hF : lt_F X cX11_within RX11 3 (lt_rm 1)) (hE : lt_E X 0 0 σ (some .boolean) (some (.int r)) w) : ∀ (x0 : Int32) (x1 : Int32) (x2 : Int32), fb_X11_within_0 x0 x1 x2 = some r → lt_J X 0 0 σ w 0 [(0, .int x0), (1, .int x1), (2, .int x2)] [] := by
  intro x0 x1 x2 hf
  unfold fb_X11_within_0 at hf
  refine jr_iload_n hF dX11_within_0 0 rfl rfl ?_
  refine jr_iload_n hF dX11_within_1 1 rfl rfl ?_
  refine jr_icmp_lt (tgt := 14) hF dX11_within_2 rfl hf (fun hf => ?_) (fun hf => ?_)
  · refine jr_iconst (v := 0) hF dX11_within_14 rfl ?_
    obtain rfl := Option.some.inj hf
    exact jr_zreturn hF hE (Or.inl rfl) dX11_within_15
  · refine jr_iload_n hF dX11_within_5 0 rfl rfl ?_
    refine jr_iload_n hF dX11_within_6 2 rfl rfl ?_
    refine jr_icmp_gt (tgt := 14) hF dX11_within_7 rfl hf (fun hf => ?_) (fun hf => ?_)
    · refine jr_iconst (v := 0) hF dX11_within_14 rfl ?_
      obtain rfl := Option.some.inj hf
      exact jr_zreturn hF hE (Or.inl rfl) dX11_within_15
    · refine jr_iconst (v := 1) hF dX11_within_10 rfl ?_
      refine jr_goto (tgt := 15) hF dX11_within_11 rfl ?_
      obtain rfl := Option.some.inj hf
      exact jr_zreturn hF hE (Or.inr rfl) dX11_within_15
def f_X11_within (x0 : Int32) (x1 : Int32) (x2 : Int32) : Option Int32 := fb_X11_within_0 x0 x1 x2
set_option maxRecDepth 100000 in
theorem c_X11_within {l : Launch} {D : va_G} {gA : Nat → ClassId} {s0 : State} {σ : lt_S} {x0 : Int32} {x1 : Int32} {x2 : Int32} {w : lt_W} {r : Int32} (hf : f_X11_within x0 x1 x2 = some r) : lt_C l D gA s0 yX11_within cX11_within 3 (some .boolean) (lt_rm 1) [.int x0, .int x1, .int x2] σ w σ (some (.int r)) w := by
  refine lt_enter rfl (Nat.le_of_ble_eq_true rfl) (fun X e1 e2 e3 e4 hF hE => ?_)
  subst e1 e2 e3 e4
  exact jb_X11_within_0 hF hE _ _ _ hf

set_option maxRecDepth 100000 in
def fb_X7_refuse_14 (σ : lt_S) (o : Nat) (y1 : Int32) (w : lt_W) : Option (Int32 × lt_W) := lt_let (lt_si w o 9 y1) (fun w1 => lt_let (lt_si w1 o 10 (lt_gi w1 o 4)) (fun w2 => some (0, w2)))
set_option maxHeartbeats 4000000 in
set_option maxRecDepth 100000 in
theorem jb_X7_refuse_14 {X : lt_X} {σ : lt_S} {o : Nat} (h0 : lt_c σ o = 7) {r : Int32 × lt_W} (hF : lt_F X cX7_refuse RX7 2 (lt_rm 1)) (hE : lt_E X 0 0 σ (some .boolean) (some (.int r.1)) r.2) : ∀ (y1 : Int32) (w : lt_W), fb_X7_refuse_14 σ o y1 w = some r → lt_J X 0 0 σ w 14 [(0, .ref (lt_z X + o))] [.int y1, .ref (lt_z X + o)] := by
  intro y1 w hf
  unfold fb_X7_refuse_14 at hf
  refine jr_putI hF pf_X7_15 h0 dX7_refuse_14 ?_
  refine jr_letW hf (fun w1 hf => ?_)
  refine jr_aload_n hF dX7_refuse_17 0 rfl rfl ?_
  refine jr_aload_n hF dX7_refuse_18 0 rfl rfl ?_
  refine jr_getI hF gf_X7_43 h0 dX7_refuse_19 ?_
  refine jr_putI hF pf_X7_19 h0 dX7_refuse_22 ?_
  refine jr_letW hf (fun w2 hf => ?_)
  refine jr_iconst (v := 0) hF dX7_refuse_25 rfl ?_
  obtain rfl := Option.some.inj hf
  exact jr_zreturn hF hE (Or.inl rfl) dX7_refuse_26
set_option maxRecDepth 100000 in
def fb_X7_refuse_0 (σ : lt_S) (o : Nat) (x1 : Int32) (w : lt_W) : Option (Int32 × lt_W) := if (lt_gi w o 5) = (-1) then fb_X7_refuse_14 σ o 1 w else fb_X7_refuse_14 σ o x1 w
set_option maxHeartbeats 4000000 in
set_option maxRecDepth 100000 in
theorem jb_X7_refuse_0 {X : lt_X} {σ : lt_S} {o : Nat} (h0 : lt_c σ o = 7) {r : Int32 × lt_W} (hF : lt_F X cX7_refuse RX7 2 (lt_rm 1)) (hE : lt_E X 0 0 σ (some .boolean) (some (.int r.1)) r.2) : ∀ (x1 : Int32) (w : lt_W), fb_X7_refuse_0 σ o x1 w = some r → lt_J X 0 0 σ w 0 [(0, .ref (lt_z X + o)), (1, .int x1)] [] := by
  intro x1 w hf
  unfold fb_X7_refuse_0 at hf
  refine jr_aload_n hF dX7_refuse_0 0 rfl rfl ?_
  refine jr_aload_n hF dX7_refuse_1 0 rfl rfl ?_
  refine jr_getI hF gf_X7_40 h0 dX7_refuse_2 ?_
  refine jr_iconst (v := (-1)) hF dX7_refuse_5 rfl ?_
  refine jr_icmp_ne (tgt := 13) hF dX7_refuse_6 rfl hf (fun hf => ?_) (fun hf => ?_)
  · refine jr_iload_n hF dX7_refuse_13 1 rfl rfl ?_
    refine jr_sub [0] rfl ?_
    exact jb_X7_refuse_14 h0 hF hE _ _ hf
  · refine jr_iconst (v := 1) hF dX7_refuse_9 rfl ?_
    refine jr_goto (tgt := 14) hF dX7_refuse_10 rfl ?_
    refine jr_sub [0] rfl ?_
    exact jb_X7_refuse_14 h0 hF hE _ _ hf
def f_X7_refuse (σ : lt_S) (o : Nat) (x1 : Int32) (w : lt_W) : Option (Int32 × lt_W) := fb_X7_refuse_0 σ o x1 w
set_option maxRecDepth 100000 in
theorem c_X7_refuse {l : Launch} {D : va_G} {gA : Nat → ClassId} {s0 : State} {σ : lt_S} {o : Nat} (h0 : lt_c σ o = 7) {x1 : Int32} {w : lt_W} {r : Int32 × lt_W} (hf : f_X7_refuse σ o x1 w = some r) : lt_C l D gA s0 yX7_refuse cX7_refuse 2 (some .boolean) (lt_rm 1) [.ref (s0.heap.size + o), .int x1] σ w σ (some (.int r.1)) r.2 := by
  refine lt_enter rfl (Nat.le_of_ble_eq_true rfl) (fun X e1 e2 e3 e4 hF hE => ?_)
  subst e1 e2 e3 e4
  exact jb_X7_refuse_0 h0 hF hE _ _ hf

set_option maxRecDepth 100000 in
def fb_X7_readLetters_0 (σ : lt_S) (o : Nat) : Nat → lt_W → Option lt_W
  | 0, _ => none
  | n + 1, w => if (lt_gi w o 2) ≤ (lt_gi w o 3) then some w else lt_ck (lt_gi w o 3) (lt_len σ (lt_r σ o 0)) (if (lt_gi w (lt_r σ o 0) (lt_gi w o 3).toNatClampNeg) < 97 then some w else lt_ck (lt_gi w o 3) (lt_len σ (lt_r σ o 0)) (if 122 < (lt_gi w (lt_r σ o 0) (lt_gi w o 3).toNatClampNeg) then some w else lt_ck (lt_gi w o 3) (lt_len σ (lt_r σ o 0)) (lt_let (lt_sl w o 6 (((lt_gl w o 6) * 32) + ((((lt_gi w (lt_r σ o 0) (lt_gi w o 3).toNatClampNeg) - 97) + 1).toInt64))) (fun w4 => lt_let (lt_si w4 o 3 ((lt_gi w4 o 3) + 1)) (fun w5 => fb_X7_readLetters_0 σ o n w5)))))
set_option maxHeartbeats 4000000 in
set_option maxRecDepth 100000 in
theorem jb_X7_readLetters_0 {X : lt_X} {σ : lt_S} (hT : lt_Wt σ) {o : Nat} (h0 : lt_c σ o = 7) {r : lt_W} (hF : lt_F X cX7_readLetters RX7 1 (lt_rm 1)) (hE : lt_E X 0 0 σ none none r) (n : Nat) : ∀ (w : lt_W), fb_X7_readLetters_0 σ o n w = some r → lt_J X 0 0 σ w 0 [(0, .ref (lt_z X + o))] [] := by
  induction n with
  | zero => intro w hf; rw [fb_X7_readLetters_0] at hf; cases hf
  | succ n ih =>
    intro w hf
    rw [fb_X7_readLetters_0] at hf
    refine jr_aload_n hF dX7_readLetters_0 0 rfl rfl ?_
    refine jr_getI hF gf_X7_34 h0 dX7_readLetters_1 ?_
    refine jr_aload_n hF dX7_readLetters_4 0 rfl rfl ?_
    refine jr_getI hF gf_X7_31 h0 dX7_readLetters_5 ?_
    refine jr_icmp_ge (tgt := 80) hF dX7_readLetters_8 rfl hf (fun hf => ?_) (fun hf => ?_)
    · obtain rfl := Option.some.inj hf
      exact jr_return hF hE dX7_readLetters_80
    · refine jr_aload_n hF dX7_readLetters_11 0 rfl rfl ?_
      refine jr_getRT (cr := 52) hF gf_X7_9 hT h0 rfl rfl dX7_readLetters_12 (fun th1 => ?_)
      refine jr_aload_n hF dX7_readLetters_15 0 rfl rfl ?_
      refine jr_getI hF gf_X7_34 h0 dX7_readLetters_16 ?_
      refine jr_baloadB hF th1 dX7_readLetters_19 hf (fun hf => ?_)
      refine jr_bipush (v := 97) hF dX7_readLetters_20 rfl ?_
      refine jr_icmp_lt (tgt := 80) hF dX7_readLetters_22 rfl hf (fun hf => ?_) (fun hf => ?_)
      · obtain rfl := Option.some.inj hf
        exact jr_return hF hE dX7_readLetters_80
      · refine jr_aload_n hF dX7_readLetters_25 0 rfl rfl ?_
        refine jr_getRT (cr := 52) hF gf_X7_9 hT h0 rfl rfl dX7_readLetters_26 (fun th2 => ?_)
        refine jr_aload_n hF dX7_readLetters_29 0 rfl rfl ?_
        refine jr_getI hF gf_X7_34 h0 dX7_readLetters_30 ?_
        refine jr_baloadB hF th2 dX7_readLetters_33 hf (fun hf => ?_)
        refine jr_bipush (v := 122) hF dX7_readLetters_34 rfl ?_
        refine jr_icmp_gt (tgt := 80) hF dX7_readLetters_36 rfl hf (fun hf => ?_) (fun hf => ?_)
        · obtain rfl := Option.some.inj hf
          exact jr_return hF hE dX7_readLetters_80
        · refine jr_aload_n hF dX7_readLetters_39 0 rfl rfl ?_
          refine jr_aload_n hF dX7_readLetters_40 0 rfl rfl ?_
          refine jr_getL hF gf_X7_56 h0 dX7_readLetters_41 ?_
          refine jr_ldc2 (v := 32) hF dX7_readLetters_44 kc_X7_75 ?_
          refine jr_lmul hF dX7_readLetters_47 ?_
          refine jr_aload_n hF dX7_readLetters_48 0 rfl rfl ?_
          refine jr_getRT (cr := 52) hF gf_X7_9 hT h0 rfl rfl dX7_readLetters_49 (fun th3 => ?_)
          refine jr_aload_n hF dX7_readLetters_52 0 rfl rfl ?_
          refine jr_getI hF gf_X7_34 h0 dX7_readLetters_53 ?_
          refine jr_baloadB hF th3 dX7_readLetters_56 hf (fun hf => ?_)
          refine jr_bipush (v := 97) hF dX7_readLetters_57 rfl ?_
          refine jr_isub hF dX7_readLetters_59 ?_
          refine jr_iconst (v := 1) hF dX7_readLetters_60 rfl ?_
          refine jr_iadd hF dX7_readLetters_61 ?_
          refine jr_i2l hF dX7_readLetters_62 ?_
          refine jr_ladd hF dX7_readLetters_63 ?_
          refine jr_putL hF pf_X7_56 h0 dX7_readLetters_64 ?_
          refine jr_letW hf (fun w4 hf => ?_)
          refine jr_aload_n hF dX7_readLetters_67 0 rfl rfl ?_
          refine jr_dup hF dX7_readLetters_68 rfl ?_
          refine jr_getI hF gf_X7_34 h0 dX7_readLetters_69 ?_
          refine jr_iconst (v := 1) hF dX7_readLetters_72 rfl ?_
          refine jr_iadd hF dX7_readLetters_73 ?_
          refine jr_putI hF pf_X7_34 h0 dX7_readLetters_74 ?_
          refine jr_letW hf (fun w5 hf => ?_)
          refine jr_goto (tgt := 0) hF dX7_readLetters_77 rfl ?_
          exact ih _ hf
def f_X7_readLetters (σ : lt_S) (o : Nat) (w : lt_W) : Option lt_W := fb_X7_readLetters_0 σ o lt_fu w
set_option maxRecDepth 100000 in
theorem c_X7_readLetters {l : Launch} {D : va_G} {gA : Nat → ClassId} {s0 : State} {σ : lt_S} (hT : lt_Wt σ) {o : Nat} (h0 : lt_c σ o = 7) {w : lt_W} {r : lt_W} (hf : f_X7_readLetters σ o w = some r) : lt_C l D gA s0 yX7_readLetters cX7_readLetters 1 none (lt_rm 1) [.ref (s0.heap.size + o)] σ w σ none r := by
  refine lt_enter rfl (Nat.le_of_ble_eq_true rfl) (fun X e1 e2 e3 e4 hF hE => ?_)
  subst e1 e2 e3 e4
  exact jb_X7_readLetters_0 hT h0 hF hE lt_fu _ hf

set_option maxRecDepth 100000 in
def fb_X7_kindOfWord_7 : Nat → Int64 → Int32 → Int64 → Int32 → Option Int32
  | 0, _, _, _, _ => none
  | n + 1, x0, x2, x3, x5 => if (lt_sn 0) ≤ x5 then some 24 else lt_ck x5 (lt_sm 0) (if (lt_sc 0 x5.toNatClampNeg) = 32 then if (lg_cmp x3 x0) = 0 then some x2 else fb_X7_kindOfWord_7 n x0 (x2 + 1) 0 (x5 + 1) else lt_let ((x3 * 32) + ((((lt_sc 0 x5.toNatClampNeg) - 97) + 1).toInt64)) (fun z1 => fb_X7_kindOfWord_7 n x0 x2 z1 (x5 + 1)))
set_option maxHeartbeats 4000000 in
set_option maxRecDepth 100000 in
theorem jb_X7_kindOfWord_7 {X : lt_X} {σ : lt_S} {r : Int32} {w : lt_W} (hF : lt_F X cX7_kindOfWord RX7 7 (lt_rm 7)) (hE : lt_E X 0 0 σ (some .int) (some (.int r)) w) (n : Nat) : ∀ (x0 : Int64) (x2 : Int32) (x3 : Int64) (x5 : Int32), fb_X7_kindOfWord_7 n x0 x2 x3 x5 = some r → lt_J X 0 0 σ w 7 [(0, .long x0), (2, .int x2), (3, .long x3), (5, .int x5)] [] := by
  induction n with
  | zero => intro x0 x2 x3 x5 hf; rw [fb_X7_kindOfWord_7] at hf; cases hf
  | succ n ih =>
    intro x0 x2 x3 x5 hf
    rw [fb_X7_kindOfWord_7] at hf
    refine jr_iload hF dX7_kindOfWord_7 3 rfl ?_
    refine jr_ldcS0 hF dX7_kindOfWord_9 ?_
    refine jr_slen0 hF ⟨Nat.le_of_ble_eq_true rfl, Nat.le_of_ble_eq_true rfl⟩ (Nat.le_of_ble_eq_true rfl) dX7_kindOfWord_11 ?_
    refine jr_icmp_ge (tgt := 70) hF dX7_kindOfWord_14 rfl hf (fun hf => ?_) (fun hf => ?_)
    · refine jr_bipush (v := 24) hF dX7_kindOfWord_70 rfl ?_
      obtain rfl := Option.some.inj hf
      exact jr_ireturn hF hE dX7_kindOfWord_72
    · refine jr_ldcS0 hF dX7_kindOfWord_17 ?_
      refine jr_iload hF dX7_kindOfWord_19 3 rfl ?_
      refine jr_schar0 hF ⟨Nat.le_of_ble_eq_true rfl, Nat.le_of_ble_eq_true rfl⟩ (Nat.le_of_ble_eq_true rfl) dX7_kindOfWord_21 hf (fun hf => ?_)
      refine jr_istore (lv' := [(0, .long x0), (2, .int x2), (3, .long x3), (5, .int x5), (6, .int (lt_sc 0 x5.toNatClampNeg))]) hF dX7_kindOfWord_24 (by decide) [1, 2, 3, 4, 0] rfl ?_
      refine jr_iload hF dX7_kindOfWord_26 4 rfl ?_
      refine jr_bipush (v := 32) hF dX7_kindOfWord_28 rfl ?_
      refine jr_icmp_eq (tgt := 51) hF dX7_kindOfWord_30 rfl hf (fun hf => ?_) (fun hf => ?_)
      · refine jr_lload_n hF dX7_kindOfWord_51 2 rfl rfl ?_
        refine jr_lload_n hF dX7_kindOfWord_52 0 rfl rfl ?_
        refine jr_lcmp hF dX7_kindOfWord_53 ?_
        refine jr_if_ne (tgt := 59) hF dX7_kindOfWord_54 rfl hf (fun hf => ?_) (fun hf => ?_)
        · refine jr_lconst (v := 0) hF dX7_kindOfWord_59 rfl ?_
          refine jr_lstore_n (lv' := [(0, .long x0), (2, .int x2), (3, .long 0), (5, .int x5)]) hF dX7_kindOfWord_60 rfl (by decide) [1, 2, 0, 3] rfl ?_
          refine jr_iinc (v := x2 + 1) (lv' := [(0, .long x0), (2, .int (x2 + 1)), (3, .long 0), (5, .int x5)]) hF dX7_kindOfWord_61 1 rfl rfl (by decide) [1, 0, 2, 3] rfl ?_
          refine jr_iinc (v := x5 + 1) (lv' := [(0, .long x0), (2, .int (x2 + 1)), (3, .long 0), (5, .int (x5 + 1))]) hF dX7_kindOfWord_64 3 rfl rfl (by decide) [1, 2, 3, 0] rfl ?_
          refine jr_goto (tgt := 7) hF dX7_kindOfWord_67 rfl ?_
          exact ih _ _ _ _ hf
        · refine jr_iload_n hF dX7_kindOfWord_57 1 rfl rfl ?_
          obtain rfl := Option.some.inj hf
          exact jr_ireturn hF hE dX7_kindOfWord_58
      · refine jr_lload_n hF dX7_kindOfWord_33 2 rfl rfl ?_
        refine jr_ldc2 (v := 32) hF dX7_kindOfWord_34 kc_X7_75 ?_
        refine jr_lmul hF dX7_kindOfWord_37 ?_
        refine jr_iload hF dX7_kindOfWord_38 4 rfl ?_
        refine jr_bipush (v := 97) hF dX7_kindOfWord_40 rfl ?_
        refine jr_isub hF dX7_kindOfWord_42 ?_
        refine jr_iconst (v := 1) hF dX7_kindOfWord_43 rfl ?_
        refine jr_iadd hF dX7_kindOfWord_44 ?_
        refine jr_i2l hF dX7_kindOfWord_45 ?_
        refine jr_ladd hF dX7_kindOfWord_46 ?_
        refine jr_letL hf (fun z1 hf => ?_)
        refine jr_lstore_n (lv' := [(0, .long x0), (2, .int x2), (3, .long z1), (5, .int x5)]) hF dX7_kindOfWord_47 rfl (by decide) [1, 2, 0, 3] rfl ?_
        refine jr_goto (tgt := 64) hF dX7_kindOfWord_48 rfl ?_
        refine jr_iinc (v := x5 + 1) (lv' := [(0, .long x0), (2, .int x2), (3, .long z1), (5, .int (x5 + 1))]) hF dX7_kindOfWord_64 3 rfl rfl (by decide) [1, 2, 3, 0] rfl ?_
        refine jr_goto (tgt := 7) hF dX7_kindOfWord_67 rfl ?_
        exact ih _ _ _ _ hf
set_option maxRecDepth 100000 in
def fb_X7_kindOfWord_0 (x0 : Int64) : Option Int32 := fb_X7_kindOfWord_7 lt_fu x0 1 0 0
set_option maxHeartbeats 4000000 in
set_option maxRecDepth 100000 in
theorem jb_X7_kindOfWord_0 {X : lt_X} {σ : lt_S} {r : Int32} {w : lt_W} (hF : lt_F X cX7_kindOfWord RX7 7 (lt_rm 7)) (hE : lt_E X 0 0 σ (some .int) (some (.int r)) w) : ∀ (x0 : Int64), fb_X7_kindOfWord_0 x0 = some r → lt_J X 0 0 σ w 0 [(0, .long x0)] [] := by
  intro x0 hf
  unfold fb_X7_kindOfWord_0 at hf
  refine jr_iconst (v := 1) hF dX7_kindOfWord_0 rfl ?_
  refine jr_istore_n (lv' := [(0, .long x0), (2, .int 1)]) hF dX7_kindOfWord_1 rfl (by decide) [1, 0] rfl ?_
  refine jr_lconst (v := 0) hF dX7_kindOfWord_2 rfl ?_
  refine jr_lstore_n (lv' := [(0, .long x0), (2, .int 1), (3, .long 0)]) hF dX7_kindOfWord_3 rfl (by decide) [1, 2, 0] rfl ?_
  refine jr_iconst (v := 0) hF dX7_kindOfWord_4 rfl ?_
  refine jr_istore (lv' := [(0, .long x0), (2, .int 1), (3, .long 0), (5, .int 0)]) hF dX7_kindOfWord_5 (by decide) [1, 2, 3, 0] rfl ?_
  exact jb_X7_kindOfWord_7 hF hE lt_fu _ _ _ _ hf
def f_X7_kindOfWord (x0 : Int64) : Option Int32 := fb_X7_kindOfWord_0 x0
set_option maxRecDepth 100000 in
theorem c_X7_kindOfWord {l : Launch} {D : va_G} {gA : Nat → ClassId} {s0 : State} {σ : lt_S} {x0 : Int64} {w : lt_W} {r : Int32} (hf : f_X7_kindOfWord x0 = some r) : lt_C l D gA s0 yX7_kindOfWord cX7_kindOfWord 7 (some .int) (lt_rm 7) [.long x0] σ w σ (some (.int r)) w := by
  refine lt_enter rfl (Nat.le_of_ble_eq_true rfl) (fun X e1 e2 e3 e4 hF hE => ?_)
  subst e1 e2 e3 e4
  exact jb_X7_kindOfWord_0 hF hE _ hf

set_option maxRecDepth 100000 in
def fb_X7_readDigits_0 (σ : lt_S) (o : Nat) : Nat → lt_W → Option lt_W
  | 0, _ => none
  | n + 1, w => if (lt_gi w o 2) ≤ (lt_gi w o 3) then some w else lt_ck (lt_gi w o 3) (lt_len σ (lt_r σ o 0)) (if (lt_gi w (lt_r σ o 0) (lt_gi w o 3).toNatClampNeg) < 48 then some w else lt_ck (lt_gi w o 3) (lt_len σ (lt_r σ o 0)) (if 57 < (lt_gi w (lt_r σ o 0) (lt_gi w o 3).toNatClampNeg) then some w else lt_ck (lt_gi w o 3) (lt_len σ (lt_r σ o 0)) (lt_let (lt_si w o 7 (((lt_gi w o 7) * 10) + ((lt_gi w (lt_r σ o 0) (lt_gi w o 3).toNatClampNeg) - 48))) (fun w4 => lt_let (lt_si w4 o 3 ((lt_gi w4 o 3) + 1)) (fun w5 => fb_X7_readDigits_0 σ o n w5)))))
set_option maxHeartbeats 4000000 in
set_option maxRecDepth 100000 in
theorem jb_X7_readDigits_0 {X : lt_X} {σ : lt_S} (hT : lt_Wt σ) {o : Nat} (h0 : lt_c σ o = 7) {r : lt_W} (hF : lt_F X cX7_readDigits RX7 1 (lt_rm 1)) (hE : lt_E X 0 0 σ none none r) (n : Nat) : ∀ (w : lt_W), fb_X7_readDigits_0 σ o n w = some r → lt_J X 0 0 σ w 0 [(0, .ref (lt_z X + o))] [] := by
  induction n with
  | zero => intro w hf; rw [fb_X7_readDigits_0] at hf; cases hf
  | succ n ih =>
    intro w hf
    rw [fb_X7_readDigits_0] at hf
    refine jr_aload_n hF dX7_readDigits_0 0 rfl rfl ?_
    refine jr_getI hF gf_X7_34 h0 dX7_readDigits_1 ?_
    refine jr_aload_n hF dX7_readDigits_4 0 rfl rfl ?_
    refine jr_getI hF gf_X7_31 h0 dX7_readDigits_5 ?_
    refine jr_icmp_ge (tgt := 76) hF dX7_readDigits_8 rfl hf (fun hf => ?_) (fun hf => ?_)
    · obtain rfl := Option.some.inj hf
      exact jr_return hF hE dX7_readDigits_76
    · refine jr_aload_n hF dX7_readDigits_11 0 rfl rfl ?_
      refine jr_getRT (cr := 52) hF gf_X7_9 hT h0 rfl rfl dX7_readDigits_12 (fun th1 => ?_)
      refine jr_aload_n hF dX7_readDigits_15 0 rfl rfl ?_
      refine jr_getI hF gf_X7_34 h0 dX7_readDigits_16 ?_
      refine jr_baloadB hF th1 dX7_readDigits_19 hf (fun hf => ?_)
      refine jr_bipush (v := 48) hF dX7_readDigits_20 rfl ?_
      refine jr_icmp_lt (tgt := 76) hF dX7_readDigits_22 rfl hf (fun hf => ?_) (fun hf => ?_)
      · obtain rfl := Option.some.inj hf
        exact jr_return hF hE dX7_readDigits_76
      · refine jr_aload_n hF dX7_readDigits_25 0 rfl rfl ?_
        refine jr_getRT (cr := 52) hF gf_X7_9 hT h0 rfl rfl dX7_readDigits_26 (fun th2 => ?_)
        refine jr_aload_n hF dX7_readDigits_29 0 rfl rfl ?_
        refine jr_getI hF gf_X7_34 h0 dX7_readDigits_30 ?_
        refine jr_baloadB hF th2 dX7_readDigits_33 hf (fun hf => ?_)
        refine jr_bipush (v := 57) hF dX7_readDigits_34 rfl ?_
        refine jr_icmp_gt (tgt := 76) hF dX7_readDigits_36 rfl hf (fun hf => ?_) (fun hf => ?_)
        · obtain rfl := Option.some.inj hf
          exact jr_return hF hE dX7_readDigits_76
        · refine jr_aload_n hF dX7_readDigits_39 0 rfl rfl ?_
          refine jr_aload_n hF dX7_readDigits_40 0 rfl rfl ?_
          refine jr_getI hF gf_X7_50 h0 dX7_readDigits_41 ?_
          refine jr_bipush (v := 10) hF dX7_readDigits_44 rfl ?_
          refine jr_imul hF dX7_readDigits_46 ?_
          refine jr_aload_n hF dX7_readDigits_47 0 rfl rfl ?_
          refine jr_getRT (cr := 52) hF gf_X7_9 hT h0 rfl rfl dX7_readDigits_48 (fun th3 => ?_)
          refine jr_aload_n hF dX7_readDigits_51 0 rfl rfl ?_
          refine jr_getI hF gf_X7_34 h0 dX7_readDigits_52 ?_
          refine jr_baloadB hF th3 dX7_readDigits_55 hf (fun hf => ?_)
          refine jr_bipush (v := 48) hF dX7_readDigits_56 rfl ?_
          refine jr_isub hF dX7_readDigits_58 ?_
          refine jr_iadd hF dX7_readDigits_59 ?_
          refine jr_putI hF pf_X7_50 h0 dX7_readDigits_60 ?_
          refine jr_letW hf (fun w4 hf => ?_)
          refine jr_aload_n hF dX7_readDigits_63 0 rfl rfl ?_
          refine jr_dup hF dX7_readDigits_64 rfl ?_
          refine jr_getI hF gf_X7_34 h0 dX7_readDigits_65 ?_
          refine jr_iconst (v := 1) hF dX7_readDigits_68 rfl ?_
          refine jr_iadd hF dX7_readDigits_69 ?_
          refine jr_putI hF pf_X7_34 h0 dX7_readDigits_70 ?_
          refine jr_letW hf (fun w5 hf => ?_)
          refine jr_goto (tgt := 0) hF dX7_readDigits_73 rfl ?_
          exact ih _ hf
def f_X7_readDigits (σ : lt_S) (o : Nat) (w : lt_W) : Option lt_W := fb_X7_readDigits_0 σ o lt_fu w
set_option maxRecDepth 100000 in
theorem c_X7_readDigits {l : Launch} {D : va_G} {gA : Nat → ClassId} {s0 : State} {σ : lt_S} (hT : lt_Wt σ) {o : Nat} (h0 : lt_c σ o = 7) {w : lt_W} {r : lt_W} (hf : f_X7_readDigits σ o w = some r) : lt_C l D gA s0 yX7_readDigits cX7_readDigits 1 none (lt_rm 1) [.ref (s0.heap.size + o)] σ w σ none r := by
  refine lt_enter rfl (Nat.le_of_ble_eq_true rfl) (fun X e1 e2 e3 e4 hF hE => ?_)
  subst e1 e2 e3 e4
  exact jb_X7_readDigits_0 hT h0 hF hE lt_fu _ hf

set_option maxRecDepth 100000 in
def fb_X7_advance_39 (σ : lt_S) (o : Nat) (k0 : lt_W → Option lt_W) (w : lt_W) : Option lt_W := lt_let (lt_si w o 3 ((lt_gi w o 3) + 1)) (fun w1 => k0 w1)
set_option maxHeartbeats 4000000 in
set_option maxRecDepth 100000 in
theorem jb_X7_advance_39 {X : lt_X} {σ : lt_S} (hT : lt_Wt σ) {o : Nat} (h0 : lt_c σ o = 7) {r : lt_W} {k0 : lt_W → Option lt_W} (hF : lt_F X cX7_advance RX7 2 (lt_rm 8)) (hE : lt_E X 0 0 σ none none r) (hk0 : ∀ (w : lt_W), k0  w = some r → lt_J X 0 0 σ w 0 [(0, .ref (lt_z X + o))] []) : ∀ (w : lt_W), fb_X7_advance_39 σ o k0 w = some r → lt_J X 0 0 σ w 39 [(0, .ref (lt_z X + o))] [] := by
  intro w hf
  unfold fb_X7_advance_39 at hf
  refine jr_aload_n hF dX7_advance_39 0 rfl rfl ?_
  refine jr_dup hF dX7_advance_40 rfl ?_
  refine jr_getI hF gf_X7_34 h0 dX7_advance_41 ?_
  refine jr_iconst (v := 1) hF dX7_advance_44 rfl ?_
  refine jr_iadd hF dX7_advance_45 ?_
  refine jr_putI hF pf_X7_34 h0 dX7_advance_46 ?_
  refine jr_letW hf (fun w1 hf => ?_)
  refine jr_goto (tgt := 0) hF dX7_advance_49 rfl ?_
  exact hk0 _ hf
set_option maxRecDepth 100000 in
def fb_X7_advance_140 (σ : lt_S) (o : Nat) (y1 : Int32) (w : lt_W) : Option lt_W := lt_let (lt_si w o 5 y1) (fun w1 => some w1)
set_option maxHeartbeats 4000000 in
set_option maxRecDepth 100000 in
theorem jb_X7_advance_140 {X : lt_X} {σ : lt_S} (hT : lt_Wt σ) {o : Nat} (h0 : lt_c σ o = 7) {r : lt_W} (hF : lt_F X cX7_advance RX7 2 (lt_rm 8)) (hE : lt_E X 0 0 σ none none r) : ∀ (y1 : Int32) (w : lt_W), fb_X7_advance_140 σ o y1 w = some r → lt_J X 0 0 σ w 140 [(0, .ref (lt_z X + o))] [.int y1, .ref (lt_z X + o)] := by
  intro y1 w hf
  unfold fb_X7_advance_140 at hf
  refine jr_putI hF pf_X7_40 h0 dX7_advance_140 ?_
  refine jr_letW hf (fun w1 hf => ?_)
  refine jr_goto (tgt := 235) hF dX7_advance_143 rfl ?_
  obtain rfl := Option.some.inj hf
  exact jr_return hF hE dX7_advance_235
set_option maxRecDepth 100000 in
def fb_X7_advance_182 (σ : lt_S) (o : Nat) (y1 : Int32) (w : lt_W) : Option lt_W := lt_let (lt_si w o 5 y1) (fun w1 => some w1)
set_option maxHeartbeats 4000000 in
set_option maxRecDepth 100000 in
theorem jb_X7_advance_182 {X : lt_X} {σ : lt_S} (hT : lt_Wt σ) {o : Nat} (h0 : lt_c σ o = 7) {r : lt_W} (hF : lt_F X cX7_advance RX7 2 (lt_rm 8)) (hE : lt_E X 0 0 σ none none r) : ∀ (y1 : Int32) (w : lt_W), fb_X7_advance_182 σ o y1 w = some r → lt_J X 0 0 σ w 182 [(0, .ref (lt_z X + o))] [.int y1, .ref (lt_z X + o)] := by
  intro y1 w hf
  unfold fb_X7_advance_182 at hf
  refine jr_putI hF pf_X7_40 h0 dX7_advance_182 ?_
  refine jr_letW hf (fun w1 hf => ?_)
  refine jr_goto (tgt := 235) hF dX7_advance_185 rfl ?_
  obtain rfl := Option.some.inj hf
  exact jr_return hF hE dX7_advance_235
set_option maxRecDepth 100000 in
def fb_X7_advance_212 (σ : lt_S) (o : Nat) (x1 : Int32) (w : lt_W) : Option lt_W := lt_let (lt_si w o 5 x1) (fun w1 => lt_let (lt_si w1 o 3 ((lt_gi w1 o 3) + 1)) (fun w2 => some w2))
set_option maxHeartbeats 4000000 in
set_option maxRecDepth 100000 in
theorem jb_X7_advance_212 {X : lt_X} {σ : lt_S} (hT : lt_Wt σ) {o : Nat} (h0 : lt_c σ o = 7) {r : lt_W} (hF : lt_F X cX7_advance RX7 2 (lt_rm 8)) (hE : lt_E X 0 0 σ none none r) : ∀ (x1 : Int32) (w : lt_W), fb_X7_advance_212 σ o x1 w = some r → lt_J X 0 0 σ w 212 [(0, .ref (lt_z X + o)), (1, .int x1)] [] := by
  intro x1 w hf
  unfold fb_X7_advance_212 at hf
  refine jr_aload_n hF dX7_advance_212 0 rfl rfl ?_
  refine jr_iload_n hF dX7_advance_213 1 rfl rfl ?_
  refine jr_putI hF pf_X7_40 h0 dX7_advance_214 ?_
  refine jr_letW hf (fun w1 hf => ?_)
  refine jr_aload_n hF dX7_advance_217 0 rfl rfl ?_
  refine jr_dup hF dX7_advance_218 rfl ?_
  refine jr_getI hF gf_X7_34 h0 dX7_advance_219 ?_
  refine jr_iconst (v := 1) hF dX7_advance_222 rfl ?_
  refine jr_iadd hF dX7_advance_223 ?_
  refine jr_putI hF pf_X7_34 h0 dX7_advance_224 ?_
  refine jr_letW hf (fun w2 hf => ?_)
  refine jr_goto (tgt := 235) hF dX7_advance_227 rfl ?_
  obtain rfl := Option.some.inj hf
  exact jr_return hF hE dX7_advance_235
set_option maxRecDepth 100000 in
def fb_X7_advance_188 (σ : lt_S) (o : Nat) (x1 : Int32) (w : lt_W) : Option lt_W := if x1 = 59 then fb_X7_advance_212 σ o x1 w else if x1 = 60 then fb_X7_advance_212 σ o x1 w else if x1 = 62 then fb_X7_advance_212 σ o x1 w else if x1 = 61 then fb_X7_advance_212 σ o x1 w else lt_let (lt_si w o 5 (-1)) (fun w1 => some w1)
set_option maxHeartbeats 4000000 in
set_option maxRecDepth 100000 in
theorem jb_X7_advance_188 {X : lt_X} {σ : lt_S} (hT : lt_Wt σ) {o : Nat} (h0 : lt_c σ o = 7) {r : lt_W} (hF : lt_F X cX7_advance RX7 2 (lt_rm 8)) (hE : lt_E X 0 0 σ none none r) : ∀ (x1 : Int32) (w : lt_W), fb_X7_advance_188 σ o x1 w = some r → lt_J X 0 0 σ w 188 [(0, .ref (lt_z X + o)), (1, .int x1)] [] := by
  intro x1 w hf
  unfold fb_X7_advance_188 at hf
  refine jr_iload_n hF dX7_advance_188 1 rfl rfl ?_
  refine jr_bipush (v := 59) hF dX7_advance_189 rfl ?_
  refine jr_icmp_eq (tgt := 212) hF dX7_advance_191 rfl hf (fun hf => ?_) (fun hf => ?_)
  · exact jb_X7_advance_212 hT h0 hF hE _ _ hf
  · refine jr_iload_n hF dX7_advance_194 1 rfl rfl ?_
    refine jr_bipush (v := 60) hF dX7_advance_195 rfl ?_
    refine jr_icmp_eq (tgt := 212) hF dX7_advance_197 rfl hf (fun hf => ?_) (fun hf => ?_)
    · exact jb_X7_advance_212 hT h0 hF hE _ _ hf
    · refine jr_iload_n hF dX7_advance_200 1 rfl rfl ?_
      refine jr_bipush (v := 62) hF dX7_advance_201 rfl ?_
      refine jr_icmp_eq (tgt := 212) hF dX7_advance_203 rfl hf (fun hf => ?_) (fun hf => ?_)
      · exact jb_X7_advance_212 hT h0 hF hE _ _ hf
      · refine jr_iload_n hF dX7_advance_206 1 rfl rfl ?_
        refine jr_bipush (v := 61) hF dX7_advance_207 rfl ?_
        refine jr_icmp_ne (tgt := 230) hF dX7_advance_209 rfl hf (fun hf => ?_) (fun hf => ?_)
        · refine jr_aload_n hF dX7_advance_230 0 rfl rfl ?_
          refine jr_iconst (v := (-1)) hF dX7_advance_231 rfl ?_
          refine jr_putI hF pf_X7_40 h0 dX7_advance_232 ?_
          refine jr_letW hf (fun w1 hf => ?_)
          obtain rfl := Option.some.inj hf
          exact jr_return hF hE dX7_advance_235
        · exact jb_X7_advance_212 hT h0 hF hE _ _ hf
set_option maxRecDepth 100000 in
def fb_X7_advance_146 (σ : lt_S) (o : Nat) (x1 : Int32) (w : lt_W) : Option lt_W := if x1 < 48 then fb_X7_advance_188 σ o x1 w else if 57 < x1 then fb_X7_advance_188 σ o x1 w else Option.bind (f_X7_readDigits σ o w) (fun q1 => if ((lt_gi q1 o 3) - (lt_gi q1 o 4)) ≤ 4 then fb_X7_advance_182 σ o 26 q1 else fb_X7_advance_182 σ o (-1) q1)
set_option maxHeartbeats 4000000 in
set_option maxRecDepth 100000 in
theorem jb_X7_advance_146 {X : lt_X} {σ : lt_S} (hT : lt_Wt σ) {o : Nat} (h0 : lt_c σ o = 7) {r : lt_W} (hF : lt_F X cX7_advance RX7 2 (lt_rm 8)) (hE : lt_E X 0 0 σ none none r) : ∀ (x1 : Int32) (w : lt_W), fb_X7_advance_146 σ o x1 w = some r → lt_J X 0 0 σ w 146 [(0, .ref (lt_z X + o)), (1, .int x1)] [] := by
  intro x1 w hf
  unfold fb_X7_advance_146 at hf
  refine jr_iload_n hF dX7_advance_146 1 rfl rfl ?_
  refine jr_bipush (v := 48) hF dX7_advance_147 rfl ?_
  refine jr_icmp_lt (tgt := 188) hF dX7_advance_149 rfl hf (fun hf => ?_) (fun hf => ?_)
  · exact jb_X7_advance_188 hT h0 hF hE _ _ hf
  · refine jr_iload_n hF dX7_advance_152 1 rfl rfl ?_
    refine jr_bipush (v := 57) hF dX7_advance_153 rfl ?_
    refine jr_icmp_gt (tgt := 188) hF dX7_advance_155 rfl hf (fun hf => ?_) (fun hf => ?_)
    · exact jb_X7_advance_188 hT h0 hF hE _ _ hf
    · refine jr_aload_n hF dX7_advance_158 0 rfl rfl ?_
      obtain ⟨q1, hq1, hf⟩ := Option.bind_eq_some_iff.mp hf
      refine jr_cV0v hF ml_X7_72 (c_X7_readDigits hT h0 hq1) h0 ⟨Nat.le_of_ble_eq_true rfl, Nat.le_of_ble_eq_true rfl⟩ (Nat.le_of_ble_eq_true rfl) dX7_advance_159 ?_
      refine jr_aload_n hF dX7_advance_162 0 rfl rfl ?_
      refine jr_aload_n hF dX7_advance_163 0 rfl rfl ?_
      refine jr_getI hF gf_X7_34 h0 dX7_advance_164 ?_
      refine jr_aload_n hF dX7_advance_167 0 rfl rfl ?_
      refine jr_getI hF gf_X7_43 h0 dX7_advance_168 ?_
      refine jr_isub hF dX7_advance_171 ?_
      refine jr_iconst (v := 4) hF dX7_advance_172 rfl ?_
      refine jr_icmp_le (tgt := 180) hF dX7_advance_173 rfl hf (fun hf => ?_) (fun hf => ?_)
      · refine jr_bipush (v := 26) hF dX7_advance_180 rfl ?_
        refine jr_sub [0] rfl ?_
        exact jb_X7_advance_182 hT h0 hF hE _ _ hf
      · refine jr_iconst (v := (-1)) hF dX7_advance_176 rfl ?_
        refine jr_goto (tgt := 182) hF dX7_advance_177 rfl ?_
        refine jr_sub [0] rfl ?_
        exact jb_X7_advance_182 hT h0 hF hE _ _ hf
set_option maxRecDepth 100000 in
def fb_X7_advance_52 (σ : lt_S) (o : Nat) (w : lt_W) : Option lt_W := lt_let (lt_si w o 4 (lt_gi w o 3)) (fun w1 => lt_let (lt_sl w1 o 6 0) (fun w2 => lt_let (lt_si w2 o 7 0) (fun w3 => if (lt_gi w3 o 3) < (lt_gi w3 o 2) then lt_ck (lt_gi w3 o 3) (lt_len σ (lt_r σ o 0)) (lt_let (lt_gi w3 (lt_r σ o 0) (lt_gi w3 o 3).toNatClampNeg) (fun z5 => if z5 < 97 then fb_X7_advance_146 σ o z5 w3 else if 122 < z5 then fb_X7_advance_146 σ o z5 w3 else Option.bind (f_X7_readLetters σ o w3) (fun q6 => if ((lt_gi q6 o 3) - (lt_gi q6 o 4)) ≤ 8 then Option.bind (f_X7_kindOfWord (lt_gl q6 o 6)) (fun q7 => fb_X7_advance_140 σ o q7 q6) else fb_X7_advance_140 σ o 25 q6))) else lt_let (lt_si w3 o 5 0) (fun w8 => some w8))))
set_option maxHeartbeats 4000000 in
set_option maxRecDepth 100000 in
theorem jb_X7_advance_52 {X : lt_X} {σ : lt_S} (hT : lt_Wt σ) {o : Nat} (h0 : lt_c σ o = 7) {r : lt_W} (hF : lt_F X cX7_advance RX7 2 (lt_rm 8)) (hE : lt_E X 0 0 σ none none r) : ∀ (w : lt_W), fb_X7_advance_52 σ o w = some r → lt_J X 0 0 σ w 52 [(0, .ref (lt_z X + o))] [] := by
  intro w hf
  unfold fb_X7_advance_52 at hf
  refine jr_aload_n hF dX7_advance_52 0 rfl rfl ?_
  refine jr_aload_n hF dX7_advance_53 0 rfl rfl ?_
  refine jr_getI hF gf_X7_34 h0 dX7_advance_54 ?_
  refine jr_putI hF pf_X7_43 h0 dX7_advance_57 ?_
  refine jr_letW hf (fun w1 hf => ?_)
  refine jr_aload_n hF dX7_advance_60 0 rfl rfl ?_
  refine jr_lconst (v := 0) hF dX7_advance_61 rfl ?_
  refine jr_putL hF pf_X7_56 h0 dX7_advance_62 ?_
  refine jr_letW hf (fun w2 hf => ?_)
  refine jr_aload_n hF dX7_advance_65 0 rfl rfl ?_
  refine jr_iconst (v := 0) hF dX7_advance_66 rfl ?_
  refine jr_putI hF pf_X7_50 h0 dX7_advance_67 ?_
  refine jr_letW hf (fun w3 hf => ?_)
  refine jr_aload_n hF dX7_advance_70 0 rfl rfl ?_
  refine jr_getI hF gf_X7_34 h0 dX7_advance_71 ?_
  refine jr_aload_n hF dX7_advance_74 0 rfl rfl ?_
  refine jr_getI hF gf_X7_31 h0 dX7_advance_75 ?_
  refine jr_icmp_lt (tgt := 87) hF dX7_advance_78 rfl hf (fun hf => ?_) (fun hf => ?_)
  · refine jr_aload_n hF dX7_advance_87 0 rfl rfl ?_
    refine jr_getRT (cr := 52) hF gf_X7_9 hT h0 rfl rfl dX7_advance_88 (fun th4 => ?_)
    refine jr_aload_n hF dX7_advance_91 0 rfl rfl ?_
    refine jr_getI hF gf_X7_34 h0 dX7_advance_92 ?_
    refine jr_baloadB hF th4 dX7_advance_95 hf (fun hf => ?_)
    refine jr_letI hf (fun z5 hf => ?_)
    refine jr_istore_n (lv' := [(0, .ref (lt_z X + o)), (1, .int z5)]) hF dX7_advance_96 rfl (by decide) [1, 0] rfl ?_
    refine jr_iload_n hF dX7_advance_97 1 rfl rfl ?_
    refine jr_bipush (v := 97) hF dX7_advance_98 rfl ?_
    refine jr_icmp_lt (tgt := 146) hF dX7_advance_100 rfl hf (fun hf => ?_) (fun hf => ?_)
    · exact jb_X7_advance_146 hT h0 hF hE _ _ hf
    · refine jr_iload_n hF dX7_advance_103 1 rfl rfl ?_
      refine jr_bipush (v := 122) hF dX7_advance_104 rfl ?_
      refine jr_icmp_gt (tgt := 146) hF dX7_advance_106 rfl hf (fun hf => ?_) (fun hf => ?_)
      · exact jb_X7_advance_146 hT h0 hF hE _ _ hf
      · refine jr_aload_n hF dX7_advance_109 0 rfl rfl ?_
        obtain ⟨q6, hq6, hf⟩ := Option.bind_eq_some_iff.mp hf
        refine jr_cV0v hF ml_X7_66 (c_X7_readLetters hT h0 hq6) h0 ⟨Nat.le_of_ble_eq_true rfl, Nat.le_of_ble_eq_true rfl⟩ (Nat.le_of_ble_eq_true rfl) dX7_advance_110 ?_
        refine jr_aload_n hF dX7_advance_113 0 rfl rfl ?_
        refine jr_aload_n hF dX7_advance_114 0 rfl rfl ?_
        refine jr_getI hF gf_X7_34 h0 dX7_advance_115 ?_
        refine jr_aload_n hF dX7_advance_118 0 rfl rfl ?_
        refine jr_getI hF gf_X7_43 h0 dX7_advance_119 ?_
        refine jr_isub hF dX7_advance_122 ?_
        refine jr_bipush (v := 8) hF dX7_advance_123 rfl ?_
        refine jr_icmp_le (tgt := 133) hF dX7_advance_125 rfl hf (fun hf => ?_) (fun hf => ?_)
        · refine jr_aload_n hF dX7_advance_133 0 rfl rfl ?_
          refine jr_getL hF gf_X7_56 h0 dX7_advance_134 ?_
          obtain ⟨q7, hq7, hf⟩ := Option.bind_eq_some_iff.mp hf
          refine jr_cS11 hF ml_X7_69 (c_X7_kindOfWord hq7) ⟨Nat.le_of_ble_eq_true rfl, Nat.le_of_ble_eq_true rfl⟩ (Nat.le_of_ble_eq_true rfl) dX7_advance_137 ?_
          refine jr_sub [0] rfl ?_
          exact jb_X7_advance_140 hT h0 hF hE _ _ hf
        · refine jr_bipush (v := 25) hF dX7_advance_128 rfl ?_
          refine jr_goto (tgt := 140) hF dX7_advance_130 rfl ?_
          refine jr_sub [0] rfl ?_
          exact jb_X7_advance_140 hT h0 hF hE _ _ hf
  · refine jr_aload_n hF dX7_advance_81 0 rfl rfl ?_
    refine jr_iconst (v := 0) hF dX7_advance_82 rfl ?_
    refine jr_putI hF pf_X7_40 h0 dX7_advance_83 ?_
    refine jr_letW hf (fun w8 hf => ?_)
    obtain rfl := Option.some.inj hf
    exact jr_return hF hE dX7_advance_86
set_option maxRecDepth 100000 in
def fb_X7_advance_0 (σ : lt_S) (o : Nat) : Nat → lt_W → Option lt_W
  | 0, _ => none
  | n + 1, w => if (lt_gi w o 2) ≤ (lt_gi w o 3) then fb_X7_advance_52 σ o w else lt_ck (lt_gi w o 3) (lt_len σ (lt_r σ o 0)) (if (lt_gi w (lt_r σ o 0) (lt_gi w o 3).toNatClampNeg) = 10 then fb_X7_advance_39 σ o (fun  w => fb_X7_advance_0 σ o n  w) w else lt_ck (lt_gi w o 3) (lt_len σ (lt_r σ o 0)) (if (lt_gi w (lt_r σ o 0) (lt_gi w o 3).toNatClampNeg) = 32 then fb_X7_advance_39 σ o (fun  w => fb_X7_advance_0 σ o n  w) w else fb_X7_advance_52 σ o w))
set_option maxHeartbeats 4000000 in
set_option maxRecDepth 100000 in
theorem jb_X7_advance_0 {X : lt_X} {σ : lt_S} (hT : lt_Wt σ) {o : Nat} (h0 : lt_c σ o = 7) {r : lt_W} (hF : lt_F X cX7_advance RX7 2 (lt_rm 8)) (hE : lt_E X 0 0 σ none none r) (n : Nat) : ∀ (w : lt_W), fb_X7_advance_0 σ o n w = some r → lt_J X 0 0 σ w 0 [(0, .ref (lt_z X + o))] [] := by
  induction n with
  | zero => intro w hf; rw [fb_X7_advance_0] at hf; cases hf
  | succ n ih =>
    intro w hf
    rw [fb_X7_advance_0] at hf
    refine jr_aload_n hF dX7_advance_0 0 rfl rfl ?_
    refine jr_getI hF gf_X7_34 h0 dX7_advance_1 ?_
    refine jr_aload_n hF dX7_advance_4 0 rfl rfl ?_
    refine jr_getI hF gf_X7_31 h0 dX7_advance_5 ?_
    refine jr_icmp_ge (tgt := 52) hF dX7_advance_8 rfl hf (fun hf => ?_) (fun hf => ?_)
    · exact jb_X7_advance_52 hT h0 hF hE _ hf
    · refine jr_aload_n hF dX7_advance_11 0 rfl rfl ?_
      refine jr_getRT (cr := 52) hF gf_X7_9 hT h0 rfl rfl dX7_advance_12 (fun th1 => ?_)
      refine jr_aload_n hF dX7_advance_15 0 rfl rfl ?_
      refine jr_getI hF gf_X7_34 h0 dX7_advance_16 ?_
      refine jr_baloadB hF th1 dX7_advance_19 hf (fun hf => ?_)
      refine jr_bipush (v := 10) hF dX7_advance_20 rfl ?_
      refine jr_icmp_eq (tgt := 39) hF dX7_advance_22 rfl hf (fun hf => ?_) (fun hf => ?_)
      · exact jb_X7_advance_39 hT h0 hF hE ih _ hf
      · refine jr_aload_n hF dX7_advance_25 0 rfl rfl ?_
        refine jr_getRT (cr := 52) hF gf_X7_9 hT h0 rfl rfl dX7_advance_26 (fun th2 => ?_)
        refine jr_aload_n hF dX7_advance_29 0 rfl rfl ?_
        refine jr_getI hF gf_X7_34 h0 dX7_advance_30 ?_
        refine jr_baloadB hF th2 dX7_advance_33 hf (fun hf => ?_)
        refine jr_bipush (v := 32) hF dX7_advance_34 rfl ?_
        refine jr_icmp_ne (tgt := 52) hF dX7_advance_36 rfl hf (fun hf => ?_) (fun hf => ?_)
        · exact jb_X7_advance_52 hT h0 hF hE _ hf
        · exact jb_X7_advance_39 hT h0 hF hE ih _ hf
def f_X7_advance (σ : lt_S) (o : Nat) (w : lt_W) : Option lt_W := fb_X7_advance_0 σ o lt_fu w
set_option maxRecDepth 100000 in
theorem c_X7_advance {l : Launch} {D : va_G} {gA : Nat → ClassId} {s0 : State} {σ : lt_S} (hT : lt_Wt σ) {o : Nat} (h0 : lt_c σ o = 7) {w : lt_W} {r : lt_W} (hf : f_X7_advance σ o w = some r) : lt_C l D gA s0 yX7_advance cX7_advance 2 none (lt_rm 8) [.ref (s0.heap.size + o)] σ w σ none r := by
  refine lt_enter rfl (Nat.le_of_ble_eq_true rfl) (fun X e1 e2 e3 e4 hF hE => ?_)
  subst e1 e2 e3 e4
  exact jb_X7_advance_0 hT h0 hF hE lt_fu _ hf

set_option maxRecDepth 100000 in
def fb_X7_take_0 (σ : lt_S) (o : Nat) (x1 : Int32) (w : lt_W) : Option (Int32 × lt_W) := if (lt_gi w o 5) = x1 then Option.bind (f_X7_advance σ o w) (fun q1 => some (1, q1)) else Option.bind (f_X7_refuse σ o 2 w) (fun q2 => lt_bz q2.1 (some (q2.1, q2.2)))
set_option maxHeartbeats 4000000 in
set_option maxRecDepth 100000 in
theorem jb_X7_take_0 {X : lt_X} {σ : lt_S} (hT : lt_Wt σ) {o : Nat} (h0 : lt_c σ o = 7) {r : Int32 × lt_W} (hF : lt_F X cX7_take RX7 2 (lt_rm 9)) (hE : lt_E X 0 0 σ (some .boolean) (some (.int r.1)) r.2) : ∀ (x1 : Int32) (w : lt_W), fb_X7_take_0 σ o x1 w = some r → lt_J X 0 0 σ w 0 [(0, .ref (lt_z X + o)), (1, .int x1)] [] := by
  intro x1 w hf
  unfold fb_X7_take_0 at hf
  refine jr_aload_n hF dX7_take_0 0 rfl rfl ?_
  refine jr_getI hF gf_X7_40 h0 dX7_take_1 ?_
  refine jr_iload_n hF dX7_take_4 1 rfl rfl ?_
  refine jr_icmp_eq (tgt := 14) hF dX7_take_5 rfl hf (fun hf => ?_) (fun hf => ?_)
  · refine jr_aload_n hF dX7_take_14 0 rfl rfl ?_
    obtain ⟨q1, hq1, hf⟩ := Option.bind_eq_some_iff.mp hf
    refine jr_cV0v hF ml_X7_37 (c_X7_advance hT h0 hq1) h0 ⟨Nat.le_of_ble_eq_true rfl, Nat.le_of_ble_eq_true rfl⟩ (Nat.le_of_ble_eq_true rfl) dX7_take_15 ?_
    refine jr_iconst (v := 1) hF dX7_take_18 rfl ?_
    obtain rfl := Option.some.inj hf
    exact jr_zreturn hF hE (Or.inr rfl) dX7_take_19
  · refine jr_aload_n hF dX7_take_8 0 rfl rfl ?_
    refine jr_iconst (v := 2) hF dX7_take_9 rfl ?_
    obtain ⟨q2, hq2, hf⟩ := Option.bind_eq_some_iff.mp hf
    refine jr_cV11 hF ml_X7_46 (c_X7_refuse h0 hq2) h0 ⟨Nat.le_of_ble_eq_true rfl, Nat.le_of_ble_eq_true rfl⟩ (Nat.le_of_ble_eq_true rfl) dX7_take_10 ?_
    obtain ⟨b3, hf⟩ := lt_bzE hf
    obtain rfl := Option.some.inj hf
    exact jr_zreturn hF hE b3 dX7_take_13
def f_X7_take (σ : lt_S) (o : Nat) (x1 : Int32) (w : lt_W) : Option (Int32 × lt_W) := fb_X7_take_0 σ o x1 w
set_option maxRecDepth 100000 in
theorem c_X7_take {l : Launch} {D : va_G} {gA : Nat → ClassId} {s0 : State} {σ : lt_S} (hT : lt_Wt σ) {o : Nat} (h0 : lt_c σ o = 7) {x1 : Int32} {w : lt_W} {r : Int32 × lt_W} (hf : f_X7_take σ o x1 w = some r) : lt_C l D gA s0 yX7_take cX7_take 2 (some .boolean) (lt_rm 9) [.ref (s0.heap.size + o), .int x1] σ w σ (some (.int r.1)) r.2 := by
  refine lt_enter rfl (Nat.le_of_ble_eq_true rfl) (fun X e1 e2 e3 e4 hF hE => ?_)
  subst e1 e2 e3 e4
  exact jb_X7_take_0 hT h0 hF hE _ _ hf

set_option maxRecDepth 100000 in
def fb_X7_takeNumber_31 (σ : lt_S) (o : Nat) (w : lt_W) : Option (Int32 × lt_W) := Option.bind (f_X7_refuse σ o 4 w) (fun q1 => lt_bz q1.1 (some (q1.1, q1.2)))
set_option maxHeartbeats 4000000 in
set_option maxRecDepth 100000 in
theorem jb_X7_takeNumber_31 {X : lt_X} {σ : lt_S} (hT : lt_Wt σ) {o : Nat} (h0 : lt_c σ o = 7) {r : Int32 × lt_W} (hF : lt_F X cX7_takeNumber RX7 3 (lt_rm 9)) (hE : lt_E X 0 0 σ (some .boolean) (some (.int r.1)) r.2) : ∀ (w : lt_W), fb_X7_takeNumber_31 σ o w = some r → lt_J X 0 0 σ w 31 [(0, .ref (lt_z X + o))] [] := by
  intro w hf
  unfold fb_X7_takeNumber_31 at hf
  refine jr_aload_n hF dX7_takeNumber_31 0 rfl rfl ?_
  refine jr_iconst (v := 4) hF dX7_takeNumber_32 rfl ?_
  obtain ⟨q1, hq1, hf⟩ := Option.bind_eq_some_iff.mp hf
  refine jr_cV11 hF ml_X7_46 (c_X7_refuse h0 hq1) h0 ⟨Nat.le_of_ble_eq_true rfl, Nat.le_of_ble_eq_true rfl⟩ (Nat.le_of_ble_eq_true rfl) dX7_takeNumber_33 ?_
  obtain ⟨b2, hf⟩ := lt_bzE hf
  obtain rfl := Option.some.inj hf
  exact jr_zreturn hF hE b2 dX7_takeNumber_36
set_option maxRecDepth 100000 in
def fb_X7_takeNumber_0 (σ : lt_S) (o : Nat) (x1 : Int32) (x2 : Int32) (w : lt_W) : Option (Int32 × lt_W) := if (lt_gi w o 5) = 26 then if (lt_gi w o 7) < x1 then fb_X7_takeNumber_31 σ o w else if (lt_gi w o 7) ≤ x2 then lt_let (lt_si w o 8 (lt_gi w o 7)) (fun w1 => Option.bind (f_X7_advance σ o w1) (fun q2 => some (1, q2))) else fb_X7_takeNumber_31 σ o w else Option.bind (f_X7_refuse σ o 2 w) (fun q3 => lt_bz q3.1 (some (q3.1, q3.2)))
set_option maxHeartbeats 4000000 in
set_option maxRecDepth 100000 in
theorem jb_X7_takeNumber_0 {X : lt_X} {σ : lt_S} (hT : lt_Wt σ) {o : Nat} (h0 : lt_c σ o = 7) {r : Int32 × lt_W} (hF : lt_F X cX7_takeNumber RX7 3 (lt_rm 9)) (hE : lt_E X 0 0 σ (some .boolean) (some (.int r.1)) r.2) : ∀ (x1 : Int32) (x2 : Int32) (w : lt_W), fb_X7_takeNumber_0 σ o x1 x2 w = some r → lt_J X 0 0 σ w 0 [(0, .ref (lt_z X + o)), (1, .int x1), (2, .int x2)] [] := by
  intro x1 x2 w hf
  unfold fb_X7_takeNumber_0 at hf
  refine jr_aload_n hF dX7_takeNumber_0 0 rfl rfl ?_
  refine jr_getI hF gf_X7_40 h0 dX7_takeNumber_1 ?_
  refine jr_bipush (v := 26) hF dX7_takeNumber_4 rfl ?_
  refine jr_icmp_eq (tgt := 15) hF dX7_takeNumber_6 rfl hf (fun hf => ?_) (fun hf => ?_)
  · refine jr_aload_n hF dX7_takeNumber_15 0 rfl rfl ?_
    refine jr_getI hF gf_X7_50 h0 dX7_takeNumber_16 ?_
    refine jr_iload_n hF dX7_takeNumber_19 1 rfl rfl ?_
    refine jr_icmp_lt (tgt := 31) hF dX7_takeNumber_20 rfl hf (fun hf => ?_) (fun hf => ?_)
    · refine jr_sub [0] rfl ?_
      exact jb_X7_takeNumber_31 hT h0 hF hE _ hf
    · refine jr_aload_n hF dX7_takeNumber_23 0 rfl rfl ?_
      refine jr_getI hF gf_X7_50 h0 dX7_takeNumber_24 ?_
      refine jr_iload_n hF dX7_takeNumber_27 2 rfl rfl ?_
      refine jr_icmp_le (tgt := 37) hF dX7_takeNumber_28 rfl hf (fun hf => ?_) (fun hf => ?_)
      · refine jr_aload_n hF dX7_takeNumber_37 0 rfl rfl ?_
        refine jr_aload_n hF dX7_takeNumber_38 0 rfl rfl ?_
        refine jr_getI hF gf_X7_50 h0 dX7_takeNumber_39 ?_
        refine jr_putI hF pf_X7_53 h0 dX7_takeNumber_42 ?_
        refine jr_letW hf (fun w1 hf => ?_)
        refine jr_aload_n hF dX7_takeNumber_45 0 rfl rfl ?_
        obtain ⟨q2, hq2, hf⟩ := Option.bind_eq_some_iff.mp hf
        refine jr_cV0v hF ml_X7_37 (c_X7_advance hT h0 hq2) h0 ⟨Nat.le_of_ble_eq_true rfl, Nat.le_of_ble_eq_true rfl⟩ (Nat.le_of_ble_eq_true rfl) dX7_takeNumber_46 ?_
        refine jr_iconst (v := 1) hF dX7_takeNumber_49 rfl ?_
        obtain rfl := Option.some.inj hf
        exact jr_zreturn hF hE (Or.inr rfl) dX7_takeNumber_50
      · refine jr_sub [0] rfl ?_
        exact jb_X7_takeNumber_31 hT h0 hF hE _ hf
  · refine jr_aload_n hF dX7_takeNumber_9 0 rfl rfl ?_
    refine jr_iconst (v := 2) hF dX7_takeNumber_10 rfl ?_
    obtain ⟨q3, hq3, hf⟩ := Option.bind_eq_some_iff.mp hf
    refine jr_cV11 hF ml_X7_46 (c_X7_refuse h0 hq3) h0 ⟨Nat.le_of_ble_eq_true rfl, Nat.le_of_ble_eq_true rfl⟩ (Nat.le_of_ble_eq_true rfl) dX7_takeNumber_11 ?_
    obtain ⟨b4, hf⟩ := lt_bzE hf
    obtain rfl := Option.some.inj hf
    exact jr_zreturn hF hE b4 dX7_takeNumber_14
def f_X7_takeNumber (σ : lt_S) (o : Nat) (x1 : Int32) (x2 : Int32) (w : lt_W) : Option (Int32 × lt_W) := fb_X7_takeNumber_0 σ o x1 x2 w
set_option maxRecDepth 100000 in
theorem c_X7_takeNumber {l : Launch} {D : va_G} {gA : Nat → ClassId} {s0 : State} {σ : lt_S} (hT : lt_Wt σ) {o : Nat} (h0 : lt_c σ o = 7) {x1 : Int32} {x2 : Int32} {w : lt_W} {r : Int32 × lt_W} (hf : f_X7_takeNumber σ o x1 x2 w = some r) : lt_C l D gA s0 yX7_takeNumber cX7_takeNumber 3 (some .boolean) (lt_rm 9) [.ref (s0.heap.size + o), .int x1, .int x2] σ w σ (some (.int r.1)) r.2 := by
  refine lt_enter rfl (Nat.le_of_ble_eq_true rfl) (fun X e1 e2 e3 e4 hF hE => ?_)
  subst e1 e2 e3 e4
  exact jb_X7_takeNumber_0 hT h0 hF hE _ _ _ hf

set_option maxRecDepth 100000 in
def fb_X7_namedGuest_0 (σ : lt_S) (o : Nat) (x1 : Nat) (w : lt_W) : Option (Int32 × lt_W) := if (lt_gi w o 5) = 24 then Option.bind (f_X5_guestNamed σ x1 (lt_gl w o 6) w) (fun q1 => if q1 = (-1) then Option.bind (f_X7_refuse σ o 3 w) (fun q2 => some (q1, q2.2)) else some (q1, w)) else Option.bind (f_X7_refuse σ o 2 w) (fun q3 => some ((-1), q3.2))
set_option maxHeartbeats 4000000 in
set_option maxRecDepth 100000 in
theorem jb_X7_namedGuest_0 {X : lt_X} {σ : lt_S} (hT : lt_Wt σ) {o : Nat} (h0 : lt_c σ o = 7) {r : Int32 × lt_W} (hF : lt_F X cX7_namedGuest RX7 3 (lt_rm 2)) (hE : lt_E X 0 0 σ (some .int) (some (.int r.1)) r.2) : ∀ (x1 : Nat) (w : lt_W), lt_c σ x1 = 5 → fb_X7_namedGuest_0 σ o x1 w = some r → lt_J X 0 0 σ w 0 [(0, .ref (lt_z X + o)), (1, .ref (lt_z X + x1))] [] := by
  intro x1 w t1 hf
  unfold fb_X7_namedGuest_0 at hf
  refine jr_aload_n hF dX7_namedGuest_0 0 rfl rfl ?_
  refine jr_getI hF gf_X7_40 h0 dX7_namedGuest_1 ?_
  refine jr_bipush (v := 24) hF dX7_namedGuest_4 rfl ?_
  refine jr_icmp_eq (tgt := 17) hF dX7_namedGuest_6 rfl hf (fun hf => ?_) (fun hf => ?_)
  · refine jr_aload_n hF dX7_namedGuest_17 1 rfl rfl ?_
    refine jr_aload_n hF dX7_namedGuest_18 0 rfl rfl ?_
    refine jr_getL hF gf_X7_56 h0 dX7_namedGuest_19 ?_
    obtain ⟨q1, hq1, hf⟩ := Option.bind_eq_some_iff.mp hf
    refine jr_cV11 hF ml_X7_60 (c_X5_guestNamed hT t1 hq1) t1 ⟨Nat.le_of_ble_eq_true rfl, Nat.le_of_ble_eq_true rfl⟩ (Nat.le_of_ble_eq_true rfl) dX7_namedGuest_22 ?_
    refine jr_istore_n (lv' := [(0, .ref (lt_z X + o)), (2, .int q1)]) hF dX7_namedGuest_25 rfl (by decide) [1, 0] rfl ?_
    refine jr_iload_n hF dX7_namedGuest_26 1 rfl rfl ?_
    refine jr_iconst (v := (-1)) hF dX7_namedGuest_27 rfl ?_
    refine jr_icmp_ne (tgt := 37) hF dX7_namedGuest_28 rfl hf (fun hf => ?_) (fun hf => ?_)
    · refine jr_iload_n hF dX7_namedGuest_37 1 rfl rfl ?_
      obtain rfl := Option.some.inj hf
      exact jr_ireturn hF hE dX7_namedGuest_38
    · refine jr_aload_n hF dX7_namedGuest_31 0 rfl rfl ?_
      refine jr_iconst (v := 3) hF dX7_namedGuest_32 rfl ?_
      obtain ⟨q2, hq2, hf⟩ := Option.bind_eq_some_iff.mp hf
      refine jr_cV11 hF ml_X7_46 (c_X7_refuse h0 hq2) h0 ⟨Nat.le_of_ble_eq_true rfl, Nat.le_of_ble_eq_true rfl⟩ (Nat.le_of_ble_eq_true rfl) dX7_namedGuest_33 ?_
      refine jr_pop hF dX7_namedGuest_36 rfl ?_
      refine jr_iload_n hF dX7_namedGuest_37 1 rfl rfl ?_
      obtain rfl := Option.some.inj hf
      exact jr_ireturn hF hE dX7_namedGuest_38
  · refine jr_aload_n hF dX7_namedGuest_9 0 rfl rfl ?_
    refine jr_iconst (v := 2) hF dX7_namedGuest_10 rfl ?_
    obtain ⟨q3, hq3, hf⟩ := Option.bind_eq_some_iff.mp hf
    refine jr_cV11 hF ml_X7_46 (c_X7_refuse h0 hq3) h0 ⟨Nat.le_of_ble_eq_true rfl, Nat.le_of_ble_eq_true rfl⟩ (Nat.le_of_ble_eq_true rfl) dX7_namedGuest_11 ?_
    refine jr_pop hF dX7_namedGuest_14 rfl ?_
    refine jr_iconst (v := (-1)) hF dX7_namedGuest_15 rfl ?_
    obtain rfl := Option.some.inj hf
    exact jr_ireturn hF hE dX7_namedGuest_16
def f_X7_namedGuest (σ : lt_S) (o : Nat) (x1 : Nat) (w : lt_W) : Option (Int32 × lt_W) := fb_X7_namedGuest_0 σ o x1 w
set_option maxRecDepth 100000 in
theorem c_X7_namedGuest {l : Launch} {D : va_G} {gA : Nat → ClassId} {s0 : State} {σ : lt_S} (hT : lt_Wt σ) {o : Nat} (h0 : lt_c σ o = 7) {x1 : Nat} (t1 : lt_c σ x1 = 5) {w : lt_W} {r : Int32 × lt_W} (hf : f_X7_namedGuest σ o x1 w = some r) : lt_C l D gA s0 yX7_namedGuest cX7_namedGuest 3 (some .int) (lt_rm 2) [.ref (s0.heap.size + o), .ref (s0.heap.size + x1)] σ w σ (some (.int r.1)) r.2 := by
  refine lt_enter rfl (Nat.le_of_ble_eq_true rfl) (fun X e1 e2 e3 e4 hF hE => ?_)
  subst e1 e2 e3 e4
  exact jb_X7_namedGuest_0 hT h0 hF hE _ _ t1 hf

set_option maxRecDepth 100000 in
def fb_X11_isTray_0 (x0 : Int32) : Option Int32 := Option.bind (f_X11_within x0 0 3) (fun q1 => lt_bz q1 (some q1))
set_option maxHeartbeats 4000000 in
set_option maxRecDepth 100000 in
theorem jb_X11_isTray_0 {X : lt_X} {σ : lt_S} {r : Int32} {w : lt_W} (hF : lt_F X cX11_isTray RX11 1 (lt_rm 2)) (hE : lt_E X 0 0 σ (some .boolean) (some (.int r)) w) : ∀ (x0 : Int32), fb_X11_isTray_0 x0 = some r → lt_J X 0 0 σ w 0 [(0, .int x0)] [] := by
  intro x0 hf
  unfold fb_X11_isTray_0 at hf
  refine jr_iload_n hF dX11_isTray_0 0 rfl rfl ?_
  refine jr_iconst (v := 0) hF dX11_isTray_1 rfl ?_
  refine jr_iconst (v := 3) hF dX11_isTray_2 rfl ?_
  obtain ⟨q1, hq1, hf⟩ := Option.bind_eq_some_iff.mp hf
  refine jr_cS31 hF ml_X11_121 (c_X11_within hq1) ⟨Nat.le_of_ble_eq_true rfl, Nat.le_of_ble_eq_true rfl⟩ (Nat.le_of_ble_eq_true rfl) dX11_isTray_3 ?_
  obtain ⟨b2, hf⟩ := lt_bzE hf
  obtain rfl := Option.some.inj hf
  exact jr_zreturn hF hE b2 dX11_isTray_6
def f_X11_isTray (x0 : Int32) : Option Int32 := fb_X11_isTray_0 x0
set_option maxRecDepth 100000 in
theorem c_X11_isTray {l : Launch} {D : va_G} {gA : Nat → ClassId} {s0 : State} {σ : lt_S} {x0 : Int32} {w : lt_W} {r : Int32} (hf : f_X11_isTray x0 = some r) : lt_C l D gA s0 yX11_isTray cX11_isTray 1 (some .boolean) (lt_rm 2) [.int x0] σ w σ (some (.int r)) w := by
  refine lt_enter rfl (Nat.le_of_ble_eq_true rfl) (fun X e1 e2 e3 e4 hF hE => ?_)
  subst e1 e2 e3 e4
  exact jb_X11_isTray_0 hF hE _ hf

set_option maxRecDepth 100000 in
def fb_X7_append_3 (σ : lt_S) (o : Nat) : Nat → Int32 → Int32 → lt_W → Option lt_W
  | 0, _, _, _ => none
  | n + 1, x1, x2, w => if x2 < 0 then some w else if 900 ≤ (lt_gi w o 1) then some w else lt_ck (lt_gi w o 1) (lt_len σ (lt_r σ o 0)) (lt_let (lt_si w (lt_r σ o 0) (lt_gi w o 1).toNatClampNeg (vp_nar .byte ((x1 >>> (x2 &&& 31)).toInt8.toInt32))) (fun w2 => lt_let (lt_si w2 o 1 ((lt_gi w2 o 1) + 1)) (fun w3 => fb_X7_append_3 σ o n x1 (x2 + (-8)) w3)))
set_option maxHeartbeats 4000000 in
set_option maxRecDepth 100000 in
theorem jb_X7_append_3 {X : lt_X} {σ : lt_S} (hT : lt_Wt σ) {o : Nat} (h0 : lt_c σ o = 7) {r : lt_W} (hF : lt_F X cX7_append RX7 3 (lt_rm 1)) (hE : lt_E X 0 0 σ none none r) (n : Nat) : ∀ (x1 : Int32) (x2 : Int32) (w : lt_W), fb_X7_append_3 σ o n x1 x2 w = some r → lt_J X 0 0 σ w 3 [(0, .ref (lt_z X + o)), (1, .int x1), (2, .int x2)] [] := by
  induction n with
  | zero => intro x1 x2 w hf; rw [fb_X7_append_3] at hf; cases hf
  | succ n ih =>
    intro x1 x2 w hf
    rw [fb_X7_append_3] at hf
    refine jr_iload_n hF dX7_append_3 2 rfl rfl ?_
    refine jr_if_lt (tgt := 46) hF dX7_append_4 rfl hf (fun hf => ?_) (fun hf => ?_)
    · obtain rfl := Option.some.inj hf
      exact jr_return hF hE dX7_append_46
    · refine jr_aload_n hF dX7_append_7 0 rfl rfl ?_
      refine jr_getI hF gf_X7_22 h0 dX7_append_8 ?_
      refine jr_sipush (v := 900) hF dX7_append_11 rfl ?_
      refine jr_icmp_ge (tgt := 46) hF dX7_append_14 rfl hf (fun hf => ?_) (fun hf => ?_)
      · obtain rfl := Option.some.inj hf
        exact jr_return hF hE dX7_append_46
      · refine jr_aload_n hF dX7_append_17 0 rfl rfl ?_
        refine jr_getRT (cr := 52) hF gf_X7_9 hT h0 rfl rfl dX7_append_18 (fun th1 => ?_)
        refine jr_aload_n hF dX7_append_21 0 rfl rfl ?_
        refine jr_getI hF gf_X7_22 h0 dX7_append_22 ?_
        refine jr_iload_n hF dX7_append_25 1 rfl rfl ?_
        refine jr_iload_n hF dX7_append_26 2 rfl rfl ?_
        refine jr_ishr hF dX7_append_27 ?_
        refine jr_i2b hF dX7_append_28 ?_
        refine jr_bastoreB hF th1 dX7_append_29 hf (fun hf => ?_)
        refine jr_letW hf (fun w2 hf => ?_)
        refine jr_aload_n hF dX7_append_30 0 rfl rfl ?_
        refine jr_dup hF dX7_append_31 rfl ?_
        refine jr_getI hF gf_X7_22 h0 dX7_append_32 ?_
        refine jr_iconst (v := 1) hF dX7_append_35 rfl ?_
        refine jr_iadd hF dX7_append_36 ?_
        refine jr_putI hF pf_X7_22 h0 dX7_append_37 ?_
        refine jr_letW hf (fun w3 hf => ?_)
        refine jr_iinc (v := x2 + (-8)) (lv' := [(0, .ref (lt_z X + o)), (1, .int x1), (2, .int (x2 + (-8)))]) hF dX7_append_40 2 rfl rfl (by decide) [1, 2, 0] rfl ?_
        refine jr_goto (tgt := 3) hF dX7_append_43 rfl ?_
        exact ih _ _ _ hf
set_option maxRecDepth 100000 in
def fb_X7_append_0 (σ : lt_S) (o : Nat) (x1 : Int32) (w : lt_W) : Option lt_W := fb_X7_append_3 σ o lt_fu x1 24 w
set_option maxHeartbeats 4000000 in
set_option maxRecDepth 100000 in
theorem jb_X7_append_0 {X : lt_X} {σ : lt_S} (hT : lt_Wt σ) {o : Nat} (h0 : lt_c σ o = 7) {r : lt_W} (hF : lt_F X cX7_append RX7 3 (lt_rm 1)) (hE : lt_E X 0 0 σ none none r) : ∀ (x1 : Int32) (w : lt_W), fb_X7_append_0 σ o x1 w = some r → lt_J X 0 0 σ w 0 [(0, .ref (lt_z X + o)), (1, .int x1)] [] := by
  intro x1 w hf
  unfold fb_X7_append_0 at hf
  refine jr_bipush (v := 24) hF dX7_append_0 rfl ?_
  refine jr_istore_n (lv' := [(0, .ref (lt_z X + o)), (1, .int x1), (2, .int 24)]) hF dX7_append_2 rfl (by decide) [1, 2, 0] rfl ?_
  exact jb_X7_append_3 hT h0 hF hE lt_fu _ _ _ hf
def f_X7_append (σ : lt_S) (o : Nat) (x1 : Int32) (w : lt_W) : Option lt_W := fb_X7_append_0 σ o x1 w
set_option maxRecDepth 100000 in
theorem c_X7_append {l : Launch} {D : va_G} {gA : Nat → ClassId} {s0 : State} {σ : lt_S} (hT : lt_Wt σ) {o : Nat} (h0 : lt_c σ o = 7) {x1 : Int32} {w : lt_W} {r : lt_W} (hf : f_X7_append σ o x1 w = some r) : lt_C l D gA s0 yX7_append cX7_append 3 none (lt_rm 1) [.ref (s0.heap.size + o), .int x1] σ w σ none r := by
  refine lt_enter rfl (Nat.le_of_ble_eq_true rfl) (fun X e1 e2 e3 e4 hF hE => ?_)
  subst e1 e2 e3 e4
  exact jb_X7_append_0 hT h0 hF hE _ _ hf

set_option maxRecDepth 100000 in
def fb_X7_begin_0 (σ : lt_S) (o : Nat) (x1 : Int32) (w : lt_W) : Option lt_W := lt_let (lt_si w o 2 (lt_min x1 (lt_gi w o 1))) (fun w1 => lt_let (lt_si w1 o 1 0) (fun w2 => lt_let (lt_si w2 o 3 0) (fun w3 => lt_let (lt_si w3 o 9 0) (fun w4 => lt_let (lt_si w4 o 10 (-1)) (fun w5 => Option.bind (f_X7_advance σ o w5) (fun q6 => some q6))))))
set_option maxHeartbeats 4000000 in
set_option maxRecDepth 100000 in
theorem jb_X7_begin_0 {X : lt_X} {σ : lt_S} (hT : lt_Wt σ) {o : Nat} (h0 : lt_c σ o = 7) {r : lt_W} (hF : lt_F X cX7_begin RX7 2 (lt_rm 9)) (hE : lt_E X 0 0 σ none none r) : ∀ (x1 : Int32) (w : lt_W), fb_X7_begin_0 σ o x1 w = some r → lt_J X 0 0 σ w 0 [(0, .ref (lt_z X + o)), (1, .int x1)] [] := by
  intro x1 w hf
  unfold fb_X7_begin_0 at hf
  refine jr_aload_n hF dX7_begin_0 0 rfl rfl ?_
  refine jr_iload_n hF dX7_begin_1 1 rfl rfl ?_
  refine jr_aload_n hF dX7_begin_2 0 rfl rfl ?_
  refine jr_getI hF gf_X7_22 h0 dX7_begin_3 ?_
  refine jr_min hF mm_X7_25 ⟨Nat.le_of_ble_eq_true rfl, Nat.le_of_ble_eq_true rfl, Nat.zero_le _, Nat.zero_le _⟩ dX7_begin_6 ?_
  refine jr_putI hF pf_X7_31 h0 dX7_begin_9 ?_
  refine jr_letW hf (fun w1 hf => ?_)
  refine jr_aload_n hF dX7_begin_12 0 rfl rfl ?_
  refine jr_iconst (v := 0) hF dX7_begin_13 rfl ?_
  refine jr_putI hF pf_X7_22 h0 dX7_begin_14 ?_
  refine jr_letW hf (fun w2 hf => ?_)
  refine jr_aload_n hF dX7_begin_17 0 rfl rfl ?_
  refine jr_iconst (v := 0) hF dX7_begin_18 rfl ?_
  refine jr_putI hF pf_X7_34 h0 dX7_begin_19 ?_
  refine jr_letW hf (fun w3 hf => ?_)
  refine jr_aload_n hF dX7_begin_22 0 rfl rfl ?_
  refine jr_iconst (v := 0) hF dX7_begin_23 rfl ?_
  refine jr_putI hF pf_X7_15 h0 dX7_begin_24 ?_
  refine jr_letW hf (fun w4 hf => ?_)
  refine jr_aload_n hF dX7_begin_27 0 rfl rfl ?_
  refine jr_iconst (v := (-1)) hF dX7_begin_28 rfl ?_
  refine jr_putI hF pf_X7_19 h0 dX7_begin_29 ?_
  refine jr_letW hf (fun w5 hf => ?_)
  refine jr_aload_n hF dX7_begin_32 0 rfl rfl ?_
  obtain ⟨q6, hq6, hf⟩ := Option.bind_eq_some_iff.mp hf
  refine jr_cV0v hF ml_X7_37 (c_X7_advance hT h0 hq6) h0 ⟨Nat.le_of_ble_eq_true rfl, Nat.le_of_ble_eq_true rfl⟩ (Nat.le_of_ble_eq_true rfl) dX7_begin_33 ?_
  obtain rfl := Option.some.inj hf
  exact jr_return hF hE dX7_begin_36
def f_X7_begin (σ : lt_S) (o : Nat) (x1 : Int32) (w : lt_W) : Option lt_W := fb_X7_begin_0 σ o x1 w
set_option maxRecDepth 100000 in
theorem c_X7_begin {l : Launch} {D : va_G} {gA : Nat → ClassId} {s0 : State} {σ : lt_S} (hT : lt_Wt σ) {o : Nat} (h0 : lt_c σ o = 7) {x1 : Int32} {w : lt_W} {r : lt_W} (hf : f_X7_begin σ o x1 w = some r) : lt_C l D gA s0 yX7_begin cX7_begin 2 none (lt_rm 9) [.ref (s0.heap.size + o), .int x1] σ w σ none r := by
  refine lt_enter rfl (Nat.le_of_ble_eq_true rfl) (fun X e1 e2 e3 e4 hF hE => ?_)
  subst e1 e2 e3 e4
  exact jb_X7_begin_0 hT h0 hF hE _ _ hf
