set_option maxRecDepth 100000 in
def fb_X11_within_0 (x0 : Int32) (x1 : Int32) (x2 : Int32) : Option Int32 := if x0 < x1 then some 0 else if x2 < x0 then some 0 else some 1
set_option maxHeartbeats 4000000 in
set_option maxRecDepth 100000 in
theorem jb_X11_within_0 {X : lt_X} {σ : lt_S} {r : Int32} {w : lt_W} (hF : lt_F X cX11_within RX11 3 (lt_rm 1)) (hE : lt_E X 0 0 σ (some .boolean) (some (.int r)) w) : ∀ (x0 : Int32) (x1 : Int32) (x2 : Int32), fb_X11_within_0 x0 x1 x2 = some r → lt_J X 0 0 σ w 0 [(0, .int x0), (1, .int x1), (2, .int x2)] [] := by
  intro x0 x1 x2 hf
  unfold fb_X11_within_0 at hf
  refine jr_iload_n hF dX11_within_0 0 rfl rfl ?_
  refine jr_iload_n hF dX11_within_1 1 rfl rfl ?_
  refine jr_icmp_lt (tgt := 14) hF dX11_within_2 rfl hf (fun hf => ?_) (fun hf => ?_)
  · refine jr_iconst (v := 0) hF dX11_within_14 rfl ?_
    obtain rfl := Option.some.inj hf
    exact jr_zreturn hF hE (Or.inl rfl) dX11_within_15
  · refine jr_iload_n hF dX11_within_5 0 rfl rfl ?_
    refine jr_iload_n hF dX11_within_6 2 rfl rfl ?_
    refine jr_icmp_gt (tgt := 14) hF dX11_within_7 rfl hf (fun hf => ?_) (fun hf => ?_)
    · refine jr_iconst (v := 0) hF dX11_within_14 rfl ?_
      obtain rfl := Option.some.inj hf
      exact jr_zreturn hF hE (Or.inl rfl) dX11_within_15
    · refine jr_iconst (v := 1) hF dX11_within_10 rfl ?_
      refine jr_goto (tgt := 15) hF dX11_within_11 rfl ?_
      obtain rfl := Option.some.inj hf
      exact jr_zreturn hF hE (Or.inr rfl) dX11_within_15
def f_X11_within (x0 : Int32) (x1 : Int32) (x2 : Int32) : Option Int32 := fb_X11_within_0 x0 x1 x2
set_option maxRecDepth 100000 in
theorem c_X11_within {l : Launch} {D : va_G} {gA : Nat → ClassId} {s0 : State} {σ : lt_S} {x0 : Int32} {x1 : Int32} {x2 : Int32} {w : lt_W} {r : Int32} (hf : f_X11_within x0 x1 x2 = some r) : lt_C l D gA s0 yX11_within cX11_within 3 (some .boolean) (lt_rm 1) [.int x0, .int x1, .int x2] σ w σ (some (.int r)) w := by
  refine lt_enter rfl (Nat.le_of_ble_eq_true rfl) (fun X e1 e2 e3 e4 hF hE => ?_)
  subst e1 e2 e3 e4
  exact jb_X11_within_0 hF hE _ _ _ hf

set_option maxRecDepth 100000 in
def fb_X7_refuse_14 (σ : lt_S) (o : Nat) (y1 : Int32) (w : lt_W) : Option (Int32 × lt_W) := lt_let (lt_si w o 9 y1) (fun w1 => lt_let (lt_si w1 o 10 (lt_gi w1 o 4)) (fun w2 => some (0, w2)))
set_option maxHeartbeats 4000000 in
set_option maxRecDepth 100000 in
theorem jb_X7_refuse_14 {X : lt_X} {σ : lt_S} {o : Nat} (h0 : lt_c σ o = 7) {r : Int32 × lt_W} (hF : lt_F X cX7_refuse RX7 2 (lt_rm 1)) (hE : lt_E X 0 0 σ (some .boolean) (some (.int r.1)) r.2) : ∀ (y1 : Int32) (w : lt_W), fb_X7_refuse_14 σ o y1 w = some r → lt_J X 0 0 σ w 14 [(0, .ref (lt_z X + o))] [.int y1, .ref (lt_z X + o)] := by
  intro y1 w hf
  unfold fb_X7_refuse_14 at hf
  refine jr_putI hF pf_X7_15 h0 dX7_refuse_14 ?_
  refine jr_letW hf (fun w1 hf => ?_)
  refine jr_aload_n hF dX7_refuse_17 0 rfl rfl ?_
  refine jr_aload_n hF dX7_refuse_18 0 rfl rfl ?_
  refine jr_getI hF gf_X7_43 h0 dX7_refuse_19 ?_
  refine jr_putI hF pf_X7_19 h0 dX7_refuse_22 ?_
  refine jr_letW hf (fun w2 hf => ?_)
  refine jr_iconst (v := 0) hF dX7_refuse_25 rfl ?_
  obtain rfl := Option.some.inj hf
  exact jr_zreturn hF hE (Or.inl rfl) dX7_refuse_26
set_option maxRecDepth 100000 in
def fb_X7_refuse_0 (σ : lt_S) (o : Nat) (x1 : Int32) (w : lt_W) : Option (Int32 × lt_W) := if (lt_gi w o 5) = (-1) then fb_X7_refuse_14 σ o 1 w else fb_X7_refuse_14 σ o x1 w
set_option maxHeartbeats 4000000 in
set_option maxRecDepth 100000 in
theorem jb_X7_refuse_0 {X : lt_X} {σ : lt_S} {o : Nat} (h0 : lt_c σ o = 7) {r : Int32 × lt_W} (hF : lt_F X cX7_refuse RX7 2 (lt_rm 1)) (hE : lt_E X 0 0 σ (some .boolean) (some (.int r.1)) r.2) : ∀ (x1 : Int32) (w : lt_W), fb_X7_refuse_0 σ o x1 w = some r → lt_J X 0 0 σ w 0 [(0, .ref (lt_z X + o)), (1, .int x1)] [] := by
  intro x1 w hf
  unfold fb_X7_refuse_0 at hf
  refine jr_aload_n hF dX7_refuse_0 0 rfl rfl ?_
  refine jr_aload_n hF dX7_refuse_1 0 rfl rfl ?_
  refine jr_getI hF gf_X7_40 h0 dX7_refuse_2 ?_
  refine jr_iconst (v := (-1)) hF dX7_refuse_5 rfl ?_
  refine jr_icmp_ne (tgt := 13) hF dX7_refuse_6 rfl hf (fun hf => ?_) (fun hf => ?_)
  · refine jr_iload_n hF dX7_refuse_13 1 rfl rfl ?_
    refine jr_sub [0] rfl ?_
    exact jb_X7_refuse_14 h0 hF hE _ _ hf
  · refine jr_iconst (v := 1) hF dX7_refuse_9 rfl ?_
    refine jr_goto (tgt := 14) hF dX7_refuse_10 rfl ?_
    refine jr_sub [0] rfl ?_
    exact jb_X7_refuse_14 h0 hF hE _ _ hf
def f_X7_refuse (σ : lt_S) (o : Nat) (x1 : Int32) (w : lt_W) : Option (Int32 × lt_W) := fb_X7_refuse_0 σ o x1 w
set_option maxRecDepth 100000 in
theorem c_X7_refuse {l : Launch} {D : va_G} {gA : Nat → ClassId} {s0 : State} {σ : lt_S} {o : Nat} (h0 : lt_c σ o = 7) {x1 : Int32} {w : lt_W} {r : Int32 × lt_W} (hf : f_X7_refuse σ o x1 w = some r) : lt_C l D gA s0 yX7_refuse cX7_refuse 2 (some .boolean) (lt_rm 1) [.ref (s0.heap.size + o), .int x1] σ w σ (some (.int r.1)) r.2 := by
  refine lt_enter rfl (Nat.le_of_ble_eq_true rfl) (fun X e1 e2 e3 e4 hF hE => ?_)
  subst e1 e2 e3 e4
  exact jb_X7_refuse_0 h0 hF hE _ _ hf

set_option maxRecDepth 100000 in
def fb_X7_readLetters_0 (σ : lt_S) (o : Nat) : Nat → lt_W → Option lt_W
  | 0, _ => none
  | n + 1, w => if (lt_gi w o 2) ≤ (lt_gi w o 3) then some w else lt_ck (lt_gi w o 3) (lt_len σ (lt_r σ o 0)) (if (lt_gi w (lt_r σ o 0) (lt_gi w o 3).toNatClampNeg) < 97 then some w else lt_ck (lt_gi w o 3) (lt_len σ (lt_r σ o 0)) (if 122 < (lt_gi w (lt_r σ o 0) (lt_gi w o 3).toNatClampNeg) then some w else lt_ck (lt_gi w o 3) (lt_len σ (lt_r σ o 0)) (lt_let (lt_sl w o 6 (((lt_gl w o 6) * 32) + ((((lt_gi w (lt_r σ o 0) (lt_gi w o 3).toNatClampNeg) - 97) + 1).toInt64))) (fun w4 => lt_let (lt_si w4 o 3 ((lt_gi w4 o 3) + 1)) (fun w5 => fb_X7_readLetters_0 σ o n w5)))))
set_option maxHeartbeats 4000000 in
set_option maxRecDepth 100000 in
theorem jb_X7_readLetters_0 {X : lt_X} {σ : lt_S} (hT : lt_Wt σ) {o : Nat} (h0 : lt_c σ o = 7) {r : lt_W} (hF : lt_F X cX7_readLetters RX7 1 (lt_rm 1)) (hE : lt_E X 0 0 σ none none r) (n : Nat) : ∀ (w : lt_W), fb_X7_readLetters_0 σ o n w = some r → lt_J X 0 0 σ w 0 [(0, .ref (lt_z X + o))] [] := by
  induction n with
  | zero => intro w hf; rw [fb_X7_readLetters_0] at hf; cases hf
  | succ n ih =>
    intro w hf
    rw [fb_X7_readLetters_0] at hf
    refine jr_aload_n hF dX7_readLetters_0 0 rfl rfl ?_
    refine jr_getI hF gf_X7_34 h0 dX7_readLetters_1 ?_
    refine jr_aload_n hF dX7_readLetters_4 0 rfl rfl ?_
    refine jr_getI hF gf_X7_31 h0 dX7_readLetters_5 ?_
    refine jr_icmp_ge (tgt := 80) hF dX7_readLetters_8 rfl hf (fun hf => ?_) (fun hf => ?_)
    · obtain rfl := Option.some.inj hf
      exact jr_return hF hE dX7_readLetters_80
    · refine jr_aload_n hF dX7_readLetters_11 0 rfl rfl ?_
      refine jr_getRT (cr := 52) hF gf_X7_9 hT h0 rfl rfl dX7_readLetters_12 (fun th1 => ?_)
      refine jr_aload_n hF dX7_readLetters_15 0 rfl rfl ?_
      refine jr_getI hF gf_X7_34 h0 dX7_readLetters_16 ?_
      refine jr_baloadB hF th1 dX7_readLetters_19 hf (fun hf => ?_)
      refine jr_bipush (v := 97) hF dX7_readLetters_20 rfl ?_
      refine jr_icmp_lt (tgt := 80) hF dX7_readLetters_22 rfl hf (fun hf => ?_) (fun hf => ?_)
      · obtain rfl := Option.some.inj hf
        exact jr_return hF hE dX7_readLetters_80
      · refine jr_aload_n hF dX7_readLetters_25 0 rfl rfl ?_
        refine jr_getRT (cr := 52) hF gf_X7_9 hT h0 rfl rfl dX7_readLetters_26 (fun th2 => ?_)
        refine jr_aload_n hF dX7_readLetters_29 0 rfl rfl ?_
        refine jr_getI hF gf_X7_34 h0 dX7_readLetters_30 ?_
        refine jr_baloadB hF th2 dX7_readLetters_33 hf (fun hf => ?_)
        refine jr_bipush (v := 122) hF dX7_readLetters_34 rfl ?_
        refine jr_icmp_gt (tgt := 80) hF dX7_readLetters_36 rfl hf (fun hf => ?_) (fun hf => ?_)
        · obtain rfl := Option.some.inj hf
          exact jr_return hF hE dX7_readLetters_80
        · refine jr_aload_n hF dX7_readLetters_39 0 rfl rfl ?_
          refine jr_aload_n hF dX7_readLetters_40 0 rfl rfl ?_
          refine jr_getL hF gf_X7_56 h0 dX7_readLetters_41 ?_
          refine jr_ldc2 (v := 32) hF dX7_readLetters_44 kc_X7_75 ?_
          refine jr_lmul hF dX7_readLetters_47 ?_
          refine jr_aload_n hF dX7_readLetters_48 0 rfl rfl ?_
          refine jr_getRT (cr := 52) hF gf_X7_9 hT h0 rfl rfl dX7_readLetters_49 (fun th3 => ?_)
          refine jr_aload_n hF dX7_readLetters_52 0 rfl rfl ?_
          refine jr_getI hF gf_X7_34 h0 dX7_readLetters_53 ?_
          refine jr_baloadB hF th3 dX7_readLetters_56 hf (fun hf => ?_)
          refine jr_bipush (v := 97) hF dX7_readLetters_57 rfl ?_
          refine jr_isub hF dX7_readLetters_59 ?_
          refine jr_iconst (v := 1) hF dX7_readLetters_60 rfl ?_
          refine jr_iadd hF dX7_readLetters_61 ?_
          refine jr_i2l hF dX7_readLetters_62 ?_
          refine jr_ladd hF dX7_readLetters_63 ?_
          refine jr_putL hF pf_X7_56 h0 dX7_readLetters_64 ?_
          refine jr_letW hf (fun w4 hf => ?_)
          refine jr_aload_n hF dX7_readLetters_67 0 rfl rfl ?_
          refine jr_dup hF dX7_readLetters_68 rfl ?_
          refine jr_getI hF gf_X7_34 h0 dX7_readLetters_69 ?_
          refine jr_iconst (v := 1) hF dX7_readLetters_72 rfl ?_
          refine jr_iadd hF dX7_readLetters_73 ?_
          refine jr_putI hF pf_X7_34 h0 dX7_readLetters_74 ?_
          refine jr_letW hf (fun w5 hf => ?_)
          refine jr_goto (tgt := 0) hF dX7_readLetters_77 rfl ?_
          exact ih _ hf
def f_X7_readLetters (σ : lt_S) (o : Nat) (w : lt_W) : Option lt_W := fb_X7_readLetters_0 σ o lt_fu w
set_option maxRecDepth 100000 in
theorem c_X7_readLetters {l : Launch} {D : va_G} {gA : Nat → ClassId} {s0 : State} {σ : lt_S} (hT : lt_Wt σ) {o : Nat} (h0 : lt_c σ o = 7) {w : lt_W} {r : lt_W} (hf : f_X7_readLetters σ o w = some r) : lt_C l D gA s0 yX7_readLetters cX7_readLetters 1 none (lt_rm 1) [.ref (s0.heap.size + o)] σ w σ none r := by
  refine lt_enter rfl (Nat.le_of_ble_eq_true rfl) (fun X e1 e2 e3 e4 hF hE => ?_)
  subst e1 e2 e3 e4
  exact jb_X7_readLetters_0 hT h0 hF hE lt_fu _ hf

set_option maxRecDepth 100000 in
def fb_X7_readDigits_0 (σ : lt_S) (o : Nat) : Nat → lt_W → Option lt_W
  | 0, _ => none
  | n + 1, w => if (lt_gi w o 2) ≤ (lt_gi w o 3) then some w else lt_ck (lt_gi w o 3) (lt_len σ (lt_r σ o 0)) (if (lt_gi w (lt_r σ o 0) (lt_gi w o 3).toNatClampNeg) < 48 then some w else lt_ck (lt_gi w o 3) (lt_len σ (lt_r σ o 0)) (if 57 < (lt_gi w (lt_r σ o 0) (lt_gi w o 3).toNatClampNeg) then some w else lt_ck (lt_gi w o 3) (lt_len σ (lt_r σ o 0)) (lt_let (lt_si w o 7 (((lt_gi w o 7) * 10) + ((lt_gi w (lt_r σ o 0) (lt_gi w o 3).toNatClampNeg) - 48))) (fun w4 => lt_let (lt_si w4 o 3 ((lt_gi w4 o 3) + 1)) (fun w5 => fb_X7_readDigits_0 σ o n w5)))))
set_option maxHeartbeats 4000000 in
set_option maxRecDepth 100000 in
theorem jb_X7_readDigits_0 {X : lt_X} {σ : lt_S} (hT : lt_Wt σ) {o : Nat} (h0 : lt_c σ o = 7) {r : lt_W} (hF : lt_F X cX7_readDigits RX7 1 (lt_rm 1)) (hE : lt_E X 0 0 σ none none r) (n : Nat) : ∀ (w : lt_W), fb_X7_readDigits_0 σ o n w = some r → lt_J X 0 0 σ w 0 [(0, .ref (lt_z X + o))] [] := by
  induction n with
  | zero => intro w hf; rw [fb_X7_readDigits_0] at hf; cases hf
  | succ n ih =>
    intro w hf
    rw [fb_X7_readDigits_0] at hf
    refine jr_aload_n hF dX7_readDigits_0 0 rfl rfl ?_
    refine jr_getI hF gf_X7_34 h0 dX7_readDigits_1 ?_
    refine jr_aload_n hF dX7_readDigits_4 0 rfl rfl ?_
    refine jr_getI hF gf_X7_31 h0 dX7_readDigits_5 ?_
    refine jr_icmp_ge (tgt := 76) hF dX7_readDigits_8 rfl hf (fun hf => ?_) (fun hf => ?_)
    · obtain rfl := Option.some.inj hf
      exact jr_return hF hE dX7_readDigits_76
    · refine jr_aload_n hF dX7_readDigits_11 0 rfl rfl ?_
      refine jr_getRT (cr := 52) hF gf_X7_9 hT h0 rfl rfl dX7_readDigits_12 (fun th1 => ?_)
      refine jr_aload_n hF dX7_readDigits_15 0 rfl rfl ?_
      refine jr_getI hF gf_X7_34 h0 dX7_readDigits_16 ?_
      refine jr_baloadB hF th1 dX7_readDigits_19 hf (fun hf => ?_)
      refine jr_bipush (v := 48) hF dX7_readDigits_20 rfl ?_
      refine jr_icmp_lt (tgt := 76) hF dX7_readDigits_22 rfl hf (fun hf => ?_) (fun hf => ?_)
      · obtain rfl := Option.some.inj hf
        exact jr_return hF hE dX7_readDigits_76
      · refine jr_aload_n hF dX7_readDigits_25 0 rfl rfl ?_
        refine jr_getRT (cr := 52) hF gf_X7_9 hT h0 rfl rfl dX7_readDigits_26 (fun th2 => ?_)
        refine jr_aload_n hF dX7_readDigits_29 0 rfl rfl ?_
        refine jr_getI hF gf_X7_34 h0 dX7_readDigits_30 ?_
        refine jr_baloadB hF th2 dX7_readDigits_33 hf (fun hf => ?_)
        refine jr_bipush (v := 57) hF dX7_readDigits_34 rfl ?_
        refine jr_icmp_gt (tgt := 76) hF dX7_readDigits_36 rfl hf (fun hf => ?_) (fun hf => ?_)
        · obtain rfl := Option.some.inj hf
          exact jr_return hF hE dX7_readDigits_76
        · refine jr_aload_n hF dX7_readDigits_39 0 rfl rfl ?_
          refine jr_aload_n hF dX7_readDigits_40 0 rfl rfl ?_
          refine jr_getI hF gf_X7_50 h0 dX7_readDigits_41 ?_
          refine jr_bipush (v := 10) hF dX7_readDigits_44 rfl ?_
          refine jr_imul hF dX7_readDigits_46 ?_
          refine jr_aload_n hF dX7_readDigits_47 0 rfl rfl ?_
          refine jr_getRT (cr := 52) hF gf_X7_9 hT h0 rfl rfl dX7_readDigits_48 (fun th3 => ?_)
          refine jr_aload_n hF dX7_readDigits_51 0 rfl rfl ?_
          refine jr_getI hF gf_X7_34 h0 dX7_readDigits_52 ?_
          refine jr_baloadB hF th3 dX7_readDigits_55 hf (fun hf => ?_)
          refine jr_bipush (v := 48) hF dX7_readDigits_56 rfl ?_
          refine jr_isub hF dX7_readDigits_58 ?_
          refine jr_iadd hF dX7_readDigits_59 ?_
          refine jr_putI hF pf_X7_50 h0 dX7_readDigits_60 ?_
          refine jr_letW hf (fun w4 hf => ?_)
          refine jr_aload_n hF dX7_readDigits_63 0 rfl rfl ?_
          refine jr_dup hF dX7_readDigits_64 rfl ?_
          refine jr_getI hF gf_X7_34 h0 dX7_readDigits_65 ?_
          refine jr_iconst (v := 1) hF dX7_readDigits_68 rfl ?_
          refine jr_iadd hF dX7_readDigits_69 ?_
          refine jr_putI hF pf_X7_34 h0 dX7_readDigits_70 ?_
          refine jr_letW hf (fun w5 hf => ?_)
          refine jr_goto (tgt := 0) hF dX7_readDigits_73 rfl ?_
          exact ih _ hf
def f_X7_readDigits (σ : lt_S) (o : Nat) (w : lt_W) : Option lt_W := fb_X7_readDigits_0 σ o lt_fu w
set_option maxRecDepth 100000 in
theorem c_X7_readDigits {l : Launch} {D : va_G} {gA : Nat → ClassId} {s0 : State} {σ : lt_S} (hT : lt_Wt σ) {o : Nat} (h0 : lt_c σ o = 7) {w : lt_W} {r : lt_W} (hf : f_X7_readDigits σ o w = some r) : lt_C l D gA s0 yX7_readDigits cX7_readDigits 1 none (lt_rm 1) [.ref (s0.heap.size + o)] σ w σ none r := by
  refine lt_enter rfl (Nat.le_of_ble_eq_true rfl) (fun X e1 e2 e3 e4 hF hE => ?_)
  subst e1 e2 e3 e4
  exact jb_X7_readDigits_0 hT h0 hF hE lt_fu _ hf

set_option maxRecDepth 100000 in
def fb_X7_namedGuest_0 (σ : lt_S) (o : Nat) (x1 : Nat) (w : lt_W) : Option (Int32 × lt_W) := if (lt_gi w o 5) = 24 then Option.bind (f_X5_guestNamed σ x1 (lt_gl w o 6) w) (fun q1 => if q1 = (-1) then Option.bind (f_X7_refuse σ o 3 w) (fun q2 => some (q1, q2.2)) else some (q1, w)) else Option.bind (f_X7_refuse σ o 2 w) (fun q3 => some ((-1), q3.2))
set_option maxHeartbeats 4000000 in
set_option maxRecDepth 100000 in
theorem jb_X7_namedGuest_0 {X : lt_X} {σ : lt_S} (hT : lt_Wt σ) {o : Nat} (h0 : lt_c σ o = 7) {r : Int32 × lt_W} (hF : lt_F X cX7_namedGuest RX7 3 (lt_rm 2)) (hE : lt_E X 0 0 σ (some .int) (some (.int r.1)) r.2) : ∀ (x1 : Nat) (w : lt_W), lt_c σ x1 = 5 → fb_X7_namedGuest_0 σ o x1 w = some r → lt_J X 0 0 σ w 0 [(0, .ref (lt_z X + o)), (1, .ref (lt_z X + x1))] [] := by
  intro x1 w t1 hf
  unfold fb_X7_namedGuest_0 at hf
  refine jr_aload_n hF dX7_namedGuest_0 0 rfl rfl ?_
  refine jr_getI hF gf_X7_40 h0 dX7_namedGuest_1 ?_
  refine jr_bipush (v := 24) hF dX7_namedGuest_4 rfl ?_
  refine jr_icmp_eq (tgt := 17) hF dX7_namedGuest_6 rfl hf (fun hf => ?_) (fun hf => ?_)
  · refine jr_aload_n hF dX7_namedGuest_17 1 rfl rfl ?_
    refine jr_aload_n hF dX7_namedGuest_18 0 rfl rfl ?_
    refine jr_getL hF gf_X7_56 h0 dX7_namedGuest_19 ?_
    obtain ⟨q1, hq1, hf⟩ := Option.bind_eq_some_iff.mp hf
    refine jr_cV11 hF ml_X7_60 (c_X5_guestNamed hT t1 hq1) t1 ⟨Nat.le_of_ble_eq_true rfl, Nat.le_of_ble_eq_true rfl⟩ (Nat.le_of_ble_eq_true rfl) dX7_namedGuest_22 ?_
    refine jr_istore_n (lv' := [(0, .ref (lt_z X + o)), (2, .int q1)]) hF dX7_namedGuest_25 rfl (by decide) [1, 0] rfl ?_
    refine jr_iload_n hF dX7_namedGuest_26 1 rfl rfl ?_
    refine jr_iconst (v := (-1)) hF dX7_namedGuest_27 rfl ?_
    refine jr_icmp_ne (tgt := 37) hF dX7_namedGuest_28 rfl hf (fun hf => ?_) (fun hf => ?_)
    · refine jr_iload_n hF dX7_namedGuest_37 1 rfl rfl ?_
      obtain rfl := Option.some.inj hf
      exact jr_ireturn hF hE dX7_namedGuest_38
    · refine jr_aload_n hF dX7_namedGuest_31 0 rfl rfl ?_
      refine jr_iconst (v := 3) hF dX7_namedGuest_32 rfl ?_
      obtain ⟨q2, hq2, hf⟩ := Option.bind_eq_some_iff.mp hf
      refine jr_cV11 hF ml_X7_46 (c_X7_refuse h0 hq2) h0 ⟨Nat.le_of_ble_eq_true rfl, Nat.le_of_ble_eq_true rfl⟩ (Nat.le_of_ble_eq_true rfl) dX7_namedGuest_33 ?_
      refine jr_pop hF dX7_namedGuest_36 rfl ?_
      refine jr_iload_n hF dX7_namedGuest_37 1 rfl rfl ?_
      obtain rfl := Option.some.inj hf
      exact jr_ireturn hF hE dX7_namedGuest_38
  · refine jr_aload_n hF dX7_namedGuest_9 0 rfl rfl ?_
    refine jr_iconst (v := 2) hF dX7_namedGuest_10 rfl ?_
    obtain ⟨q3, hq3, hf⟩ := Option.bind_eq_some_iff.mp hf
    refine jr_cV11 hF ml_X7_46 (c_X7_refuse h0 hq3) h0 ⟨Nat.le_of_ble_eq_true rfl, Nat.le_of_ble_eq_true rfl⟩ (Nat.le_of_ble_eq_true rfl) dX7_namedGuest_11 ?_
    refine jr_pop hF dX7_namedGuest_14 rfl ?_
    refine jr_iconst (v := (-1)) hF dX7_namedGuest_15 rfl ?_
    obtain rfl := Option.some.inj hf
    exact jr_ireturn hF hE dX7_namedGuest_16
def f_X7_namedGuest (σ : lt_S) (o : Nat) (x1 : Nat) (w : lt_W) : Option (Int32 × lt_W) := fb_X7_namedGuest_0 σ o x1 w
set_option maxRecDepth 100000 in
theorem c_X7_namedGuest {l : Launch} {D : va_G} {gA : Nat → ClassId} {s0 : State} {σ : lt_S} (hT : lt_Wt σ) {o : Nat} (h0 : lt_c σ o = 7) {x1 : Nat} (t1 : lt_c σ x1 = 5) {w : lt_W} {r : Int32 × lt_W} (hf : f_X7_namedGuest σ o x1 w = some r) : lt_C l D gA s0 yX7_namedGuest cX7_namedGuest 3 (some .int) (lt_rm 2) [.ref (s0.heap.size + o), .ref (s0.heap.size + x1)] σ w σ (some (.int r.1)) r.2 := by
  refine lt_enter rfl (Nat.le_of_ble_eq_true rfl) (fun X e1 e2 e3 e4 hF hE => ?_)
  subst e1 e2 e3 e4
  exact jb_X7_namedGuest_0 hT h0 hF hE _ _ t1 hf

set_option maxRecDepth 100000 in
def fb_X11_isTray_0 (x0 : Int32) : Option Int32 := Option.bind (f_X11_within x0 0 3) (fun q1 => lt_bz q1 (some q1))
set_option maxHeartbeats 4000000 in
set_option maxRecDepth 100000 in
theorem jb_X11_isTray_0 {X : lt_X} {σ : lt_S} {r : Int32} {w : lt_W} (hF : lt_F X cX11_isTray RX11 1 (lt_rm 2)) (hE : lt_E X 0 0 σ (some .boolean) (some (.int r)) w) : ∀ (x0 : Int32), fb_X11_isTray_0 x0 = some r → lt_J X 0 0 σ w 0 [(0, .int x0)] [] := by
  intro x0 hf
  unfold fb_X11_isTray_0 at hf
  refine jr_iload_n hF dX11_isTray_0 0 rfl rfl ?_
  refine jr_iconst (v := 0) hF dX11_isTray_1 rfl ?_
  refine jr_iconst (v := 3) hF dX11_isTray_2 rfl ?_
  obtain ⟨q1, hq1, hf⟩ := Option.bind_eq_some_iff.mp hf
  refine jr_cS31 hF ml_X11_121 (c_X11_within hq1) ⟨Nat.le_of_ble_eq_true rfl, Nat.le_of_ble_eq_true rfl⟩ (Nat.le_of_ble_eq_true rfl) dX11_isTray_3 ?_
  obtain ⟨b2, hf⟩ := lt_bzE hf
  obtain rfl := Option.some.inj hf
  exact jr_zreturn hF hE b2 dX11_isTray_6
def f_X11_isTray (x0 : Int32) : Option Int32 := fb_X11_isTray_0 x0
set_option maxRecDepth 100000 in
theorem c_X11_isTray {l : Launch} {D : va_G} {gA : Nat → ClassId} {s0 : State} {σ : lt_S} {x0 : Int32} {w : lt_W} {r : Int32} (hf : f_X11_isTray x0 = some r) : lt_C l D gA s0 yX11_isTray cX11_isTray 1 (some .boolean) (lt_rm 2) [.int x0] σ w σ (some (.int r)) w := by
  refine lt_enter rfl (Nat.le_of_ble_eq_true rfl) (fun X e1 e2 e3 e4 hF hE => ?_)
  subst e1 e2 e3 e4
  exact jb_X11_isTray_0 hF hE _ hf

set_option maxRecDepth 100000 in
def fb_X7_append_3 (σ : lt_S) (o : Nat) : Nat → Int32 → Int32 → lt_W → Option lt_W
  | 0, _, _, _ => none
  | n + 1, x1, x2, w => if x2 < 0 then some w else if 900 ≤ (lt_gi w o 1) then some w else lt_ck (lt_gi w o 1) (lt_len σ (lt_r σ o 0)) (lt_let (lt_si w (lt_r σ o 0) (lt_gi w o 1).toNatClampNeg (vp_nar .byte ((x1 >>> (x2 &&& 31)).toInt8.toInt32))) (fun w2 => lt_let (lt_si w2 o 1 ((lt_gi w2 o 1) + 1)) (fun w3 => fb_X7_append_3 σ o n x1 (x2 + (-8)) w3)))
set_option maxHeartbeats 4000000 in
set_option maxRecDepth 100000 in
theorem jb_X7_append_3 {X : lt_X} {σ : lt_S} (hT : lt_Wt σ) {o : Nat} (h0 : lt_c σ o = 7) {r : lt_W} (hF : lt_F X cX7_append RX7 3 (lt_rm 1)) (hE : lt_E X 0 0 σ none none r) (n : Nat) : ∀ (x1 : Int32) (x2 : Int32) (w : lt_W), fb_X7_append_3 σ o n x1 x2 w = some r → lt_J X 0 0 σ w 3 [(0, .ref (lt_z X + o)), (1, .int x1), (2, .int x2)] [] := by
  induction n with
  | zero => intro x1 x2 w hf; rw [fb_X7_append_3] at hf; cases hf
  | succ n ih =>
    intro x1 x2 w hf
    rw [fb_X7_append_3] at hf
    refine jr_iload_n hF dX7_append_3 2 rfl rfl ?_
    refine jr_if_lt (tgt := 46) hF dX7_append_4 rfl hf (fun hf => ?_) (fun hf => ?_)
    · obtain rfl := Option.some.inj hf
      exact jr_return hF hE dX7_append_46
    · refine jr_aload_n hF dX7_append_7 0 rfl rfl ?_
      refine jr_getI hF gf_X7_22 h0 dX7_append_8 ?_
      refine jr_sipush (v := 900) hF dX7_append_11 rfl ?_
      refine jr_icmp_ge (tgt := 46) hF dX7_append_14 rfl hf (fun hf => ?_) (fun hf => ?_)
      · obtain rfl := Option.some.inj hf
        exact jr_return hF hE dX7_append_46
      · refine jr_aload_n hF dX7_append_17 0 rfl rfl ?_
        refine jr_getRT (cr := 52) hF gf_X7_9 hT h0 rfl rfl dX7_append_18 (fun th1 => ?_)
        refine jr_aload_n hF dX7_append_21 0 rfl rfl ?_
        refine jr_getI hF gf_X7_22 h0 dX7_append_22 ?_
        refine jr_iload_n hF dX7_append_25 1 rfl rfl ?_
        refine jr_iload_n hF dX7_append_26 2 rfl rfl ?_
        refine jr_ishr hF dX7_append_27 ?_
        refine jr_i2b hF dX7_append_28 ?_
        refine jr_bastoreB hF th1 dX7_append_29 hf (fun hf => ?_)
        refine jr_letW hf (fun w2 hf => ?_)
        refine jr_aload_n hF dX7_append_30 0 rfl rfl ?_
        refine jr_dup hF dX7_append_31 rfl ?_
        refine jr_getI hF gf_X7_22 h0 dX7_append_32 ?_
        refine jr_iconst (v := 1) hF dX7_append_35 rfl ?_
        refine jr_iadd hF dX7_append_36 ?_
        refine jr_putI hF pf_X7_22 h0 dX7_append_37 ?_
        refine jr_letW hf (fun w3 hf => ?_)
        refine jr_iinc (v := x2 + (-8)) (lv' := [(0, .ref (lt_z X + o)), (1, .int x1), (2, .int (x2 + (-8)))]) hF dX7_append_40 2 rfl rfl (by decide) [1, 2, 0] rfl ?_
        refine jr_goto (tgt := 3) hF dX7_append_43 rfl ?_
        exact ih _ _ _ hf
set_option maxRecDepth 100000 in
def fb_X7_append_0 (σ : lt_S) (o : Nat) (x1 : Int32) (w : lt_W) : Option lt_W := fb_X7_append_3 σ o lt_fu x1 24 w
set_option maxHeartbeats 4000000 in
set_option maxRecDepth 100000 in
theorem jb_X7_append_0 {X : lt_X} {σ : lt_S} (hT : lt_Wt σ) {o : Nat} (h0 : lt_c σ o = 7) {r : lt_W} (hF : lt_F X cX7_append RX7 3 (lt_rm 1)) (hE : lt_E X 0 0 σ none none r) : ∀ (x1 : Int32) (w : lt_W), fb_X7_append_0 σ o x1 w = some r → lt_J X 0 0 σ w 0 [(0, .ref (lt_z X + o)), (1, .int x1)] [] := by
  intro x1 w hf
  unfold fb_X7_append_0 at hf
  refine jr_bipush (v := 24) hF dX7_append_0 rfl ?_
  refine jr_istore_n (lv' := [(0, .ref (lt_z X + o)), (1, .int x1), (2, .int 24)]) hF dX7_append_2 rfl (by decide) [1, 2, 0] rfl ?_
  exact jb_X7_append_3 hT h0 hF hE lt_fu _ _ _ hf
def f_X7_append (σ : lt_S) (o : Nat) (x1 : Int32) (w : lt_W) : Option lt_W := fb_X7_append_0 σ o x1 w
set_option maxRecDepth 100000 in
theorem c_X7_append {l : Launch} {D : va_G} {gA : Nat → ClassId} {s0 : State} {σ : lt_S} (hT : lt_Wt σ) {o : Nat} (h0 : lt_c σ o = 7) {x1 : Int32} {w : lt_W} {r : lt_W} (hf : f_X7_append σ o x1 w = some r) : lt_C l D gA s0 yX7_append cX7_append 3 none (lt_rm 1) [.ref (s0.heap.size + o), .int x1] σ w σ none r := by
  refine lt_enter rfl (Nat.le_of_ble_eq_true rfl) (fun X e1 e2 e3 e4 hF hE => ?_)
  subst e1 e2 e3 e4
  exact jb_X7_append_0 hT h0 hF hE _ _ hf
