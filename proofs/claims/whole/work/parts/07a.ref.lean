set_option maxRecDepth 100000 in
def fb_X12_byteAt_0 (σ : lt_S) (o : Nat) (w : lt_W) (x1 : Int32) : Option Int32 := if (lt_gi w o 11) ≤ x1 then some (-1) else lt_ck x1 (lt_len σ (lt_r σ o 9)) (some ((lt_gi w (lt_r σ o 9) x1.toNatClampNeg) &&& 255))
set_option maxHeartbeats 4000000 in
set_option maxRecDepth 100000 in
theorem jb_X12_byteAt_0 {X : lt_X} {σ : lt_S} (hT : lt_Wt σ) {o : Nat} (h0 : lt_c σ o = 12) {r : Int32} {w : lt_W} (hF : lt_F X cX12_byteAt RX12 2 (lt_rm 1)) (hE : lt_E X 0 0 σ (some .int) (some (.int r)) w) : ∀ (x1 : Int32), fb_X12_byteAt_0 σ o w x1 = some r → lt_J X 0 0 σ w 0 [(0, .ref (lt_z X + o)), (1, .int x1)] [] := by
  intro x1 hf
  unfold fb_X12_byteAt_0 at hf
  refine jr_iload_n hF dX12_byteAt_0 1 rfl rfl ?_
  refine jr_aload_n hF dX12_byteAt_1 0 rfl rfl ?_
  refine jr_getI hF gf_X12_127 h0 dX12_byteAt_2 ?_
  refine jr_icmp_ge (tgt := 21) hF dX12_byteAt_5 rfl hf (fun hf => ?_) (fun hf => ?_)
  · refine jr_iconst (v := (-1)) hF dX12_byteAt_21 rfl ?_
    obtain rfl := Option.some.inj hf
    exact jr_ireturn hF hE dX12_byteAt_22
  · refine jr_aload_n hF dX12_byteAt_8 0 rfl rfl ?_
    refine jr_getRT (cr := 52) hF gf_X12_34 hT h0 rfl rfl dX12_byteAt_9 (fun th1 => ?_)
    refine jr_iload_n hF dX12_byteAt_12 1 rfl rfl ?_
    refine jr_baloadB hF th1 dX12_byteAt_13 hf (fun hf => ?_)
    refine jr_sipush (v := 255) hF dX12_byteAt_14 rfl ?_
    refine jr_iand hF dX12_byteAt_17 ?_
    refine jr_goto (tgt := 22) hF dX12_byteAt_18 rfl ?_
    obtain rfl := Option.some.inj hf
    exact jr_ireturn hF hE dX12_byteAt_22
def f_X12_byteAt (σ : lt_S) (o : Nat) (x1 : Int32) (w : lt_W) : Option Int32 := fb_X12_byteAt_0 σ o w x1
set_option maxRecDepth 100000 in
theorem c_X12_byteAt {l : Launch} {D : va_G} {gA : Nat → ClassId} {s0 : State} {σ : lt_S} (hT : lt_Wt σ) {o : Nat} (h0 : lt_c σ o = 12) {x1 : Int32} {w : lt_W} {r : Int32} (hf : f_X12_byteAt σ o x1 w = some r) : lt_C l D gA s0 yX12_byteAt cX12_byteAt 2 (some .int) (lt_rm 1) [.ref (s0.heap.size + o), .int x1] σ w σ (some (.int r)) w := by
  refine lt_enter rfl (Nat.le_of_ble_eq_true rfl) (fun X e1 e2 e3 e4 hF hE => ?_)
  subst e1 e2 e3 e4
  exact jb_X12_byteAt_0 hT h0 hF hE _ hf

set_option maxRecDepth 100000 in
def fb_X12_isSmall_0 (x0 : Int32) : Option Int32 := if x0 < 97 then some 0 else if 122 < x0 then some 0 else some 1
set_option maxHeartbeats 4000000 in
set_option maxRecDepth 100000 in
theorem jb_X12_isSmall_0 {X : lt_X} {σ : lt_S} {r : Int32} {w : lt_W} (hF : lt_F X cX12_isSmall RX12 1 (lt_rm 1)) (hE : lt_E X 0 0 σ (some .boolean) (some (.int r)) w) : ∀ (x0 : Int32), fb_X12_isSmall_0 x0 = some r → lt_J X 0 0 σ w 0 [(0, .int x0)] [] := by
  intro x0 hf
  unfold fb_X12_isSmall_0 at hf
  refine jr_iload_n hF dX12_isSmall_0 0 rfl rfl ?_
  refine jr_bipush (v := 97) hF dX12_isSmall_1 rfl ?_
  refine jr_icmp_lt (tgt := 16) hF dX12_isSmall_3 rfl hf (fun hf => ?_) (fun hf => ?_)
  · refine jr_iconst (v := 0) hF dX12_isSmall_16 rfl ?_
    obtain rfl := Option.some.inj hf
    exact jr_zreturn hF hE (Or.inl rfl) dX12_isSmall_17
  · refine jr_iload_n hF dX12_isSmall_6 0 rfl rfl ?_
    refine jr_bipush (v := 122) hF dX12_isSmall_7 rfl ?_
    refine jr_icmp_gt (tgt := 16) hF dX12_isSmall_9 rfl hf (fun hf => ?_) (fun hf => ?_)
    · refine jr_iconst (v := 0) hF dX12_isSmall_16 rfl ?_
      obtain rfl := Option.some.inj hf
      exact jr_zreturn hF hE (Or.inl rfl) dX12_isSmall_17
    · refine jr_iconst (v := 1) hF dX12_isSmall_12 rfl ?_
      refine jr_goto (tgt := 17) hF dX12_isSmall_13 rfl ?_
      obtain rfl := Option.some.inj hf
      exact jr_zreturn hF hE (Or.inr rfl) dX12_isSmall_17
def f_X12_isSmall (x0 : Int32) : Option Int32 := fb_X12_isSmall_0 x0
set_option maxRecDepth 100000 in
theorem c_X12_isSmall {l : Launch} {D : va_G} {gA : Nat → ClassId} {s0 : State} {σ : lt_S} {x0 : Int32} {w : lt_W} {r : Int32} (hf : f_X12_isSmall x0 = some r) : lt_C l D gA s0 yX12_isSmall cX12_isSmall 1 (some .boolean) (lt_rm 1) [.int x0] σ w σ (some (.int r)) w := by
  refine lt_enter rfl (Nat.le_of_ble_eq_true rfl) (fun X e1 e2 e3 e4 hF hE => ?_)
  subst e1 e2 e3 e4
  exact jb_X12_isSmall_0 hF hE _ hf

set_option maxRecDepth 100000 in
def fb_X12_isDigit_0 (x0 : Int32) : Option Int32 := if x0 < 48 then some 0 else if 57 < x0 then some 0 else some 1
set_option maxHeartbeats 4000000 in
set_option maxRecDepth 100000 in
theorem jb_X12_isDigit_0 {X : lt_X} {σ : lt_S} {r : Int32} {w : lt_W} (hF : lt_F X cX12_isDigit RX12 1 (lt_rm 1)) (hE : lt_E X 0 0 σ (some .boolean) (some (.int r)) w) : ∀ (x0 : Int32), fb_X12_isDigit_0 x0 = some r → lt_J X 0 0 σ w 0 [(0, .int x0)] [] := by
  intro x0 hf
  unfold fb_X12_isDigit_0 at hf
  refine jr_iload_n hF dX12_isDigit_0 0 rfl rfl ?_
  refine jr_bipush (v := 48) hF dX12_isDigit_1 rfl ?_
  refine jr_icmp_lt (tgt := 16) hF dX12_isDigit_3 rfl hf (fun hf => ?_) (fun hf => ?_)
  · refine jr_iconst (v := 0) hF dX12_isDigit_16 rfl ?_
    obtain rfl := Option.some.inj hf
    exact jr_zreturn hF hE (Or.inl rfl) dX12_isDigit_17
  · refine jr_iload_n hF dX12_isDigit_6 0 rfl rfl ?_
    refine jr_bipush (v := 57) hF dX12_isDigit_7 rfl ?_
    refine jr_icmp_gt (tgt := 16) hF dX12_isDigit_9 rfl hf (fun hf => ?_) (fun hf => ?_)
    · refine jr_iconst (v := 0) hF dX12_isDigit_16 rfl ?_
      obtain rfl := Option.some.inj hf
      exact jr_zreturn hF hE (Or.inl rfl) dX12_isDigit_17
    · refine jr_iconst (v := 1) hF dX12_isDigit_12 rfl ?_
      refine jr_goto (tgt := 17) hF dX12_isDigit_13 rfl ?_
      obtain rfl := Option.some.inj hf
      exact jr_zreturn hF hE (Or.inr rfl) dX12_isDigit_17
def f_X12_isDigit (x0 : Int32) : Option Int32 := fb_X12_isDigit_0 x0
set_option maxRecDepth 100000 in
theorem c_X12_isDigit {l : Launch} {D : va_G} {gA : Nat → ClassId} {s0 : State} {σ : lt_S} {x0 : Int32} {w : lt_W} {r : Int32} (hf : f_X12_isDigit x0 = some r) : lt_C l D gA s0 yX12_isDigit cX12_isDigit 1 (some .boolean) (lt_rm 1) [.int x0] σ w σ (some (.int r)) w := by
  refine lt_enter rfl (Nat.le_of_ble_eq_true rfl) (fun X e1 e2 e3 e4 hF hE => ?_)
  subst e1 e2 e3 e4
  exact jb_X12_isDigit_0 hF hE _ hf

set_option maxRecDepth 100000 in
def fb_X12_ahead_26 (σ : lt_S) (o : Nat) (k0 : lt_W → Option lt_W) (w : lt_W) : Option lt_W := lt_let (lt_si w o 14 ((lt_gi w o 14) + 1)) (fun w1 => k0 w1)
set_option maxHeartbeats 4000000 in
set_option maxRecDepth 100000 in
theorem jb_X12_ahead_26 {X : lt_X} {σ : lt_S} (hT : lt_Wt σ) {o : Nat} (h0 : lt_c σ o = 12) {r : lt_W} {k0 : lt_W → Option lt_W} (hF : lt_F X cX12_ahead RX12 2 (lt_rm 2)) (hE : lt_E X 0 0 σ none none r) (hk0 : ∀ (w : lt_W), k0  w = some r → lt_J X 0 0 σ w 0 [(0, .ref (lt_z X + o))] []) : ∀ (w : lt_W), fb_X12_ahead_26 σ o k0 w = some r → lt_J X 0 0 σ w 26 [(0, .ref (lt_z X + o))] [] := by
  intro w hf
  unfold fb_X12_ahead_26 at hf
  refine jr_aload_n hF dX12_ahead_26 0 rfl rfl ?_
  refine jr_dup hF dX12_ahead_27 rfl ?_
  refine jr_getI hF gf_X12_130 h0 dX12_ahead_28 ?_
  refine jr_iconst (v := 1) hF dX12_ahead_31 rfl ?_
  refine jr_iadd hF dX12_ahead_32 ?_
  refine jr_putI hF pf_X12_130 h0 dX12_ahead_33 ?_
  refine jr_letW hf (fun w1 hf => ?_)
  refine jr_goto (tgt := 0) hF dX12_ahead_36 rfl ?_
  exact hk0 _ hf
set_option maxRecDepth 100000 in
def fb_X12_ahead_81 (σ : lt_S) (o : Nat) : Nat → lt_W → Option lt_W
  | 0, _ => none
  | n + 1, w => Option.bind (f_X12_byteAt σ o (lt_gi w o 14) w) (fun q1 => Option.bind (f_X12_isSmall q1) (fun q2 => if q2 = 0 then lt_let (lt_si w o 12 2) (fun w3 => some w3) else lt_let (lt_si w o 14 ((lt_gi w o 14) + 1)) (fun w4 => fb_X12_ahead_81 σ o n w4)))
set_option maxHeartbeats 4000000 in
set_option maxRecDepth 100000 in
theorem jb_X12_ahead_81 {X : lt_X} {σ : lt_S} (hT : lt_Wt σ) {o : Nat} (h0 : lt_c σ o = 12) {r : lt_W} (hF : lt_F X cX12_ahead RX12 2 (lt_rm 2)) (hE : lt_E X 0 0 σ none none r) (n : Nat) : ∀ (w : lt_W), fb_X12_ahead_81 σ o n w = some r → lt_J X 0 0 σ w 81 [(0, .ref (lt_z X + o))] [] := by
  induction n with
  | zero => intro w hf; rw [fb_X12_ahead_81] at hf; cases hf
  | succ n ih =>
    intro w hf
    rw [fb_X12_ahead_81] at hf
    refine jr_aload_n hF dX12_ahead_81 0 rfl rfl ?_
    refine jr_aload_n hF dX12_ahead_82 0 rfl rfl ?_
    refine jr_getI hF gf_X12_130 h0 dX12_ahead_83 ?_
    obtain ⟨q1, hq1, hf⟩ := Option.bind_eq_some_iff.mp hf
    refine jr_cV11 hF ml_X12_133 (c_X12_byteAt hT h0 hq1) h0 ⟨Nat.le_of_ble_eq_true rfl, Nat.le_of_ble_eq_true rfl⟩ (Nat.le_of_ble_eq_true rfl) dX12_ahead_86 ?_
    obtain ⟨q2, hq2, hf⟩ := Option.bind_eq_some_iff.mp hf
    refine jr_cS11 hF ml_X12_145 (c_X12_isSmall hq2) ⟨Nat.le_of_ble_eq_true rfl, Nat.le_of_ble_eq_true rfl⟩ (Nat.le_of_ble_eq_true rfl) dX12_ahead_89 ?_
    refine jr_if_eq (tgt := 108) hF dX12_ahead_92 rfl hf (fun hf => ?_) (fun hf => ?_)
    · refine jr_aload_n hF dX12_ahead_108 0 rfl rfl ?_
      refine jr_iconst (v := 2) hF dX12_ahead_109 rfl ?_
      refine jr_putI hF pf_X12_142 h0 dX12_ahead_110 ?_
      refine jr_letW hf (fun w3 hf => ?_)
      refine jr_goto (tgt := 251) hF dX12_ahead_113 rfl ?_
      obtain rfl := Option.some.inj hf
      exact jr_return hF hE dX12_ahead_251
    · refine jr_aload_n hF dX12_ahead_95 0 rfl rfl ?_
      refine jr_dup hF dX12_ahead_96 rfl ?_
      refine jr_getI hF gf_X12_130 h0 dX12_ahead_97 ?_
      refine jr_iconst (v := 1) hF dX12_ahead_100 rfl ?_
      refine jr_iadd hF dX12_ahead_101 ?_
      refine jr_putI hF pf_X12_130 h0 dX12_ahead_102 ?_
      refine jr_letW hf (fun w4 hf => ?_)
      refine jr_goto (tgt := 81) hF dX12_ahead_105 rfl ?_
      exact ih _ hf
set_option maxRecDepth 100000 in
def fb_X12_ahead_202 (σ : lt_S) (o : Nat) (y1 : Int32) (w : lt_W) : Option lt_W := lt_let (lt_si w o 12 y1) (fun w1 => some w1)
set_option maxHeartbeats 4000000 in
set_option maxRecDepth 100000 in
theorem jb_X12_ahead_202 {X : lt_X} {σ : lt_S} (hT : lt_Wt σ) {o : Nat} (h0 : lt_c σ o = 12) {r : lt_W} (hF : lt_F X cX12_ahead RX12 2 (lt_rm 2)) (hE : lt_E X 0 0 σ none none r) : ∀ (y1 : Int32) (w : lt_W), fb_X12_ahead_202 σ o y1 w = some r → lt_J X 0 0 σ w 202 [(0, .ref (lt_z X + o))] [.int y1, .ref (lt_z X + o)] := by
  intro y1 w hf
  unfold fb_X12_ahead_202 at hf
  refine jr_putI hF pf_X12_142 h0 dX12_ahead_202 ?_
  refine jr_letW hf (fun w1 hf => ?_)
  refine jr_goto (tgt := 251) hF dX12_ahead_205 rfl ?_
  obtain rfl := Option.some.inj hf
  exact jr_return hF hE dX12_ahead_251
set_option maxRecDepth 100000 in
def fb_X12_ahead_128 (σ : lt_S) (o : Nat) : Nat → lt_W → Option lt_W
  | 0, _ => none
  | n + 1, w => Option.bind (f_X12_byteAt σ o (lt_gi w o 14) w) (fun q1 => Option.bind (f_X12_isDigit q1) (fun q2 => if q2 = 0 then if ((lt_gi w o 14) - (lt_gi w o 13)) ≤ 4 then fb_X12_ahead_202 σ o 3 w else fb_X12_ahead_202 σ o 1 w else Option.bind (f_X12_byteAt σ o (lt_gi w o 14) w) (fun q3 => lt_let (lt_si w o 15 (lt_min 100000 (((10 * (lt_gi w o 15)) + q3) - 48))) (fun w4 => lt_let (lt_si w4 o 14 ((lt_gi w4 o 14) + 1)) (fun w5 => fb_X12_ahead_128 σ o n w5)))))
set_option maxHeartbeats 4000000 in
set_option maxRecDepth 100000 in
theorem jb_X12_ahead_128 {X : lt_X} {σ : lt_S} (hT : lt_Wt σ) {o : Nat} (h0 : lt_c σ o = 12) {r : lt_W} (hF : lt_F X cX12_ahead RX12 2 (lt_rm 2)) (hE : lt_E X 0 0 σ none none r) (n : Nat) : ∀ (w : lt_W), fb_X12_ahead_128 σ o n w = some r → lt_J X 0 0 σ w 128 [(0, .ref (lt_z X + o))] [] := by
  induction n with
  | zero => intro w hf; rw [fb_X12_ahead_128] at hf; cases hf
  | succ n ih =>
    intro w hf
    rw [fb_X12_ahead_128] at hf
    refine jr_aload_n hF dX12_ahead_128 0 rfl rfl ?_
    refine jr_aload_n hF dX12_ahead_129 0 rfl rfl ?_
    refine jr_getI hF gf_X12_130 h0 dX12_ahead_130 ?_
    obtain ⟨q1, hq1, hf⟩ := Option.bind_eq_some_iff.mp hf
    refine jr_cV11 hF ml_X12_133 (c_X12_byteAt hT h0 hq1) h0 ⟨Nat.le_of_ble_eq_true rfl, Nat.le_of_ble_eq_true rfl⟩ (Nat.le_of_ble_eq_true rfl) dX12_ahead_133 ?_
    obtain ⟨q2, hq2, hf⟩ := Option.bind_eq_some_iff.mp hf
    refine jr_cS11 hF ml_X12_148 (c_X12_isDigit hq2) ⟨Nat.le_of_ble_eq_true rfl, Nat.le_of_ble_eq_true rfl⟩ (Nat.le_of_ble_eq_true rfl) dX12_ahead_136 ?_
    refine jr_if_eq (tgt := 183) hF dX12_ahead_139 rfl hf (fun hf => ?_) (fun hf => ?_)
    · refine jr_aload_n hF dX12_ahead_183 0 rfl rfl ?_
      refine jr_aload_n hF dX12_ahead_184 0 rfl rfl ?_
      refine jr_getI hF gf_X12_130 h0 dX12_ahead_185 ?_
      refine jr_aload_n hF dX12_ahead_188 0 rfl rfl ?_
      refine jr_getI hF gf_X12_136 h0 dX12_ahead_189 ?_
      refine jr_isub hF dX12_ahead_192 ?_
      refine jr_iconst (v := 4) hF dX12_ahead_193 rfl ?_
      refine jr_icmp_le (tgt := 201) hF dX12_ahead_194 rfl hf (fun hf => ?_) (fun hf => ?_)
      · refine jr_iconst (v := 3) hF dX12_ahead_201 rfl ?_
        exact jb_X12_ahead_202 hT h0 hF hE _ _ hf
      · refine jr_iconst (v := 1) hF dX12_ahead_197 rfl ?_
        refine jr_goto (tgt := 202) hF dX12_ahead_198 rfl ?_
        exact jb_X12_ahead_202 hT h0 hF hE _ _ hf
    · refine jr_aload_n hF dX12_ahead_142 0 rfl rfl ?_
      refine jr_ldc (v := 100000) hF dX12_ahead_143 kc_X12_151 ?_
      refine jr_bipush (v := 10) hF dX12_ahead_145 rfl ?_
      refine jr_aload_n hF dX12_ahead_147 0 rfl rfl ?_
      refine jr_getI hF gf_X12_139 h0 dX12_ahead_148 ?_
      refine jr_imul hF dX12_ahead_151 ?_
      refine jr_aload_n hF dX12_ahead_152 0 rfl rfl ?_
      refine jr_aload_n hF dX12_ahead_153 0 rfl rfl ?_
      refine jr_getI hF gf_X12_130 h0 dX12_ahead_154 ?_
      obtain ⟨q3, hq3, hf⟩ := Option.bind_eq_some_iff.mp hf
      refine jr_cV11 hF ml_X12_133 (c_X12_byteAt hT h0 hq3) h0 ⟨Nat.le_of_ble_eq_true rfl, Nat.le_of_ble_eq_true rfl⟩ (Nat.le_of_ble_eq_true rfl) dX12_ahead_157 ?_
      refine jr_iadd hF dX12_ahead_160 ?_
      refine jr_bipush (v := 48) hF dX12_ahead_161 rfl ?_
      refine jr_isub hF dX12_ahead_163 ?_
      refine jr_min hF mm_X12_152 ⟨Nat.le_of_ble_eq_true rfl, Nat.le_of_ble_eq_true rfl, Nat.zero_le _, Nat.zero_le _⟩ dX12_ahead_164 ?_
      refine jr_putI hF pf_X12_139 h0 dX12_ahead_167 ?_
      refine jr_letW hf (fun w4 hf => ?_)
      refine jr_aload_n hF dX12_ahead_170 0 rfl rfl ?_
      refine jr_dup hF dX12_ahead_171 rfl ?_
      refine jr_getI hF gf_X12_130 h0 dX12_ahead_172 ?_
      refine jr_iconst (v := 1) hF dX12_ahead_175 rfl ?_
      refine jr_iadd hF dX12_ahead_176 ?_
      refine jr_putI hF pf_X12_130 h0 dX12_ahead_177 ?_
      refine jr_letW hf (fun w5 hf => ?_)
      refine jr_goto (tgt := 128) hF dX12_ahead_180 rfl ?_
      exact ih _ hf
set_option maxRecDepth 100000 in
def fb_X12_ahead_248 (σ : lt_S) (o : Nat) (y1 : Int32) (w : lt_W) : Option lt_W := lt_let (lt_si w o 12 y1) (fun w1 => some w1)
set_option maxHeartbeats 4000000 in
set_option maxRecDepth 100000 in
theorem jb_X12_ahead_248 {X : lt_X} {σ : lt_S} (hT : lt_Wt σ) {o : Nat} (h0 : lt_c σ o = 12) {r : lt_W} (hF : lt_F X cX12_ahead RX12 2 (lt_rm 2)) (hE : lt_E X 0 0 σ none none r) : ∀ (y1 : Int32) (w : lt_W), fb_X12_ahead_248 σ o y1 w = some r → lt_J X 0 0 σ w 248 [(0, .ref (lt_z X + o))] [.int y1, .ref (lt_z X + o)] := by
  intro y1 w hf
  unfold fb_X12_ahead_248 at hf
  refine jr_putI hF pf_X12_142 h0 dX12_ahead_248 ?_
  refine jr_letW hf (fun w1 hf => ?_)
  obtain rfl := Option.some.inj hf
  exact jr_return hF hE dX12_ahead_251
set_option maxRecDepth 100000 in
def fb_X12_ahead_0 (σ : lt_S) (o : Nat) : Nat → lt_W → Option lt_W
  | 0, _ => none
  | n + 1, w => Option.bind (f_X12_byteAt σ o (lt_gi w o 14) w) (fun q1 => if q1 = 32 then fb_X12_ahead_26 σ o (fun  w => fb_X12_ahead_0 σ o n  w) w else Option.bind (f_X12_byteAt σ o (lt_gi w o 14) w) (fun q2 => if q2 = 10 then fb_X12_ahead_26 σ o (fun  w => fb_X12_ahead_0 σ o n  w) w else lt_let (lt_si w o 13 (lt_gi w o 14)) (fun w3 => Option.bind (f_X12_byteAt σ o (lt_gi w3 o 14) w3) (fun q4 => lt_let (lt_si w3 o 15 q4) (fun w5 => if q4 = (-1) then lt_let (lt_si w5 o 12 0) (fun w10 => some w10) else Option.bind (f_X12_isSmall q4) (fun q6 => if q6 = 0 then Option.bind (f_X12_isDigit q4) (fun q7 => if q7 = 0 then lt_let (lt_si w5 o 14 ((lt_gi w5 o 14) + 1)) (fun w8 => if q4 = 59 then fb_X12_ahead_248 σ o 4 w8 else if q4 = 60 then fb_X12_ahead_248 σ o 4 w8 else if q4 = 62 then fb_X12_ahead_248 σ o 4 w8 else if q4 = 61 then fb_X12_ahead_248 σ o 4 w8 else fb_X12_ahead_248 σ o 1 w8) else lt_let (lt_si w5 o 15 0) (fun w9 => fb_X12_ahead_128 σ o lt_fu w9)) else fb_X12_ahead_81 σ o lt_fu w5))))))
set_option maxHeartbeats 4000000 in
set_option maxRecDepth 100000 in
theorem jb_X12_ahead_0 {X : lt_X} {σ : lt_S} (hT : lt_Wt σ) {o : Nat} (h0 : lt_c σ o = 12) {r : lt_W} (hF : lt_F X cX12_ahead RX12 2 (lt_rm 2)) (hE : lt_E X 0 0 σ none none r) (n : Nat) : ∀ (w : lt_W), fb_X12_ahead_0 σ o n w = some r → lt_J X 0 0 σ w 0 [(0, .ref (lt_z X + o))] [] := by
  induction n with
  | zero => intro w hf; rw [fb_X12_ahead_0] at hf; cases hf
  | succ n ih =>
    intro w hf
    rw [fb_X12_ahead_0] at hf
    refine jr_aload_n hF dX12_ahead_0 0 rfl rfl ?_
    refine jr_aload_n hF dX12_ahead_1 0 rfl rfl ?_
    refine jr_getI hF gf_X12_130 h0 dX12_ahead_2 ?_
    obtain ⟨q1, hq1, hf⟩ := Option.bind_eq_some_iff.mp hf
    refine jr_cV11 hF ml_X12_133 (c_X12_byteAt hT h0 hq1) h0 ⟨Nat.le_of_ble_eq_true rfl, Nat.le_of_ble_eq_true rfl⟩ (Nat.le_of_ble_eq_true rfl) dX12_ahead_5 ?_
    refine jr_bipush (v := 32) hF dX12_ahead_8 rfl ?_
    refine jr_icmp_eq (tgt := 26) hF dX12_ahead_10 rfl hf (fun hf => ?_) (fun hf => ?_)
    · exact jb_X12_ahead_26 hT h0 hF hE ih _ hf
    · refine jr_aload_n hF dX12_ahead_13 0 rfl rfl ?_
      refine jr_aload_n hF dX12_ahead_14 0 rfl rfl ?_
      refine jr_getI hF gf_X12_130 h0 dX12_ahead_15 ?_
      obtain ⟨q2, hq2, hf⟩ := Option.bind_eq_some_iff.mp hf
      refine jr_cV11 hF ml_X12_133 (c_X12_byteAt hT h0 hq2) h0 ⟨Nat.le_of_ble_eq_true rfl, Nat.le_of_ble_eq_true rfl⟩ (Nat.le_of_ble_eq_true rfl) dX12_ahead_18 ?_
      refine jr_bipush (v := 10) hF dX12_ahead_21 rfl ?_
      refine jr_icmp_ne (tgt := 39) hF dX12_ahead_23 rfl hf (fun hf => ?_) (fun hf => ?_)
      · refine jr_aload_n hF dX12_ahead_39 0 rfl rfl ?_
        refine jr_aload_n hF dX12_ahead_40 0 rfl rfl ?_
        refine jr_getI hF gf_X12_130 h0 dX12_ahead_41 ?_
        refine jr_putI hF pf_X12_136 h0 dX12_ahead_44 ?_
        refine jr_letW hf (fun w3 hf => ?_)
        refine jr_aload_n hF dX12_ahead_47 0 rfl rfl ?_
        refine jr_aload_n hF dX12_ahead_48 0 rfl rfl ?_
        refine jr_getI hF gf_X12_130 h0 dX12_ahead_49 ?_
        obtain ⟨q4, hq4, hf⟩ := Option.bind_eq_some_iff.mp hf
        refine jr_cV11 hF ml_X12_133 (c_X12_byteAt hT h0 hq4) h0 ⟨Nat.le_of_ble_eq_true rfl, Nat.le_of_ble_eq_true rfl⟩ (Nat.le_of_ble_eq_true rfl) dX12_ahead_52 ?_
        refine jr_istore_n (lv' := [(0, .ref (lt_z X + o)), (1, .int q4)]) hF dX12_ahead_55 rfl (by decide) [1, 0] rfl ?_
        refine jr_aload_n hF dX12_ahead_56 0 rfl rfl ?_
        refine jr_iload_n hF dX12_ahead_57 1 rfl rfl ?_
        refine jr_putI hF pf_X12_139 h0 dX12_ahead_58 ?_
        refine jr_letW hf (fun w5 hf => ?_)
        refine jr_iload_n hF dX12_ahead_61 1 rfl rfl ?_
        refine jr_iconst (v := (-1)) hF dX12_ahead_62 rfl ?_
        refine jr_icmp_ne (tgt := 74) hF dX12_ahead_63 rfl hf (fun hf => ?_) (fun hf => ?_)
        · refine jr_iload_n hF dX12_ahead_74 1 rfl rfl ?_
          obtain ⟨q6, hq6, hf⟩ := Option.bind_eq_some_iff.mp hf
          refine jr_cS11 hF ml_X12_145 (c_X12_isSmall hq6) ⟨Nat.le_of_ble_eq_true rfl, Nat.le_of_ble_eq_true rfl⟩ (Nat.le_of_ble_eq_true rfl) dX12_ahead_75 ?_
          refine jr_if_eq (tgt := 116) hF dX12_ahead_78 rfl hf (fun hf => ?_) (fun hf => ?_)
          · refine jr_iload_n hF dX12_ahead_116 1 rfl rfl ?_
            obtain ⟨q7, hq7, hf⟩ := Option.bind_eq_some_iff.mp hf
            refine jr_cS11 hF ml_X12_148 (c_X12_isDigit hq7) ⟨Nat.le_of_ble_eq_true rfl, Nat.le_of_ble_eq_true rfl⟩ (Nat.le_of_ble_eq_true rfl) dX12_ahead_117 ?_
            refine jr_if_eq (tgt := 208) hF dX12_ahead_120 rfl hf (fun hf => ?_) (fun hf => ?_)
            · refine jr_aload_n hF dX12_ahead_208 0 rfl rfl ?_
              refine jr_dup hF dX12_ahead_209 rfl ?_
              refine jr_getI hF gf_X12_130 h0 dX12_ahead_210 ?_
              refine jr_iconst (v := 1) hF dX12_ahead_213 rfl ?_
              refine jr_iadd hF dX12_ahead_214 ?_
              refine jr_putI hF pf_X12_130 h0 dX12_ahead_215 ?_
              refine jr_letW hf (fun w8 hf => ?_)
              refine jr_aload_n hF dX12_ahead_218 0 rfl rfl ?_
              refine jr_iload_n hF dX12_ahead_219 1 rfl rfl ?_
              refine jr_bipush (v := 59) hF dX12_ahead_220 rfl ?_
              refine jr_icmp_eq (tgt := 243) hF dX12_ahead_222 rfl hf (fun hf => ?_) (fun hf => ?_)
              · refine jr_iconst (v := 4) hF dX12_ahead_243 rfl ?_
                refine jr_goto (tgt := 248) hF dX12_ahead_244 rfl ?_
                refine jr_sub [0] rfl ?_
                exact jb_X12_ahead_248 hT h0 hF hE _ _ hf
              · refine jr_iload_n hF dX12_ahead_225 1 rfl rfl ?_
                refine jr_bipush (v := 60) hF dX12_ahead_226 rfl ?_
                refine jr_icmp_eq (tgt := 243) hF dX12_ahead_228 rfl hf (fun hf => ?_) (fun hf => ?_)
                · refine jr_iconst (v := 4) hF dX12_ahead_243 rfl ?_
                  refine jr_goto (tgt := 248) hF dX12_ahead_244 rfl ?_
                  refine jr_sub [0] rfl ?_
                  exact jb_X12_ahead_248 hT h0 hF hE _ _ hf
                · refine jr_iload_n hF dX12_ahead_231 1 rfl rfl ?_
                  refine jr_bipush (v := 62) hF dX12_ahead_232 rfl ?_
                  refine jr_icmp_eq (tgt := 243) hF dX12_ahead_234 rfl hf (fun hf => ?_) (fun hf => ?_)
                  · refine jr_iconst (v := 4) hF dX12_ahead_243 rfl ?_
                    refine jr_goto (tgt := 248) hF dX12_ahead_244 rfl ?_
                    refine jr_sub [0] rfl ?_
                    exact jb_X12_ahead_248 hT h0 hF hE _ _ hf
                  · refine jr_iload_n hF dX12_ahead_237 1 rfl rfl ?_
                    refine jr_bipush (v := 61) hF dX12_ahead_238 rfl ?_
                    refine jr_icmp_ne (tgt := 247) hF dX12_ahead_240 rfl hf (fun hf => ?_) (fun hf => ?_)
                    · refine jr_iconst (v := 1) hF dX12_ahead_247 rfl ?_
                      refine jr_sub [0] rfl ?_
                      exact jb_X12_ahead_248 hT h0 hF hE _ _ hf
                    · refine jr_iconst (v := 4) hF dX12_ahead_243 rfl ?_
                      refine jr_goto (tgt := 248) hF dX12_ahead_244 rfl ?_
                      refine jr_sub [0] rfl ?_
                      exact jb_X12_ahead_248 hT h0 hF hE _ _ hf
            · refine jr_aload_n hF dX12_ahead_123 0 rfl rfl ?_
              refine jr_iconst (v := 0) hF dX12_ahead_124 rfl ?_
              refine jr_putI hF pf_X12_139 h0 dX12_ahead_125 ?_
              refine jr_letW hf (fun w9 hf => ?_)
              refine jr_sub [0] rfl ?_
              exact jb_X12_ahead_128 hT h0 hF hE lt_fu _ hf
          · refine jr_sub [0] rfl ?_
            exact jb_X12_ahead_81 hT h0 hF hE lt_fu _ hf
        · refine jr_aload_n hF dX12_ahead_66 0 rfl rfl ?_
          refine jr_iconst (v := 0) hF dX12_ahead_67 rfl ?_
          refine jr_putI hF pf_X12_142 h0 dX12_ahead_68 ?_
          refine jr_letW hf (fun w10 hf => ?_)
          refine jr_goto (tgt := 251) hF dX12_ahead_71 rfl ?_
          obtain rfl := Option.some.inj hf
          exact jr_return hF hE dX12_ahead_251
      · exact jb_X12_ahead_26 hT h0 hF hE ih _ hf
def f_X12_ahead (σ : lt_S) (o : Nat) (w : lt_W) : Option lt_W := fb_X12_ahead_0 σ o lt_fu w
set_option maxRecDepth 100000 in
theorem c_X12_ahead {l : Launch} {D : va_G} {gA : Nat → ClassId} {s0 : State} {σ : lt_S} (hT : lt_Wt σ) {o : Nat} (h0 : lt_c σ o = 12) {w : lt_W} {r : lt_W} (hf : f_X12_ahead σ o w = some r) : lt_C l D gA s0 yX12_ahead cX12_ahead 2 none (lt_rm 2) [.ref (s0.heap.size + o)] σ w σ none r := by
  refine lt_enter rfl (Nat.le_of_ble_eq_true rfl) (fun X e1 e2 e3 e4 hF hE => ?_)
  subst e1 e2 e3 e4
  exact jb_X12_ahead_0 hT h0 hF hE lt_fu _ hf

set_option maxRecDepth 100000 in
def fb_X12_inWords_115 (σ : lt_S) (o : Nat) (w : lt_W) (k14 : Int32 → Int32 → Option Int32) (x2 : Int32) (x4 : Int32) (x5 : Int32) : Option Int32 := if x5 = 0 then k14 (x2 + 1) (x4 + 1) else some x2
set_option maxHeartbeats 4000000 in
set_option maxRecDepth 100000 in
theorem jb_X12_inWords_115 {X : lt_X} {σ : lt_S} (hT : lt_Wt σ) {o : Nat} (h0 : lt_c σ o = 12) {r : Int32} {w : lt_W} {k14 : Int32 → Int32 → Option Int32} (hF : lt_F X cX12_inWords RX12 7 (lt_rm 7)) (hE : lt_E X 0 0 σ (some .int) (some (.int r)) w) (hk14 : ∀ (x2 : Int32) (x3 : Int32), k14 x2 x3 = some r → lt_J X 0 0 σ w 14 [(0, .ref (lt_z X + o)), (1, .ref (lt_sa (lt_Xs X) 1)), (2, .int x2), (3, .int x3)] []) : ∀ (x2 : Int32) (x4 : Int32) (x5 : Int32), fb_X12_inWords_115 σ o w k14 x2 x4 x5 = some r → lt_J X 0 0 σ w 115 [(0, .ref (lt_z X + o)), (1, .ref (lt_sa (lt_Xs X) 1)), (2, .int x2), (4, .int x4), (5, .int x5)] [] := by
  intro x2 x4 x5 hf
  unfold fb_X12_inWords_115 at hf
  refine jr_iload hF dX12_inWords_115 4 rfl ?_
  refine jr_if_eq (tgt := 122) hF dX12_inWords_117 rfl hf (fun hf => ?_) (fun hf => ?_)
  · refine jr_iinc (v := x2 + 1) (lv' := [(0, .ref (lt_z X + o)), (1, .ref (lt_sa (lt_Xs X) 1)), (2, .int (x2 + 1)), (4, .int x4), (5, .int x5)]) hF dX12_inWords_122 2 rfl rfl (by decide) [1, 2, 0, 3, 4] rfl ?_
    refine jr_iload hF dX12_inWords_125 3 rfl ?_
    refine jr_iconst (v := 1) hF dX12_inWords_127 rfl ?_
    refine jr_iadd hF dX12_inWords_128 ?_
    refine jr_istore_n (lv' := [(0, .ref (lt_z X + o)), (1, .ref (lt_sa (lt_Xs X) 1)), (2, .int (x2 + 1)), (3, .int (x4 + 1))]) hF dX12_inWords_129 rfl (by decide) [1, 2, 3, 0] rfl ?_
    refine jr_goto (tgt := 14) hF dX12_inWords_130 rfl ?_
    exact hk14 _ _ hf
  · refine jr_iload_n hF dX12_inWords_120 2 rfl rfl ?_
    obtain rfl := Option.some.inj hf
    exact jr_ireturn hF hE dX12_inWords_121
set_option maxRecDepth 100000 in
def fb_X12_inWords_68 (σ : lt_S) (o : Nat) (w : lt_W) (k14 : Int32 → Int32 → Option Int32) : Nat → Int32 → Int32 → Int32 → Int32 → Int32 → Option Int32
  | 0, _, _, _, _, _ => none
  | n + 1, x2, x3, x4, x5, x6 => if x4 ≤ x6 then fb_X12_inWords_115 σ o w k14 x2 x4 x5 else if x5 = 0 then fb_X12_inWords_115 σ o w k14 x2 x4 x5 else lt_ck x6 (lt_sm 1) (Option.bind (f_X12_byteAt σ o (((lt_gi w o 13) + x6) - x3) w) (fun q1 => if (lt_sc 1 x6.toNatClampNeg) = q1 then fb_X12_inWords_68 σ o w k14 n x2 x3 x4 1 (x6 + 1) else fb_X12_inWords_68 σ o w k14 n x2 x3 x4 0 (x6 + 1)))
set_option maxHeartbeats 4000000 in
set_option maxRecDepth 100000 in
theorem jb_X12_inWords_68 {X : lt_X} {σ : lt_S} (hT : lt_Wt σ) {o : Nat} (h0 : lt_c σ o = 12) {r : Int32} {w : lt_W} {k14 : Int32 → Int32 → Option Int32} (hF : lt_F X cX12_inWords RX12 7 (lt_rm 7)) (hE : lt_E X 0 0 σ (some .int) (some (.int r)) w) (hk14 : ∀ (x2 : Int32) (x3 : Int32), k14 x2 x3 = some r → lt_J X 0 0 σ w 14 [(0, .ref (lt_z X + o)), (1, .ref (lt_sa (lt_Xs X) 1)), (2, .int x2), (3, .int x3)] []) (n : Nat) : ∀ (x2 : Int32) (x3 : Int32) (x4 : Int32) (x5 : Int32) (x6 : Int32), fb_X12_inWords_68 σ o w k14 n x2 x3 x4 x5 x6 = some r → lt_J X 0 0 σ w 68 [(0, .ref (lt_z X + o)), (1, .ref (lt_sa (lt_Xs X) 1)), (2, .int x2), (3, .int x3), (4, .int x4), (5, .int x5), (6, .int x6)] [] := by
  induction n with
  | zero => intro x2 x3 x4 x5 x6 hf; rw [fb_X12_inWords_68] at hf; cases hf
  | succ n ih =>
    intro x2 x3 x4 x5 x6 hf
    rw [fb_X12_inWords_68] at hf
    refine jr_iload hF dX12_inWords_68 6 rfl ?_
    refine jr_iload hF dX12_inWords_70 4 rfl ?_
    refine jr_icmp_ge (tgt := 115) hF dX12_inWords_72 rfl hf (fun hf => ?_) (fun hf => ?_)
    · refine jr_sub [0, 1, 2, 4, 5] rfl ?_
      exact jb_X12_inWords_115 hT h0 hF hE hk14 _ _ _ hf
    · refine jr_iload hF dX12_inWords_75 5 rfl ?_
      refine jr_if_eq (tgt := 115) hF dX12_inWords_77 rfl hf (fun hf => ?_) (fun hf => ?_)
      · refine jr_sub [0, 1, 2, 4, 5] rfl ?_
        exact jb_X12_inWords_115 hT h0 hF hE hk14 _ _ _ hf
      · refine jr_aload_n hF dX12_inWords_80 1 rfl rfl ?_
        refine jr_iload hF dX12_inWords_81 6 rfl ?_
        refine jr_schar1 hF ⟨Nat.le_of_ble_eq_true rfl, Nat.le_of_ble_eq_true rfl⟩ (Nat.le_of_ble_eq_true rfl) dX12_inWords_83 hf (fun hf => ?_)
        refine jr_aload_n hF dX12_inWords_86 0 rfl rfl ?_
        refine jr_aload_n hF dX12_inWords_87 0 rfl rfl ?_
        refine jr_getI hF gf_X12_136 h0 dX12_inWords_88 ?_
        refine jr_iload hF dX12_inWords_91 6 rfl ?_
        refine jr_iadd hF dX12_inWords_93 ?_
        refine jr_iload_n hF dX12_inWords_94 3 rfl rfl ?_
        refine jr_isub hF dX12_inWords_95 ?_
        obtain ⟨q1, hq1, hf⟩ := Option.bind_eq_some_iff.mp hf
        refine jr_cV11 hF ml_X12_133 (c_X12_byteAt hT h0 hq1) h0 ⟨Nat.le_of_ble_eq_true rfl, Nat.le_of_ble_eq_true rfl⟩ (Nat.le_of_ble_eq_true rfl) dX12_inWords_96 ?_
        refine jr_icmp_ne (tgt := 106) hF dX12_inWords_99 rfl hf (fun hf => ?_) (fun hf => ?_)
        · refine jr_iconst (v := 0) hF dX12_inWords_106 rfl ?_
          refine jr_istore (lv' := [(0, .ref (lt_z X + o)), (1, .ref (lt_sa (lt_Xs X) 1)), (2, .int x2), (3, .int x3), (4, .int x4), (5, .int 0), (6, .int x6)]) hF dX12_inWords_107 (by decide) [1, 2, 3, 4, 5, 0, 6] rfl ?_
          refine jr_iinc (v := x6 + 1) (lv' := [(0, .ref (lt_z X + o)), (1, .ref (lt_sa (lt_Xs X) 1)), (2, .int x2), (3, .int x3), (4, .int x4), (5, .int 0), (6, .int (x6 + 1))]) hF dX12_inWords_109 6 rfl rfl (by decide) [1, 2, 3, 4, 5, 6, 0] rfl ?_
          refine jr_goto (tgt := 68) hF dX12_inWords_112 rfl ?_
          exact ih _ _ _ _ _ hf
        · refine jr_iconst (v := 1) hF dX12_inWords_102 rfl ?_
          refine jr_goto (tgt := 107) hF dX12_inWords_103 rfl ?_
          refine jr_istore (lv' := [(0, .ref (lt_z X + o)), (1, .ref (lt_sa (lt_Xs X) 1)), (2, .int x2), (3, .int x3), (4, .int x4), (5, .int 1), (6, .int x6)]) hF dX12_inWords_107 (by decide) [1, 2, 3, 4, 5, 0, 6] rfl ?_
          refine jr_iinc (v := x6 + 1) (lv' := [(0, .ref (lt_z X + o)), (1, .ref (lt_sa (lt_Xs X) 1)), (2, .int x2), (3, .int x3), (4, .int x4), (5, .int 1), (6, .int (x6 + 1))]) hF dX12_inWords_109 6 rfl rfl (by decide) [1, 2, 3, 4, 5, 6, 0] rfl ?_
          refine jr_goto (tgt := 68) hF dX12_inWords_112 rfl ?_
          exact ih _ _ _ _ _ hf
set_option maxRecDepth 100000 in
def fb_X12_inWords_25 (σ : lt_S) (o : Nat) (w : lt_W) (k14 : Int32 → Int32 → Option Int32) : Nat → Int32 → Int32 → Int32 → Option Int32
  | 0, _, _, _ => none
  | n + 1, x2, x3, x4 => lt_ck x4 (lt_sm 1) (if (lt_sc 1 x4.toNatClampNeg) = 32 then if (x4 - x3) = ((lt_gi w o 14) - (lt_gi w o 13)) then fb_X12_inWords_68 σ o w k14 lt_fu x2 x3 x4 1 x3 else fb_X12_inWords_68 σ o w k14 lt_fu x2 x3 x4 0 x3 else fb_X12_inWords_25 σ o w k14 n x2 x3 (x4 + 1))
set_option maxHeartbeats 4000000 in
set_option maxRecDepth 100000 in
theorem jb_X12_inWords_25 {X : lt_X} {σ : lt_S} (hT : lt_Wt σ) {o : Nat} (h0 : lt_c σ o = 12) {r : Int32} {w : lt_W} {k14 : Int32 → Int32 → Option Int32} (hF : lt_F X cX12_inWords RX12 7 (lt_rm 7)) (hE : lt_E X 0 0 σ (some .int) (some (.int r)) w) (hk14 : ∀ (x2 : Int32) (x3 : Int32), k14 x2 x3 = some r → lt_J X 0 0 σ w 14 [(0, .ref (lt_z X + o)), (1, .ref (lt_sa (lt_Xs X) 1)), (2, .int x2), (3, .int x3)] []) (n : Nat) : ∀ (x2 : Int32) (x3 : Int32) (x4 : Int32), fb_X12_inWords_25 σ o w k14 n x2 x3 x4 = some r → lt_J X 0 0 σ w 25 [(0, .ref (lt_z X + o)), (1, .ref (lt_sa (lt_Xs X) 1)), (2, .int x2), (3, .int x3), (4, .int x4)] [] := by
  induction n with
  | zero => intro x2 x3 x4 hf; rw [fb_X12_inWords_25] at hf; cases hf
  | succ n ih =>
    intro x2 x3 x4 hf
    rw [fb_X12_inWords_25] at hf
    refine jr_aload_n hF dX12_inWords_25 1 rfl rfl ?_
    refine jr_iload hF dX12_inWords_26 4 rfl ?_
    refine jr_schar1 hF ⟨Nat.le_of_ble_eq_true rfl, Nat.le_of_ble_eq_true rfl⟩ (Nat.le_of_ble_eq_true rfl) dX12_inWords_28 hf (fun hf => ?_)
    refine jr_bipush (v := 32) hF dX12_inWords_31 rfl ?_
    refine jr_icmp_eq (tgt := 42) hF dX12_inWords_33 rfl hf (fun hf => ?_) (fun hf => ?_)
    · refine jr_iload hF dX12_inWords_42 4 rfl ?_
      refine jr_iload_n hF dX12_inWords_44 3 rfl rfl ?_
      refine jr_isub hF dX12_inWords_45 ?_
      refine jr_aload_n hF dX12_inWords_46 0 rfl rfl ?_
      refine jr_getI hF gf_X12_130 h0 dX12_inWords_47 ?_
      refine jr_aload_n hF dX12_inWords_50 0 rfl rfl ?_
      refine jr_getI hF gf_X12_136 h0 dX12_inWords_51 ?_
      refine jr_isub hF dX12_inWords_54 ?_
      refine jr_icmp_ne (tgt := 62) hF dX12_inWords_55 rfl hf (fun hf => ?_) (fun hf => ?_)
      · refine jr_iconst (v := 0) hF dX12_inWords_62 rfl ?_
        refine jr_istore (lv' := [(0, .ref (lt_z X + o)), (1, .ref (lt_sa (lt_Xs X) 1)), (2, .int x2), (3, .int x3), (4, .int x4), (5, .int 0)]) hF dX12_inWords_63 (by decide) [1, 2, 3, 4, 5, 0] rfl ?_
        refine jr_iload_n hF dX12_inWords_65 3 rfl rfl ?_
        refine jr_istore (lv' := [(0, .ref (lt_z X + o)), (1, .ref (lt_sa (lt_Xs X) 1)), (2, .int x2), (3, .int x3), (4, .int x4), (5, .int 0), (6, .int x3)]) hF dX12_inWords_66 (by decide) [1, 2, 3, 4, 5, 6, 0] rfl ?_
        exact jb_X12_inWords_68 hT h0 hF hE hk14 lt_fu _ _ _ _ _ hf
      · refine jr_iconst (v := 1) hF dX12_inWords_58 rfl ?_
        refine jr_goto (tgt := 63) hF dX12_inWords_59 rfl ?_
        refine jr_istore (lv' := [(0, .ref (lt_z X + o)), (1, .ref (lt_sa (lt_Xs X) 1)), (2, .int x2), (3, .int x3), (4, .int x4), (5, .int 1)]) hF dX12_inWords_63 (by decide) [1, 2, 3, 4, 5, 0] rfl ?_
        refine jr_iload_n hF dX12_inWords_65 3 rfl rfl ?_
        refine jr_istore (lv' := [(0, .ref (lt_z X + o)), (1, .ref (lt_sa (lt_Xs X) 1)), (2, .int x2), (3, .int x3), (4, .int x4), (5, .int 1), (6, .int x3)]) hF dX12_inWords_66 (by decide) [1, 2, 3, 4, 5, 6, 0] rfl ?_
        exact jb_X12_inWords_68 hT h0 hF hE hk14 lt_fu _ _ _ _ _ hf
    · refine jr_iinc (v := x4 + 1) (lv' := [(0, .ref (lt_z X + o)), (1, .ref (lt_sa (lt_Xs X) 1)), (2, .int x2), (3, .int x3), (4, .int (x4 + 1))]) hF dX12_inWords_36 4 rfl rfl (by decide) [1, 2, 3, 4, 0] rfl ?_
      refine jr_goto (tgt := 25) hF dX12_inWords_39 rfl ?_
      exact ih _ _ _ hf
set_option maxRecDepth 100000 in
def fb_X12_inWords_14 (σ : lt_S) (o : Nat) (w : lt_W) : Nat → Int32 → Int32 → Option Int32
  | 0, _, _ => none
  | n + 1, x2, x3 => if (lt_sn 1) ≤ x3 then some (-1) else fb_X12_inWords_25 σ o w (fun x2 x3 => fb_X12_inWords_14 σ o w n x2 x3) lt_fu x2 x3 x3
set_option maxHeartbeats 4000000 in
set_option maxRecDepth 100000 in
theorem jb_X12_inWords_14 {X : lt_X} {σ : lt_S} (hT : lt_Wt σ) {o : Nat} (h0 : lt_c σ o = 12) {r : Int32} {w : lt_W} (hF : lt_F X cX12_inWords RX12 7 (lt_rm 7)) (hE : lt_E X 0 0 σ (some .int) (some (.int r)) w) (n : Nat) : ∀ (x2 : Int32) (x3 : Int32), fb_X12_inWords_14 σ o w n x2 x3 = some r → lt_J X 0 0 σ w 14 [(0, .ref (lt_z X + o)), (1, .ref (lt_sa (lt_Xs X) 1)), (2, .int x2), (3, .int x3)] [] := by
  induction n with
  | zero => intro x2 x3 hf; rw [fb_X12_inWords_14] at hf; cases hf
  | succ n ih =>
    intro x2 x3 hf
    rw [fb_X12_inWords_14] at hf
    refine jr_iload_n hF dX12_inWords_14 3 rfl rfl ?_
    refine jr_aload_n hF dX12_inWords_15 1 rfl rfl ?_
    refine jr_slen1 hF ⟨Nat.le_of_ble_eq_true rfl, Nat.le_of_ble_eq_true rfl⟩ (Nat.le_of_ble_eq_true rfl) dX12_inWords_16 ?_
    refine jr_icmp_ge (tgt := 133) hF dX12_inWords_19 rfl hf (fun hf => ?_) (fun hf => ?_)
    · refine jr_iconst (v := (-1)) hF dX12_inWords_133 rfl ?_
      obtain rfl := Option.some.inj hf
      exact jr_ireturn hF hE dX12_inWords_134
    · refine jr_iload_n hF dX12_inWords_22 3 rfl rfl ?_
      refine jr_istore (lv' := [(0, .ref (lt_z X + o)), (1, .ref (lt_sa (lt_Xs X) 1)), (2, .int x2), (3, .int x3), (4, .int x3)]) hF dX12_inWords_23 (by decide) [1, 2, 3, 4, 0] rfl ?_
      exact jb_X12_inWords_25 hT h0 hF hE ih lt_fu _ _ _ hf
set_option maxRecDepth 100000 in
def fb_X12_inWords_0 (σ : lt_S) (o : Nat) (w : lt_W) : Option Int32 := if (lt_gi w o 12) = 2 then fb_X12_inWords_14 σ o w lt_fu 0 1 else some (-1)
set_option maxHeartbeats 4000000 in
set_option maxRecDepth 100000 in
theorem jb_X12_inWords_0 {X : lt_X} {σ : lt_S} (hT : lt_Wt σ) {o : Nat} (h0 : lt_c σ o = 12) {r : Int32} {w : lt_W} (hF : lt_F X cX12_inWords RX12 7 (lt_rm 7)) (hE : lt_E X 0 0 σ (some .int) (some (.int r)) w) : fb_X12_inWords_0 σ o w = some r → lt_J X 0 0 σ w 0 [(0, .ref (lt_z X + o)), (1, .ref (lt_sa (lt_Xs X) 1))] [] := by
  intro  hf
  unfold fb_X12_inWords_0 at hf
  refine jr_aload_n hF dX12_inWords_0 0 rfl rfl ?_
  refine jr_getI hF gf_X12_142 h0 dX12_inWords_1 ?_
  refine jr_iconst (v := 2) hF dX12_inWords_4 rfl ?_
  refine jr_icmp_eq (tgt := 10) hF dX12_inWords_5 rfl hf (fun hf => ?_) (fun hf => ?_)
  · refine jr_iconst (v := 0) hF dX12_inWords_10 rfl ?_
    refine jr_istore_n (lv' := [(0, .ref (lt_z X + o)), (1, .ref (lt_sa (lt_Xs X) 1)), (2, .int 0)]) hF dX12_inWords_11 rfl (by decide) [1, 2, 0] rfl ?_
    refine jr_iconst (v := 1) hF dX12_inWords_12 rfl ?_
    refine jr_istore_n (lv' := [(0, .ref (lt_z X + o)), (1, .ref (lt_sa (lt_Xs X) 1)), (2, .int 0), (3, .int 1)]) hF dX12_inWords_13 rfl (by decide) [1, 2, 3, 0] rfl ?_
    exact jb_X12_inWords_14 hT h0 hF hE lt_fu _ _ hf
  · refine jr_iconst (v := (-1)) hF dX12_inWords_8 rfl ?_
    obtain rfl := Option.some.inj hf
    exact jr_ireturn hF hE dX12_inWords_9
def f_X12_inWords (σ : lt_S) (o : Nat) (w : lt_W) : Option Int32 := fb_X12_inWords_0 σ o w
set_option maxRecDepth 100000 in
theorem c_X12_inWords {l : Launch} {D : va_G} {gA : Nat → ClassId} {s0 : State} {σ : lt_S} (hT : lt_Wt σ) {o : Nat} (h0 : lt_c σ o = 12) {w : lt_W} {r : Int32} (hf : f_X12_inWords σ o w = some r) : lt_C l D gA s0 yX12_inWords cX12_inWords 7 (some .int) (lt_rm 7) [.ref (s0.heap.size + o), .ref (lt_sa s0 1)] σ w σ (some (.int r)) w := by
  refine lt_enter rfl (Nat.le_of_ble_eq_true rfl) (fun X e1 e2 e3 e4 hF hE => ?_)
  subst e1 e2 e3 e4
  exact jb_X12_inWords_0 hT h0 hF hE hf

set_option maxRecDepth 100000 in
def fb_X12_isName_0 (σ : lt_S) (o : Nat) (w : lt_W) : Option Int32 := if (lt_gi w o 12) = 2 then if 8 < ((lt_gi w o 14) - (lt_gi w o 13)) then some 0 else Option.bind (f_X12_inWords σ o w) (fun q1 => if q1 = (-1) then some 1 else some 0) else some 0
set_option maxHeartbeats 4000000 in
set_option maxRecDepth 100000 in
theorem jb_X12_isName_0 {X : lt_X} {σ : lt_S} (hT : lt_Wt σ) {o : Nat} (h0 : lt_c σ o = 12) {r : Int32} {w : lt_W} (hF : lt_F X cX12_isName RX12 2 (lt_rm 8)) (hE : lt_E X 0 0 σ (some .boolean) (some (.int r)) w) : fb_X12_isName_0 σ o w = some r → lt_J X 0 0 σ w 0 [(0, .ref (lt_z X + o)), (1, .ref (lt_sa (lt_Xs X) 1))] [] := by
  intro  hf
  unfold fb_X12_isName_0 at hf
  refine jr_aload_n hF dX12_isName_0 0 rfl rfl ?_
  refine jr_getI hF gf_X12_142 h0 dX12_isName_1 ?_
  refine jr_iconst (v := 2) hF dX12_isName_4 rfl ?_
  refine jr_icmp_ne (tgt := 35) hF dX12_isName_5 rfl hf (fun hf => ?_) (fun hf => ?_)
  · refine jr_iconst (v := 0) hF dX12_isName_35 rfl ?_
    obtain rfl := Option.some.inj hf
    exact jr_zreturn hF hE (Or.inl rfl) dX12_isName_36
  · refine jr_aload_n hF dX12_isName_8 0 rfl rfl ?_
    refine jr_getI hF gf_X12_130 h0 dX12_isName_9 ?_
    refine jr_aload_n hF dX12_isName_12 0 rfl rfl ?_
    refine jr_getI hF gf_X12_136 h0 dX12_isName_13 ?_
    refine jr_isub hF dX12_isName_16 ?_
    refine jr_bipush (v := 8) hF dX12_isName_17 rfl ?_
    refine jr_icmp_gt (tgt := 35) hF dX12_isName_19 rfl hf (fun hf => ?_) (fun hf => ?_)
    · refine jr_iconst (v := 0) hF dX12_isName_35 rfl ?_
      obtain rfl := Option.some.inj hf
      exact jr_zreturn hF hE (Or.inl rfl) dX12_isName_36
    · refine jr_aload_n hF dX12_isName_22 0 rfl rfl ?_
      refine jr_aload_n hF dX12_isName_23 1 rfl rfl ?_
      obtain ⟨q1, hq1, hf⟩ := Option.bind_eq_some_iff.mp hf
      refine jr_cV11 hF ml_X12_182 (c_X12_inWords hT h0 hq1) h0 ⟨Nat.le_of_ble_eq_true rfl, Nat.le_of_ble_eq_true rfl⟩ (Nat.le_of_ble_eq_true rfl) dX12_isName_24 ?_
      refine jr_iconst (v := (-1)) hF dX12_isName_27 rfl ?_
      refine jr_icmp_ne (tgt := 35) hF dX12_isName_28 rfl hf (fun hf => ?_) (fun hf => ?_)
      · refine jr_iconst (v := 0) hF dX12_isName_35 rfl ?_
        obtain rfl := Option.some.inj hf
        exact jr_zreturn hF hE (Or.inl rfl) dX12_isName_36
      · refine jr_iconst (v := 1) hF dX12_isName_31 rfl ?_
        refine jr_goto (tgt := 36) hF dX12_isName_32 rfl ?_
        obtain rfl := Option.some.inj hf
        exact jr_zreturn hF hE (Or.inr rfl) dX12_isName_36
def f_X12_isName (σ : lt_S) (o : Nat) (w : lt_W) : Option Int32 := fb_X12_isName_0 σ o w
set_option maxRecDepth 100000 in
theorem c_X12_isName {l : Launch} {D : va_G} {gA : Nat → ClassId} {s0 : State} {σ : lt_S} (hT : lt_Wt σ) {o : Nat} (h0 : lt_c σ o = 12) {w : lt_W} {r : Int32} (hf : f_X12_isName σ o w = some r) : lt_C l D gA s0 yX12_isName cX12_isName 2 (some .boolean) (lt_rm 8) [.ref (s0.heap.size + o), .ref (lt_sa s0 1)] σ w σ (some (.int r)) w := by
  refine lt_enter rfl (Nat.le_of_ble_eq_true rfl) (fun X e1 e2 e3 e4 hF hE => ?_)
  subst e1 e2 e3 e4
  exact jb_X12_isName_0 hT h0 hF hE hf

set_option maxRecDepth 100000 in
def fb_X12_fails_21 (σ : lt_S) (o : Nat) (y1 : Int32) (w : lt_W) : Option (Int32 × lt_W) := lt_let (lt_si w o 18 y1) (fun w1 => lt_let (lt_si w1 o 17 (lt_gi w1 o 13)) (fun w2 => some (0, w2)))
set_option maxHeartbeats 4000000 in
set_option maxRecDepth 100000 in
theorem jb_X12_fails_21 {X : lt_X} {σ : lt_S} {o : Nat} (h0 : lt_c σ o = 12) {r : Int32 × lt_W} (hF : lt_F X cX12_fails RX12 2 (lt_rm 1)) (hE : lt_E X 0 0 σ (some .boolean) (some (.int r.1)) r.2) : ∀ (y1 : Int32) (w : lt_W), fb_X12_fails_21 σ o y1 w = some r → lt_J X 0 0 σ w 21 [(0, .ref (lt_z X + o))] [.int y1, .ref (lt_z X + o)] := by
  intro y1 w hf
  unfold fb_X12_fails_21 at hf
  refine jr_putI hF pf_X12_167 h0 dX12_fails_21 ?_
  refine jr_letW hf (fun w1 hf => ?_)
  refine jr_aload_n hF dX12_fails_24 0 rfl rfl ?_
  refine jr_aload_n hF dX12_fails_25 0 rfl rfl ?_
  refine jr_getI hF gf_X12_136 h0 dX12_fails_26 ?_
  refine jr_putI hF pf_X12_41 h0 dX12_fails_29 ?_
  refine jr_letW hf (fun w2 hf => ?_)
  refine jr_iconst (v := 0) hF dX12_fails_32 rfl ?_
  obtain rfl := Option.some.inj hf
  exact jr_zreturn hF hE (Or.inl rfl) dX12_fails_33
set_option maxRecDepth 100000 in
def fb_X12_fails_0 (σ : lt_S) (o : Nat) (x1 : Int32) (w : lt_W) : Option (Int32 × lt_W) := if (lt_gi w o 18) = 0 then if (lt_gi w o 12) = 1 then fb_X12_fails_21 σ o 1 w else fb_X12_fails_21 σ o x1 w else some (0, w)
set_option maxHeartbeats 4000000 in
set_option maxRecDepth 100000 in
theorem jb_X12_fails_0 {X : lt_X} {σ : lt_S} {o : Nat} (h0 : lt_c σ o = 12) {r : Int32 × lt_W} (hF : lt_F X cX12_fails RX12 2 (lt_rm 1)) (hE : lt_E X 0 0 σ (some .boolean) (some (.int r.1)) r.2) : ∀ (x1 : Int32) (w : lt_W), fb_X12_fails_0 σ o x1 w = some r → lt_J X 0 0 σ w 0 [(0, .ref (lt_z X + o)), (1, .int x1)] [] := by
  intro x1 w hf
  unfold fb_X12_fails_0 at hf
  refine jr_aload_n hF dX12_fails_0 0 rfl rfl ?_
  refine jr_getI hF gf_X12_167 h0 dX12_fails_1 ?_
  refine jr_if_ne (tgt := 32) hF dX12_fails_4 rfl hf (fun hf => ?_) (fun hf => ?_)
  · refine jr_iconst (v := 0) hF dX12_fails_32 rfl ?_
    obtain rfl := Option.some.inj hf
    exact jr_zreturn hF hE (Or.inl rfl) dX12_fails_33
  · refine jr_aload_n hF dX12_fails_7 0 rfl rfl ?_
    refine jr_aload_n hF dX12_fails_8 0 rfl rfl ?_
    refine jr_getI hF gf_X12_142 h0 dX12_fails_9 ?_
    refine jr_iconst (v := 1) hF dX12_fails_12 rfl ?_
    refine jr_icmp_ne (tgt := 20) hF dX12_fails_13 rfl hf (fun hf => ?_) (fun hf => ?_)
    · refine jr_iload_n hF dX12_fails_20 1 rfl rfl ?_
      refine jr_sub [0] rfl ?_
      exact jb_X12_fails_21 h0 hF hE _ _ hf
    · refine jr_iconst (v := 1) hF dX12_fails_16 rfl ?_
      refine jr_goto (tgt := 21) hF dX12_fails_17 rfl ?_
      refine jr_sub [0] rfl ?_
      exact jb_X12_fails_21 h0 hF hE _ _ hf
def f_X12_fails (σ : lt_S) (o : Nat) (x1 : Int32) (w : lt_W) : Option (Int32 × lt_W) := fb_X12_fails_0 σ o x1 w
set_option maxRecDepth 100000 in
theorem c_X12_fails {l : Launch} {D : va_G} {gA : Nat → ClassId} {s0 : State} {σ : lt_S} {o : Nat} (h0 : lt_c σ o = 12) {x1 : Int32} {w : lt_W} {r : Int32 × lt_W} (hf : f_X12_fails σ o x1 w = some r) : lt_C l D gA s0 yX12_fails cX12_fails 2 (some .boolean) (lt_rm 1) [.ref (s0.heap.size + o), .int x1] σ w σ (some (.int r.1)) r.2 := by
  refine lt_enter rfl (Nat.le_of_ble_eq_true rfl) (fun X e1 e2 e3 e4 hF hE => ?_)
  subst e1 e2 e3 e4
  exact jb_X12_fails_0 h0 hF hE _ _ hf

set_option maxRecDepth 100000 in
def fb_X12_nameHere_7 (σ : lt_S) (o : Nat) (w : lt_W) : Nat → Int64 → Int32 → Option Int64
  | 0, _, _ => none
  | n + 1, x1, x3 => if (lt_gi w o 14) ≤ x3 then some x1 else Option.bind (f_X12_byteAt σ o x3 w) (fun q1 => lt_let ((x1 <<< (((8 : Int32)).toInt64 &&& 63)) ||| q1.toInt64) (fun z2 => fb_X12_nameHere_7 σ o w n z2 (x3 + 1)))
set_option maxHeartbeats 4000000 in
set_option maxRecDepth 100000 in
theorem jb_X12_nameHere_7 {X : lt_X} {σ : lt_S} (hT : lt_Wt σ) {o : Nat} (h0 : lt_c σ o = 12) {r : Int64} {w : lt_W} (hF : lt_F X cX12_nameHere RX12 4 (lt_rm 2)) (hE : lt_E X 0 0 σ (some .long) (some (.long r)) w) (n : Nat) : ∀ (x1 : Int64) (x3 : Int32), fb_X12_nameHere_7 σ o w n x1 x3 = some r → lt_J X 0 0 σ w 7 [(0, .ref (lt_z X + o)), (1, .long x1), (3, .int x3)] [] := by
  induction n with
  | zero => intro x1 x3 hf; rw [fb_X12_nameHere_7] at hf; cases hf
  | succ n ih =>
    intro x1 x3 hf
    rw [fb_X12_nameHere_7] at hf
    refine jr_iload_n hF dX12_nameHere_7 2 rfl rfl ?_
    refine jr_aload_n hF dX12_nameHere_8 0 rfl rfl ?_
    refine jr_getI hF gf_X12_130 h0 dX12_nameHere_9 ?_
    refine jr_icmp_ge (tgt := 33) hF dX12_nameHere_12 rfl hf (fun hf => ?_) (fun hf => ?_)
    · refine jr_lload_n hF dX12_nameHere_33 1 rfl rfl ?_
      obtain rfl := Option.some.inj hf
      exact jr_lreturn hF hE dX12_nameHere_34
    · refine jr_lload_n hF dX12_nameHere_15 1 rfl rfl ?_
      refine jr_bipush (v := 8) hF dX12_nameHere_16 rfl ?_
      refine jr_lshl hF dX12_nameHere_18 ?_
      refine jr_aload_n hF dX12_nameHere_19 0 rfl rfl ?_
      refine jr_iload_n hF dX12_nameHere_20 2 rfl rfl ?_
      obtain ⟨q1, hq1, hf⟩ := Option.bind_eq_some_iff.mp hf
      refine jr_cV11 hF ml_X12_133 (c_X12_byteAt hT h0 hq1) h0 ⟨Nat.le_of_ble_eq_true rfl, Nat.le_of_ble_eq_true rfl⟩ (Nat.le_of_ble_eq_true rfl) dX12_nameHere_21 ?_
      refine jr_i2l hF dX12_nameHere_24 ?_
      refine jr_lor hF dX12_nameHere_25 ?_
      refine jr_letL hf (fun z2 hf => ?_)
      refine jr_lstore_n (lv' := [(0, .ref (lt_z X + o)), (1, .long z2), (3, .int x3)]) hF dX12_nameHere_26 rfl (by decide) [1, 0, 2] rfl ?_
      refine jr_iinc (v := x3 + 1) (lv' := [(0, .ref (lt_z X + o)), (1, .long z2), (3, .int (x3 + 1))]) hF dX12_nameHere_27 2 rfl rfl (by decide) [1, 2, 0] rfl ?_
      refine jr_goto (tgt := 7) hF dX12_nameHere_30 rfl ?_
      exact ih _ _ hf
set_option maxRecDepth 100000 in
def fb_X12_nameHere_0 (σ : lt_S) (o : Nat) (w : lt_W) : Option Int64 := fb_X12_nameHere_7 σ o w lt_fu 0 (lt_gi w o 13)
set_option maxHeartbeats 4000000 in
set_option maxRecDepth 100000 in
theorem jb_X12_nameHere_0 {X : lt_X} {σ : lt_S} (hT : lt_Wt σ) {o : Nat} (h0 : lt_c σ o = 12) {r : Int64} {w : lt_W} (hF : lt_F X cX12_nameHere RX12 4 (lt_rm 2)) (hE : lt_E X 0 0 σ (some .long) (some (.long r)) w) : fb_X12_nameHere_0 σ o w = some r → lt_J X 0 0 σ w 0 [(0, .ref (lt_z X + o))] [] := by
  intro  hf
  unfold fb_X12_nameHere_0 at hf
  refine jr_lconst (v := 0) hF dX12_nameHere_0 rfl ?_
  refine jr_lstore_n (lv' := [(0, .ref (lt_z X + o)), (1, .long 0)]) hF dX12_nameHere_1 rfl (by decide) [1, 0] rfl ?_
  refine jr_aload_n hF dX12_nameHere_2 0 rfl rfl ?_
  refine jr_getI hF gf_X12_136 h0 dX12_nameHere_3 ?_
  refine jr_istore_n (lv' := [(0, .ref (lt_z X + o)), (1, .long 0), (3, .int (lt_gi w o 13))]) hF dX12_nameHere_6 rfl (by decide) [1, 2, 0] rfl ?_
  exact jb_X12_nameHere_7 hT h0 hF hE lt_fu _ _ hf
def f_X12_nameHere (σ : lt_S) (o : Nat) (w : lt_W) : Option Int64 := fb_X12_nameHere_0 σ o w
set_option maxRecDepth 100000 in
theorem c_X12_nameHere {l : Launch} {D : va_G} {gA : Nat → ClassId} {s0 : State} {σ : lt_S} (hT : lt_Wt σ) {o : Nat} (h0 : lt_c σ o = 12) {w : lt_W} {r : Int64} (hf : f_X12_nameHere σ o w = some r) : lt_C l D gA s0 yX12_nameHere cX12_nameHere 4 (some .long) (lt_rm 2) [.ref (s0.heap.size + o)] σ w σ (some (.long r)) w := by
  refine lt_enter rfl (Nat.le_of_ble_eq_true rfl) (fun X e1 e2 e3 e4 hF hE => ?_)
  subst e1 e2 e3 e4
  exact jb_X12_nameHere_0 hT h0 hF hE hf

set_option maxRecDepth 100000 in
def fb_X12_findHere_2 (σ : lt_S) (o : Nat) (w : lt_W) : Nat → Int32 → Int32 → Int32 → Option Int32
  | 0, _, _, _ => none
  | n + 1, x1, x2, x3 => if x2 ≤ x3 then some (-1) else lt_ck (x1 + x3) (lt_len σ (lt_r σ o 1)) (Option.bind (f_X12_nameHere σ o w) (fun q2 => if (lg_cmp (lt_gl w (lt_r σ o 1) (x1 + x3).toNatClampNeg) q2) = 0 then some x3 else fb_X12_findHere_2 σ o w n x1 x2 (x3 + 1)))
set_option maxHeartbeats 4000000 in
set_option maxRecDepth 100000 in
theorem jb_X12_findHere_2 {X : lt_X} {σ : lt_S} (hT : lt_Wt σ) {o : Nat} (h0 : lt_c σ o = 12) {r : Int32} {w : lt_W} (hF : lt_F X cX12_findHere RX12 4 (lt_rm 3)) (hE : lt_E X 0 0 σ (some .int) (some (.int r)) w) (n : Nat) : ∀ (x1 : Int32) (x2 : Int32) (x3 : Int32), fb_X12_findHere_2 σ o w n x1 x2 x3 = some r → lt_J X 0 0 σ w 2 [(0, .ref (lt_z X + o)), (1, .int x1), (2, .int x2), (3, .int x3)] [] := by
  induction n with
  | zero => intro x1 x2 x3 hf; rw [fb_X12_findHere_2] at hf; cases hf
  | succ n ih =>
    intro x1 x2 x3 hf
    rw [fb_X12_findHere_2] at hf
    refine jr_iload_n hF dX12_findHere_2 3 rfl rfl ?_
    refine jr_iload_n hF dX12_findHere_3 2 rfl rfl ?_
    refine jr_icmp_ge (tgt := 31) hF dX12_findHere_4 rfl hf (fun hf => ?_) (fun hf => ?_)
    · refine jr_iconst (v := (-1)) hF dX12_findHere_31 rfl ?_
      obtain rfl := Option.some.inj hf
      exact jr_ireturn hF hE dX12_findHere_32
    · refine jr_aload_n hF dX12_findHere_7 0 rfl rfl ?_
      refine jr_getRT (cr := 51) hF gf_X12_13 hT h0 rfl rfl dX12_findHere_8 (fun th1 => ?_)
      refine jr_iload_n hF dX12_findHere_11 1 rfl rfl ?_
      refine jr_iload_n hF dX12_findHere_12 3 rfl rfl ?_
      refine jr_iadd hF dX12_findHere_13 ?_
      refine jr_laload hF th1 dX12_findHere_14 hf (fun hf => ?_)
      refine jr_aload_n hF dX12_findHere_15 0 rfl rfl ?_
      obtain ⟨q2, hq2, hf⟩ := Option.bind_eq_some_iff.mp hf
      refine jr_cV01 hF ml_X12_186 (c_X12_nameHere hT h0 hq2) h0 ⟨Nat.le_of_ble_eq_true rfl, Nat.le_of_ble_eq_true rfl⟩ (Nat.le_of_ble_eq_true rfl) dX12_findHere_16 ?_
      refine jr_lcmp hF dX12_findHere_19 ?_
      refine jr_if_ne (tgt := 25) hF dX12_findHere_20 rfl hf (fun hf => ?_) (fun hf => ?_)
      · refine jr_iinc (v := x3 + 1) (lv' := [(0, .ref (lt_z X + o)), (1, .int x1), (2, .int x2), (3, .int (x3 + 1))]) hF dX12_findHere_25 3 rfl rfl (by decide) [1, 2, 3, 0] rfl ?_
        refine jr_goto (tgt := 2) hF dX12_findHere_28 rfl ?_
        exact ih _ _ _ hf
      · refine jr_iload_n hF dX12_findHere_23 3 rfl rfl ?_
        obtain rfl := Option.some.inj hf
        exact jr_ireturn hF hE dX12_findHere_24
set_option maxRecDepth 100000 in
def fb_X12_findHere_0 (σ : lt_S) (o : Nat) (w : lt_W) (x1 : Int32) (x2 : Int32) : Option Int32 := fb_X12_findHere_2 σ o w lt_fu x1 x2 0
set_option maxHeartbeats 4000000 in
set_option maxRecDepth 100000 in
theorem jb_X12_findHere_0 {X : lt_X} {σ : lt_S} (hT : lt_Wt σ) {o : Nat} (h0 : lt_c σ o = 12) {r : Int32} {w : lt_W} (hF : lt_F X cX12_findHere RX12 4 (lt_rm 3)) (hE : lt_E X 0 0 σ (some .int) (some (.int r)) w) : ∀ (x1 : Int32) (x2 : Int32), fb_X12_findHere_0 σ o w x1 x2 = some r → lt_J X 0 0 σ w 0 [(0, .ref (lt_z X + o)), (1, .int x1), (2, .int x2)] [] := by
  intro x1 x2 hf
  unfold fb_X12_findHere_0 at hf
  refine jr_iconst (v := 0) hF dX12_findHere_0 rfl ?_
  refine jr_istore_n (lv' := [(0, .ref (lt_z X + o)), (1, .int x1), (2, .int x2), (3, .int 0)]) hF dX12_findHere_1 rfl (by decide) [1, 2, 3, 0] rfl ?_
  exact jb_X12_findHere_2 hT h0 hF hE lt_fu _ _ _ hf
def f_X12_findHere (σ : lt_S) (o : Nat) (x1 : Int32) (x2 : Int32) (w : lt_W) : Option Int32 := fb_X12_findHere_0 σ o w x1 x2
set_option maxRecDepth 100000 in
theorem c_X12_findHere {l : Launch} {D : va_G} {gA : Nat → ClassId} {s0 : State} {σ : lt_S} (hT : lt_Wt σ) {o : Nat} (h0 : lt_c σ o = 12) {x1 : Int32} {x2 : Int32} {w : lt_W} {r : Int32} (hf : f_X12_findHere σ o x1 x2 w = some r) : lt_C l D gA s0 yX12_findHere cX12_findHere 4 (some .int) (lt_rm 3) [.ref (s0.heap.size + o), .int x1, .int x2] σ w σ (some (.int r)) w := by
  refine lt_enter rfl (Nat.le_of_ble_eq_true rfl) (fun X e1 e2 e3 e4 hF hE => ?_)
  subst e1 e2 e3 e4
  exact jb_X12_findHere_0 hT h0 hF hE _ _ hf

set_option maxRecDepth 100000 in
def fb_X12_guestRow_0 (x0 : Int32) : Option Int32 := some (10 + (7 * x0))
set_option maxHeartbeats 4000000 in
set_option maxRecDepth 100000 in
theorem jb_X12_guestRow_0 {X : lt_X} {σ : lt_S} {r : Int32} {w : lt_W} (hF : lt_F X cX12_guestRow RX12 1 (lt_rm 1)) (hE : lt_E X 0 0 σ (some .int) (some (.int r)) w) : ∀ (x0 : Int32), fb_X12_guestRow_0 x0 = some r → lt_J X 0 0 σ w 0 [(0, .int x0)] [] := by
  intro x0 hf
  unfold fb_X12_guestRow_0 at hf
  refine jr_bipush (v := 10) hF dX12_guestRow_0 rfl ?_
  refine jr_bipush (v := 7) hF dX12_guestRow_2 rfl ?_
  refine jr_iload_n hF dX12_guestRow_4 0 rfl rfl ?_
  refine jr_imul hF dX12_guestRow_5 ?_
  refine jr_iadd hF dX12_guestRow_6 ?_
  obtain rfl := Option.some.inj hf
  exact jr_ireturn hF hE dX12_guestRow_7
def f_X12_guestRow (x0 : Int32) : Option Int32 := fb_X12_guestRow_0 x0
set_option maxRecDepth 100000 in
theorem c_X12_guestRow {l : Launch} {D : va_G} {gA : Nat → ClassId} {s0 : State} {σ : lt_S} {x0 : Int32} {w : lt_W} {r : Int32} (hf : f_X12_guestRow x0 = some r) : lt_C l D gA s0 yX12_guestRow cX12_guestRow 1 (some .int) (lt_rm 1) [.int x0] σ w σ (some (.int r)) w := by
  refine lt_enter rfl (Nat.le_of_ble_eq_true rfl) (fun X e1 e2 e3 e4 hF hE => ?_)
  subst e1 e2 e3 e4
  exact jb_X12_guestRow_0 hF hE _ hf

set_option maxRecDepth 100000 in
def fb_X12_guestTo_34 (σ : lt_S) (o : Nat) (x1 : Int32) (x2 : Int32) (y0 : Nat) (y1 : Int32) (y3 : Int32) (w : lt_W) : Option (Int32 × lt_W) := lt_ck (x1 + 0) (lt_len σ (lt_r σ o 0)) (Option.bind (f_X12_findHere σ o y3 (lt_gi w (lt_r σ o 0) (x1 + 0).toNatClampNeg) w) (fun q2 => lt_ck y1 (lt_len σ y0) (lt_let (lt_si w y0 y1.toNatClampNeg q2) (fun w3 => lt_ck x2 (lt_len σ (lt_r σ o 0)) (if (lt_gi w3 (lt_r σ o 0) x2.toNatClampNeg) = (-1) then Option.bind (f_X12_fails σ o 3 w3) (fun q6 => lt_bz q6.1 (some (q6.1, q6.2))) else Option.bind (f_X12_ahead σ o w3) (fun q5 => some (1, q5)))))))
set_option maxHeartbeats 4000000 in
set_option maxRecDepth 100000 in
theorem jb_X12_guestTo_34 {X : lt_X} {σ : lt_S} (hT : lt_Wt σ) {o : Nat} (h0 : lt_c σ o = 12) {r : Int32 × lt_W} (hF : lt_F X cX12_guestTo RX12 3 (lt_rm 9)) (hE : lt_E X 0 0 σ (some .boolean) (some (.int r.1)) r.2) : ∀ (x1 : Int32) (x2 : Int32) (y0 : Nat) (y1 : Int32) (y3 : Int32) (w : lt_W), lt_c σ y0 = 50 → fb_X12_guestTo_34 σ o x1 x2 y0 y1 y3 w = some r → lt_J X 0 0 σ w 34 [(0, .ref (lt_z X + o)), (1, .int x1), (2, .int x2)] [.int y3, .ref (lt_z X + o), .int y1, .ref (lt_z X + y0)] := by
  intro x1 x2 y0 y1 y3 w u0 hf
  unfold fb_X12_guestTo_34 at hf
  refine jr_aload_n hF dX12_guestTo_34 0 rfl rfl ?_
  refine jr_getRT (cr := 50) hF gf_X12_7 hT h0 rfl rfl dX12_guestTo_35 (fun th1 => ?_)
  refine jr_iload_n hF dX12_guestTo_38 1 rfl rfl ?_
  refine jr_iconst (v := 0) hF dX12_guestTo_39 rfl ?_
  refine jr_iadd hF dX12_guestTo_40 ?_
  refine jr_iaload hF th1 dX12_guestTo_41 hf (fun hf => ?_)
  obtain ⟨q2, hq2, hf⟩ := Option.bind_eq_some_iff.mp hf
  refine jr_cV21 hF ml_X12_199 (c_X12_findHere hT h0 hq2) h0 ⟨Nat.le_of_ble_eq_true rfl, Nat.le_of_ble_eq_true rfl⟩ (Nat.le_of_ble_eq_true rfl) dX12_guestTo_42 ?_
  refine jr_iastore hF u0 dX12_guestTo_45 hf (fun hf => ?_)
  refine jr_letW hf (fun w3 hf => ?_)
  refine jr_aload_n hF dX12_guestTo_46 0 rfl rfl ?_
  refine jr_getRT (cr := 50) hF gf_X12_7 hT h0 rfl rfl dX12_guestTo_47 (fun th4 => ?_)
  refine jr_iload_n hF dX12_guestTo_50 2 rfl rfl ?_
  refine jr_iaload hF th4 dX12_guestTo_51 hf (fun hf => ?_)
  refine jr_iconst (v := (-1)) hF dX12_guestTo_52 rfl ?_
  refine jr_icmp_ne (tgt := 62) hF dX12_guestTo_53 rfl hf (fun hf => ?_) (fun hf => ?_)
  · refine jr_aload_n hF dX12_guestTo_62 0 rfl rfl ?_
    obtain ⟨q5, hq5, hf⟩ := Option.bind_eq_some_iff.mp hf
    refine jr_cV0v hF ml_X12_173 (c_X12_ahead hT h0 hq5) h0 ⟨Nat.le_of_ble_eq_true rfl, Nat.le_of_ble_eq_true rfl⟩ (Nat.le_of_ble_eq_true rfl) dX12_guestTo_63 ?_
    refine jr_iconst (v := 1) hF dX12_guestTo_66 rfl ?_
    obtain rfl := Option.some.inj hf
    exact jr_zreturn hF hE (Or.inr rfl) dX12_guestTo_67
  · refine jr_aload_n hF dX12_guestTo_56 0 rfl rfl ?_
    refine jr_iconst (v := 3) hF dX12_guestTo_57 rfl ?_
    obtain ⟨q6, hq6, hf⟩ := Option.bind_eq_some_iff.mp hf
    refine jr_cV11 hF ml_X12_179 (c_X12_fails h0 hq6) h0 ⟨Nat.le_of_ble_eq_true rfl, Nat.le_of_ble_eq_true rfl⟩ (Nat.le_of_ble_eq_true rfl) dX12_guestTo_58 ?_
    obtain ⟨b7, hf⟩ := lt_bzE hf
    obtain rfl := Option.some.inj hf
    exact jr_zreturn hF hE b7 dX12_guestTo_61
set_option maxRecDepth 100000 in
def fb_X12_guestTo_0 (σ : lt_S) (o : Nat) (x1 : Int32) (x2 : Int32) (w : lt_W) : Option (Int32 × lt_W) := Option.bind (f_X12_isName σ o w) (fun q1 => if q1 = 0 then Option.bind (f_X12_fails σ o 2 w) (fun q3 => lt_bz q3.1 (some (q3.1, q3.2))) else if x1 = 1712 then fb_X12_guestTo_34 σ o x1 x2 (lt_r σ o 0) x2 28 w else fb_X12_guestTo_34 σ o x1 x2 (lt_r σ o 0) x2 0 w)
set_option maxHeartbeats 4000000 in
set_option maxRecDepth 100000 in
theorem jb_X12_guestTo_0 {X : lt_X} {σ : lt_S} (hT : lt_Wt σ) {o : Nat} (h0 : lt_c σ o = 12) {r : Int32 × lt_W} (hF : lt_F X cX12_guestTo RX12 3 (lt_rm 9)) (hE : lt_E X 0 0 σ (some .boolean) (some (.int r.1)) r.2) : ∀ (x1 : Int32) (x2 : Int32) (w : lt_W), fb_X12_guestTo_0 σ o x1 x2 w = some r → lt_J X 0 0 σ w 0 [(0, .ref (lt_z X + o)), (1, .int x1), (2, .int x2)] [] := by
  intro x1 x2 w hf
  unfold fb_X12_guestTo_0 at hf
  refine jr_aload_n hF dX12_guestTo_0 0 rfl rfl ?_
  refine jr_ldcS1 hF dX12_guestTo_1 ?_
  obtain ⟨q1, hq1, hf⟩ := Option.bind_eq_some_iff.mp hf
  refine jr_cV11 hF ml_X12_195 (c_X12_isName hT h0 hq1) h0 ⟨Nat.le_of_ble_eq_true rfl, Nat.le_of_ble_eq_true rfl⟩ (Nat.le_of_ble_eq_true rfl) dX12_guestTo_3 ?_
  refine jr_if_ne (tgt := 15) hF dX12_guestTo_6 rfl hf (fun hf => ?_) (fun hf => ?_)
  · refine jr_aload_n hF dX12_guestTo_15 0 rfl rfl ?_
    refine jr_getRT (cr := 50) hF gf_X12_7 hT h0 rfl rfl dX12_guestTo_16 (fun th2 => ?_)
    refine jr_iload_n hF dX12_guestTo_19 2 rfl rfl ?_
    refine jr_aload_n hF dX12_guestTo_20 0 rfl rfl ?_
    refine jr_iload_n hF dX12_guestTo_21 1 rfl rfl ?_
    refine jr_sipush (v := 1712) hF dX12_guestTo_22 rfl ?_
    refine jr_icmp_ne (tgt := 33) hF dX12_guestTo_25 rfl hf (fun hf => ?_) (fun hf => ?_)
    · refine jr_iconst (v := 0) hF dX12_guestTo_33 rfl ?_
      exact jb_X12_guestTo_34 hT h0 hF hE _ _ _ _ _ _ th2 hf
    · refine jr_bipush (v := 28) hF dX12_guestTo_28 rfl ?_
      refine jr_goto (tgt := 34) hF dX12_guestTo_30 rfl ?_
      exact jb_X12_guestTo_34 hT h0 hF hE _ _ _ _ _ _ th2 hf
  · refine jr_aload_n hF dX12_guestTo_9 0 rfl rfl ?_
    refine jr_iconst (v := 2) hF dX12_guestTo_10 rfl ?_
    obtain ⟨q3, hq3, hf⟩ := Option.bind_eq_some_iff.mp hf
    refine jr_cV11 hF ml_X12_179 (c_X12_fails h0 hq3) h0 ⟨Nat.le_of_ble_eq_true rfl, Nat.le_of_ble_eq_true rfl⟩ (Nat.le_of_ble_eq_true rfl) dX12_guestTo_11 ?_
    obtain ⟨b4, hf⟩ := lt_bzE hf
    obtain rfl := Option.some.inj hf
    exact jr_zreturn hF hE b4 dX12_guestTo_14
def f_X12_guestTo (σ : lt_S) (o : Nat) (x1 : Int32) (x2 : Int32) (w : lt_W) : Option (Int32 × lt_W) := fb_X12_guestTo_0 σ o x1 x2 w
set_option maxRecDepth 100000 in
theorem c_X12_guestTo {l : Launch} {D : va_G} {gA : Nat → ClassId} {s0 : State} {σ : lt_S} (hT : lt_Wt σ) {o : Nat} (h0 : lt_c σ o = 12) {x1 : Int32} {x2 : Int32} {w : lt_W} {r : Int32 × lt_W} (hf : f_X12_guestTo σ o x1 x2 w = some r) : lt_C l D gA s0 yX12_guestTo cX12_guestTo 3 (some .boolean) (lt_rm 9) [.ref (s0.heap.size + o), .int x1, .int x2] σ w σ (some (.int r.1)) r.2 := by
  refine lt_enter rfl (Nat.le_of_ble_eq_true rfl) (fun X e1 e2 e3 e4 hF hE => ?_)
  subst e1 e2 e3 e4
  exact jb_X12_guestTo_0 hT h0 hF hE _ _ _ hf

set_option maxRecDepth 100000 in
def fb_X12_otherTo_49 (σ : lt_S) (o : Nat) (x1 : Int32) (x2 : Int32) (w : lt_W) : Option (Int32 × lt_W) := Option.bind (f_X12_guestTo σ o x1 (x2 + 1) w) (fun q1 => lt_bz q1.1 (some (q1.1, q1.2)))
set_option maxHeartbeats 4000000 in
set_option maxRecDepth 100000 in
theorem jb_X12_otherTo_49 {X : lt_X} {σ : lt_S} (hT : lt_Wt σ) {o : Nat} (h0 : lt_c σ o = 12) {r : Int32 × lt_W} (hF : lt_F X cX12_otherTo RX12 3 (lt_rm 10)) (hE : lt_E X 0 0 σ (some .boolean) (some (.int r.1)) r.2) : ∀ (x1 : Int32) (x2 : Int32) (w : lt_W), fb_X12_otherTo_49 σ o x1 x2 w = some r → lt_J X 0 0 σ w 49 [(0, .ref (lt_z X + o)), (1, .int x1), (2, .int x2)] [] := by
  intro x1 x2 w hf
  unfold fb_X12_otherTo_49 at hf
  refine jr_aload_n hF dX12_otherTo_49 0 rfl rfl ?_
  refine jr_iload_n hF dX12_otherTo_50 1 rfl rfl ?_
  refine jr_iload_n hF dX12_otherTo_51 2 rfl rfl ?_
  refine jr_iconst (v := 1) hF dX12_otherTo_52 rfl ?_
  refine jr_iadd hF dX12_otherTo_53 ?_
  obtain ⟨q1, hq1, hf⟩ := Option.bind_eq_some_iff.mp hf
  refine jr_cV21 hF ml_X12_213 (c_X12_guestTo hT h0 hq1) h0 ⟨Nat.le_of_ble_eq_true rfl, Nat.le_of_ble_eq_true rfl⟩ (Nat.le_of_ble_eq_true rfl) dX12_otherTo_54 ?_
  obtain ⟨b2, hf⟩ := lt_bzE hf
  obtain rfl := Option.some.inj hf
  exact jr_zreturn hF hE b2 dX12_otherTo_57
set_option maxRecDepth 100000 in
def fb_X12_otherTo_23 (σ : lt_S) (o : Nat) (x1 : Int32) (x2 : Int32) (y1 : Int32) (w : lt_W) : Option (Int32 × lt_W) := lt_ck (x1 + 0) (lt_len σ (lt_r σ o 0)) (Option.bind (f_X12_findHere σ o y1 (lt_gi w (lt_r σ o 0) (x1 + 0).toNatClampNeg) w) (fun q2 => lt_ck x2 (lt_len σ (lt_r σ o 0)) (if q2 = (lt_gi w (lt_r σ o 0) x2.toNatClampNeg) then Option.bind (f_X12_fails σ o 5 w) (fun q4 => lt_bz q4.1 (some (q4.1, q4.2))) else fb_X12_otherTo_49 σ o x1 x2 w)))
set_option maxHeartbeats 4000000 in
set_option maxRecDepth 100000 in
theorem jb_X12_otherTo_23 {X : lt_X} {σ : lt_S} (hT : lt_Wt σ) {o : Nat} (h0 : lt_c σ o = 12) {r : Int32 × lt_W} (hF : lt_F X cX12_otherTo RX12 3 (lt_rm 10)) (hE : lt_E X 0 0 σ (some .boolean) (some (.int r.1)) r.2) : ∀ (x1 : Int32) (x2 : Int32) (y1 : Int32) (w : lt_W), fb_X12_otherTo_23 σ o x1 x2 y1 w = some r → lt_J X 0 0 σ w 23 [(0, .ref (lt_z X + o)), (1, .int x1), (2, .int x2)] [.int y1, .ref (lt_z X + o)] := by
  intro x1 x2 y1 w hf
  unfold fb_X12_otherTo_23 at hf
  refine jr_aload_n hF dX12_otherTo_23 0 rfl rfl ?_
  refine jr_getRT (cr := 50) hF gf_X12_7 hT h0 rfl rfl dX12_otherTo_24 (fun th1 => ?_)
  refine jr_iload_n hF dX12_otherTo_27 1 rfl rfl ?_
  refine jr_iconst (v := 0) hF dX12_otherTo_28 rfl ?_
  refine jr_iadd hF dX12_otherTo_29 ?_
  refine jr_iaload hF th1 dX12_otherTo_30 hf (fun hf => ?_)
  obtain ⟨q2, hq2, hf⟩ := Option.bind_eq_some_iff.mp hf
  refine jr_cV21 hF ml_X12_199 (c_X12_findHere hT h0 hq2) h0 ⟨Nat.le_of_ble_eq_true rfl, Nat.le_of_ble_eq_true rfl⟩ (Nat.le_of_ble_eq_true rfl) dX12_otherTo_31 ?_
  refine jr_aload_n hF dX12_otherTo_34 0 rfl rfl ?_
  refine jr_getRT (cr := 50) hF gf_X12_7 hT h0 rfl rfl dX12_otherTo_35 (fun th3 => ?_)
  refine jr_iload_n hF dX12_otherTo_38 2 rfl rfl ?_
  refine jr_iaload hF th3 dX12_otherTo_39 hf (fun hf => ?_)
  refine jr_icmp_ne (tgt := 49) hF dX12_otherTo_40 rfl hf (fun hf => ?_) (fun hf => ?_)
  · exact jb_X12_otherTo_49 hT h0 hF hE _ _ _ hf
  · refine jr_aload_n hF dX12_otherTo_43 0 rfl rfl ?_
    refine jr_iconst (v := 5) hF dX12_otherTo_44 rfl ?_
    obtain ⟨q4, hq4, hf⟩ := Option.bind_eq_some_iff.mp hf
    refine jr_cV11 hF ml_X12_179 (c_X12_fails h0 hq4) h0 ⟨Nat.le_of_ble_eq_true rfl, Nat.le_of_ble_eq_true rfl⟩ (Nat.le_of_ble_eq_true rfl) dX12_otherTo_45 ?_
    obtain ⟨b5, hf⟩ := lt_bzE hf
    obtain rfl := Option.some.inj hf
    exact jr_zreturn hF hE b5 dX12_otherTo_48
set_option maxRecDepth 100000 in
def fb_X12_otherTo_0 (σ : lt_S) (o : Nat) (x1 : Int32) (x2 : Int32) (w : lt_W) : Option (Int32 × lt_W) := Option.bind (f_X12_isName σ o w) (fun q1 => if q1 = 0 then fb_X12_otherTo_49 σ o x1 x2 w else if x1 = 1712 then fb_X12_otherTo_23 σ o x1 x2 28 w else fb_X12_otherTo_23 σ o x1 x2 0 w)
set_option maxHeartbeats 4000000 in
set_option maxRecDepth 100000 in
theorem jb_X12_otherTo_0 {X : lt_X} {σ : lt_S} (hT : lt_Wt σ) {o : Nat} (h0 : lt_c σ o = 12) {r : Int32 × lt_W} (hF : lt_F X cX12_otherTo RX12 3 (lt_rm 10)) (hE : lt_E X 0 0 σ (some .boolean) (some (.int r.1)) r.2) : ∀ (x1 : Int32) (x2 : Int32) (w : lt_W), fb_X12_otherTo_0 σ o x1 x2 w = some r → lt_J X 0 0 σ w 0 [(0, .ref (lt_z X + o)), (1, .int x1), (2, .int x2)] [] := by
  intro x1 x2 w hf
  unfold fb_X12_otherTo_0 at hf
  refine jr_aload_n hF dX12_otherTo_0 0 rfl rfl ?_
  refine jr_ldcS1 hF dX12_otherTo_1 ?_
  obtain ⟨q1, hq1, hf⟩ := Option.bind_eq_some_iff.mp hf
  refine jr_cV11 hF ml_X12_195 (c_X12_isName hT h0 hq1) h0 ⟨Nat.le_of_ble_eq_true rfl, Nat.le_of_ble_eq_true rfl⟩ (Nat.le_of_ble_eq_true rfl) dX12_otherTo_3 ?_
  refine jr_if_eq (tgt := 49) hF dX12_otherTo_6 rfl hf (fun hf => ?_) (fun hf => ?_)
  · exact jb_X12_otherTo_49 hT h0 hF hE _ _ _ hf
  · refine jr_aload_n hF dX12_otherTo_9 0 rfl rfl ?_
    refine jr_iload_n hF dX12_otherTo_10 1 rfl rfl ?_
    refine jr_sipush (v := 1712) hF dX12_otherTo_11 rfl ?_
    refine jr_icmp_ne (tgt := 22) hF dX12_otherTo_14 rfl hf (fun hf => ?_) (fun hf => ?_)
    · refine jr_iconst (v := 0) hF dX12_otherTo_22 rfl ?_
      exact jb_X12_otherTo_23 hT h0 hF hE _ _ _ _ hf
    · refine jr_bipush (v := 28) hF dX12_otherTo_17 rfl ?_
      refine jr_goto (tgt := 23) hF dX12_otherTo_19 rfl ?_
      exact jb_X12_otherTo_23 hT h0 hF hE _ _ _ _ hf
def f_X12_otherTo (σ : lt_S) (o : Nat) (x1 : Int32) (x2 : Int32) (w : lt_W) : Option (Int32 × lt_W) := fb_X12_otherTo_0 σ o x1 x2 w
set_option maxRecDepth 100000 in
theorem c_X12_otherTo {l : Launch} {D : va_G} {gA : Nat → ClassId} {s0 : State} {σ : lt_S} (hT : lt_Wt σ) {o : Nat} (h0 : lt_c σ o = 12) {x1 : Int32} {x2 : Int32} {w : lt_W} {r : Int32 × lt_W} (hf : f_X12_otherTo σ o x1 x2 w = some r) : lt_C l D gA s0 yX12_otherTo cX12_otherTo 3 (some .boolean) (lt_rm 10) [.ref (s0.heap.size + o), .int x1, .int x2] σ w σ (some (.int r.1)) r.2 := by
  refine lt_enter rfl (Nat.le_of_ble_eq_true rfl) (fun X e1 e2 e3 e4 hF hE => ?_)
  subst e1 e2 e3 e4
  exact jb_X12_otherTo_0 hT h0 hF hE _ _ _ hf

set_option maxRecDepth 100000 in
def fb_X12_aButter_69 (σ : lt_S) (o : Nat) (x1 : Int32) (w : lt_W) : Option (Int32 × lt_W) := Option.bind (f_X12_guestTo σ o 1712 x1 w) (fun q1 => if q1.1 = 0 then some (0, q1.2) else Option.bind (f_X12_otherTo σ o 1712 x1 q1.2) (fun q2 => if q2.1 = 0 then some (0, q2.2) else lt_ck x1 (lt_len σ (lt_r σ o 0)) (Option.bind (f_X12_guestRow (lt_gi q2.2 (lt_r σ o 0) x1.toNatClampNeg)) (fun q5 => lt_ck (x1 + 1) (lt_len σ (lt_r σ o 0)) (lt_ck ((1712 + q5) + 6) (lt_len σ (lt_r σ o 0)) (lt_let (lt_si q2.2 (lt_r σ o 0) ((1712 + q5) + 6).toNatClampNeg (lt_gi q2.2 (lt_r σ o 0) (x1 + 1).toNatClampNeg)) (fun w7 => some (1, w7))))))))
set_option maxHeartbeats 4000000 in
set_option maxRecDepth 100000 in
theorem jb_X12_aButter_69 {X : lt_X} {σ : lt_S} (hT : lt_Wt σ) {o : Nat} (h0 : lt_c σ o = 12) {r : Int32 × lt_W} (hF : lt_F X cX12_aButter RX12 3 (lt_rm 11)) (hE : lt_E X 0 0 σ (some .boolean) (some (.int r.1)) r.2) : ∀ (x1 : Int32) (w : lt_W), fb_X12_aButter_69 σ o x1 w = some r → lt_J X 0 0 σ w 69 [(0, .ref (lt_z X + o)), (1, .int x1)] [] := by
  intro x1 w hf
  unfold fb_X12_aButter_69 at hf
  refine jr_aload_n hF dX12_aButter_69 0 rfl rfl ?_
  refine jr_sipush (v := 1712) hF dX12_aButter_70 rfl ?_
  refine jr_iload_n hF dX12_aButter_73 1 rfl rfl ?_
  obtain ⟨q1, hq1, hf⟩ := Option.bind_eq_some_iff.mp hf
  refine jr_cV21 hF ml_X12_213 (c_X12_guestTo hT h0 hq1) h0 ⟨Nat.le_of_ble_eq_true rfl, Nat.le_of_ble_eq_true rfl⟩ (Nat.le_of_ble_eq_true rfl) dX12_aButter_74 ?_
  refine jr_if_ne (tgt := 82) hF dX12_aButter_77 rfl hf (fun hf => ?_) (fun hf => ?_)
  · refine jr_aload_n hF dX12_aButter_82 0 rfl rfl ?_
    refine jr_sipush (v := 1712) hF dX12_aButter_83 rfl ?_
    refine jr_iload_n hF dX12_aButter_86 1 rfl rfl ?_
    obtain ⟨q2, hq2, hf⟩ := Option.bind_eq_some_iff.mp hf
    refine jr_cV21 hF ml_X12_217 (c_X12_otherTo hT h0 hq2) h0 ⟨Nat.le_of_ble_eq_true rfl, Nat.le_of_ble_eq_true rfl⟩ (Nat.le_of_ble_eq_true rfl) dX12_aButter_87 ?_
    refine jr_if_ne (tgt := 95) hF dX12_aButter_90 rfl hf (fun hf => ?_) (fun hf => ?_)
    · refine jr_aload_n hF dX12_aButter_95 0 rfl rfl ?_
      refine jr_getRT (cr := 50) hF gf_X12_7 hT h0 rfl rfl dX12_aButter_96 (fun th3 => ?_)
      refine jr_sipush (v := 1712) hF dX12_aButter_99 rfl ?_
      refine jr_aload_n hF dX12_aButter_102 0 rfl rfl ?_
      refine jr_getRT (cr := 50) hF gf_X12_7 hT h0 rfl rfl dX12_aButter_103 (fun th4 => ?_)
      refine jr_iload_n hF dX12_aButter_106 1 rfl rfl ?_
      refine jr_iaload hF th4 dX12_aButter_107 hf (fun hf => ?_)
      obtain ⟨q5, hq5, hf⟩ := Option.bind_eq_some_iff.mp hf
      refine jr_cS11 hF ml_X12_192 (c_X12_guestRow hq5) ⟨Nat.le_of_ble_eq_true rfl, Nat.le_of_ble_eq_true rfl⟩ (Nat.le_of_ble_eq_true rfl) dX12_aButter_108 ?_
      refine jr_iadd hF dX12_aButter_111 ?_
      refine jr_bipush (v := 6) hF dX12_aButter_112 rfl ?_
      refine jr_iadd hF dX12_aButter_114 ?_
      refine jr_aload_n hF dX12_aButter_115 0 rfl rfl ?_
      refine jr_getRT (cr := 50) hF gf_X12_7 hT h0 rfl rfl dX12_aButter_116 (fun th6 => ?_)
      refine jr_iload_n hF dX12_aButter_119 1 rfl rfl ?_
      refine jr_iconst (v := 1) hF dX12_aButter_120 rfl ?_
      refine jr_iadd hF dX12_aButter_121 ?_
      refine jr_iaload hF th6 dX12_aButter_122 hf (fun hf => ?_)
      refine jr_iastore hF th3 dX12_aButter_123 hf (fun hf => ?_)
      refine jr_letW hf (fun w7 hf => ?_)
      refine jr_iconst (v := 1) hF dX12_aButter_124 rfl ?_
      obtain rfl := Option.some.inj hf
      exact jr_zreturn hF hE (Or.inr rfl) dX12_aButter_125
    · refine jr_iconst (v := 0) hF dX12_aButter_93 rfl ?_
      obtain rfl := Option.some.inj hf
      exact jr_zreturn hF hE (Or.inl rfl) dX12_aButter_94
  · refine jr_iconst (v := 0) hF dX12_aButter_80 rfl ?_
    obtain rfl := Option.some.inj hf
    exact jr_zreturn hF hE (Or.inl rfl) dX12_aButter_81
set_option maxRecDepth 100000 in
def fb_X12_aButter_0 (σ : lt_S) (o : Nat) (w : lt_W) : Option (Int32 × lt_W) := Option.bind (f_X12_ahead σ o w) (fun q1 => Option.bind (f_X12_isName σ o q1) (fun q2 => if q2 = 0 then Option.bind (f_X12_fails σ o 2 q1) (fun q9 => lt_bz q9.1 (some (q9.1, q9.2))) else lt_ck 1712 (lt_len σ (lt_r σ o 0)) (Option.bind (f_X12_findHere σ o 28 (lt_gi q1 (lt_r σ o 0) (1712 : Int32).toNatClampNeg) q1) (fun q4 => if q4 = (-1) then fb_X12_aButter_69 σ o 2132 q1 else Option.bind (f_X12_guestRow q4) (fun q6 => lt_ck ((1712 + q6) + 6) (lt_len σ (lt_r σ o 0)) (if (lt_gi q1 (lt_r σ o 0) ((1712 + q6) + 6).toNatClampNeg) = (-1) then fb_X12_aButter_69 σ o 2132 q1 else Option.bind (f_X12_fails σ o 5 q1) (fun q7 => lt_bz q7.1 (some (q7.1, q7.2)))))))))
set_option maxHeartbeats 4000000 in
set_option maxRecDepth 100000 in
theorem jb_X12_aButter_0 {X : lt_X} {σ : lt_S} (hT : lt_Wt σ) {o : Nat} (h0 : lt_c σ o = 12) {r : Int32 × lt_W} (hF : lt_F X cX12_aButter RX12 3 (lt_rm 11)) (hE : lt_E X 0 0 σ (some .boolean) (some (.int r.1)) r.2) : ∀ (w : lt_W), fb_X12_aButter_0 σ o w = some r → lt_J X 0 0 σ w 0 [(0, .ref (lt_z X + o))] [] := by
  intro w hf
  unfold fb_X12_aButter_0 at hf
  refine jr_sipush (v := 2132) hF dX12_aButter_0 rfl ?_
  refine jr_istore_n (lv' := [(0, .ref (lt_z X + o)), (1, .int 2132)]) hF dX12_aButter_3 rfl (by decide) [1, 0] rfl ?_
  refine jr_aload_n hF dX12_aButter_4 0 rfl rfl ?_
  obtain ⟨q1, hq1, hf⟩ := Option.bind_eq_some_iff.mp hf
  refine jr_cV0v hF ml_X12_173 (c_X12_ahead hT h0 hq1) h0 ⟨Nat.le_of_ble_eq_true rfl, Nat.le_of_ble_eq_true rfl⟩ (Nat.le_of_ble_eq_true rfl) dX12_aButter_5 ?_
  refine jr_aload_n hF dX12_aButter_8 0 rfl rfl ?_
  refine jr_ldcS1 hF dX12_aButter_9 ?_
  obtain ⟨q2, hq2, hf⟩ := Option.bind_eq_some_iff.mp hf
  refine jr_cV11 hF ml_X12_195 (c_X12_isName hT h0 hq2) h0 ⟨Nat.le_of_ble_eq_true rfl, Nat.le_of_ble_eq_true rfl⟩ (Nat.le_of_ble_eq_true rfl) dX12_aButter_11 ?_
  refine jr_if_ne (tgt := 23) hF dX12_aButter_14 rfl hf (fun hf => ?_) (fun hf => ?_)
  · refine jr_aload_n hF dX12_aButter_23 0 rfl rfl ?_
    refine jr_bipush (v := 28) hF dX12_aButter_24 rfl ?_
    refine jr_aload_n hF dX12_aButter_26 0 rfl rfl ?_
    refine jr_getRT (cr := 50) hF gf_X12_7 hT h0 rfl rfl dX12_aButter_27 (fun th3 => ?_)
    refine jr_sipush (v := 1712) hF dX12_aButter_30 rfl ?_
    refine jr_iaload hF th3 dX12_aButter_33 hf (fun hf => ?_)
    obtain ⟨q4, hq4, hf⟩ := Option.bind_eq_some_iff.mp hf
    refine jr_cV21 hF ml_X12_199 (c_X12_findHere hT h0 hq4) h0 ⟨Nat.le_of_ble_eq_true rfl, Nat.le_of_ble_eq_true rfl⟩ (Nat.le_of_ble_eq_true rfl) dX12_aButter_34 ?_
    refine jr_istore_n (lv' := [(0, .ref (lt_z X + o)), (1, .int 2132), (2, .int q4)]) hF dX12_aButter_37 rfl (by decide) [1, 2, 0] rfl ?_
    refine jr_iload_n hF dX12_aButter_38 2 rfl rfl ?_
    refine jr_iconst (v := (-1)) hF dX12_aButter_39 rfl ?_
    refine jr_icmp_eq (tgt := 69) hF dX12_aButter_40 rfl hf (fun hf => ?_) (fun hf => ?_)
    · refine jr_sub [0, 1] rfl ?_
      exact jb_X12_aButter_69 hT h0 hF hE _ _ hf
    · refine jr_aload_n hF dX12_aButter_43 0 rfl rfl ?_
      refine jr_getRT (cr := 50) hF gf_X12_7 hT h0 rfl rfl dX12_aButter_44 (fun th5 => ?_)
      refine jr_sipush (v := 1712) hF dX12_aButter_47 rfl ?_
      refine jr_iload_n hF dX12_aButter_50 2 rfl rfl ?_
      obtain ⟨q6, hq6, hf⟩ := Option.bind_eq_some_iff.mp hf
      refine jr_cS11 hF ml_X12_192 (c_X12_guestRow hq6) ⟨Nat.le_of_ble_eq_true rfl, Nat.le_of_ble_eq_true rfl⟩ (Nat.le_of_ble_eq_true rfl) dX12_aButter_51 ?_
      refine jr_iadd hF dX12_aButter_54 ?_
      refine jr_bipush (v := 6) hF dX12_aButter_55 rfl ?_
      refine jr_iadd hF dX12_aButter_57 ?_
      refine jr_iaload hF th5 dX12_aButter_58 hf (fun hf => ?_)
      refine jr_iconst (v := (-1)) hF dX12_aButter_59 rfl ?_
      refine jr_icmp_eq (tgt := 69) hF dX12_aButter_60 rfl hf (fun hf => ?_) (fun hf => ?_)
      · refine jr_sub [0, 1] rfl ?_
        exact jb_X12_aButter_69 hT h0 hF hE _ _ hf
      · refine jr_aload_n hF dX12_aButter_63 0 rfl rfl ?_
        refine jr_iconst (v := 5) hF dX12_aButter_64 rfl ?_
        obtain ⟨q7, hq7, hf⟩ := Option.bind_eq_some_iff.mp hf
        refine jr_cV11 hF ml_X12_179 (c_X12_fails h0 hq7) h0 ⟨Nat.le_of_ble_eq_true rfl, Nat.le_of_ble_eq_true rfl⟩ (Nat.le_of_ble_eq_true rfl) dX12_aButter_65 ?_
        obtain ⟨b8, hf⟩ := lt_bzE hf
        obtain rfl := Option.some.inj hf
        exact jr_zreturn hF hE b8 dX12_aButter_68
  · refine jr_aload_n hF dX12_aButter_17 0 rfl rfl ?_
    refine jr_iconst (v := 2) hF dX12_aButter_18 rfl ?_
    obtain ⟨q9, hq9, hf⟩ := Option.bind_eq_some_iff.mp hf
    refine jr_cV11 hF ml_X12_179 (c_X12_fails h0 hq9) h0 ⟨Nat.le_of_ble_eq_true rfl, Nat.le_of_ble_eq_true rfl⟩ (Nat.le_of_ble_eq_true rfl) dX12_aButter_19 ?_
    obtain ⟨b10, hf⟩ := lt_bzE hf
    obtain rfl := Option.some.inj hf
    exact jr_zreturn hF hE b10 dX12_aButter_22
def f_X12_aButter (σ : lt_S) (o : Nat) (w : lt_W) : Option (Int32 × lt_W) := fb_X12_aButter_0 σ o w
set_option maxRecDepth 100000 in
theorem c_X12_aButter {l : Launch} {D : va_G} {gA : Nat → ClassId} {s0 : State} {σ : lt_S} (hT : lt_Wt σ) {o : Nat} (h0 : lt_c σ o = 12) {w : lt_W} {r : Int32 × lt_W} (hf : f_X12_aButter σ o w = some r) : lt_C l D gA s0 yX12_aButter cX12_aButter 3 (some .boolean) (lt_rm 11) [.ref (s0.heap.size + o)] σ w σ (some (.int r.1)) r.2 := by
  refine lt_enter rfl (Nat.le_of_ble_eq_true rfl) (fun X e1 e2 e3 e4 hF hE => ?_)
  subst e1 e2 e3 e4
  exact jb_X12_aButter_0 hT h0 hF hE _ hf

set_option maxRecDepth 100000 in
def fb_X12_wantWord_0 (σ : lt_S) (o : Nat) (x2 : Int32) (w : lt_W) : Option (Int32 × lt_W) := Option.bind (f_X12_inWords σ o w) (fun q1 => if q1 = x2 then Option.bind (f_X12_ahead σ o w) (fun q2 => some (1, q2)) else Option.bind (f_X12_fails σ o 2 w) (fun q3 => lt_bz q3.1 (some (q3.1, q3.2))))
set_option maxHeartbeats 4000000 in
set_option maxRecDepth 100000 in
theorem jb_X12_wantWord_0 {X : lt_X} {σ : lt_S} (hT : lt_Wt σ) {o : Nat} (h0 : lt_c σ o = 12) {r : Int32 × lt_W} (hF : lt_F X cX12_wantWord RX12 3 (lt_rm 8)) (hE : lt_E X 0 0 σ (some .boolean) (some (.int r.1)) r.2) : ∀ (x2 : Int32) (w : lt_W), fb_X12_wantWord_0 σ o x2 w = some r → lt_J X 0 0 σ w 0 [(0, .ref (lt_z X + o)), (1, .ref (lt_sa (lt_Xs X) 1)), (2, .int x2)] [] := by
  intro x2 w hf
  unfold fb_X12_wantWord_0 at hf
  refine jr_aload_n hF dX12_wantWord_0 0 rfl rfl ?_
  refine jr_aload_n hF dX12_wantWord_1 1 rfl rfl ?_
  obtain ⟨q1, hq1, hf⟩ := Option.bind_eq_some_iff.mp hf
  refine jr_cV11 hF ml_X12_182 (c_X12_inWords hT h0 hq1) h0 ⟨Nat.le_of_ble_eq_true rfl, Nat.le_of_ble_eq_true rfl⟩ (Nat.le_of_ble_eq_true rfl) dX12_wantWord_2 ?_
  refine jr_iload_n hF dX12_wantWord_5 2 rfl rfl ?_
  refine jr_icmp_eq (tgt := 15) hF dX12_wantWord_6 rfl hf (fun hf => ?_) (fun hf => ?_)
  · refine jr_aload_n hF dX12_wantWord_15 0 rfl rfl ?_
    obtain ⟨q2, hq2, hf⟩ := Option.bind_eq_some_iff.mp hf
    refine jr_cV0v hF ml_X12_173 (c_X12_ahead hT h0 hq2) h0 ⟨Nat.le_of_ble_eq_true rfl, Nat.le_of_ble_eq_true rfl⟩ (Nat.le_of_ble_eq_true rfl) dX12_wantWord_16 ?_
    refine jr_iconst (v := 1) hF dX12_wantWord_19 rfl ?_
    obtain rfl := Option.some.inj hf
    exact jr_zreturn hF hE (Or.inr rfl) dX12_wantWord_20
  · refine jr_aload_n hF dX12_wantWord_9 0 rfl rfl ?_
    refine jr_iconst (v := 2) hF dX12_wantWord_10 rfl ?_
    obtain ⟨q3, hq3, hf⟩ := Option.bind_eq_some_iff.mp hf
    refine jr_cV11 hF ml_X12_179 (c_X12_fails h0 hq3) h0 ⟨Nat.le_of_ble_eq_true rfl, Nat.le_of_ble_eq_true rfl⟩ (Nat.le_of_ble_eq_true rfl) dX12_wantWord_11 ?_
    obtain ⟨b4, hf⟩ := lt_bzE hf
    obtain rfl := Option.some.inj hf
    exact jr_zreturn hF hE b4 dX12_wantWord_14
def f_X12_wantWord (σ : lt_S) (o : Nat) (x2 : Int32) (w : lt_W) : Option (Int32 × lt_W) := fb_X12_wantWord_0 σ o x2 w
set_option maxRecDepth 100000 in
theorem c_X12_wantWord {l : Launch} {D : va_G} {gA : Nat → ClassId} {s0 : State} {σ : lt_S} (hT : lt_Wt σ) {o : Nat} (h0 : lt_c σ o = 12) {x2 : Int32} {w : lt_W} {r : Int32 × lt_W} (hf : f_X12_wantWord σ o x2 w = some r) : lt_C l D gA s0 yX12_wantWord cX12_wantWord 3 (some .boolean) (lt_rm 8) [.ref (s0.heap.size + o), .ref (lt_sa s0 1), .int x2] σ w σ (some (.int r.1)) r.2 := by
  refine lt_enter rfl (Nat.le_of_ble_eq_true rfl) (fun X e1 e2 e3 e4 hF hE => ?_)
  subst e1 e2 e3 e4
  exact jb_X12_wantWord_0 hT h0 hF hE _ _ hf

set_option maxRecDepth 100000 in
def fb_X12_number_30 (σ : lt_S) (o : Nat) (w : lt_W) : Option (Int32 × lt_W) := Option.bind (f_X12_fails σ o 4 w) (fun q1 => lt_bz q1.1 (some (q1.1, q1.2)))
set_option maxHeartbeats 4000000 in
set_option maxRecDepth 100000 in
theorem jb_X12_number_30 {X : lt_X} {σ : lt_S} (hT : lt_Wt σ) {o : Nat} (h0 : lt_c σ o = 12) {r : Int32 × lt_W} (hF : lt_F X cX12_number RX12 4 (lt_rm 3)) (hE : lt_E X 0 0 σ (some .boolean) (some (.int r.1)) r.2) : ∀ (w : lt_W), fb_X12_number_30 σ o w = some r → lt_J X 0 0 σ w 30 [(0, .ref (lt_z X + o))] [] := by
  intro w hf
  unfold fb_X12_number_30 at hf
  refine jr_aload_n hF dX12_number_30 0 rfl rfl ?_
  refine jr_iconst (v := 4) hF dX12_number_31 rfl ?_
  obtain ⟨q1, hq1, hf⟩ := Option.bind_eq_some_iff.mp hf
  refine jr_cV11 hF ml_X12_179 (c_X12_fails h0 hq1) h0 ⟨Nat.le_of_ble_eq_true rfl, Nat.le_of_ble_eq_true rfl⟩ (Nat.le_of_ble_eq_true rfl) dX12_number_32 ?_
  obtain ⟨b2, hf⟩ := lt_bzE hf
  obtain rfl := Option.some.inj hf
  exact jr_zreturn hF hE b2 dX12_number_35
set_option maxRecDepth 100000 in
def fb_X12_number_0 (σ : lt_S) (o : Nat) (x1 : Int32) (x2 : Int32) (x3 : Int32) (w : lt_W) : Option (Int32 × lt_W) := if (lt_gi w o 12) = 3 then if (lt_gi w o 15) < x2 then fb_X12_number_30 σ o w else if (lt_gi w o 15) ≤ x3 then lt_ck x1 (lt_len σ (lt_r σ o 0)) (lt_let (lt_si w (lt_r σ o 0) x1.toNatClampNeg (lt_gi w o 15)) (fun w2 => Option.bind (f_X12_ahead σ o w2) (fun q3 => some (1, q3)))) else fb_X12_number_30 σ o w else Option.bind (f_X12_fails σ o 2 w) (fun q4 => lt_bz q4.1 (some (q4.1, q4.2)))
set_option maxHeartbeats 4000000 in
set_option maxRecDepth 100000 in
theorem jb_X12_number_0 {X : lt_X} {σ : lt_S} (hT : lt_Wt σ) {o : Nat} (h0 : lt_c σ o = 12) {r : Int32 × lt_W} (hF : lt_F X cX12_number RX12 4 (lt_rm 3)) (hE : lt_E X 0 0 σ (some .boolean) (some (.int r.1)) r.2) : ∀ (x1 : Int32) (x2 : Int32) (x3 : Int32) (w : lt_W), fb_X12_number_0 σ o x1 x2 x3 w = some r → lt_J X 0 0 σ w 0 [(0, .ref (lt_z X + o)), (1, .int x1), (2, .int x2), (3, .int x3)] [] := by
  intro x1 x2 x3 w hf
  unfold fb_X12_number_0 at hf
  refine jr_aload_n hF dX12_number_0 0 rfl rfl ?_
  refine jr_getI hF gf_X12_142 h0 dX12_number_1 ?_
  refine jr_iconst (v := 3) hF dX12_number_4 rfl ?_
  refine jr_icmp_eq (tgt := 14) hF dX12_number_5 rfl hf (fun hf => ?_) (fun hf => ?_)
  · refine jr_aload_n hF dX12_number_14 0 rfl rfl ?_
    refine jr_getI hF gf_X12_139 h0 dX12_number_15 ?_
    refine jr_iload_n hF dX12_number_18 2 rfl rfl ?_
    refine jr_icmp_lt (tgt := 30) hF dX12_number_19 rfl hf (fun hf => ?_) (fun hf => ?_)
    · refine jr_sub [0] rfl ?_
      exact jb_X12_number_30 hT h0 hF hE _ hf
    · refine jr_aload_n hF dX12_number_22 0 rfl rfl ?_
      refine jr_getI hF gf_X12_139 h0 dX12_number_23 ?_
      refine jr_iload_n hF dX12_number_26 3 rfl rfl ?_
      refine jr_icmp_le (tgt := 36) hF dX12_number_27 rfl hf (fun hf => ?_) (fun hf => ?_)
      · refine jr_aload_n hF dX12_number_36 0 rfl rfl ?_
        refine jr_getRT (cr := 50) hF gf_X12_7 hT h0 rfl rfl dX12_number_37 (fun th1 => ?_)
        refine jr_iload_n hF dX12_number_40 1 rfl rfl ?_
        refine jr_aload_n hF dX12_number_41 0 rfl rfl ?_
        refine jr_getI hF gf_X12_139 h0 dX12_number_42 ?_
        refine jr_iastore hF th1 dX12_number_45 hf (fun hf => ?_)
        refine jr_letW hf (fun w2 hf => ?_)
        refine jr_aload_n hF dX12_number_46 0 rfl rfl ?_
        obtain ⟨q3, hq3, hf⟩ := Option.bind_eq_some_iff.mp hf
        refine jr_cV0v hF ml_X12_173 (c_X12_ahead hT h0 hq3) h0 ⟨Nat.le_of_ble_eq_true rfl, Nat.le_of_ble_eq_true rfl⟩ (Nat.le_of_ble_eq_true rfl) dX12_number_47 ?_
        refine jr_iconst (v := 1) hF dX12_number_50 rfl ?_
        obtain rfl := Option.some.inj hf
        exact jr_zreturn hF hE (Or.inr rfl) dX12_number_51
      · refine jr_sub [0] rfl ?_
        exact jb_X12_number_30 hT h0 hF hE _ hf
  · refine jr_aload_n hF dX12_number_8 0 rfl rfl ?_
    refine jr_iconst (v := 2) hF dX12_number_9 rfl ?_
    obtain ⟨q4, hq4, hf⟩ := Option.bind_eq_some_iff.mp hf
    refine jr_cV11 hF ml_X12_179 (c_X12_fails h0 hq4) h0 ⟨Nat.le_of_ble_eq_true rfl, Nat.le_of_ble_eq_true rfl⟩ (Nat.le_of_ble_eq_true rfl) dX12_number_10 ?_
    obtain ⟨b5, hf⟩ := lt_bzE hf
    obtain rfl := Option.some.inj hf
    exact jr_zreturn hF hE b5 dX12_number_13
def f_X12_number (σ : lt_S) (o : Nat) (x1 : Int32) (x2 : Int32) (x3 : Int32) (w : lt_W) : Option (Int32 × lt_W) := fb_X12_number_0 σ o x1 x2 x3 w
set_option maxRecDepth 100000 in
theorem c_X12_number {l : Launch} {D : va_G} {gA : Nat → ClassId} {s0 : State} {σ : lt_S} (hT : lt_Wt σ) {o : Nat} (h0 : lt_c σ o = 12) {x1 : Int32} {x2 : Int32} {x3 : Int32} {w : lt_W} {r : Int32 × lt_W} (hf : f_X12_number σ o x1 x2 x3 w = some r) : lt_C l D gA s0 yX12_number cX12_number 4 (some .boolean) (lt_rm 3) [.ref (s0.heap.size + o), .int x1, .int x2, .int x3] σ w σ (some (.int r.1)) r.2 := by
  refine lt_enter rfl (Nat.le_of_ble_eq_true rfl) (fun X e1 e2 e3 e4 hF hE => ?_)
  subst e1 e2 e3 e4
  exact jb_X12_number_0 hT h0 hF hE _ _ _ _ hf

set_option maxRecDepth 100000 in
def fb_X12_isThere_0 (σ : lt_S) (o : Nat) (x1 : Int32) (w : lt_W) : Option (Int32 × lt_W) := Option.bind (f_X12_inWords σ o w) (fun q1 => if q1 = x1 then Option.bind (f_X12_ahead σ o w) (fun q2 => some (1, q2)) else some (0, w))
set_option maxHeartbeats 4000000 in
set_option maxRecDepth 100000 in
theorem jb_X12_isThere_0 {X : lt_X} {σ : lt_S} (hT : lt_Wt σ) {o : Nat} (h0 : lt_c σ o = 12) {r : Int32 × lt_W} (hF : lt_F X cX12_isThere RX12 2 (lt_rm 8)) (hE : lt_E X 0 0 σ (some .boolean) (some (.int r.1)) r.2) : ∀ (x1 : Int32) (w : lt_W), fb_X12_isThere_0 σ o x1 w = some r → lt_J X 0 0 σ w 0 [(0, .ref (lt_z X + o)), (1, .int x1)] [] := by
  intro x1 w hf
  unfold fb_X12_isThere_0 at hf
  refine jr_aload_n hF dX12_isThere_0 0 rfl rfl ?_
  refine jr_ldcS1 hF dX12_isThere_1 ?_
  obtain ⟨q1, hq1, hf⟩ := Option.bind_eq_some_iff.mp hf
  refine jr_cV11 hF ml_X12_182 (c_X12_inWords hT h0 hq1) h0 ⟨Nat.le_of_ble_eq_true rfl, Nat.le_of_ble_eq_true rfl⟩ (Nat.le_of_ble_eq_true rfl) dX12_isThere_3 ?_
  refine jr_iload_n hF dX12_isThere_6 1 rfl rfl ?_
  refine jr_icmp_eq (tgt := 12) hF dX12_isThere_7 rfl hf (fun hf => ?_) (fun hf => ?_)
  · refine jr_aload_n hF dX12_isThere_12 0 rfl rfl ?_
    obtain ⟨q2, hq2, hf⟩ := Option.bind_eq_some_iff.mp hf
    refine jr_cV0v hF ml_X12_173 (c_X12_ahead hT h0 hq2) h0 ⟨Nat.le_of_ble_eq_true rfl, Nat.le_of_ble_eq_true rfl⟩ (Nat.le_of_ble_eq_true rfl) dX12_isThere_13 ?_
    refine jr_iconst (v := 1) hF dX12_isThere_16 rfl ?_
    obtain rfl := Option.some.inj hf
    exact jr_zreturn hF hE (Or.inr rfl) dX12_isThere_17
  · refine jr_iconst (v := 0) hF dX12_isThere_10 rfl ?_
    obtain rfl := Option.some.inj hf
    exact jr_zreturn hF hE (Or.inl rfl) dX12_isThere_11
def f_X12_isThere (σ : lt_S) (o : Nat) (x1 : Int32) (w : lt_W) : Option (Int32 × lt_W) := fb_X12_isThere_0 σ o x1 w
set_option maxRecDepth 100000 in
theorem c_X12_isThere {l : Launch} {D : va_G} {gA : Nat → ClassId} {s0 : State} {σ : lt_S} (hT : lt_Wt σ) {o : Nat} (h0 : lt_c σ o = 12) {x1 : Int32} {w : lt_W} {r : Int32 × lt_W} (hf : f_X12_isThere σ o x1 w = some r) : lt_C l D gA s0 yX12_isThere cX12_isThere 2 (some .boolean) (lt_rm 8) [.ref (s0.heap.size + o), .int x1] σ w σ (some (.int r.1)) r.2 := by
  refine lt_enter rfl (Nat.le_of_ble_eq_true rfl) (fun X e1 e2 e3 e4 hF hE => ?_)
  subst e1 e2 e3 e4
  exact jb_X12_isThere_0 hT h0 hF hE _ _ hf

set_option maxRecDepth 100000 in
def fb_X12_aGuest_192 (σ : lt_S) (o : Nat) (x2 : Int32) (y0 : Nat) (y1 : Int32) (y2 : Int32) (w : lt_W) : Option (Int32 × lt_W) := lt_ck y1 (lt_len σ y0) (lt_let (lt_si w y0 y1.toNatClampNeg y2) (fun w1 => lt_ck (x2 + 4) (lt_len σ (lt_r σ o 0)) (lt_let (lt_si w1 (lt_r σ o 0) (x2 + 4).toNatClampNeg 0) (fun w3 => lt_ck (x2 + 5) (lt_len σ (lt_r σ o 0)) (lt_let (lt_si w3 (lt_r σ o 0) (x2 + 5).toNatClampNeg 1) (fun w5 => lt_ck (x2 + 6) (lt_len σ (lt_r σ o 0)) (lt_let (lt_si w5 (lt_r σ o 0) (x2 + 6).toNatClampNeg (-1)) (fun w7 => lt_ck 1712 (lt_len σ (lt_r σ o 0)) (lt_ck 1712 (lt_len σ (lt_r σ o 0)) (lt_let (lt_si w7 (lt_r σ o 0) (1712 : Int32).toNatClampNeg ((lt_gi w7 (lt_r σ o 0) (1712 : Int32).toNatClampNeg) + 1)) (fun w9 => some (1, w9))))))))))))
set_option maxHeartbeats 4000000 in
set_option maxRecDepth 100000 in
theorem jb_X12_aGuest_192 {X : lt_X} {σ : lt_S} (hT : lt_Wt σ) {o : Nat} (h0 : lt_c σ o = 12) {r : Int32 × lt_W} (hF : lt_F X cX12_aGuest RX12 3 (lt_rm 9)) (hE : lt_E X 0 0 σ (some .boolean) (some (.int r.1)) r.2) : ∀ (x2 : Int32) (y0 : Nat) (y1 : Int32) (y2 : Int32) (w : lt_W), lt_c σ y0 = 50 → fb_X12_aGuest_192 σ o x2 y0 y1 y2 w = some r → lt_J X 0 0 σ w 192 [(0, .ref (lt_z X + o)), (2, .int x2)] [.int y2, .int y1, .ref (lt_z X + y0)] := by
  intro x2 y0 y1 y2 w u0 hf
  unfold fb_X12_aGuest_192 at hf
  refine jr_iastore hF u0 dX12_aGuest_192 hf (fun hf => ?_)
  refine jr_letW hf (fun w1 hf => ?_)
  refine jr_aload_n hF dX12_aGuest_193 0 rfl rfl ?_
  refine jr_getRT (cr := 50) hF gf_X12_7 hT h0 rfl rfl dX12_aGuest_194 (fun th2 => ?_)
  refine jr_iload_n hF dX12_aGuest_197 1 rfl rfl ?_
  refine jr_iconst (v := 4) hF dX12_aGuest_198 rfl ?_
  refine jr_iadd hF dX12_aGuest_199 ?_
  refine jr_iconst (v := 0) hF dX12_aGuest_200 rfl ?_
  refine jr_iastore hF th2 dX12_aGuest_201 hf (fun hf => ?_)
  refine jr_letW hf (fun w3 hf => ?_)
  refine jr_aload_n hF dX12_aGuest_202 0 rfl rfl ?_
  refine jr_getRT (cr := 50) hF gf_X12_7 hT h0 rfl rfl dX12_aGuest_203 (fun th4 => ?_)
  refine jr_iload_n hF dX12_aGuest_206 1 rfl rfl ?_
  refine jr_iconst (v := 5) hF dX12_aGuest_207 rfl ?_
  refine jr_iadd hF dX12_aGuest_208 ?_
  refine jr_iconst (v := 1) hF dX12_aGuest_209 rfl ?_
  refine jr_iastore hF th4 dX12_aGuest_210 hf (fun hf => ?_)
  refine jr_letW hf (fun w5 hf => ?_)
  refine jr_aload_n hF dX12_aGuest_211 0 rfl rfl ?_
  refine jr_getRT (cr := 50) hF gf_X12_7 hT h0 rfl rfl dX12_aGuest_212 (fun th6 => ?_)
  refine jr_iload_n hF dX12_aGuest_215 1 rfl rfl ?_
  refine jr_bipush (v := 6) hF dX12_aGuest_216 rfl ?_
  refine jr_iadd hF dX12_aGuest_218 ?_
  refine jr_iconst (v := (-1)) hF dX12_aGuest_219 rfl ?_
  refine jr_iastore hF th6 dX12_aGuest_220 hf (fun hf => ?_)
  refine jr_letW hf (fun w7 hf => ?_)
  refine jr_aload_n hF dX12_aGuest_221 0 rfl rfl ?_
  refine jr_getRT (cr := 50) hF gf_X12_7 hT h0 rfl rfl dX12_aGuest_222 (fun th8 => ?_)
  refine jr_sipush (v := 1712) hF dX12_aGuest_225 rfl ?_
  refine jr_dup2 hF dX12_aGuest_228 rfl rfl ?_
  refine jr_iaload hF th8 dX12_aGuest_229 hf (fun hf => ?_)
  refine jr_iconst (v := 1) hF dX12_aGuest_230 rfl ?_
  refine jr_iadd hF dX12_aGuest_231 ?_
  refine jr_iastore hF th8 dX12_aGuest_232 hf (fun hf => ?_)
  refine jr_letW hf (fun w9 hf => ?_)
  refine jr_iconst (v := 1) hF dX12_aGuest_233 rfl ?_
  obtain rfl := Option.some.inj hf
  exact jr_zreturn hF hE (Or.inr rfl) dX12_aGuest_234
set_option maxRecDepth 100000 in
def fb_X12_aGuest_0 (σ : lt_S) (o : Nat) (w : lt_W) : Option (Int32 × lt_W) := lt_ck 1712 (lt_len σ (lt_r σ o 0)) (lt_let (lt_gi w (lt_r σ o 0) (1712 : Int32).toNatClampNeg) (fun z2 => Option.bind (f_X12_guestRow z2) (fun q3 => if z2 = 7 then Option.bind (f_X12_fails σ o 6 w) (fun q24 => lt_bz q24.1 (some (q24.1, q24.2))) else Option.bind (f_X12_ahead σ o w) (fun q4 => Option.bind (f_X12_isName σ o q4) (fun q5 => if q5 = 0 then Option.bind (f_X12_fails σ o 2 q4) (fun q22 => lt_bz q22.1 (some (q22.1, q22.2))) else Option.bind (f_X12_findHere σ o 28 z2 q4) (fun q6 => if q6 = (-1) then Option.bind (f_X12_nameHere σ o q4) (fun q8 => lt_ck (28 + z2) (lt_len σ (lt_r σ o 1)) (lt_let (lt_sl q4 (lt_r σ o 1) (28 + z2).toNatClampNeg q8) (fun w9 => Option.bind (f_X12_ahead σ o w9) (fun q10 => Option.bind (f_X12_wantWord σ o 7 q10) (fun q11 => if q11.1 = 0 then some (0, q11.2) else Option.bind (f_X12_number σ o (1712 + q3) 0 20 q11.2) (fun q12 => if q12.1 = 0 then some (0, q12.2) else Option.bind (f_X12_wantWord σ o 8 q12.2) (fun q13 => if q13.1 = 0 then some (0, q13.2) else Option.bind (f_X12_number σ o ((1712 + q3) + 1) 0 20 q13.2) (fun q14 => if q14.1 = 0 then some (0, q14.2) else Option.bind (f_X12_wantWord σ o 9 q14.2) (fun q15 => if q15.1 = 0 then some (0, q15.2) else Option.bind (f_X12_number σ o ((1712 + q3) + 2) 0 20 q15.2) (fun q16 => if q16.1 = 0 then some (0, q16.2) else Option.bind (f_X12_isThere σ o 10 q16.2) (fun q18 => if q18.1 = 0 then Option.bind (f_X12_isThere σ o 18 q18.2) (fun q19 => if q19.1 = 0 then fb_X12_aGuest_192 σ o (1712 + q3) (lt_r σ o 0) ((1712 + q3) + 3) 0 q19.2 else fb_X12_aGuest_192 σ o (1712 + q3) (lt_r σ o 0) ((1712 + q3) + 3) 2 q19.2) else fb_X12_aGuest_192 σ o (1712 + q3) (lt_r σ o 0) ((1712 + q3) + 3) 1 q18.2))))))))))) else Option.bind (f_X12_fails σ o 3 q4) (fun q20 => lt_bz q20.1 (some (q20.1, q20.2)))))))))
set_option maxHeartbeats 4000000 in
set_option maxRecDepth 100000 in
theorem jb_X12_aGuest_0 {X : lt_X} {σ : lt_S} (hT : lt_Wt σ) {o : Nat} (h0 : lt_c σ o = 12) {r : Int32 × lt_W} (hF : lt_F X cX12_aGuest RX12 3 (lt_rm 9)) (hE : lt_E X 0 0 σ (some .boolean) (some (.int r.1)) r.2) : ∀ (w : lt_W), fb_X12_aGuest_0 σ o w = some r → lt_J X 0 0 σ w 0 [(0, .ref (lt_z X + o))] [] := by
  intro w hf
  unfold fb_X12_aGuest_0 at hf
  refine jr_aload_n hF dX12_aGuest_0 0 rfl rfl ?_
  refine jr_getRT (cr := 50) hF gf_X12_7 hT h0 rfl rfl dX12_aGuest_1 (fun th1 => ?_)
  refine jr_sipush (v := 1712) hF dX12_aGuest_4 rfl ?_
  refine jr_iaload hF th1 dX12_aGuest_7 hf (fun hf => ?_)
  refine jr_letI hf (fun z2 hf => ?_)
  refine jr_istore_n (lv' := [(0, .ref (lt_z X + o)), (1, .int z2)]) hF dX12_aGuest_8 rfl (by decide) [1, 0] rfl ?_
  refine jr_sipush (v := 1712) hF dX12_aGuest_9 rfl ?_
  refine jr_iload_n hF dX12_aGuest_12 1 rfl rfl ?_
  obtain ⟨q3, hq3, hf⟩ := Option.bind_eq_some_iff.mp hf
  refine jr_cS11 hF ml_X12_192 (c_X12_guestRow hq3) ⟨Nat.le_of_ble_eq_true rfl, Nat.le_of_ble_eq_true rfl⟩ (Nat.le_of_ble_eq_true rfl) dX12_aGuest_13 ?_
  refine jr_iadd hF dX12_aGuest_16 ?_
  refine jr_istore_n (lv' := [(0, .ref (lt_z X + o)), (1, .int z2), (2, .int (1712 + q3))]) hF dX12_aGuest_17 rfl (by decide) [1, 2, 0] rfl ?_
  refine jr_iload_n hF dX12_aGuest_18 1 rfl rfl ?_
  refine jr_bipush (v := 7) hF dX12_aGuest_19 rfl ?_
  refine jr_icmp_ne (tgt := 31) hF dX12_aGuest_21 rfl hf (fun hf => ?_) (fun hf => ?_)
  · refine jr_aload_n hF dX12_aGuest_31 0 rfl rfl ?_
    obtain ⟨q4, hq4, hf⟩ := Option.bind_eq_some_iff.mp hf
    refine jr_cV0v hF ml_X12_173 (c_X12_ahead hT h0 hq4) h0 ⟨Nat.le_of_ble_eq_true rfl, Nat.le_of_ble_eq_true rfl⟩ (Nat.le_of_ble_eq_true rfl) dX12_aGuest_32 ?_
    refine jr_aload_n hF dX12_aGuest_35 0 rfl rfl ?_
    refine jr_ldcS1 hF dX12_aGuest_36 ?_
    obtain ⟨q5, hq5, hf⟩ := Option.bind_eq_some_iff.mp hf
    refine jr_cV11 hF ml_X12_195 (c_X12_isName hT h0 hq5) h0 ⟨Nat.le_of_ble_eq_true rfl, Nat.le_of_ble_eq_true rfl⟩ (Nat.le_of_ble_eq_true rfl) dX12_aGuest_38 ?_
    refine jr_if_ne (tgt := 50) hF dX12_aGuest_41 rfl hf (fun hf => ?_) (fun hf => ?_)
    · refine jr_aload_n hF dX12_aGuest_50 0 rfl rfl ?_
      refine jr_bipush (v := 28) hF dX12_aGuest_51 rfl ?_
      refine jr_iload_n hF dX12_aGuest_53 1 rfl rfl ?_
      obtain ⟨q6, hq6, hf⟩ := Option.bind_eq_some_iff.mp hf
      refine jr_cV21 hF ml_X12_199 (c_X12_findHere hT h0 hq6) h0 ⟨Nat.le_of_ble_eq_true rfl, Nat.le_of_ble_eq_true rfl⟩ (Nat.le_of_ble_eq_true rfl) dX12_aGuest_54 ?_
      refine jr_iconst (v := (-1)) hF dX12_aGuest_57 rfl ?_
      refine jr_icmp_eq (tgt := 67) hF dX12_aGuest_58 rfl hf (fun hf => ?_) (fun hf => ?_)
      · refine jr_aload_n hF dX12_aGuest_67 0 rfl rfl ?_
        refine jr_getRT (cr := 51) hF gf_X12_13 hT h0 rfl rfl dX12_aGuest_68 (fun th7 => ?_)
        refine jr_bipush (v := 28) hF dX12_aGuest_71 rfl ?_
        refine jr_iload_n hF dX12_aGuest_73 1 rfl rfl ?_
        refine jr_iadd hF dX12_aGuest_74 ?_
        refine jr_aload_n hF dX12_aGuest_75 0 rfl rfl ?_
        obtain ⟨q8, hq8, hf⟩ := Option.bind_eq_some_iff.mp hf
        refine jr_cV01 hF ml_X12_186 (c_X12_nameHere hT h0 hq8) h0 ⟨Nat.le_of_ble_eq_true rfl, Nat.le_of_ble_eq_true rfl⟩ (Nat.le_of_ble_eq_true rfl) dX12_aGuest_76 ?_
        refine jr_lastore hF th7 dX12_aGuest_79 hf (fun hf => ?_)
        refine jr_letW hf (fun w9 hf => ?_)
        refine jr_aload_n hF dX12_aGuest_80 0 rfl rfl ?_
        obtain ⟨q10, hq10, hf⟩ := Option.bind_eq_some_iff.mp hf
        refine jr_cV0v hF ml_X12_173 (c_X12_ahead hT h0 hq10) h0 ⟨Nat.le_of_ble_eq_true rfl, Nat.le_of_ble_eq_true rfl⟩ (Nat.le_of_ble_eq_true rfl) dX12_aGuest_81 ?_
        refine jr_aload_n hF dX12_aGuest_84 0 rfl rfl ?_
        refine jr_ldcS1 hF dX12_aGuest_85 ?_
        refine jr_bipush (v := 7) hF dX12_aGuest_87 rfl ?_
        obtain ⟨q11, hq11, hf⟩ := Option.bind_eq_some_iff.mp hf
        refine jr_cV21 hF ml_X12_202 (c_X12_wantWord hT h0 hq11) h0 ⟨Nat.le_of_ble_eq_true rfl, Nat.le_of_ble_eq_true rfl⟩ (Nat.le_of_ble_eq_true rfl) dX12_aGuest_89 ?_
        refine jr_if_eq (tgt := 130) hF dX12_aGuest_92 rfl hf (fun hf => ?_) (fun hf => ?_)
        · refine jr_iconst (v := 0) hF dX12_aGuest_130 rfl ?_
          obtain rfl := Option.some.inj hf
          exact jr_zreturn hF hE (Or.inl rfl) dX12_aGuest_131
        · refine jr_aload_n hF dX12_aGuest_95 0 rfl rfl ?_
          refine jr_iload_n hF dX12_aGuest_96 2 rfl rfl ?_
          refine jr_iconst (v := 0) hF dX12_aGuest_97 rfl ?_
          refine jr_bipush (v := 20) hF dX12_aGuest_98 rfl ?_
          obtain ⟨q12, hq12, hf⟩ := Option.bind_eq_some_iff.mp hf
          refine jr_cV31 hF ml_X12_206 (c_X12_number hT h0 hq12) h0 ⟨Nat.le_of_ble_eq_true rfl, Nat.le_of_ble_eq_true rfl⟩ (Nat.le_of_ble_eq_true rfl) dX12_aGuest_100 ?_
          refine jr_if_eq (tgt := 130) hF dX12_aGuest_103 rfl hf (fun hf => ?_) (fun hf => ?_)
          · refine jr_iconst (v := 0) hF dX12_aGuest_130 rfl ?_
            obtain rfl := Option.some.inj hf
            exact jr_zreturn hF hE (Or.inl rfl) dX12_aGuest_131
          · refine jr_aload_n hF dX12_aGuest_106 0 rfl rfl ?_
            refine jr_ldcS1 hF dX12_aGuest_107 ?_
            refine jr_bipush (v := 8) hF dX12_aGuest_109 rfl ?_
            obtain ⟨q13, hq13, hf⟩ := Option.bind_eq_some_iff.mp hf
            refine jr_cV21 hF ml_X12_202 (c_X12_wantWord hT h0 hq13) h0 ⟨Nat.le_of_ble_eq_true rfl, Nat.le_of_ble_eq_true rfl⟩ (Nat.le_of_ble_eq_true rfl) dX12_aGuest_111 ?_
            refine jr_if_eq (tgt := 130) hF dX12_aGuest_114 rfl hf (fun hf => ?_) (fun hf => ?_)
            · refine jr_iconst (v := 0) hF dX12_aGuest_130 rfl ?_
              obtain rfl := Option.some.inj hf
              exact jr_zreturn hF hE (Or.inl rfl) dX12_aGuest_131
            · refine jr_aload_n hF dX12_aGuest_117 0 rfl rfl ?_
              refine jr_iload_n hF dX12_aGuest_118 2 rfl rfl ?_
              refine jr_iconst (v := 1) hF dX12_aGuest_119 rfl ?_
              refine jr_iadd hF dX12_aGuest_120 ?_
              refine jr_iconst (v := 0) hF dX12_aGuest_121 rfl ?_
              refine jr_bipush (v := 20) hF dX12_aGuest_122 rfl ?_
              obtain ⟨q14, hq14, hf⟩ := Option.bind_eq_some_iff.mp hf
              refine jr_cV31 hF ml_X12_206 (c_X12_number hT h0 hq14) h0 ⟨Nat.le_of_ble_eq_true rfl, Nat.le_of_ble_eq_true rfl⟩ (Nat.le_of_ble_eq_true rfl) dX12_aGuest_124 ?_
              refine jr_if_ne (tgt := 132) hF dX12_aGuest_127 rfl hf (fun hf => ?_) (fun hf => ?_)
              · refine jr_aload_n hF dX12_aGuest_132 0 rfl rfl ?_
                refine jr_ldcS1 hF dX12_aGuest_133 ?_
                refine jr_bipush (v := 9) hF dX12_aGuest_135 rfl ?_
                obtain ⟨q15, hq15, hf⟩ := Option.bind_eq_some_iff.mp hf
                refine jr_cV21 hF ml_X12_202 (c_X12_wantWord hT h0 hq15) h0 ⟨Nat.le_of_ble_eq_true rfl, Nat.le_of_ble_eq_true rfl⟩ (Nat.le_of_ble_eq_true rfl) dX12_aGuest_137 ?_
                refine jr_if_eq (tgt := 156) hF dX12_aGuest_140 rfl hf (fun hf => ?_) (fun hf => ?_)
                · refine jr_iconst (v := 0) hF dX12_aGuest_156 rfl ?_
                  obtain rfl := Option.some.inj hf
                  exact jr_zreturn hF hE (Or.inl rfl) dX12_aGuest_157
                · refine jr_aload_n hF dX12_aGuest_143 0 rfl rfl ?_
                  refine jr_iload_n hF dX12_aGuest_144 2 rfl rfl ?_
                  refine jr_iconst (v := 2) hF dX12_aGuest_145 rfl ?_
                  refine jr_iadd hF dX12_aGuest_146 ?_
                  refine jr_iconst (v := 0) hF dX12_aGuest_147 rfl ?_
                  refine jr_bipush (v := 20) hF dX12_aGuest_148 rfl ?_
                  obtain ⟨q16, hq16, hf⟩ := Option.bind_eq_some_iff.mp hf
                  refine jr_cV31 hF ml_X12_206 (c_X12_number hT h0 hq16) h0 ⟨Nat.le_of_ble_eq_true rfl, Nat.le_of_ble_eq_true rfl⟩ (Nat.le_of_ble_eq_true rfl) dX12_aGuest_150 ?_
                  refine jr_if_ne (tgt := 158) hF dX12_aGuest_153 rfl hf (fun hf => ?_) (fun hf => ?_)
                  · refine jr_aload_n hF dX12_aGuest_158 0 rfl rfl ?_
                    refine jr_getRT (cr := 50) hF gf_X12_7 hT h0 rfl rfl dX12_aGuest_159 (fun th17 => ?_)
                    refine jr_iload_n hF dX12_aGuest_162 2 rfl rfl ?_
                    refine jr_iconst (v := 3) hF dX12_aGuest_163 rfl ?_
                    refine jr_iadd hF dX12_aGuest_164 ?_
                    refine jr_aload_n hF dX12_aGuest_165 0 rfl rfl ?_
                    refine jr_bipush (v := 10) hF dX12_aGuest_166 rfl ?_
                    obtain ⟨q18, hq18, hf⟩ := Option.bind_eq_some_iff.mp hf
                    refine jr_cV11 hF ml_X12_210 (c_X12_isThere hT h0 hq18) h0 ⟨Nat.le_of_ble_eq_true rfl, Nat.le_of_ble_eq_true rfl⟩ (Nat.le_of_ble_eq_true rfl) dX12_aGuest_168 ?_
                    refine jr_if_eq (tgt := 178) hF dX12_aGuest_171 rfl hf (fun hf => ?_) (fun hf => ?_)
                    · refine jr_aload_n hF dX12_aGuest_178 0 rfl rfl ?_
                      refine jr_bipush (v := 18) hF dX12_aGuest_179 rfl ?_
                      obtain ⟨q19, hq19, hf⟩ := Option.bind_eq_some_iff.mp hf
                      refine jr_cV11 hF ml_X12_210 (c_X12_isThere hT h0 hq19) h0 ⟨Nat.le_of_ble_eq_true rfl, Nat.le_of_ble_eq_true rfl⟩ (Nat.le_of_ble_eq_true rfl) dX12_aGuest_181 ?_
                      refine jr_if_eq (tgt := 191) hF dX12_aGuest_184 rfl hf (fun hf => ?_) (fun hf => ?_)
                      · refine jr_iconst (v := 0) hF dX12_aGuest_191 rfl ?_
                        refine jr_sub [0, 2] rfl ?_
                        exact jb_X12_aGuest_192 hT h0 hF hE _ _ _ _ _ th17 hf
                      · refine jr_iconst (v := 2) hF dX12_aGuest_187 rfl ?_
                        refine jr_goto (tgt := 192) hF dX12_aGuest_188 rfl ?_
                        refine jr_sub [0, 2] rfl ?_
                        exact jb_X12_aGuest_192 hT h0 hF hE _ _ _ _ _ th17 hf
                    · refine jr_iconst (v := 1) hF dX12_aGuest_174 rfl ?_
                      refine jr_goto (tgt := 192) hF dX12_aGuest_175 rfl ?_
                      refine jr_sub [0, 2] rfl ?_
                      exact jb_X12_aGuest_192 hT h0 hF hE _ _ _ _ _ th17 hf
                  · refine jr_iconst (v := 0) hF dX12_aGuest_156 rfl ?_
                    obtain rfl := Option.some.inj hf
                    exact jr_zreturn hF hE (Or.inl rfl) dX12_aGuest_157
              · refine jr_iconst (v := 0) hF dX12_aGuest_130 rfl ?_
                obtain rfl := Option.some.inj hf
                exact jr_zreturn hF hE (Or.inl rfl) dX12_aGuest_131
      · refine jr_aload_n hF dX12_aGuest_61 0 rfl rfl ?_
        refine jr_iconst (v := 3) hF dX12_aGuest_62 rfl ?_
        obtain ⟨q20, hq20, hf⟩ := Option.bind_eq_some_iff.mp hf
        refine jr_cV11 hF ml_X12_179 (c_X12_fails h0 hq20) h0 ⟨Nat.le_of_ble_eq_true rfl, Nat.le_of_ble_eq_true rfl⟩ (Nat.le_of_ble_eq_true rfl) dX12_aGuest_63 ?_
        obtain ⟨b21, hf⟩ := lt_bzE hf
        obtain rfl := Option.some.inj hf
        exact jr_zreturn hF hE b21 dX12_aGuest_66
    · refine jr_aload_n hF dX12_aGuest_44 0 rfl rfl ?_
      refine jr_iconst (v := 2) hF dX12_aGuest_45 rfl ?_
      obtain ⟨q22, hq22, hf⟩ := Option.bind_eq_some_iff.mp hf
      refine jr_cV11 hF ml_X12_179 (c_X12_fails h0 hq22) h0 ⟨Nat.le_of_ble_eq_true rfl, Nat.le_of_ble_eq_true rfl⟩ (Nat.le_of_ble_eq_true rfl) dX12_aGuest_46 ?_
      obtain ⟨b23, hf⟩ := lt_bzE hf
      obtain rfl := Option.some.inj hf
      exact jr_zreturn hF hE b23 dX12_aGuest_49
  · refine jr_aload_n hF dX12_aGuest_24 0 rfl rfl ?_
    refine jr_bipush (v := 6) hF dX12_aGuest_25 rfl ?_
    obtain ⟨q24, hq24, hf⟩ := Option.bind_eq_some_iff.mp hf
    refine jr_cV11 hF ml_X12_179 (c_X12_fails h0 hq24) h0 ⟨Nat.le_of_ble_eq_true rfl, Nat.le_of_ble_eq_true rfl⟩ (Nat.le_of_ble_eq_true rfl) dX12_aGuest_27 ?_
    obtain ⟨b25, hf⟩ := lt_bzE hf
    obtain rfl := Option.some.inj hf
    exact jr_zreturn hF hE b25 dX12_aGuest_30
def f_X12_aGuest (σ : lt_S) (o : Nat) (w : lt_W) : Option (Int32 × lt_W) := fb_X12_aGuest_0 σ o w
set_option maxRecDepth 100000 in
theorem c_X12_aGuest {l : Launch} {D : va_G} {gA : Nat → ClassId} {s0 : State} {σ : lt_S} (hT : lt_Wt σ) {o : Nat} (h0 : lt_c σ o = 12) {w : lt_W} {r : Int32 × lt_W} (hf : f_X12_aGuest σ o w = some r) : lt_C l D gA s0 yX12_aGuest cX12_aGuest 3 (some .boolean) (lt_rm 9) [.ref (s0.heap.size + o)] σ w σ (some (.int r.1)) r.2 := by
  refine lt_enter rfl (Nat.le_of_ble_eq_true rfl) (fun X e1 e2 e3 e4 hF hE => ?_)
  subst e1 e2 e3 e4
  exact jb_X12_aGuest_0 hT h0 hF hE _ hf

set_option maxRecDepth 100000 in
def fb_X12_guestOf_0 (σ : lt_S) (o : Nat) (w : lt_W) (x1 : Int32) (x2 : Int32) : Option Int32 := Option.bind (f_X12_guestRow x1) (fun q2 => lt_ck (q2 + x2) (lt_len σ (lt_r σ o 0)) (some (lt_gi w (lt_r σ o 0) (q2 + x2).toNatClampNeg)))
set_option maxHeartbeats 4000000 in
set_option maxRecDepth 100000 in
theorem jb_X12_guestOf_0 {X : lt_X} {σ : lt_S} (hT : lt_Wt σ) {o : Nat} (h0 : lt_c σ o = 12) {r : Int32} {w : lt_W} (hF : lt_F X cX12_guestOf RX12 3 (lt_rm 2)) (hE : lt_E X 0 0 σ (some .int) (some (.int r)) w) : ∀ (x1 : Int32) (x2 : Int32), fb_X12_guestOf_0 σ o w x1 x2 = some r → lt_J X 0 0 σ w 0 [(0, .ref (lt_z X + o)), (1, .int x1), (2, .int x2)] [] := by
  intro x1 x2 hf
  unfold fb_X12_guestOf_0 at hf
  refine jr_aload_n hF dX12_guestOf_0 0 rfl rfl ?_
  refine jr_getRT (cr := 50) hF gf_X12_7 hT h0 rfl rfl dX12_guestOf_1 (fun th1 => ?_)
  refine jr_iload_n hF dX12_guestOf_4 1 rfl rfl ?_
  obtain ⟨q2, hq2, hf⟩ := Option.bind_eq_some_iff.mp hf
  refine jr_cS11 hF ml_X12_192 (c_X12_guestRow hq2) ⟨Nat.le_of_ble_eq_true rfl, Nat.le_of_ble_eq_true rfl⟩ (Nat.le_of_ble_eq_true rfl) dX12_guestOf_5 ?_
  refine jr_iload_n hF dX12_guestOf_8 2 rfl rfl ?_
  refine jr_iadd hF dX12_guestOf_9 ?_
  refine jr_iaload hF th1 dX12_guestOf_10 hf (fun hf => ?_)
  obtain rfl := Option.some.inj hf
  exact jr_ireturn hF hE dX12_guestOf_11
def f_X12_guestOf (σ : lt_S) (o : Nat) (x1 : Int32) (x2 : Int32) (w : lt_W) : Option Int32 := fb_X12_guestOf_0 σ o w x1 x2
set_option maxRecDepth 100000 in
theorem c_X12_guestOf {l : Launch} {D : va_G} {gA : Nat → ClassId} {s0 : State} {σ : lt_S} (hT : lt_Wt σ) {o : Nat} (h0 : lt_c σ o = 12) {x1 : Int32} {x2 : Int32} {w : lt_W} {r : Int32} (hf : f_X12_guestOf σ o x1 x2 w = some r) : lt_C l D gA s0 yX12_guestOf cX12_guestOf 3 (some .int) (lt_rm 2) [.ref (s0.heap.size + o), .int x1, .int x2] σ w σ (some (.int r)) w := by
  refine lt_enter rfl (Nat.le_of_ble_eq_true rfl) (fun X e1 e2 e3 e4 hF hE => ?_)
  subst e1 e2 e3 e4
  exact jb_X12_guestOf_0 hT h0 hF hE _ _ hf

set_option maxRecDepth 100000 in
def fb_X12_isHere_0 (σ : lt_S) (o : Nat) (w : lt_W) (x1 : Int32) : Option Int32 := Option.bind (f_X12_guestOf σ o x1 5 w) (fun q1 => if q1 = 1 then some 1 else some 0)
set_option maxHeartbeats 4000000 in
set_option maxRecDepth 100000 in
theorem jb_X12_isHere_0 {X : lt_X} {σ : lt_S} (hT : lt_Wt σ) {o : Nat} (h0 : lt_c σ o = 12) {r : Int32} {w : lt_W} (hF : lt_F X cX12_isHere RX12 2 (lt_rm 3)) (hE : lt_E X 0 0 σ (some .boolean) (some (.int r)) w) : ∀ (x1 : Int32), fb_X12_isHere_0 σ o w x1 = some r → lt_J X 0 0 σ w 0 [(0, .ref (lt_z X + o)), (1, .int x1)] [] := by
  intro x1 hf
  unfold fb_X12_isHere_0 at hf
  refine jr_aload_n hF dX12_isHere_0 0 rfl rfl ?_
  refine jr_iload_n hF dX12_isHere_1 1 rfl rfl ?_
  refine jr_iconst (v := 5) hF dX12_isHere_2 rfl ?_
  obtain ⟨q1, hq1, hf⟩ := Option.bind_eq_some_iff.mp hf
  refine jr_cV21 hF ml_X12_269 (c_X12_guestOf hT h0 hq1) h0 ⟨Nat.le_of_ble_eq_true rfl, Nat.le_of_ble_eq_true rfl⟩ (Nat.le_of_ble_eq_true rfl) dX12_isHere_3 ?_
  refine jr_iconst (v := 1) hF dX12_isHere_6 rfl ?_
  refine jr_icmp_ne (tgt := 14) hF dX12_isHere_7 rfl hf (fun hf => ?_) (fun hf => ?_)
  · refine jr_iconst (v := 0) hF dX12_isHere_14 rfl ?_
    obtain rfl := Option.some.inj hf
    exact jr_zreturn hF hE (Or.inl rfl) dX12_isHere_15
  · refine jr_iconst (v := 1) hF dX12_isHere_10 rfl ?_
    refine jr_goto (tgt := 15) hF dX12_isHere_11 rfl ?_
    obtain rfl := Option.some.inj hf
    exact jr_zreturn hF hE (Or.inr rfl) dX12_isHere_15
def f_X12_isHere (σ : lt_S) (o : Nat) (x1 : Int32) (w : lt_W) : Option Int32 := fb_X12_isHere_0 σ o w x1
set_option maxRecDepth 100000 in
theorem c_X12_isHere {l : Launch} {D : va_G} {gA : Nat → ClassId} {s0 : State} {σ : lt_S} (hT : lt_Wt σ) {o : Nat} (h0 : lt_c σ o = 12) {x1 : Int32} {w : lt_W} {r : Int32} (hf : f_X12_isHere σ o x1 w = some r) : lt_C l D gA s0 yX12_isHere cX12_isHere 2 (some .boolean) (lt_rm 3) [.ref (s0.heap.size + o), .int x1] σ w σ (some (.int r)) w := by
  refine lt_enter rfl (Nat.le_of_ble_eq_true rfl) (fun X e1 e2 e3 e4 hF hE => ?_)
  subst e1 e2 e3 e4
  exact jb_X12_isHere_0 hT h0 hF hE _ hf

set_option maxRecDepth 100000 in
def fb_X12_areHere_4 (σ : lt_S) (o : Nat) (w : lt_W) : Nat → Int32 → Int32 → Option Int32
  | 0, _, _ => none
  | n + 1, x1, x2 => lt_ck 0 (lt_len σ (lt_r σ o 0)) (if (lt_gi w (lt_r σ o 0) (0 : Int32).toNatClampNeg) ≤ x2 then some x1 else Option.bind (f_X12_isHere σ o x2 w) (fun q2 => if q2 = 0 then fb_X12_areHere_4 σ o w n (x1 ||| 0) (x2 + 1) else lt_let (x1 ||| (1 <<< (x2 &&& 31))) (fun z3 => fb_X12_areHere_4 σ o w n z3 (x2 + 1))))
set_option maxHeartbeats 4000000 in
set_option maxRecDepth 100000 in
theorem jb_X12_areHere_4 {X : lt_X} {σ : lt_S} (hT : lt_Wt σ) {o : Nat} (h0 : lt_c σ o = 12) {r : Int32} {w : lt_W} (hF : lt_F X cX12_areHere RX12 3 (lt_rm 4)) (hE : lt_E X 0 0 σ (some .int) (some (.int r)) w) (n : Nat) : ∀ (x1 : Int32) (x2 : Int32), fb_X12_areHere_4 σ o w n x1 x2 = some r → lt_J X 0 0 σ w 4 [(0, .ref (lt_z X + o)), (1, .int x1), (2, .int x2)] [] := by
  induction n with
  | zero => intro x1 x2 hf; rw [fb_X12_areHere_4] at hf; cases hf
  | succ n ih =>
    intro x1 x2 hf
    rw [fb_X12_areHere_4] at hf
    refine jr_iload_n hF dX12_areHere_4 2 rfl rfl ?_
    refine jr_aload_n hF dX12_areHere_5 0 rfl rfl ?_
    refine jr_getRT (cr := 50) hF gf_X12_7 hT h0 rfl rfl dX12_areHere_6 (fun th1 => ?_)
    refine jr_iconst (v := 0) hF dX12_areHere_9 rfl ?_
    refine jr_iaload hF th1 dX12_areHere_10 hf (fun hf => ?_)
    refine jr_icmp_ge (tgt := 38) hF dX12_areHere_11 rfl hf (fun hf => ?_) (fun hf => ?_)
    · refine jr_iload_n hF dX12_areHere_38 1 rfl rfl ?_
      obtain rfl := Option.some.inj hf
      exact jr_ireturn hF hE dX12_areHere_39
    · refine jr_iload_n hF dX12_areHere_14 1 rfl rfl ?_
      refine jr_aload_n hF dX12_areHere_15 0 rfl rfl ?_
      refine jr_iload_n hF dX12_areHere_16 2 rfl rfl ?_
      obtain ⟨q2, hq2, hf⟩ := Option.bind_eq_some_iff.mp hf
      refine jr_cV11 hF ml_X12_272 (c_X12_isHere hT h0 hq2) h0 ⟨Nat.le_of_ble_eq_true rfl, Nat.le_of_ble_eq_true rfl⟩ (Nat.le_of_ble_eq_true rfl) dX12_areHere_17 ?_
      refine jr_if_eq (tgt := 29) hF dX12_areHere_20 rfl hf (fun hf => ?_) (fun hf => ?_)
      · refine jr_iconst (v := 0) hF dX12_areHere_29 rfl ?_
        refine jr_ior hF dX12_areHere_30 ?_
        refine jr_istore_n (lv' := [(0, .ref (lt_z X + o)), (1, .int (x1 ||| 0)), (2, .int x2)]) hF dX12_areHere_31 rfl (by decide) [1, 0, 2] rfl ?_
        refine jr_iinc (v := x2 + 1) (lv' := [(0, .ref (lt_z X + o)), (1, .int (x1 ||| 0)), (2, .int (x2 + 1))]) hF dX12_areHere_32 2 rfl rfl (by decide) [1, 2, 0] rfl ?_
        refine jr_goto (tgt := 4) hF dX12_areHere_35 rfl ?_
        exact ih _ _ hf
      · refine jr_iconst (v := 1) hF dX12_areHere_23 rfl ?_
        refine jr_iload_n hF dX12_areHere_24 2 rfl rfl ?_
        refine jr_ishl hF dX12_areHere_25 ?_
        refine jr_goto (tgt := 30) hF dX12_areHere_26 rfl ?_
        refine jr_ior hF dX12_areHere_30 ?_
        refine jr_letI hf (fun z3 hf => ?_)
        refine jr_istore_n (lv' := [(0, .ref (lt_z X + o)), (1, .int z3), (2, .int x2)]) hF dX12_areHere_31 rfl (by decide) [1, 0, 2] rfl ?_
        refine jr_iinc (v := x2 + 1) (lv' := [(0, .ref (lt_z X + o)), (1, .int z3), (2, .int (x2 + 1))]) hF dX12_areHere_32 2 rfl rfl (by decide) [1, 2, 0] rfl ?_
        refine jr_goto (tgt := 4) hF dX12_areHere_35 rfl ?_
        exact ih _ _ hf
set_option maxRecDepth 100000 in
def fb_X12_areHere_0 (σ : lt_S) (o : Nat) (w : lt_W) : Option Int32 := fb_X12_areHere_4 σ o w lt_fu 0 0
set_option maxHeartbeats 4000000 in
set_option maxRecDepth 100000 in
theorem jb_X12_areHere_0 {X : lt_X} {σ : lt_S} (hT : lt_Wt σ) {o : Nat} (h0 : lt_c σ o = 12) {r : Int32} {w : lt_W} (hF : lt_F X cX12_areHere RX12 3 (lt_rm 4)) (hE : lt_E X 0 0 σ (some .int) (some (.int r)) w) : fb_X12_areHere_0 σ o w = some r → lt_J X 0 0 σ w 0 [(0, .ref (lt_z X + o))] [] := by
  intro  hf
  unfold fb_X12_areHere_0 at hf
  refine jr_iconst (v := 0) hF dX12_areHere_0 rfl ?_
  refine jr_istore_n (lv' := [(0, .ref (lt_z X + o)), (1, .int 0)]) hF dX12_areHere_1 rfl (by decide) [1, 0] rfl ?_
  refine jr_iconst (v := 0) hF dX12_areHere_2 rfl ?_
  refine jr_istore_n (lv' := [(0, .ref (lt_z X + o)), (1, .int 0), (2, .int 0)]) hF dX12_areHere_3 rfl (by decide) [1, 2, 0] rfl ?_
  exact jb_X12_areHere_4 hT h0 hF hE lt_fu _ _ hf
def f_X12_areHere (σ : lt_S) (o : Nat) (w : lt_W) : Option Int32 := fb_X12_areHere_0 σ o w
set_option maxRecDepth 100000 in
theorem c_X12_areHere {l : Launch} {D : va_G} {gA : Nat → ClassId} {s0 : State} {σ : lt_S} (hT : lt_Wt σ) {o : Nat} (h0 : lt_c σ o = 12) {w : lt_W} {r : Int32} (hf : f_X12_areHere σ o w = some r) : lt_C l D gA s0 yX12_areHere cX12_areHere 3 (some .int) (lt_rm 4) [.ref (s0.heap.size + o)] σ w σ (some (.int r)) w := by
  refine lt_enter rfl (Nat.le_of_ble_eq_true rfl) (fun X e1 e2 e3 e4 hF hE => ?_)
  subst e1 e2 e3 e4
  exact jb_X12_areHere_0 hT h0 hF hE hf

set_option maxRecDepth 100000 in
def fb_X12_areHungry_4 (σ : lt_S) (o : Nat) (w : lt_W) : Nat → Int32 → Int32 → Option Int32
  | 0, _, _ => none
  | n + 1, x1, x2 => lt_ck 0 (lt_len σ (lt_r σ o 0)) (if (lt_gi w (lt_r σ o 0) (0 : Int32).toNatClampNeg) ≤ x2 then some x1 else Option.bind (f_X12_isHere σ o x2 w) (fun q2 => if q2 = 0 then fb_X12_areHungry_4 σ o w n (x1 ||| 0) (x2 + 1) else Option.bind (f_X12_guestOf σ o x2 4 w) (fun q3 => if q3 ≤ 0 then fb_X12_areHungry_4 σ o w n (x1 ||| 0) (x2 + 1) else lt_let (x1 ||| (1 <<< (x2 &&& 31))) (fun z4 => fb_X12_areHungry_4 σ o w n z4 (x2 + 1)))))
set_option maxHeartbeats 4000000 in
set_option maxRecDepth 100000 in
theorem jb_X12_areHungry_4 {X : lt_X} {σ : lt_S} (hT : lt_Wt σ) {o : Nat} (h0 : lt_c σ o = 12) {r : Int32} {w : lt_W} (hF : lt_F X cX12_areHungry RX12 3 (lt_rm 4)) (hE : lt_E X 0 0 σ (some .int) (some (.int r)) w) (n : Nat) : ∀ (x1 : Int32) (x2 : Int32), fb_X12_areHungry_4 σ o w n x1 x2 = some r → lt_J X 0 0 σ w 4 [(0, .ref (lt_z X + o)), (1, .int x1), (2, .int x2)] [] := by
  induction n with
  | zero => intro x1 x2 hf; rw [fb_X12_areHungry_4] at hf; cases hf
  | succ n ih =>
    intro x1 x2 hf
    rw [fb_X12_areHungry_4] at hf
    refine jr_iload_n hF dX12_areHungry_4 2 rfl rfl ?_
    refine jr_aload_n hF dX12_areHungry_5 0 rfl rfl ?_
    refine jr_getRT (cr := 50) hF gf_X12_7 hT h0 rfl rfl dX12_areHungry_6 (fun th1 => ?_)
    refine jr_iconst (v := 0) hF dX12_areHungry_9 rfl ?_
    refine jr_iaload hF th1 dX12_areHungry_10 hf (fun hf => ?_)
    refine jr_icmp_ge (tgt := 47) hF dX12_areHungry_11 rfl hf (fun hf => ?_) (fun hf => ?_)
    · refine jr_iload_n hF dX12_areHungry_47 1 rfl rfl ?_
      obtain rfl := Option.some.inj hf
      exact jr_ireturn hF hE dX12_areHungry_48
    · refine jr_iload_n hF dX12_areHungry_14 1 rfl rfl ?_
      refine jr_aload_n hF dX12_areHungry_15 0 rfl rfl ?_
      refine jr_iload_n hF dX12_areHungry_16 2 rfl rfl ?_
      obtain ⟨q2, hq2, hf⟩ := Option.bind_eq_some_iff.mp hf
      refine jr_cV11 hF ml_X12_272 (c_X12_isHere hT h0 hq2) h0 ⟨Nat.le_of_ble_eq_true rfl, Nat.le_of_ble_eq_true rfl⟩ (Nat.le_of_ble_eq_true rfl) dX12_areHungry_17 ?_
      refine jr_if_eq (tgt := 38) hF dX12_areHungry_20 rfl hf (fun hf => ?_) (fun hf => ?_)
      · refine jr_iconst (v := 0) hF dX12_areHungry_38 rfl ?_
        refine jr_ior hF dX12_areHungry_39 ?_
        refine jr_istore_n (lv' := [(0, .ref (lt_z X + o)), (1, .int (x1 ||| 0)), (2, .int x2)]) hF dX12_areHungry_40 rfl (by decide) [1, 0, 2] rfl ?_
        refine jr_iinc (v := x2 + 1) (lv' := [(0, .ref (lt_z X + o)), (1, .int (x1 ||| 0)), (2, .int (x2 + 1))]) hF dX12_areHungry_41 2 rfl rfl (by decide) [1, 2, 0] rfl ?_
        refine jr_goto (tgt := 4) hF dX12_areHungry_44 rfl ?_
        exact ih _ _ hf
      · refine jr_aload_n hF dX12_areHungry_23 0 rfl rfl ?_
        refine jr_iload_n hF dX12_areHungry_24 2 rfl rfl ?_
        refine jr_iconst (v := 4) hF dX12_areHungry_25 rfl ?_
        obtain ⟨q3, hq3, hf⟩ := Option.bind_eq_some_iff.mp hf
        refine jr_cV21 hF ml_X12_269 (c_X12_guestOf hT h0 hq3) h0 ⟨Nat.le_of_ble_eq_true rfl, Nat.le_of_ble_eq_true rfl⟩ (Nat.le_of_ble_eq_true rfl) dX12_areHungry_26 ?_
        refine jr_if_le (tgt := 38) hF dX12_areHungry_29 rfl hf (fun hf => ?_) (fun hf => ?_)
        · refine jr_iconst (v := 0) hF dX12_areHungry_38 rfl ?_
          refine jr_ior hF dX12_areHungry_39 ?_
          refine jr_istore_n (lv' := [(0, .ref (lt_z X + o)), (1, .int (x1 ||| 0)), (2, .int x2)]) hF dX12_areHungry_40 rfl (by decide) [1, 0, 2] rfl ?_
          refine jr_iinc (v := x2 + 1) (lv' := [(0, .ref (lt_z X + o)), (1, .int (x1 ||| 0)), (2, .int (x2 + 1))]) hF dX12_areHungry_41 2 rfl rfl (by decide) [1, 2, 0] rfl ?_
          refine jr_goto (tgt := 4) hF dX12_areHungry_44 rfl ?_
          exact ih _ _ hf
        · refine jr_iconst (v := 1) hF dX12_areHungry_32 rfl ?_
          refine jr_iload_n hF dX12_areHungry_33 2 rfl rfl ?_
          refine jr_ishl hF dX12_areHungry_34 ?_
          refine jr_goto (tgt := 39) hF dX12_areHungry_35 rfl ?_
          refine jr_ior hF dX12_areHungry_39 ?_
          refine jr_letI hf (fun z4 hf => ?_)
          refine jr_istore_n (lv' := [(0, .ref (lt_z X + o)), (1, .int z4), (2, .int x2)]) hF dX12_areHungry_40 rfl (by decide) [1, 0, 2] rfl ?_
          refine jr_iinc (v := x2 + 1) (lv' := [(0, .ref (lt_z X + o)), (1, .int z4), (2, .int (x2 + 1))]) hF dX12_areHungry_41 2 rfl rfl (by decide) [1, 2, 0] rfl ?_
          refine jr_goto (tgt := 4) hF dX12_areHungry_44 rfl ?_
          exact ih _ _ hf
set_option maxRecDepth 100000 in
def fb_X12_areHungry_0 (σ : lt_S) (o : Nat) (w : lt_W) : Option Int32 := fb_X12_areHungry_4 σ o w lt_fu 0 0
set_option maxHeartbeats 4000000 in
set_option maxRecDepth 100000 in
theorem jb_X12_areHungry_0 {X : lt_X} {σ : lt_S} (hT : lt_Wt σ) {o : Nat} (h0 : lt_c σ o = 12) {r : Int32} {w : lt_W} (hF : lt_F X cX12_areHungry RX12 3 (lt_rm 4)) (hE : lt_E X 0 0 σ (some .int) (some (.int r)) w) : fb_X12_areHungry_0 σ o w = some r → lt_J X 0 0 σ w 0 [(0, .ref (lt_z X + o))] [] := by
  intro  hf
  unfold fb_X12_areHungry_0 at hf
  refine jr_iconst (v := 0) hF dX12_areHungry_0 rfl ?_
  refine jr_istore_n (lv' := [(0, .ref (lt_z X + o)), (1, .int 0)]) hF dX12_areHungry_1 rfl (by decide) [1, 0] rfl ?_
  refine jr_iconst (v := 0) hF dX12_areHungry_2 rfl ?_
  refine jr_istore_n (lv' := [(0, .ref (lt_z X + o)), (1, .int 0), (2, .int 0)]) hF dX12_areHungry_3 rfl (by decide) [1, 2, 0] rfl ?_
  exact jb_X12_areHungry_4 hT h0 hF hE lt_fu _ _ hf
def f_X12_areHungry (σ : lt_S) (o : Nat) (w : lt_W) : Option Int32 := fb_X12_areHungry_0 σ o w
set_option maxRecDepth 100000 in
theorem c_X12_areHungry {l : Launch} {D : va_G} {gA : Nat → ClassId} {s0 : State} {σ : lt_S} (hT : lt_Wt σ) {o : Nat} (h0 : lt_c σ o = 12) {w : lt_W} {r : Int32} (hf : f_X12_areHungry σ o w = some r) : lt_C l D gA s0 yX12_areHungry cX12_areHungry 3 (some .int) (lt_rm 4) [.ref (s0.heap.size + o)] σ w σ (some (.int r)) w := by
  refine lt_enter rfl (Nat.le_of_ble_eq_true rfl) (fun X e1 e2 e3 e4 hF hE => ?_)
  subst e1 e2 e3 e4
  exact jb_X12_areHungry_0 hT h0 hF hE hf

set_option maxRecDepth 100000 in
def fb_X12_areStarved_4 (σ : lt_S) (o : Nat) (w : lt_W) : Nat → Int32 → Int32 → Option Int32
  | 0, _, _ => none
  | n + 1, x1, x2 => lt_ck 0 (lt_len σ (lt_r σ o 0)) (if (lt_gi w (lt_r σ o 0) (0 : Int32).toNatClampNeg) ≤ x2 then some x1 else Option.bind (f_X12_isHere σ o x2 w) (fun q2 => if q2 = 0 then fb_X12_areStarved_4 σ o w n (x1 ||| 0) (x2 + 1) else Option.bind (f_X12_guestOf σ o x2 4 w) (fun q3 => Option.bind (f_X12_guestOf σ o x2 1 w) (fun q4 => if q3 ≤ q4 then fb_X12_areStarved_4 σ o w n (x1 ||| 0) (x2 + 1) else lt_let (x1 ||| (1 <<< (x2 &&& 31))) (fun z5 => fb_X12_areStarved_4 σ o w n z5 (x2 + 1))))))
set_option maxHeartbeats 4000000 in
set_option maxRecDepth 100000 in
theorem jb_X12_areStarved_4 {X : lt_X} {σ : lt_S} (hT : lt_Wt σ) {o : Nat} (h0 : lt_c σ o = 12) {r : Int32} {w : lt_W} (hF : lt_F X cX12_areStarved RX12 3 (lt_rm 4)) (hE : lt_E X 0 0 σ (some .int) (some (.int r)) w) (n : Nat) : ∀ (x1 : Int32) (x2 : Int32), fb_X12_areStarved_4 σ o w n x1 x2 = some r → lt_J X 0 0 σ w 4 [(0, .ref (lt_z X + o)), (1, .int x1), (2, .int x2)] [] := by
  induction n with
  | zero => intro x1 x2 hf; rw [fb_X12_areStarved_4] at hf; cases hf
  | succ n ih =>
    intro x1 x2 hf
    rw [fb_X12_areStarved_4] at hf
    refine jr_iload_n hF dX12_areStarved_4 2 rfl rfl ?_
    refine jr_aload_n hF dX12_areStarved_5 0 rfl rfl ?_
    refine jr_getRT (cr := 50) hF gf_X12_7 hT h0 rfl rfl dX12_areStarved_6 (fun th1 => ?_)
    refine jr_iconst (v := 0) hF dX12_areStarved_9 rfl ?_
    refine jr_iaload hF th1 dX12_areStarved_10 hf (fun hf => ?_)
    refine jr_icmp_ge (tgt := 53) hF dX12_areStarved_11 rfl hf (fun hf => ?_) (fun hf => ?_)
    · refine jr_iload_n hF dX12_areStarved_53 1 rfl rfl ?_
      obtain rfl := Option.some.inj hf
      exact jr_ireturn hF hE dX12_areStarved_54
    · refine jr_iload_n hF dX12_areStarved_14 1 rfl rfl ?_
      refine jr_aload_n hF dX12_areStarved_15 0 rfl rfl ?_
      refine jr_iload_n hF dX12_areStarved_16 2 rfl rfl ?_
      obtain ⟨q2, hq2, hf⟩ := Option.bind_eq_some_iff.mp hf
      refine jr_cV11 hF ml_X12_272 (c_X12_isHere hT h0 hq2) h0 ⟨Nat.le_of_ble_eq_true rfl, Nat.le_of_ble_eq_true rfl⟩ (Nat.le_of_ble_eq_true rfl) dX12_areStarved_17 ?_
      refine jr_if_eq (tgt := 44) hF dX12_areStarved_20 rfl hf (fun hf => ?_) (fun hf => ?_)
      · refine jr_iconst (v := 0) hF dX12_areStarved_44 rfl ?_
        refine jr_ior hF dX12_areStarved_45 ?_
        refine jr_istore_n (lv' := [(0, .ref (lt_z X + o)), (1, .int (x1 ||| 0)), (2, .int x2)]) hF dX12_areStarved_46 rfl (by decide) [1, 0, 2] rfl ?_
        refine jr_iinc (v := x2 + 1) (lv' := [(0, .ref (lt_z X + o)), (1, .int (x1 ||| 0)), (2, .int (x2 + 1))]) hF dX12_areStarved_47 2 rfl rfl (by decide) [1, 2, 0] rfl ?_
        refine jr_goto (tgt := 4) hF dX12_areStarved_50 rfl ?_
        exact ih _ _ hf
      · refine jr_aload_n hF dX12_areStarved_23 0 rfl rfl ?_
        refine jr_iload_n hF dX12_areStarved_24 2 rfl rfl ?_
        refine jr_iconst (v := 4) hF dX12_areStarved_25 rfl ?_
        obtain ⟨q3, hq3, hf⟩ := Option.bind_eq_some_iff.mp hf
        refine jr_cV21 hF ml_X12_269 (c_X12_guestOf hT h0 hq3) h0 ⟨Nat.le_of_ble_eq_true rfl, Nat.le_of_ble_eq_true rfl⟩ (Nat.le_of_ble_eq_true rfl) dX12_areStarved_26 ?_
        refine jr_aload_n hF dX12_areStarved_29 0 rfl rfl ?_
        refine jr_iload_n hF dX12_areStarved_30 2 rfl rfl ?_
        refine jr_iconst (v := 1) hF dX12_areStarved_31 rfl ?_
        obtain ⟨q4, hq4, hf⟩ := Option.bind_eq_some_iff.mp hf
        refine jr_cV21 hF ml_X12_269 (c_X12_guestOf hT h0 hq4) h0 ⟨Nat.le_of_ble_eq_true rfl, Nat.le_of_ble_eq_true rfl⟩ (Nat.le_of_ble_eq_true rfl) dX12_areStarved_32 ?_
        refine jr_icmp_le (tgt := 44) hF dX12_areStarved_35 rfl hf (fun hf => ?_) (fun hf => ?_)
        · refine jr_iconst (v := 0) hF dX12_areStarved_44 rfl ?_
          refine jr_ior hF dX12_areStarved_45 ?_
          refine jr_istore_n (lv' := [(0, .ref (lt_z X + o)), (1, .int (x1 ||| 0)), (2, .int x2)]) hF dX12_areStarved_46 rfl (by decide) [1, 0, 2] rfl ?_
          refine jr_iinc (v := x2 + 1) (lv' := [(0, .ref (lt_z X + o)), (1, .int (x1 ||| 0)), (2, .int (x2 + 1))]) hF dX12_areStarved_47 2 rfl rfl (by decide) [1, 2, 0] rfl ?_
          refine jr_goto (tgt := 4) hF dX12_areStarved_50 rfl ?_
          exact ih _ _ hf
        · refine jr_iconst (v := 1) hF dX12_areStarved_38 rfl ?_
          refine jr_iload_n hF dX12_areStarved_39 2 rfl rfl ?_
          refine jr_ishl hF dX12_areStarved_40 ?_
          refine jr_goto (tgt := 45) hF dX12_areStarved_41 rfl ?_
          refine jr_ior hF dX12_areStarved_45 ?_
          refine jr_letI hf (fun z5 hf => ?_)
          refine jr_istore_n (lv' := [(0, .ref (lt_z X + o)), (1, .int z5), (2, .int x2)]) hF dX12_areStarved_46 rfl (by decide) [1, 0, 2] rfl ?_
          refine jr_iinc (v := x2 + 1) (lv' := [(0, .ref (lt_z X + o)), (1, .int z5), (2, .int (x2 + 1))]) hF dX12_areStarved_47 2 rfl rfl (by decide) [1, 2, 0] rfl ?_
          refine jr_goto (tgt := 4) hF dX12_areStarved_50 rfl ?_
          exact ih _ _ hf
set_option maxRecDepth 100000 in
def fb_X12_areStarved_0 (σ : lt_S) (o : Nat) (w : lt_W) : Option Int32 := fb_X12_areStarved_4 σ o w lt_fu 0 0
set_option maxHeartbeats 4000000 in
set_option maxRecDepth 100000 in
theorem jb_X12_areStarved_0 {X : lt_X} {σ : lt_S} (hT : lt_Wt σ) {o : Nat} (h0 : lt_c σ o = 12) {r : Int32} {w : lt_W} (hF : lt_F X cX12_areStarved RX12 3 (lt_rm 4)) (hE : lt_E X 0 0 σ (some .int) (some (.int r)) w) : fb_X12_areStarved_0 σ o w = some r → lt_J X 0 0 σ w 0 [(0, .ref (lt_z X + o))] [] := by
  intro  hf
  unfold fb_X12_areStarved_0 at hf
  refine jr_iconst (v := 0) hF dX12_areStarved_0 rfl ?_
  refine jr_istore_n (lv' := [(0, .ref (lt_z X + o)), (1, .int 0)]) hF dX12_areStarved_1 rfl (by decide) [1, 0] rfl ?_
  refine jr_iconst (v := 0) hF dX12_areStarved_2 rfl ?_
  refine jr_istore_n (lv' := [(0, .ref (lt_z X + o)), (1, .int 0), (2, .int 0)]) hF dX12_areStarved_3 rfl (by decide) [1, 2, 0] rfl ?_
  exact jb_X12_areStarved_4 hT h0 hF hE lt_fu _ _ hf
def f_X12_areStarved (σ : lt_S) (o : Nat) (w : lt_W) : Option Int32 := fb_X12_areStarved_0 σ o w
set_option maxRecDepth 100000 in
theorem c_X12_areStarved {l : Launch} {D : va_G} {gA : Nat → ClassId} {s0 : State} {σ : lt_S} (hT : lt_Wt σ) {o : Nat} (h0 : lt_c σ o = 12) {w : lt_W} {r : Int32} (hf : f_X12_areStarved σ o w = some r) : lt_C l D gA s0 yX12_areStarved cX12_areStarved 3 (some .int) (lt_rm 4) [.ref (s0.heap.size + o)] σ w σ (some (.int r)) w := by
  refine lt_enter rfl (Nat.le_of_ble_eq_true rfl) (fun X e1 e2 e3 e4 hF hE => ?_)
  subst e1 e2 e3 e4
  exact jb_X12_areStarved_0 hT h0 hF hE hf

set_option maxRecDepth 100000 in
def fb_X12_isGuest_0 (σ : lt_S) (o : Nat) (w : lt_W) (x1 : Int32) : Option Int32 := if x1 < 0 then some 0 else lt_ck 0 (lt_len σ (lt_r σ o 0)) (if (lt_gi w (lt_r σ o 0) (0 : Int32).toNatClampNeg) ≤ x1 then some 0 else some 1)
set_option maxHeartbeats 4000000 in
set_option maxRecDepth 100000 in
theorem jb_X12_isGuest_0 {X : lt_X} {σ : lt_S} (hT : lt_Wt σ) {o : Nat} (h0 : lt_c σ o = 12) {r : Int32} {w : lt_W} (hF : lt_F X cX12_isGuest RX12 2 (lt_rm 1)) (hE : lt_E X 0 0 σ (some .boolean) (some (.int r)) w) : ∀ (x1 : Int32), fb_X12_isGuest_0 σ o w x1 = some r → lt_J X 0 0 σ w 0 [(0, .ref (lt_z X + o)), (1, .int x1)] [] := by
  intro x1 hf
  unfold fb_X12_isGuest_0 at hf
  refine jr_iload_n hF dX12_isGuest_0 1 rfl rfl ?_
  refine jr_if_lt (tgt := 18) hF dX12_isGuest_1 rfl hf (fun hf => ?_) (fun hf => ?_)
  · refine jr_iconst (v := 0) hF dX12_isGuest_18 rfl ?_
    obtain rfl := Option.some.inj hf
    exact jr_zreturn hF hE (Or.inl rfl) dX12_isGuest_19
  · refine jr_iload_n hF dX12_isGuest_4 1 rfl rfl ?_
    refine jr_aload_n hF dX12_isGuest_5 0 rfl rfl ?_
    refine jr_getRT (cr := 50) hF gf_X12_7 hT h0 rfl rfl dX12_isGuest_6 (fun th1 => ?_)
    refine jr_iconst (v := 0) hF dX12_isGuest_9 rfl ?_
    refine jr_iaload hF th1 dX12_isGuest_10 hf (fun hf => ?_)
    refine jr_icmp_ge (tgt := 18) hF dX12_isGuest_11 rfl hf (fun hf => ?_) (fun hf => ?_)
    · refine jr_iconst (v := 0) hF dX12_isGuest_18 rfl ?_
      obtain rfl := Option.some.inj hf
      exact jr_zreturn hF hE (Or.inl rfl) dX12_isGuest_19
    · refine jr_iconst (v := 1) hF dX12_isGuest_14 rfl ?_
      refine jr_goto (tgt := 19) hF dX12_isGuest_15 rfl ?_
      obtain rfl := Option.some.inj hf
      exact jr_zreturn hF hE (Or.inr rfl) dX12_isGuest_19
def f_X12_isGuest (σ : lt_S) (o : Nat) (x1 : Int32) (w : lt_W) : Option Int32 := fb_X12_isGuest_0 σ o w x1
set_option maxRecDepth 100000 in
theorem c_X12_isGuest {l : Launch} {D : va_G} {gA : Nat → ClassId} {s0 : State} {σ : lt_S} (hT : lt_Wt σ) {o : Nat} (h0 : lt_c σ o = 12) {x1 : Int32} {w : lt_W} {r : Int32} (hf : f_X12_isGuest σ o x1 w = some r) : lt_C l D gA s0 yX12_isGuest cX12_isGuest 2 (some .boolean) (lt_rm 1) [.ref (s0.heap.size + o), .int x1] σ w σ (some (.int r)) w := by
  refine lt_enter rfl (Nat.le_of_ble_eq_true rfl) (fun X e1 e2 e3 e4 hF hE => ?_)
  subst e1 e2 e3 e4
  exact jb_X12_isGuest_0 hT h0 hF hE _ hf

set_option maxRecDepth 100000 in
def fb_X12_areTwo_0 (σ : lt_S) (o : Nat) (w : lt_W) (x1 : Int32) (x2 : Int32) : Option Int32 := Option.bind (f_X12_isGuest σ o x1 w) (fun q1 => if q1 = 0 then some 0 else Option.bind (f_X12_isGuest σ o x2 w) (fun q2 => if q2 = 0 then some 0 else if x1 = x2 then some 0 else some 1))
set_option maxHeartbeats 4000000 in
set_option maxRecDepth 100000 in
theorem jb_X12_areTwo_0 {X : lt_X} {σ : lt_S} (hT : lt_Wt σ) {o : Nat} (h0 : lt_c σ o = 12) {r : Int32} {w : lt_W} (hF : lt_F X cX12_areTwo RX12 3 (lt_rm 2)) (hE : lt_E X 0 0 σ (some .boolean) (some (.int r)) w) : ∀ (x1 : Int32) (x2 : Int32), fb_X12_areTwo_0 σ o w x1 x2 = some r → lt_J X 0 0 σ w 0 [(0, .ref (lt_z X + o)), (1, .int x1), (2, .int x2)] [] := by
  intro x1 x2 hf
  unfold fb_X12_areTwo_0 at hf
  refine jr_aload_n hF dX12_areTwo_0 0 rfl rfl ?_
  refine jr_iload_n hF dX12_areTwo_1 1 rfl rfl ?_
  obtain ⟨q1, hq1, hf⟩ := Option.bind_eq_some_iff.mp hf
  refine jr_cV11 hF ml_X12_266 (c_X12_isGuest hT h0 hq1) h0 ⟨Nat.le_of_ble_eq_true rfl, Nat.le_of_ble_eq_true rfl⟩ (Nat.le_of_ble_eq_true rfl) dX12_areTwo_2 ?_
  refine jr_if_eq (tgt := 25) hF dX12_areTwo_5 rfl hf (fun hf => ?_) (fun hf => ?_)
  · refine jr_iconst (v := 0) hF dX12_areTwo_25 rfl ?_
    obtain rfl := Option.some.inj hf
    exact jr_zreturn hF hE (Or.inl rfl) dX12_areTwo_26
  · refine jr_aload_n hF dX12_areTwo_8 0 rfl rfl ?_
    refine jr_iload_n hF dX12_areTwo_9 2 rfl rfl ?_
    obtain ⟨q2, hq2, hf⟩ := Option.bind_eq_some_iff.mp hf
    refine jr_cV11 hF ml_X12_266 (c_X12_isGuest hT h0 hq2) h0 ⟨Nat.le_of_ble_eq_true rfl, Nat.le_of_ble_eq_true rfl⟩ (Nat.le_of_ble_eq_true rfl) dX12_areTwo_10 ?_
    refine jr_if_eq (tgt := 25) hF dX12_areTwo_13 rfl hf (fun hf => ?_) (fun hf => ?_)
    · refine jr_iconst (v := 0) hF dX12_areTwo_25 rfl ?_
      obtain rfl := Option.some.inj hf
      exact jr_zreturn hF hE (Or.inl rfl) dX12_areTwo_26
    · refine jr_iload_n hF dX12_areTwo_16 1 rfl rfl ?_
      refine jr_iload_n hF dX12_areTwo_17 2 rfl rfl ?_
      refine jr_icmp_eq (tgt := 25) hF dX12_areTwo_18 rfl hf (fun hf => ?_) (fun hf => ?_)
      · refine jr_iconst (v := 0) hF dX12_areTwo_25 rfl ?_
        obtain rfl := Option.some.inj hf
        exact jr_zreturn hF hE (Or.inl rfl) dX12_areTwo_26
      · refine jr_iconst (v := 1) hF dX12_areTwo_21 rfl ?_
        refine jr_goto (tgt := 26) hF dX12_areTwo_22 rfl ?_
        obtain rfl := Option.some.inj hf
        exact jr_zreturn hF hE (Or.inr rfl) dX12_areTwo_26
def f_X12_areTwo (σ : lt_S) (o : Nat) (x1 : Int32) (x2 : Int32) (w : lt_W) : Option Int32 := fb_X12_areTwo_0 σ o w x1 x2
set_option maxRecDepth 100000 in
theorem c_X12_areTwo {l : Launch} {D : va_G} {gA : Nat → ClassId} {s0 : State} {σ : lt_S} (hT : lt_Wt σ) {o : Nat} (h0 : lt_c σ o = 12) {x1 : Int32} {x2 : Int32} {w : lt_W} {r : Int32} (hf : f_X12_areTwo σ o x1 x2 w = some r) : lt_C l D gA s0 yX12_areTwo cX12_areTwo 3 (some .boolean) (lt_rm 2) [.ref (s0.heap.size + o), .int x1, .int x2] σ w σ (some (.int r)) w := by
  refine lt_enter rfl (Nat.le_of_ble_eq_true rfl) (fun X e1 e2 e3 e4 hF hE => ?_)
  subst e1 e2 e3 e4
  exact jb_X12_areTwo_0 hT h0 hF hE _ _ hf

set_option maxRecDepth 100000 in
def fb_X12_isTray_0 (x0 : Int32) : Option Int32 := if x0 < 0 then some 0 else if 4 ≤ x0 then some 0 else some 1
set_option maxHeartbeats 4000000 in
set_option maxRecDepth 100000 in
theorem jb_X12_isTray_0 {X : lt_X} {σ : lt_S} {r : Int32} {w : lt_W} (hF : lt_F X cX12_isTray RX12 1 (lt_rm 1)) (hE : lt_E X 0 0 σ (some .boolean) (some (.int r)) w) : ∀ (x0 : Int32), fb_X12_isTray_0 x0 = some r → lt_J X 0 0 σ w 0 [(0, .int x0)] [] := by
  intro x0 hf
  unfold fb_X12_isTray_0 at hf
  refine jr_iload_n hF dX12_isTray_0 0 rfl rfl ?_
  refine jr_if_lt (tgt := 13) hF dX12_isTray_1 rfl hf (fun hf => ?_) (fun hf => ?_)
  · refine jr_iconst (v := 0) hF dX12_isTray_13 rfl ?_
    obtain rfl := Option.some.inj hf
    exact jr_zreturn hF hE (Or.inl rfl) dX12_isTray_14
  · refine jr_iload_n hF dX12_isTray_4 0 rfl rfl ?_
    refine jr_iconst (v := 4) hF dX12_isTray_5 rfl ?_
    refine jr_icmp_ge (tgt := 13) hF dX12_isTray_6 rfl hf (fun hf => ?_) (fun hf => ?_)
    · refine jr_iconst (v := 0) hF dX12_isTray_13 rfl ?_
      obtain rfl := Option.some.inj hf
      exact jr_zreturn hF hE (Or.inl rfl) dX12_isTray_14
    · refine jr_iconst (v := 1) hF dX12_isTray_9 rfl ?_
      refine jr_goto (tgt := 14) hF dX12_isTray_10 rfl ?_
      obtain rfl := Option.some.inj hf
      exact jr_zreturn hF hE (Or.inr rfl) dX12_isTray_14
def f_X12_isTray (x0 : Int32) : Option Int32 := fb_X12_isTray_0 x0
set_option maxRecDepth 100000 in
theorem c_X12_isTray {l : Launch} {D : va_G} {gA : Nat → ClassId} {s0 : State} {σ : lt_S} {x0 : Int32} {w : lt_W} {r : Int32} (hf : f_X12_isTray x0 = some r) : lt_C l D gA s0 yX12_isTray cX12_isTray 1 (some .boolean) (lt_rm 1) [.int x0] σ w σ (some (.int r)) w := by
  refine lt_enter rfl (Nat.le_of_ble_eq_true rfl) (fun X e1 e2 e3 e4 hF hE => ?_)
  subst e1 e2 e3 e4
  exact jb_X12_isTray_0 hF hE _ hf
