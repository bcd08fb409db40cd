set_option maxRecDepth 100000 in
def fb_X12_playing_185 (σ : lt_S) (o : Nat) (w : lt_W) : Option (Int32 × lt_W) := Option.bind (f_X12_levelAt 0) (fun q1 => Option.bind (f_X12_brings σ o q1 w) (fun q2 => lt_ck 0 (lt_len σ (lt_r σ o 32)) (some (lt_gi q2 (lt_r σ o 32) (0 : Int32).toNatClampNeg, q2))))
set_option maxHeartbeats 4000000 in
set_option maxRecDepth 100000 in
theorem jb_X12_playing_185 {X : lt_X} {σ : lt_S} (hT : lt_Wt σ) {o : Nat} (h0 : lt_c σ o = 12) {r : Int32 × lt_W} (hF : lt_F X cX12_playing RX12 7 (lt_rm 9)) (hE : lt_E X 0 0 σ (some .int) (some (.int r.1)) r.2) : ∀ (w : lt_W), fb_X12_playing_185 σ o w = some r → lt_J X 0 0 σ w 185 [(0, .ref (lt_z X + o))] [] := by
  intro w hf
  unfold fb_X12_playing_185 at hf
  refine jr_aload_n hF dX12_playing_185 0 rfl rfl ?_
  refine jr_iconst (v := 0) hF dX12_playing_186 rfl ?_
  obtain ⟨q1, hq1, hf⟩ := Option.bind_eq_some_iff.mp hf
  refine jr_cS11 hF ml_X12_343 (c_X12_levelAt hq1) ⟨Nat.le_of_ble_eq_true rfl, Nat.le_of_ble_eq_true rfl⟩ (Nat.le_of_ble_eq_true rfl) dX12_playing_187 ?_
  obtain ⟨q2, hq2, hf⟩ := Option.bind_eq_some_iff.mp hf
  refine jr_cV1v hF ml_X12_337 (c_X12_brings hT h0 hq2) h0 ⟨Nat.le_of_ble_eq_true rfl, Nat.le_of_ble_eq_true rfl⟩ (Nat.le_of_ble_eq_true rfl) dX12_playing_190 ?_
  refine jr_aload_n hF dX12_playing_193 0 rfl rfl ?_
  refine jr_getRT (cr := 50) hF gf_X12_72 hT h0 rfl rfl dX12_playing_194 (fun th3 => ?_)
  refine jr_iconst (v := 0) hF dX12_playing_197 rfl ?_
  refine jr_iaload hF th3 dX12_playing_198 hf (fun hf => ?_)
  obtain rfl := Option.some.inj hf
  exact jr_ireturn hF hE dX12_playing_199
set_option maxRecDepth 100000 in
def fb_X12_playing_169 (σ : lt_S) (o : Nat) (x1 : Int32) (x2 : Int32) (x3 : Int32) (w : lt_W) : Option (Int32 × lt_W) := if x3 = 0 then Option.bind (f_X12_comesTo σ o x1 x2 w) (fun q2 => lt_ck 0 (lt_len σ (lt_r σ o 32)) (lt_let (lt_si q2.2 (lt_r σ o 32) (0 : Int32).toNatClampNeg q2.1) (fun w3 => fb_X12_playing_185 σ o w3))) else fb_X12_playing_185 σ o w
set_option maxHeartbeats 4000000 in
set_option maxRecDepth 100000 in
theorem jb_X12_playing_169 {X : lt_X} {σ : lt_S} (hT : lt_Wt σ) {o : Nat} (h0 : lt_c σ o = 12) {r : Int32 × lt_W} (hF : lt_F X cX12_playing RX12 7 (lt_rm 9)) (hE : lt_E X 0 0 σ (some .int) (some (.int r.1)) r.2) : ∀ (x1 : Int32) (x2 : Int32) (x3 : Int32) (w : lt_W), fb_X12_playing_169 σ o x1 x2 x3 w = some r → lt_J X 0 0 σ w 169 [(0, .ref (lt_z X + o)), (1, .int x1), (2, .int x2), (3, .int x3)] [] := by
  intro x1 x2 x3 w hf
  unfold fb_X12_playing_169 at hf
  refine jr_iload_n hF dX12_playing_169 3 rfl rfl ?_
  refine jr_if_ne (tgt := 185) hF dX12_playing_170 rfl hf (fun hf => ?_) (fun hf => ?_)
  · refine jr_sub [0] rfl ?_
    exact jb_X12_playing_185 hT h0 hF hE _ hf
  · refine jr_aload_n hF dX12_playing_173 0 rfl rfl ?_
    refine jr_getRT (cr := 50) hF gf_X12_72 hT h0 rfl rfl dX12_playing_174 (fun th1 => ?_)
    refine jr_iconst (v := 0) hF dX12_playing_177 rfl ?_
    refine jr_aload_n hF dX12_playing_178 0 rfl rfl ?_
    refine jr_iload_n hF dX12_playing_179 1 rfl rfl ?_
    refine jr_iload_n hF dX12_playing_180 2 rfl rfl ?_
    obtain ⟨q2, hq2, hf⟩ := Option.bind_eq_some_iff.mp hf
    refine jr_cV21 hF ml_X12_389 (c_X12_comesTo hT h0 hq2) h0 ⟨Nat.le_of_ble_eq_true rfl, Nat.le_of_ble_eq_true rfl⟩ (Nat.le_of_ble_eq_true rfl) dX12_playing_181 ?_
    refine jr_iastore hF th1 dX12_playing_184 hf (fun hf => ?_)
    refine jr_letW hf (fun w3 hf => ?_)
    refine jr_sub [0] rfl ?_
    exact jb_X12_playing_185 hT h0 hF hE _ hf
set_option maxRecDepth 100000 in
def fb_X12_playing_134 (σ : lt_S) (o : Nat) (k8 : Int32 → Int32 → Int32 → Int32 → lt_W → Option (Int32 × lt_W)) (x1 : Int32) (x2 : Int32) (x3 : Int32) (x4 : Int32) (w : lt_W) : Option (Int32 × lt_W) := if (x4 + 1) = x3 then Option.bind (f_X12_comesTo σ o x1 x2 w) (fun q2 => Option.bind (f_X12_settles σ o x4 q2.1 q2.2) (fun q3 => k8 x1 x2 x3 x4 q3)) else Option.bind (f_X12_beginsAt σ o (x4 + 1) w) (fun q1 => k8 x1 x2 x3 (x4 + 1) q1)
set_option maxHeartbeats 4000000 in
set_option maxRecDepth 100000 in
theorem jb_X12_playing_134 {X : lt_X} {σ : lt_S} (hT : lt_Wt σ) {o : Nat} (h0 : lt_c σ o = 12) {r : Int32 × lt_W} {k8 : Int32 → Int32 → Int32 → Int32 → lt_W → Option (Int32 × lt_W)} (hF : lt_F X cX12_playing RX12 7 (lt_rm 9)) (hE : lt_E X 0 0 σ (some .int) (some (.int r.1)) r.2) (hk8 : ∀ (x1 : Int32) (x2 : Int32) (x3 : Int32) (x4 : Int32) (w : lt_W), k8 x1 x2 x3 x4 w = some r → lt_J X 0 0 σ w 8 [(0, .ref (lt_z X + o)), (1, .int x1), (2, .int x2), (3, .int x3), (4, .int x4)] []) : ∀ (x1 : Int32) (x2 : Int32) (x3 : Int32) (x4 : Int32) (w : lt_W), fb_X12_playing_134 σ o k8 x1 x2 x3 x4 w = some r → lt_J X 0 0 σ w 134 [(0, .ref (lt_z X + o)), (1, .int x1), (2, .int x2), (3, .int x3), (4, .int x4)] [] := by
  intro x1 x2 x3 x4 w hf
  unfold fb_X12_playing_134 at hf
  refine jr_iload hF dX12_playing_134 4 rfl ?_
  refine jr_iconst (v := 1) hF dX12_playing_136 rfl ?_
  refine jr_iadd hF dX12_playing_137 ?_
  refine jr_iload_n hF dX12_playing_138 3 rfl rfl ?_
  refine jr_icmp_ne (tgt := 157) hF dX12_playing_139 rfl hf (fun hf => ?_) (fun hf => ?_)
  · refine jr_iinc (v := x4 + 1) (lv' := [(0, .ref (lt_z X + o)), (1, .int x1), (2, .int x2), (3, .int x3), (4, .int (x4 + 1))]) hF dX12_playing_157 4 rfl rfl (by decide) [1, 2, 3, 4, 0] rfl ?_
    refine jr_aload_n hF dX12_playing_160 0 rfl rfl ?_
    refine jr_iload hF dX12_playing_161 4 rfl ?_
    obtain ⟨q1, hq1, hf⟩ := Option.bind_eq_some_iff.mp hf
    refine jr_cV1v hF ml_X12_383 (c_X12_beginsAt hT h0 hq1) h0 ⟨Nat.le_of_ble_eq_true rfl, Nat.le_of_ble_eq_true rfl⟩ (Nat.le_of_ble_eq_true rfl) dX12_playing_163 ?_
    refine jr_goto (tgt := 8) hF dX12_playing_166 rfl ?_
    exact hk8 _ _ _ _ _ hf
  · refine jr_aload_n hF dX12_playing_142 0 rfl rfl ?_
    refine jr_iload hF dX12_playing_143 4 rfl ?_
    refine jr_aload_n hF dX12_playing_145 0 rfl rfl ?_
    refine jr_iload_n hF dX12_playing_146 1 rfl rfl ?_
    refine jr_iload_n hF dX12_playing_147 2 rfl rfl ?_
    obtain ⟨q2, hq2, hf⟩ := Option.bind_eq_some_iff.mp hf
    refine jr_cV21 hF ml_X12_389 (c_X12_comesTo hT h0 hq2) h0 ⟨Nat.le_of_ble_eq_true rfl, Nat.le_of_ble_eq_true rfl⟩ (Nat.le_of_ble_eq_true rfl) dX12_playing_148 ?_
    obtain ⟨q3, hq3, hf⟩ := Option.bind_eq_some_iff.mp hf
    refine jr_cV2v hF ml_X12_386 (c_X12_settles hT h0 hq3) h0 ⟨Nat.le_of_ble_eq_true rfl, Nat.le_of_ble_eq_true rfl⟩ (Nat.le_of_ble_eq_true rfl) dX12_playing_151 ?_
    refine jr_goto (tgt := 166) hF dX12_playing_154 rfl ?_
    refine jr_goto (tgt := 8) hF dX12_playing_166 rfl ?_
    exact hk8 _ _ _ _ _ hf
set_option maxRecDepth 100000 in
def fb_X12_playing_53 (σ : lt_S) (o : Nat) (k8 : Int32 → Int32 → Int32 → Int32 → lt_W → Option (Int32 × lt_W)) (x1 : Int32) (x2 : Int32) (x3 : Int32) (x4 : Int32) (x5 : Int32) (y0 : Int32) (w : lt_W) : Option (Int32 × lt_W) := lt_ck 0 (lt_len σ (lt_r σ o 0)) (if x5 ≤ (lt_gi w (lt_r σ o 0) (0 : Int32).toNatClampNeg) then lt_ck 0 (lt_len σ (lt_r σ o 0)) (if (lt_gi w (lt_r σ o 0) (0 : Int32).toNatClampNeg) ≤ x5 then fb_X12_playing_134 σ o k8 x1 x2 x3 x4 w else Option.bind (f_X12_isHere σ o x5 w) (fun q3 => if q3 = 0 then k8 x1 x2 x3 x4 w else if x5 = y0 then k8 x1 x2 x3 x4 w else Option.bind (f_X12_passes σ o x5 y0 w) (fun q4 => fb_X12_playing_134 σ o k8 x1 x2 x3 x4 q4.2))) else if x4 = 0 then fb_X12_playing_169 σ o x1 x2 x3 w else lt_ck ((x4 + (-1)) + 1) (lt_len σ (lt_r σ o 32)) (Option.bind (f_X12_settles σ o (x4 + (-1)) (lt_gi w (lt_r σ o 32) ((x4 + (-1)) + 1).toNatClampNeg) w) (fun q6 => k8 x1 x2 x3 (x4 + (-1)) q6)))
set_option maxHeartbeats 4000000 in
set_option maxRecDepth 100000 in
theorem jb_X12_playing_53 {X : lt_X} {σ : lt_S} (hT : lt_Wt σ) {o : Nat} (h0 : lt_c σ o = 12) {r : Int32 × lt_W} {k8 : Int32 → Int32 → Int32 → Int32 → lt_W → Option (Int32 × lt_W)} (hF : lt_F X cX12_playing RX12 7 (lt_rm 9)) (hE : lt_E X 0 0 σ (some .int) (some (.int r.1)) r.2) (hk8 : ∀ (x1 : Int32) (x2 : Int32) (x3 : Int32) (x4 : Int32) (w : lt_W), k8 x1 x2 x3 x4 w = some r → lt_J X 0 0 σ w 8 [(0, .ref (lt_z X + o)), (1, .int x1), (2, .int x2), (3, .int x3), (4, .int x4)] []) : ∀ (x1 : Int32) (x2 : Int32) (x3 : Int32) (x4 : Int32) (x5 : Int32) (y0 : Int32) (w : lt_W), fb_X12_playing_53 σ o k8 x1 x2 x3 x4 x5 y0 w = some r → lt_J X 0 0 σ w 53 [(0, .ref (lt_z X + o)), (1, .int x1), (2, .int x2), (3, .int x3), (4, .int x4), (5, .int x5)] [.int y0] := by
  intro x1 x2 x3 x4 x5 y0 w hf
  unfold fb_X12_playing_53 at hf
  refine jr_istore (lv' := [(0, .ref (lt_z X + o)), (1, .int x1), (2, .int x2), (3, .int x3), (4, .int x4), (5, .int x5), (6, .int y0)]) hF dX12_playing_53 (by decide) [1, 2, 3, 4, 5, 6, 0] rfl ?_
  refine jr_iload hF dX12_playing_55 5 rfl ?_
  refine jr_aload_n hF dX12_playing_57 0 rfl rfl ?_
  refine jr_getRT (cr := 50) hF gf_X12_7 hT h0 rfl rfl dX12_playing_58 (fun th1 => ?_)
  refine jr_iconst (v := 0) hF dX12_playing_61 rfl ?_
  refine jr_iaload hF th1 dX12_playing_62 hf (fun hf => ?_)
  refine jr_icmp_le (tgt := 95) hF dX12_playing_63 rfl hf (fun hf => ?_) (fun hf => ?_)
  · refine jr_iload hF dX12_playing_95 5 rfl ?_
    refine jr_aload_n hF dX12_playing_97 0 rfl rfl ?_
    refine jr_getRT (cr := 50) hF gf_X12_7 hT h0 rfl rfl dX12_playing_98 (fun th2 => ?_)
    refine jr_iconst (v := 0) hF dX12_playing_101 rfl ?_
    refine jr_iaload hF th2 dX12_playing_102 hf (fun hf => ?_)
    refine jr_icmp_ge (tgt := 134) hF dX12_playing_103 rfl hf (fun hf => ?_) (fun hf => ?_)
    · refine jr_sub [0, 1, 2, 3, 4] rfl ?_
      exact jb_X12_playing_134 hT h0 hF hE hk8 _ _ _ _ _ hf
    · refine jr_aload_n hF dX12_playing_106 0 rfl rfl ?_
      refine jr_iload hF dX12_playing_107 5 rfl ?_
      obtain ⟨q3, hq3, hf⟩ := Option.bind_eq_some_iff.mp hf
      refine jr_cV11 hF ml_X12_272 (c_X12_isHere hT h0 hq3) h0 ⟨Nat.le_of_ble_eq_true rfl, Nat.le_of_ble_eq_true rfl⟩ (Nat.le_of_ble_eq_true rfl) dX12_playing_109 ?_
      refine jr_if_eq (tgt := 8) hF dX12_playing_112 rfl hf (fun hf => ?_) (fun hf => ?_)
      · refine jr_sub [0, 1, 2, 3, 4] rfl ?_
        exact hk8 _ _ _ _ _ hf
      · refine jr_iload hF dX12_playing_115 5 rfl ?_
        refine jr_iload hF dX12_playing_117 6 rfl ?_
        refine jr_icmp_ne (tgt := 125) hF dX12_playing_119 rfl hf (fun hf => ?_) (fun hf => ?_)
        · refine jr_aload_n hF dX12_playing_125 0 rfl rfl ?_
          refine jr_iload hF dX12_playing_126 5 rfl ?_
          refine jr_iload hF dX12_playing_128 6 rfl ?_
          obtain ⟨q4, hq4, hf⟩ := Option.bind_eq_some_iff.mp hf
          refine jr_cV21 hF ml_X12_320 (c_X12_passes hT h0 hq4) h0 ⟨Nat.le_of_ble_eq_true rfl, Nat.le_of_ble_eq_true rfl⟩ (Nat.le_of_ble_eq_true rfl) dX12_playing_130 ?_
          refine jr_pop hF dX12_playing_133 rfl ?_
          refine jr_sub [0, 1, 2, 3, 4] rfl ?_
          exact jb_X12_playing_134 hT h0 hF hE hk8 _ _ _ _ _ hf
        · refine jr_goto (tgt := 8) hF dX12_playing_122 rfl ?_
          refine jr_sub [0, 1, 2, 3, 4] rfl ?_
          exact hk8 _ _ _ _ _ hf
  · refine jr_iload hF dX12_playing_66 4 rfl ?_
    refine jr_if_ne (tgt := 74) hF dX12_playing_68 rfl hf (fun hf => ?_) (fun hf => ?_)
    · refine jr_iinc (v := x4 + (-1)) (lv' := [(0, .ref (lt_z X + o)), (1, .int x1), (2, .int x2), (3, .int x3), (4, .int (x4 + (-1))), (5, .int x5), (6, .int y0)]) hF dX12_playing_74 4 rfl rfl (by decide) [1, 2, 3, 4, 0, 5, 6] rfl ?_
      refine jr_aload_n hF dX12_playing_77 0 rfl rfl ?_
      refine jr_iload hF dX12_playing_78 4 rfl ?_
      refine jr_aload_n hF dX12_playing_80 0 rfl rfl ?_
      refine jr_getRT (cr := 50) hF gf_X12_72 hT h0 rfl rfl dX12_playing_81 (fun th5 => ?_)
      refine jr_iload hF dX12_playing_84 4 rfl ?_
      refine jr_iconst (v := 1) hF dX12_playing_86 rfl ?_
      refine jr_iadd hF dX12_playing_87 ?_
      refine jr_iaload hF th5 dX12_playing_88 hf (fun hf => ?_)
      obtain ⟨q6, hq6, hf⟩ := Option.bind_eq_some_iff.mp hf
      refine jr_cV2v hF ml_X12_386 (c_X12_settles hT h0 hq6) h0 ⟨Nat.le_of_ble_eq_true rfl, Nat.le_of_ble_eq_true rfl⟩ (Nat.le_of_ble_eq_true rfl) dX12_playing_89 ?_
      refine jr_goto (tgt := 8) hF dX12_playing_92 rfl ?_
      refine jr_sub [0, 1, 2, 3, 4] rfl ?_
      exact hk8 _ _ _ _ _ hf
    · refine jr_goto (tgt := 169) hF dX12_playing_71 rfl ?_
      refine jr_sub [0, 1, 2, 3] rfl ?_
      exact jb_X12_playing_169 hT h0 hF hE _ _ _ _ hf
set_option maxRecDepth 100000 in
def fb_X12_playing_8 (σ : lt_S) (o : Nat) : Nat → Int32 → Int32 → Int32 → Int32 → lt_W → Option (Int32 × lt_W)
  | 0, _, _, _, _, _ => none
  | n + 1, x1, x2, x3, x4, w => if x3 ≤ 0 then fb_X12_playing_169 σ o x1 x2 x3 w else Option.bind (f_X12_levelAt x4) (fun q1 => Option.bind (f_X12_brings σ o q1 w) (fun q2 => lt_ck x4 (lt_len σ (lt_r σ o 24)) (lt_ck x4 (lt_len σ (lt_r σ o 24)) (lt_let (lt_si q2 (lt_r σ o 24) x4.toNatClampNeg ((lt_gi q2 (lt_r σ o 24) x4.toNatClampNeg) + 1)) (fun w4 => lt_ck x4 (lt_len σ (lt_r σ o 24)) (lt_let (lt_gi w4 (lt_r σ o 24) x4.toNatClampNeg) (fun z6 => if (x4 - x4 / 2 * 2) = 0 then fb_X12_playing_53 σ o (fun x1 x2 x3 x4 w => fb_X12_playing_8 σ o n x1 x2 x3 x4 w) x1 x2 x3 x4 z6 x1 w4 else fb_X12_playing_53 σ o (fun x1 x2 x3 x4 w => fb_X12_playing_8 σ o n x1 x2 x3 x4 w) x1 x2 x3 x4 z6 x2 w4)))))))
set_option maxHeartbeats 4000000 in
set_option maxRecDepth 100000 in
theorem jb_X12_playing_8 {X : lt_X} {σ : lt_S} (hT : lt_Wt σ) {o : Nat} (h0 : lt_c σ o = 12) {r : Int32 × lt_W} (hF : lt_F X cX12_playing RX12 7 (lt_rm 9)) (hE : lt_E X 0 0 σ (some .int) (some (.int r.1)) r.2) (n : Nat) : ∀ (x1 : Int32) (x2 : Int32) (x3 : Int32) (x4 : Int32) (w : lt_W), fb_X12_playing_8 σ o n x1 x2 x3 x4 w = some r → lt_J X 0 0 σ w 8 [(0, .ref (lt_z X + o)), (1, .int x1), (2, .int x2), (3, .int x3), (4, .int x4)] [] := by
  induction n with
  | zero => intro x1 x2 x3 x4 w hf; rw [fb_X12_playing_8] at hf; cases hf
  | succ n ih =>
    intro x1 x2 x3 x4 w hf
    rw [fb_X12_playing_8] at hf
    refine jr_iload_n hF dX12_playing_8 3 rfl rfl ?_
    refine jr_if_le (tgt := 169) hF dX12_playing_9 rfl hf (fun hf => ?_) (fun hf => ?_)
    · refine jr_sub [0, 1, 2, 3] rfl ?_
      exact jb_X12_playing_169 hT h0 hF hE _ _ _ _ hf
    · refine jr_aload_n hF dX12_playing_12 0 rfl rfl ?_
      refine jr_iload hF dX12_playing_13 4 rfl ?_
      obtain ⟨q1, hq1, hf⟩ := Option.bind_eq_some_iff.mp hf
      refine jr_cS11 hF ml_X12_343 (c_X12_levelAt hq1) ⟨Nat.le_of_ble_eq_true rfl, Nat.le_of_ble_eq_true rfl⟩ (Nat.le_of_ble_eq_true rfl) dX12_playing_15 ?_
      obtain ⟨q2, hq2, hf⟩ := Option.bind_eq_some_iff.mp hf
      refine jr_cV1v hF ml_X12_337 (c_X12_brings hT h0 hq2) h0 ⟨Nat.le_of_ble_eq_true rfl, Nat.le_of_ble_eq_true rfl⟩ (Nat.le_of_ble_eq_true rfl) dX12_playing_18 ?_
      refine jr_aload_n hF dX12_playing_21 0 rfl rfl ?_
      refine jr_getRT (cr := 50) hF gf_X12_47 hT h0 rfl rfl dX12_playing_22 (fun th3 => ?_)
      refine jr_iload hF dX12_playing_25 4 rfl ?_
      refine jr_dup2 hF dX12_playing_27 rfl rfl ?_
      refine jr_iaload hF th3 dX12_playing_28 hf (fun hf => ?_)
      refine jr_iconst (v := 1) hF dX12_playing_29 rfl ?_
      refine jr_iadd hF dX12_playing_30 ?_
      refine jr_iastore hF th3 dX12_playing_31 hf (fun hf => ?_)
      refine jr_letW hf (fun w4 hf => ?_)
      refine jr_aload_n hF dX12_playing_32 0 rfl rfl ?_
      refine jr_getRT (cr := 50) hF gf_X12_47 hT h0 rfl rfl dX12_playing_33 (fun th5 => ?_)
      refine jr_iload hF dX12_playing_36 4 rfl ?_
      refine jr_iaload hF th5 dX12_playing_38 hf (fun hf => ?_)
      refine jr_letI hf (fun z6 hf => ?_)
      refine jr_istore (lv' := [(0, .ref (lt_z X + o)), (1, .int x1), (2, .int x2), (3, .int x3), (4, .int x4), (5, .int z6)]) hF dX12_playing_39 (by decide) [1, 2, 3, 4, 5, 0] rfl ?_
      refine jr_iload hF dX12_playing_41 4 rfl ?_
      refine jr_iconst (v := 2) hF dX12_playing_43 rfl ?_
      refine jr_iremc hF dX12_playing_44 (by decide) ?_
      refine jr_if_ne (tgt := 52) hF dX12_playing_45 rfl hf (fun hf => ?_) (fun hf => ?_)
      · refine jr_iload_n hF dX12_playing_52 2 rfl rfl ?_
        exact jb_X12_playing_53 hT h0 hF hE ih _ _ _ _ _ _ _ hf
      · refine jr_iload_n hF dX12_playing_48 1 rfl rfl ?_
        refine jr_goto (tgt := 53) hF dX12_playing_49 rfl ?_
        exact jb_X12_playing_53 hT h0 hF hE ih _ _ _ _ _ _ _ hf
set_option maxRecDepth 100000 in
def fb_X12_playing_0 (σ : lt_S) (o : Nat) (x1 : Int32) (x2 : Int32) (x3 : Int32) (w : lt_W) : Option (Int32 × lt_W) := Option.bind (f_X12_beginsAt σ o 0 w) (fun q1 => fb_X12_playing_8 σ o lt_fu x1 x2 x3 0 q1)
set_option maxHeartbeats 4000000 in
set_option maxRecDepth 100000 in
theorem jb_X12_playing_0 {X : lt_X} {σ : lt_S} (hT : lt_Wt σ) {o : Nat} (h0 : lt_c σ o = 12) {r : Int32 × lt_W} (hF : lt_F X cX12_playing RX12 7 (lt_rm 9)) (hE : lt_E X 0 0 σ (some .int) (some (.int r.1)) r.2) : ∀ (x1 : Int32) (x2 : Int32) (x3 : Int32) (w : lt_W), fb_X12_playing_0 σ o x1 x2 x3 w = some r → lt_J X 0 0 σ w 0 [(0, .ref (lt_z X + o)), (1, .int x1), (2, .int x2), (3, .int x3)] [] := by
  intro x1 x2 x3 w hf
  unfold fb_X12_playing_0 at hf
  refine jr_iconst (v := 0) hF dX12_playing_0 rfl ?_
  refine jr_istore (lv' := [(0, .ref (lt_z X + o)), (1, .int x1), (2, .int x2), (3, .int x3), (4, .int 0)]) hF dX12_playing_1 (by decide) [1, 2, 3, 4, 0] rfl ?_
  refine jr_aload_n hF dX12_playing_3 0 rfl rfl ?_
  refine jr_iconst (v := 0) hF dX12_playing_4 rfl ?_
  obtain ⟨q1, hq1, hf⟩ := Option.bind_eq_some_iff.mp hf
  refine jr_cV1v hF ml_X12_383 (c_X12_beginsAt hT h0 hq1) h0 ⟨Nat.le_of_ble_eq_true rfl, Nat.le_of_ble_eq_true rfl⟩ (Nat.le_of_ble_eq_true rfl) dX12_playing_5 ?_
  exact jb_X12_playing_8 hT h0 hF hE lt_fu _ _ _ _ _ hf
def f_X12_playing (σ : lt_S) (o : Nat) (x1 : Int32) (x2 : Int32) (x3 : Int32) (w : lt_W) : Option (Int32 × lt_W) := fb_X12_playing_0 σ o x1 x2 x3 w
set_option maxRecDepth 100000 in
theorem c_X12_playing {l : Launch} {D : va_G} {gA : Nat → ClassId} {s0 : State} {σ : lt_S} (hT : lt_Wt σ) {o : Nat} (h0 : lt_c σ o = 12) {x1 : Int32} {x2 : Int32} {x3 : Int32} {w : lt_W} {r : Int32 × lt_W} (hf : f_X12_playing σ o x1 x2 x3 w = some r) : lt_C l D gA s0 yX12_playing cX12_playing 7 (some .int) (lt_rm 9) [.ref (s0.heap.size + o), .int x1, .int x2, .int x3] σ w σ (some (.int r.1)) r.2 := by
  refine lt_enter rfl (Nat.le_of_ble_eq_true rfl) (fun X e1 e2 e3 e4 hF hE => ?_)
  subst e1 e2 e3 e4
  exact jb_X12_playing_0 hT h0 hF hE _ _ _ _ hf

set_option maxRecDepth 100000 in
def fb_X12_game_21 (σ : lt_S) (o : Nat) (w : lt_W) : Option (Int32 × lt_W) := Option.bind (f_X12_refuse σ o 1 w) (fun q1 => some (q1.1, q1.2))
set_option maxHeartbeats 4000000 in
set_option maxRecDepth 100000 in
theorem jb_X12_game_21 {X : lt_X} {σ : lt_S} (hT : lt_Wt σ) {o : Nat} (h0 : lt_c σ o = 12) {r : Int32 × lt_W} (hF : lt_F X cX12_game RX12 4 (lt_rm 10)) (hE : lt_E X 0 0 σ (some .int) (some (.int r.1)) r.2) : ∀ (w : lt_W), fb_X12_game_21 σ o w = some r → lt_J X 0 0 σ w 21 [(0, .ref (lt_z X + o))] [] := by
  intro w hf
  unfold fb_X12_game_21 at hf
  refine jr_aload_n hF dX12_game_21 0 rfl rfl ?_
  refine jr_iconst (v := 1) hF dX12_game_22 rfl ?_
  obtain ⟨q1, hq1, hf⟩ := Option.bind_eq_some_iff.mp hf
  refine jr_cV11 hF ml_X12_97 (c_X12_refuse h0 hq1) h0 ⟨Nat.le_of_ble_eq_true rfl, Nat.le_of_ble_eq_true rfl⟩ (Nat.le_of_ble_eq_true rfl) dX12_game_23 ?_
  obtain rfl := Option.some.inj hf
  exact jr_ireturn hF hE dX12_game_26
set_option maxRecDepth 100000 in
def fb_X12_game_0 (σ : lt_S) (o : Nat) (x1 : Int32) (x2 : Int32) (x3 : Int32) (w : lt_W) : Option (Int32 × lt_W) := Option.bind (f_X12_areTwo σ o x1 x2 w) (fun q1 => if q1 = 0 then fb_X12_game_21 σ o w else Option.bind (f_X12_isFrom x3.toInt64 0 3) (fun q2 => if q2 = 0 then fb_X12_game_21 σ o w else Option.bind (f_X12_playing σ o x1 x2 x3 w) (fun q3 => Option.bind (f_X12_gives σ o q3.1 q3.2) (fun q4 => some (q4.1, q4.2)))))
set_option maxHeartbeats 4000000 in
set_option maxRecDepth 100000 in
theorem jb_X12_game_0 {X : lt_X} {σ : lt_S} (hT : lt_Wt σ) {o : Nat} (h0 : lt_c σ o = 12) {r : Int32 × lt_W} (hF : lt_F X cX12_game RX12 4 (lt_rm 10)) (hE : lt_E X 0 0 σ (some .int) (some (.int r.1)) r.2) : ∀ (x1 : Int32) (x2 : Int32) (x3 : Int32) (w : lt_W), fb_X12_game_0 σ o x1 x2 x3 w = some r → lt_J X 0 0 σ w 0 [(0, .ref (lt_z X + o)), (1, .int x1), (2, .int x2), (3, .int x3)] [] := by
  intro x1 x2 x3 w hf
  unfold fb_X12_game_0 at hf
  refine jr_aload_n hF dX12_game_0 0 rfl rfl ?_
  refine jr_iload_n hF dX12_game_1 1 rfl rfl ?_
  refine jr_iload_n hF dX12_game_2 2 rfl rfl ?_
  obtain ⟨q1, hq1, hf⟩ := Option.bind_eq_some_iff.mp hf
  refine jr_cV21 hF ml_X12_317 (c_X12_areTwo hT h0 hq1) h0 ⟨Nat.le_of_ble_eq_true rfl, Nat.le_of_ble_eq_true rfl⟩ (Nat.le_of_ble_eq_true rfl) dX12_game_3 ?_
  refine jr_if_eq (tgt := 21) hF dX12_game_6 rfl hf (fun hf => ?_) (fun hf => ?_)
  · refine jr_sub [0] rfl ?_
    exact jb_X12_game_21 hT h0 hF hE _ hf
  · refine jr_iload_n hF dX12_game_9 3 rfl rfl ?_
    refine jr_i2l hF dX12_game_10 ?_
    refine jr_lconst (v := 0) hF dX12_game_11 rfl ?_
    refine jr_ldc2 (v := 3) hF dX12_game_12 kc_X12_392 ?_
    obtain ⟨q2, hq2, hf⟩ := Option.bind_eq_some_iff.mp hf
    refine jr_cS31 hF ml_X12_307 (c_X12_isFrom hq2) ⟨Nat.le_of_ble_eq_true rfl, Nat.le_of_ble_eq_true rfl⟩ (Nat.le_of_ble_eq_true rfl) dX12_game_15 ?_
    refine jr_if_ne (tgt := 27) hF dX12_game_18 rfl hf (fun hf => ?_) (fun hf => ?_)
    · refine jr_aload_n hF dX12_game_27 0 rfl rfl ?_
      refine jr_aload_n hF dX12_game_28 0 rfl rfl ?_
      refine jr_iload_n hF dX12_game_29 1 rfl rfl ?_
      refine jr_iload_n hF dX12_game_30 2 rfl rfl ?_
      refine jr_iload_n hF dX12_game_31 3 rfl rfl ?_
      obtain ⟨q3, hq3, hf⟩ := Option.bind_eq_some_iff.mp hf
      refine jr_cV31 hF ml_X12_394 (c_X12_playing hT h0 hq3) h0 ⟨Nat.le_of_ble_eq_true rfl, Nat.le_of_ble_eq_true rfl⟩ (Nat.le_of_ble_eq_true rfl) dX12_game_32 ?_
      obtain ⟨q4, hq4, hf⟩ := Option.bind_eq_some_iff.mp hf
      refine jr_cV11 hF ml_X12_101 (c_X12_gives h0 hq4) h0 ⟨Nat.le_of_ble_eq_true rfl, Nat.le_of_ble_eq_true rfl⟩ (Nat.le_of_ble_eq_true rfl) dX12_game_35 ?_
      obtain rfl := Option.some.inj hf
      exact jr_ireturn hF hE dX12_game_38
    · refine jr_sub [0] rfl ?_
      exact jb_X12_game_21 hT h0 hF hE _ hf
def f_X12_game (σ : lt_S) (o : Nat) (x1 : Int32) (x2 : Int32) (x3 : Int32) (w : lt_W) : Option (Int32 × lt_W) := fb_X12_game_0 σ o x1 x2 x3 w
set_option maxRecDepth 100000 in
theorem c_X12_game {l : Launch} {D : va_G} {gA : Nat → ClassId} {s0 : State} {σ : lt_S} (hT : lt_Wt σ) {o : Nat} (h0 : lt_c σ o = 12) {x1 : Int32} {x2 : Int32} {x3 : Int32} {w : lt_W} {r : Int32 × lt_W} (hf : f_X12_game σ o x1 x2 x3 w = some r) : lt_C l D gA s0 yX12_game cX12_game 4 (some .int) (lt_rm 10) [.ref (s0.heap.size + o), .int x1, .int x2, .int x3] σ w σ (some (.int r.1)) r.2 := by
  refine lt_enter rfl (Nat.le_of_ble_eq_true rfl) (fun X e1 e2 e3 e4 hF hE => ?_)
  subst e1 e2 e3 e4
  exact jb_X12_game_0 hT h0 hF hE _ _ _ _ hf

set_option maxRecDepth 100000 in
def fb_X12_guest_18 (σ : lt_S) (o : Nat) (w : lt_W) : Option (Int32 × lt_W) := Option.bind (f_X12_refuse σ o 1 w) (fun q1 => some (q1.1, q1.2))
set_option maxHeartbeats 4000000 in
set_option maxRecDepth 100000 in
theorem jb_X12_guest_18 {X : lt_X} {σ : lt_S} (hT : lt_Wt σ) {o : Nat} (h0 : lt_c σ o = 12) {r : Int32 × lt_W} (hF : lt_F X cX12_guest RX12 3 (lt_rm 5)) (hE : lt_E X 0 0 σ (some .int) (some (.int r.1)) r.2) : ∀ (w : lt_W), fb_X12_guest_18 σ o w = some r → lt_J X 0 0 σ w 18 [(0, .ref (lt_z X + o))] [] := by
  intro w hf
  unfold fb_X12_guest_18 at hf
  refine jr_aload_n hF dX12_guest_18 0 rfl rfl ?_
  refine jr_iconst (v := 1) hF dX12_guest_19 rfl ?_
  obtain ⟨q1, hq1, hf⟩ := Option.bind_eq_some_iff.mp hf
  refine jr_cV11 hF ml_X12_97 (c_X12_refuse h0 hq1) h0 ⟨Nat.le_of_ble_eq_true rfl, Nat.le_of_ble_eq_true rfl⟩ (Nat.le_of_ble_eq_true rfl) dX12_guest_20 ?_
  obtain rfl := Option.some.inj hf
  exact jr_ireturn hF hE dX12_guest_23
set_option maxRecDepth 100000 in
def fb_X12_guest_63 (σ : lt_S) (o : Nat) (y1 : Int32) (w : lt_W) : Option (Int32 × lt_W) := Option.bind (f_X12_gives σ o y1 w) (fun q1 => some (q1.1, q1.2))
set_option maxHeartbeats 4000000 in
set_option maxRecDepth 100000 in
theorem jb_X12_guest_63 {X : lt_X} {σ : lt_S} (hT : lt_Wt σ) {o : Nat} (h0 : lt_c σ o = 12) {r : Int32 × lt_W} (hF : lt_F X cX12_guest RX12 3 (lt_rm 5)) (hE : lt_E X 0 0 σ (some .int) (some (.int r.1)) r.2) : ∀ (y1 : Int32) (w : lt_W), fb_X12_guest_63 σ o y1 w = some r → lt_J X 0 0 σ w 63 [(0, .ref (lt_z X + o))] [.int y1, .ref (lt_z X + o)] := by
  intro y1 w hf
  unfold fb_X12_guest_63 at hf
  obtain ⟨q1, hq1, hf⟩ := Option.bind_eq_some_iff.mp hf
  refine jr_cV11 hF ml_X12_101 (c_X12_gives h0 hq1) h0 ⟨Nat.le_of_ble_eq_true rfl, Nat.le_of_ble_eq_true rfl⟩ (Nat.le_of_ble_eq_true rfl) dX12_guest_63 ?_
  obtain rfl := Option.some.inj hf
  exact jr_ireturn hF hE dX12_guest_66
set_option maxRecDepth 100000 in
def fb_X12_guest_0 (σ : lt_S) (o : Nat) (x1 : Int32) (x2 : Int32) (w : lt_W) : Option (Int32 × lt_W) := Option.bind (f_X12_isGuest σ o x1 w) (fun q1 => if q1 = 0 then fb_X12_guest_18 σ o w else if x2 < 0 then fb_X12_guest_18 σ o w else if x2 ≤ 7 then if x2 = 6 then Option.bind (f_X12_guestOf σ o x1 6 w) (fun q4 => Option.bind (f_X12_orNone σ o q4 w) (fun q5 => some (q5.1, q5.2))) else if x2 = 7 then Option.bind (f_X12_passTo σ o x1 w) (fun q3 => fb_X12_guest_63 σ o q3 w) else Option.bind (f_X12_guestOf σ o x1 x2 w) (fun q2 => fb_X12_guest_63 σ o q2 w) else fb_X12_guest_18 σ o w)
set_option maxHeartbeats 4000000 in
set_option maxRecDepth 100000 in
theorem jb_X12_guest_0 {X : lt_X} {σ : lt_S} (hT : lt_Wt σ) {o : Nat} (h0 : lt_c σ o = 12) {r : Int32 × lt_W} (hF : lt_F X cX12_guest RX12 3 (lt_rm 5)) (hE : lt_E X 0 0 σ (some .int) (some (.int r.1)) r.2) : ∀ (x1 : Int32) (x2 : Int32) (w : lt_W), fb_X12_guest_0 σ o x1 x2 w = some r → lt_J X 0 0 σ w 0 [(0, .ref (lt_z X + o)), (1, .int x1), (2, .int x2)] [] := by
  intro x1 x2 w hf
  unfold fb_X12_guest_0 at hf
  refine jr_aload_n hF dX12_guest_0 0 rfl rfl ?_
  refine jr_iload_n hF dX12_guest_1 1 rfl rfl ?_
  obtain ⟨q1, hq1, hf⟩ := Option.bind_eq_some_iff.mp hf
  refine jr_cV11 hF ml_X12_266 (c_X12_isGuest hT h0 hq1) h0 ⟨Nat.le_of_ble_eq_true rfl, Nat.le_of_ble_eq_true rfl⟩ (Nat.le_of_ble_eq_true rfl) dX12_guest_2 ?_
  refine jr_if_eq (tgt := 18) hF dX12_guest_5 rfl hf (fun hf => ?_) (fun hf => ?_)
  · refine jr_sub [0] rfl ?_
    exact jb_X12_guest_18 hT h0 hF hE _ hf
  · refine jr_iload_n hF dX12_guest_8 2 rfl rfl ?_
    refine jr_if_lt (tgt := 18) hF dX12_guest_9 rfl hf (fun hf => ?_) (fun hf => ?_)
    · refine jr_sub [0] rfl ?_
      exact jb_X12_guest_18 hT h0 hF hE _ hf
    · refine jr_iload_n hF dX12_guest_12 2 rfl rfl ?_
      refine jr_bipush (v := 7) hF dX12_guest_13 rfl ?_
      refine jr_icmp_le (tgt := 24) hF dX12_guest_15 rfl hf (fun hf => ?_) (fun hf => ?_)
      · refine jr_iload_n hF dX12_guest_24 2 rfl rfl ?_
        refine jr_bipush (v := 6) hF dX12_guest_25 rfl ?_
        refine jr_icmp_ne (tgt := 42) hF dX12_guest_27 rfl hf (fun hf => ?_) (fun hf => ?_)
        · refine jr_aload_n hF dX12_guest_42 0 rfl rfl ?_
          refine jr_iload_n hF dX12_guest_43 2 rfl rfl ?_
          refine jr_bipush (v := 7) hF dX12_guest_44 rfl ?_
          refine jr_icmp_ne (tgt := 57) hF dX12_guest_46 rfl hf (fun hf => ?_) (fun hf => ?_)
          · refine jr_aload_n hF dX12_guest_57 0 rfl rfl ?_
            refine jr_iload_n hF dX12_guest_58 1 rfl rfl ?_
            refine jr_iload_n hF dX12_guest_59 2 rfl rfl ?_
            obtain ⟨q2, hq2, hf⟩ := Option.bind_eq_some_iff.mp hf
            refine jr_cV21 hF ml_X12_269 (c_X12_guestOf hT h0 hq2) h0 ⟨Nat.le_of_ble_eq_true rfl, Nat.le_of_ble_eq_true rfl⟩ (Nat.le_of_ble_eq_true rfl) dX12_guest_60 ?_
            refine jr_sub [0] rfl ?_
            exact jb_X12_guest_63 hT h0 hF hE _ _ hf
          · refine jr_aload_n hF dX12_guest_49 0 rfl rfl ?_
            refine jr_iload_n hF dX12_guest_50 1 rfl rfl ?_
            obtain ⟨q3, hq3, hf⟩ := Option.bind_eq_some_iff.mp hf
            refine jr_cV11 hF ml_X12_287 (c_X12_passTo hT h0 hq3) h0 ⟨Nat.le_of_ble_eq_true rfl, Nat.le_of_ble_eq_true rfl⟩ (Nat.le_of_ble_eq_true rfl) dX12_guest_51 ?_
            refine jr_goto (tgt := 63) hF dX12_guest_54 rfl ?_
            refine jr_sub [0] rfl ?_
            exact jb_X12_guest_63 hT h0 hF hE _ _ hf
        · refine jr_aload_n hF dX12_guest_30 0 rfl rfl ?_
          refine jr_aload_n hF dX12_guest_31 0 rfl rfl ?_
          refine jr_iload_n hF dX12_guest_32 1 rfl rfl ?_
          refine jr_bipush (v := 6) hF dX12_guest_33 rfl ?_
          obtain ⟨q4, hq4, hf⟩ := Option.bind_eq_some_iff.mp hf
          refine jr_cV21 hF ml_X12_269 (c_X12_guestOf hT h0 hq4) h0 ⟨Nat.le_of_ble_eq_true rfl, Nat.le_of_ble_eq_true rfl⟩ (Nat.le_of_ble_eq_true rfl) dX12_guest_35 ?_
          obtain ⟨q5, hq5, hf⟩ := Option.bind_eq_some_iff.mp hf
          refine jr_cV11 hF ml_X12_284 (c_X12_orNone h0 hq5) h0 ⟨Nat.le_of_ble_eq_true rfl, Nat.le_of_ble_eq_true rfl⟩ (Nat.le_of_ble_eq_true rfl) dX12_guest_38 ?_
          obtain rfl := Option.some.inj hf
          exact jr_ireturn hF hE dX12_guest_41
      · refine jr_sub [0] rfl ?_
        exact jb_X12_guest_18 hT h0 hF hE _ hf
def f_X12_guest (σ : lt_S) (o : Nat) (x1 : Int32) (x2 : Int32) (w : lt_W) : Option (Int32 × lt_W) := fb_X12_guest_0 σ o x1 x2 w
set_option maxRecDepth 100000 in
theorem c_X12_guest {l : Launch} {D : va_G} {gA : Nat → ClassId} {s0 : State} {σ : lt_S} (hT : lt_Wt σ) {o : Nat} (h0 : lt_c σ o = 12) {x1 : Int32} {x2 : Int32} {w : lt_W} {r : Int32 × lt_W} (hf : f_X12_guest σ o x1 x2 w = some r) : lt_C l D gA s0 yX12_guest cX12_guest 3 (some .int) (lt_rm 5) [.ref (s0.heap.size + o), .int x1, .int x2] σ w σ (some (.int r.1)) r.2 := by
  refine lt_enter rfl (Nat.le_of_ble_eq_true rfl) (fun X e1 e2 e3 e4 hF hE => ?_)
  subst e1 e2 e3 e4
  exact jb_X12_guest_0 hT h0 hF hE _ _ _ hf

set_option maxRecDepth 100000 in
def fb_X12_guestIn_29 (σ : lt_S) (o : Nat) (w : lt_W) : Option (Int32 × lt_W) := Option.bind (f_X12_refuse σ o 1 w) (fun q1 => some (q1.1, q1.2))
set_option maxHeartbeats 4000000 in
set_option maxRecDepth 100000 in
theorem jb_X12_guestIn_29 {X : lt_X} {σ : lt_S} (hT : lt_Wt σ) {o : Nat} (h0 : lt_c σ o = 12) {r : Int32 × lt_W} (hF : lt_F X cX12_guestIn RX12 5 (lt_rm 8)) (hE : lt_E X 0 0 σ (some .int) (some (.int r.1)) r.2) : ∀ (w : lt_W), fb_X12_guestIn_29 σ o w = some r → lt_J X 0 0 σ w 29 [(0, .ref (lt_z X + o))] [] := by
  intro w hf
  unfold fb_X12_guestIn_29 at hf
  refine jr_aload_n hF dX12_guestIn_29 0 rfl rfl ?_
  refine jr_iconst (v := 1) hF dX12_guestIn_30 rfl ?_
  obtain ⟨q1, hq1, hf⟩ := Option.bind_eq_some_iff.mp hf
  refine jr_cV11 hF ml_X12_97 (c_X12_refuse h0 hq1) h0 ⟨Nat.le_of_ble_eq_true rfl, Nat.le_of_ble_eq_true rfl⟩ (Nat.le_of_ble_eq_true rfl) dX12_guestIn_31 ?_
  obtain rfl := Option.some.inj hf
  exact jr_ireturn hF hE dX12_guestIn_34
set_option maxRecDepth 100000 in
def fb_X12_guestIn_58 (σ : lt_S) (o : Nat) (y1 : Int32) (y2 : Int32) (w : lt_W) : Option (Int32 × lt_W) := Option.bind (f_X12_guestOf σ o y1 y2 w) (fun q1 => Option.bind (f_X12_brings σ o 2140 w) (fun q2 => Option.bind (f_X12_gives σ o q1 q2) (fun q3 => some (q3.1, q3.2))))
set_option maxHeartbeats 4000000 in
set_option maxRecDepth 100000 in
theorem jb_X12_guestIn_58 {X : lt_X} {σ : lt_S} (hT : lt_Wt σ) {o : Nat} (h0 : lt_c σ o = 12) {r : Int32 × lt_W} (hF : lt_F X cX12_guestIn RX12 5 (lt_rm 8)) (hE : lt_E X 0 0 σ (some .int) (some (.int r.1)) r.2) : ∀ (y1 : Int32) (y2 : Int32) (w : lt_W), fb_X12_guestIn_58 σ o y1 y2 w = some r → lt_J X 0 0 σ w 58 [(0, .ref (lt_z X + o))] [.int y2, .int y1, .ref (lt_z X + o)] := by
  intro y1 y2 w hf
  unfold fb_X12_guestIn_58 at hf
  obtain ⟨q1, hq1, hf⟩ := Option.bind_eq_some_iff.mp hf
  refine jr_cV21 hF ml_X12_269 (c_X12_guestOf hT h0 hq1) h0 ⟨Nat.le_of_ble_eq_true rfl, Nat.le_of_ble_eq_true rfl⟩ (Nat.le_of_ble_eq_true rfl) dX12_guestIn_58 ?_
  refine jr_istore (lv' := [(0, .ref (lt_z X + o)), (4, .int q1)]) hF dX12_guestIn_61 (by decide) [1, 0] rfl ?_
  refine jr_aload_n hF dX12_guestIn_63 0 rfl rfl ?_
  refine jr_sipush (v := 2140) hF dX12_guestIn_64 rfl ?_
  obtain ⟨q2, hq2, hf⟩ := Option.bind_eq_some_iff.mp hf
  refine jr_cV1v hF ml_X12_337 (c_X12_brings hT h0 hq2) h0 ⟨Nat.le_of_ble_eq_true rfl, Nat.le_of_ble_eq_true rfl⟩ (Nat.le_of_ble_eq_true rfl) dX12_guestIn_67 ?_
  refine jr_aload_n hF dX12_guestIn_70 0 rfl rfl ?_
  refine jr_iload hF dX12_guestIn_71 1 rfl ?_
  obtain ⟨q3, hq3, hf⟩ := Option.bind_eq_some_iff.mp hf
  refine jr_cV11 hF ml_X12_101 (c_X12_gives h0 hq3) h0 ⟨Nat.le_of_ble_eq_true rfl, Nat.le_of_ble_eq_true rfl⟩ (Nat.le_of_ble_eq_true rfl) dX12_guestIn_73 ?_
  obtain rfl := Option.some.inj hf
  exact jr_ireturn hF hE dX12_guestIn_76
set_option maxRecDepth 100000 in
def fb_X12_guestIn_0 (σ : lt_S) (o : Nat) (x1 : Int32) (x2 : Int32) (x3 : Int32) (w : lt_W) : Option (Int32 × lt_W) := Option.bind (f_X12_isGuest σ o x1 w) (fun q1 => if q1 = 0 then fb_X12_guestIn_29 σ o w else Option.bind (f_X12_isFrom x2.toInt64 0 99) (fun q2 => if q2 = 0 then fb_X12_guestIn_29 σ o w else if x3 < 0 then fb_X12_guestIn_29 σ o w else if x3 ≤ 1 then Option.bind (f_X12_keeps σ o 2140 w) (fun q3 => Option.bind (f_X12_daysGo σ o x2 q3) (fun q4 => if x3 = 0 then fb_X12_guestIn_58 σ o x1 0 q4 else fb_X12_guestIn_58 σ o x1 4 q4)) else fb_X12_guestIn_29 σ o w))
set_option maxHeartbeats 4000000 in
set_option maxRecDepth 100000 in
theorem jb_X12_guestIn_0 {X : lt_X} {σ : lt_S} (hT : lt_Wt σ) {o : Nat} (h0 : lt_c σ o = 12) {r : Int32 × lt_W} (hF : lt_F X cX12_guestIn RX12 5 (lt_rm 8)) (hE : lt_E X 0 0 σ (some .int) (some (.int r.1)) r.2) : ∀ (x1 : Int32) (x2 : Int32) (x3 : Int32) (w : lt_W), fb_X12_guestIn_0 σ o x1 x2 x3 w = some r → lt_J X 0 0 σ w 0 [(0, .ref (lt_z X + o)), (1, .int x1), (2, .int x2), (3, .int x3)] [] := by
  intro x1 x2 x3 w hf
  unfold fb_X12_guestIn_0 at hf
  refine jr_aload_n hF dX12_guestIn_0 0 rfl rfl ?_
  refine jr_iload_n hF dX12_guestIn_1 1 rfl rfl ?_
  obtain ⟨q1, hq1, hf⟩ := Option.bind_eq_some_iff.mp hf
  refine jr_cV11 hF ml_X12_266 (c_X12_isGuest hT h0 hq1) h0 ⟨Nat.le_of_ble_eq_true rfl, Nat.le_of_ble_eq_true rfl⟩ (Nat.le_of_ble_eq_true rfl) dX12_guestIn_2 ?_
  refine jr_if_eq (tgt := 29) hF dX12_guestIn_5 rfl hf (fun hf => ?_) (fun hf => ?_)
  · refine jr_sub [0] rfl ?_
    exact jb_X12_guestIn_29 hT h0 hF hE _ hf
  · refine jr_iload_n hF dX12_guestIn_8 2 rfl rfl ?_
    refine jr_i2l hF dX12_guestIn_9 ?_
    refine jr_lconst (v := 0) hF dX12_guestIn_10 rfl ?_
    refine jr_ldc2 (v := 99) hF dX12_guestIn_11 kc_X12_332 ?_
    obtain ⟨q2, hq2, hf⟩ := Option.bind_eq_some_iff.mp hf
    refine jr_cS31 hF ml_X12_307 (c_X12_isFrom hq2) ⟨Nat.le_of_ble_eq_true rfl, Nat.le_of_ble_eq_true rfl⟩ (Nat.le_of_ble_eq_true rfl) dX12_guestIn_14 ?_
    refine jr_if_eq (tgt := 29) hF dX12_guestIn_17 rfl hf (fun hf => ?_) (fun hf => ?_)
    · refine jr_sub [0] rfl ?_
      exact jb_X12_guestIn_29 hT h0 hF hE _ hf
    · refine jr_iload_n hF dX12_guestIn_20 3 rfl rfl ?_
      refine jr_if_lt (tgt := 29) hF dX12_guestIn_21 rfl hf (fun hf => ?_) (fun hf => ?_)
      · refine jr_sub [0] rfl ?_
        exact jb_X12_guestIn_29 hT h0 hF hE _ hf
      · refine jr_iload_n hF dX12_guestIn_24 3 rfl rfl ?_
        refine jr_iconst (v := 1) hF dX12_guestIn_25 rfl ?_
        refine jr_icmp_le (tgt := 35) hF dX12_guestIn_26 rfl hf (fun hf => ?_) (fun hf => ?_)
        · refine jr_aload_n hF dX12_guestIn_35 0 rfl rfl ?_
          refine jr_sipush (v := 2140) hF dX12_guestIn_36 rfl ?_
          obtain ⟨q3, hq3, hf⟩ := Option.bind_eq_some_iff.mp hf
          refine jr_cV1v hF ml_X12_334 (c_X12_keeps hT h0 hq3) h0 ⟨Nat.le_of_ble_eq_true rfl, Nat.le_of_ble_eq_true rfl⟩ (Nat.le_of_ble_eq_true rfl) dX12_guestIn_39 ?_
          refine jr_aload_n hF dX12_guestIn_42 0 rfl rfl ?_
          refine jr_iload_n hF dX12_guestIn_43 2 rfl rfl ?_
          obtain ⟨q4, hq4, hf⟩ := Option.bind_eq_some_iff.mp hf
          refine jr_cV1v hF ml_X12_311 (c_X12_daysGo hT h0 hq4) h0 ⟨Nat.le_of_ble_eq_true rfl, Nat.le_of_ble_eq_true rfl⟩ (Nat.le_of_ble_eq_true rfl) dX12_guestIn_44 ?_
          refine jr_aload_n hF dX12_guestIn_47 0 rfl rfl ?_
          refine jr_iload_n hF dX12_guestIn_48 1 rfl rfl ?_
          refine jr_iload_n hF dX12_guestIn_49 3 rfl rfl ?_
          refine jr_if_ne (tgt := 57) hF dX12_guestIn_50 rfl hf (fun hf => ?_) (fun hf => ?_)
          · refine jr_iconst (v := 4) hF dX12_guestIn_57 rfl ?_
            refine jr_sub [0] rfl ?_
            exact jb_X12_guestIn_58 hT h0 hF hE _ _ _ hf
          · refine jr_iconst (v := 0) hF dX12_guestIn_53 rfl ?_
            refine jr_goto (tgt := 58) hF dX12_guestIn_54 rfl ?_
            refine jr_sub [0] rfl ?_
            exact jb_X12_guestIn_58 hT h0 hF hE _ _ _ hf
        · refine jr_sub [0] rfl ?_
          exact jb_X12_guestIn_29 hT h0 hF hE _ hf
def f_X12_guestIn (σ : lt_S) (o : Nat) (x1 : Int32) (x2 : Int32) (x3 : Int32) (w : lt_W) : Option (Int32 × lt_W) := fb_X12_guestIn_0 σ o x1 x2 x3 w
set_option maxRecDepth 100000 in
theorem c_X12_guestIn {l : Launch} {D : va_G} {gA : Nat → ClassId} {s0 : State} {σ : lt_S} (hT : lt_Wt σ) {o : Nat} (h0 : lt_c σ o = 12) {x1 : Int32} {x2 : Int32} {x3 : Int32} {w : lt_W} {r : Int32 × lt_W} (hf : f_X12_guestIn σ o x1 x2 x3 w = some r) : lt_C l D gA s0 yX12_guestIn cX12_guestIn 5 (some .int) (lt_rm 8) [.ref (s0.heap.size + o), .int x1, .int x2, .int x3] σ w σ (some (.int r.1)) r.2 := by
  refine lt_enter rfl (Nat.le_of_ble_eq_true rfl) (fun X e1 e2 e3 e4 hF hE => ?_)
  subst e1 e2 e3 e4
  exact jb_X12_guestIn_0 hT h0 hF hE _ _ _ _ hf

set_option maxRecDepth 100000 in
def fb_X12_nextCut_45 (σ : lt_S) (o : Nat) (x1 : Int32) (w : lt_W) : Option (Int32 × lt_W) := Option.bind (f_X12_brings σ o 2140 w) (fun q1 => some (x1, q1))
set_option maxHeartbeats 4000000 in
set_option maxRecDepth 100000 in
theorem jb_X12_nextCut_45 {X : lt_X} {σ : lt_S} (hT : lt_Wt σ) {o : Nat} (h0 : lt_c σ o = 12) {r : Int32 × lt_W} (hF : lt_F X cX12_nextCut RX12 4 (lt_rm 7)) (hE : lt_E X 0 0 σ (some .int) (some (.int r.1)) r.2) : ∀ (x1 : Int32) (w : lt_W), fb_X12_nextCut_45 σ o x1 w = some r → lt_J X 0 0 σ w 45 [(0, .ref (lt_z X + o)), (1, .int x1)] [] := by
  intro x1 w hf
  unfold fb_X12_nextCut_45 at hf
  refine jr_aload_n hF dX12_nextCut_45 0 rfl rfl ?_
  refine jr_sipush (v := 2140) hF dX12_nextCut_46 rfl ?_
  obtain ⟨q1, hq1, hf⟩ := Option.bind_eq_some_iff.mp hf
  refine jr_cV1v hF ml_X12_337 (c_X12_brings hT h0 hq1) h0 ⟨Nat.le_of_ble_eq_true rfl, Nat.le_of_ble_eq_true rfl⟩ (Nat.le_of_ble_eq_true rfl) dX12_nextCut_49 ?_
  refine jr_iload_n hF dX12_nextCut_52 1 rfl rfl ?_
  obtain rfl := Option.some.inj hf
  exact jr_ireturn hF hE dX12_nextCut_53
set_option maxRecDepth 100000 in
def fb_X12_nextCut_11 (σ : lt_S) (o : Nat) : Nat → Int32 → Int32 → lt_W → Option (Int32 × lt_W)
  | 0, _, _, _ => none
  | n + 1, x1, x2, w => if 99 < x2 then fb_X12_nextCut_45 σ o x1 w else if x1 = (-1) then Option.bind (f_X12_dayGoes σ o w) (fun q1 => if q1.1 = (-1) then fb_X12_nextCut_11 σ o n x1 (x2 + 1) q1.2 else fb_X12_nextCut_11 σ o n ((10 * x2) + q1.1) (x2 + 1) q1.2) else fb_X12_nextCut_45 σ o x1 w
set_option maxHeartbeats 4000000 in
set_option maxRecDepth 100000 in
theorem jb_X12_nextCut_11 {X : lt_X} {σ : lt_S} (hT : lt_Wt σ) {o : Nat} (h0 : lt_c σ o = 12) {r : Int32 × lt_W} (hF : lt_F X cX12_nextCut RX12 4 (lt_rm 7)) (hE : lt_E X 0 0 σ (some .int) (some (.int r.1)) r.2) (n : Nat) : ∀ (x1 : Int32) (x2 : Int32) (w : lt_W), fb_X12_nextCut_11 σ o n x1 x2 w = some r → lt_J X 0 0 σ w 11 [(0, .ref (lt_z X + o)), (1, .int x1), (2, .int x2)] [] := by
  induction n with
  | zero => intro x1 x2 w hf; rw [fb_X12_nextCut_11] at hf; cases hf
  | succ n ih =>
    intro x1 x2 w hf
    rw [fb_X12_nextCut_11] at hf
    refine jr_iload_n hF dX12_nextCut_11 2 rfl rfl ?_
    refine jr_bipush (v := 99) hF dX12_nextCut_12 rfl ?_
    refine jr_icmp_gt (tgt := 45) hF dX12_nextCut_14 rfl hf (fun hf => ?_) (fun hf => ?_)
    · refine jr_sub [0, 1] rfl ?_
      exact jb_X12_nextCut_45 hT h0 hF hE _ _ hf
    · refine jr_iload_n hF dX12_nextCut_17 1 rfl rfl ?_
      refine jr_iconst (v := (-1)) hF dX12_nextCut_18 rfl ?_
      refine jr_icmp_ne (tgt := 45) hF dX12_nextCut_19 rfl hf (fun hf => ?_) (fun hf => ?_)
      · refine jr_sub [0, 1] rfl ?_
        exact jb_X12_nextCut_45 hT h0 hF hE _ _ hf
      · refine jr_aload_n hF dX12_nextCut_22 0 rfl rfl ?_
        obtain ⟨q1, hq1, hf⟩ := Option.bind_eq_some_iff.mp hf
        refine jr_cV01 hF ml_X12_302 (c_X12_dayGoes hT h0 hq1) h0 ⟨Nat.le_of_ble_eq_true rfl, Nat.le_of_ble_eq_true rfl⟩ (Nat.le_of_ble_eq_true rfl) dX12_nextCut_23 ?_
        refine jr_istore_n (lv' := [(0, .ref (lt_z X + o)), (1, .int x1), (2, .int x2), (3, .int q1.1)]) hF dX12_nextCut_26 rfl (by decide) [1, 2, 3, 0] rfl ?_
        refine jr_iload_n hF dX12_nextCut_27 3 rfl rfl ?_
        refine jr_iconst (v := (-1)) hF dX12_nextCut_28 rfl ?_
        refine jr_icmp_eq (tgt := 39) hF dX12_nextCut_29 rfl hf (fun hf => ?_) (fun hf => ?_)
        · refine jr_iinc (v := x2 + 1) (lv' := [(0, .ref (lt_z X + o)), (1, .int x1), (2, .int (x2 + 1)), (3, .int q1.1)]) hF dX12_nextCut_39 2 rfl rfl (by decide) [1, 2, 0, 3] rfl ?_
          refine jr_goto (tgt := 11) hF dX12_nextCut_42 rfl ?_
          refine jr_sub [0, 1, 2] rfl ?_
          exact ih _ _ _ hf
        · refine jr_bipush (v := 10) hF dX12_nextCut_32 rfl ?_
          refine jr_iload_n hF dX12_nextCut_34 2 rfl rfl ?_
          refine jr_imul hF dX12_nextCut_35 ?_
          refine jr_iload_n hF dX12_nextCut_36 3 rfl rfl ?_
          refine jr_iadd hF dX12_nextCut_37 ?_
          refine jr_istore_n (lv' := [(0, .ref (lt_z X + o)), (1, .int ((10 * x2) + q1.1)), (2, .int x2)]) hF dX12_nextCut_38 rfl (by decide) [1, 0, 2] rfl ?_
          refine jr_iinc (v := x2 + 1) (lv' := [(0, .ref (lt_z X + o)), (1, .int ((10 * x2) + q1.1)), (2, .int (x2 + 1))]) hF dX12_nextCut_39 2 rfl rfl (by decide) [1, 2, 0] rfl ?_
          refine jr_goto (tgt := 11) hF dX12_nextCut_42 rfl ?_
          exact ih _ _ _ hf
set_option maxRecDepth 100000 in
def fb_X12_nextCut_0 (σ : lt_S) (o : Nat) (w : lt_W) : Option (Int32 × lt_W) := Option.bind (f_X12_keeps σ o 2140 w) (fun q1 => fb_X12_nextCut_11 σ o lt_fu (-1) 1 q1)
set_option maxHeartbeats 4000000 in
set_option maxRecDepth 100000 in
theorem jb_X12_nextCut_0 {X : lt_X} {σ : lt_S} (hT : lt_Wt σ) {o : Nat} (h0 : lt_c σ o = 12) {r : Int32 × lt_W} (hF : lt_F X cX12_nextCut RX12 4 (lt_rm 7)) (hE : lt_E X 0 0 σ (some .int) (some (.int r.1)) r.2) : ∀ (w : lt_W), fb_X12_nextCut_0 σ o w = some r → lt_J X 0 0 σ w 0 [(0, .ref (lt_z X + o))] [] := by
  intro w hf
  unfold fb_X12_nextCut_0 at hf
  refine jr_iconst (v := (-1)) hF dX12_nextCut_0 rfl ?_
  refine jr_istore_n (lv' := [(0, .ref (lt_z X + o)), (1, .int (-1))]) hF dX12_nextCut_1 rfl (by decide) [1, 0] rfl ?_
  refine jr_aload_n hF dX12_nextCut_2 0 rfl rfl ?_
  refine jr_sipush (v := 2140) hF dX12_nextCut_3 rfl ?_
  obtain ⟨q1, hq1, hf⟩ := Option.bind_eq_some_iff.mp hf
  refine jr_cV1v hF ml_X12_334 (c_X12_keeps hT h0 hq1) h0 ⟨Nat.le_of_ble_eq_true rfl, Nat.le_of_ble_eq_true rfl⟩ (Nat.le_of_ble_eq_true rfl) dX12_nextCut_6 ?_
  refine jr_iconst (v := 1) hF dX12_nextCut_9 rfl ?_
  refine jr_istore_n (lv' := [(0, .ref (lt_z X + o)), (1, .int (-1)), (2, .int 1)]) hF dX12_nextCut_10 rfl (by decide) [1, 2, 0] rfl ?_
  exact jb_X12_nextCut_11 hT h0 hF hE lt_fu _ _ _ hf
def f_X12_nextCut (σ : lt_S) (o : Nat) (w : lt_W) : Option (Int32 × lt_W) := fb_X12_nextCut_0 σ o w
set_option maxRecDepth 100000 in
theorem c_X12_nextCut {l : Launch} {D : va_G} {gA : Nat → ClassId} {s0 : State} {σ : lt_S} (hT : lt_Wt σ) {o : Nat} (h0 : lt_c σ o = 12) {w : lt_W} {r : Int32 × lt_W} (hf : f_X12_nextCut σ o w = some r) : lt_C l D gA s0 yX12_nextCut cX12_nextCut 4 (some .int) (lt_rm 7) [.ref (s0.heap.size + o)] σ w σ (some (.int r.1)) r.2 := by
  refine lt_enter rfl (Nat.le_of_ble_eq_true rfl) (fun X e1 e2 e3 e4 hF hE => ?_)
  subst e1 e2 e3 e4
  exact jb_X12_nextCut_0 hT h0 hF hE _ hf

set_option maxRecDepth 100000 in
def fb_X12_hangs_58 (σ : lt_S) (o : Nat) (k9 : Int32 → Int32 → Int32 → lt_W → Option (Int32 × lt_W)) (x1 : Int32) (x3 : Int32) (y0 : Int32) (y1 : Int32) (w : lt_W) : Option (Int32 × lt_W) := Option.bind (f_X12_guestRow x3) (fun q2 => lt_ck (q2 + 5) (lt_len σ (lt_r σ o 0)) (lt_let (lt_si w (lt_r σ o 0) (q2 + 5).toNatClampNeg 1) (fun w3 => k9 x1 (y0 ||| y1) (x3 + 1) w3)))
set_option maxHeartbeats 4000000 in
set_option maxRecDepth 100000 in
theorem jb_X12_hangs_58 {X : lt_X} {σ : lt_S} (hT : lt_Wt σ) {o : Nat} (h0 : lt_c σ o = 12) {r : Int32 × lt_W} {k9 : Int32 → Int32 → Int32 → lt_W → Option (Int32 × lt_W)} (hF : lt_F X cX12_hangs RX12 4 (lt_rm 8)) (hE : lt_E X 0 0 σ (some .int) (some (.int r.1)) r.2) (hk9 : ∀ (x1 : Int32) (x2 : Int32) (x3 : Int32) (w : lt_W), k9 x1 x2 x3 w = some r → lt_J X 0 0 σ w 9 [(0, .ref (lt_z X + o)), (1, .int x1), (2, .int x2), (3, .int x3)] []) : ∀ (x1 : Int32) (x3 : Int32) (y0 : Int32) (y1 : Int32) (w : lt_W), fb_X12_hangs_58 σ o k9 x1 x3 y0 y1 w = some r → lt_J X 0 0 σ w 58 [(0, .ref (lt_z X + o)), (1, .int x1), (3, .int x3)] [.int y1, .int y0] := by
  intro x1 x3 y0 y1 w hf
  unfold fb_X12_hangs_58 at hf
  refine jr_ior hF dX12_hangs_58 ?_
  refine jr_istore_n (lv' := [(0, .ref (lt_z X + o)), (1, .int x1), (2, .int (y0 ||| y1)), (3, .int x3)]) hF dX12_hangs_59 rfl (by decide) [1, 2, 0, 3] rfl ?_
  refine jr_aload_n hF dX12_hangs_60 0 rfl rfl ?_
  refine jr_getRT (cr := 50) hF gf_X12_7 hT h0 rfl rfl dX12_hangs_61 (fun th1 => ?_)
  refine jr_iload_n hF dX12_hangs_64 3 rfl rfl ?_
  obtain ⟨q2, hq2, hf⟩ := Option.bind_eq_some_iff.mp hf
  refine jr_cS11 hF ml_X12_192 (c_X12_guestRow hq2) ⟨Nat.le_of_ble_eq_true rfl, Nat.le_of_ble_eq_true rfl⟩ (Nat.le_of_ble_eq_true rfl) dX12_hangs_65 ?_
  refine jr_iconst (v := 5) hF dX12_hangs_68 rfl ?_
  refine jr_iadd hF dX12_hangs_69 ?_
  refine jr_iconst (v := 1) hF dX12_hangs_70 rfl ?_
  refine jr_iastore hF th1 dX12_hangs_71 hf (fun hf => ?_)
  refine jr_letW hf (fun w3 hf => ?_)
  refine jr_iinc (v := x3 + 1) (lv' := [(0, .ref (lt_z X + o)), (1, .int x1), (2, .int (y0 ||| y1)), (3, .int (x3 + 1))]) hF dX12_hangs_72 3 rfl rfl (by decide) [1, 2, 3, 0] rfl ?_
  refine jr_goto (tgt := 9) hF dX12_hangs_75 rfl ?_
  exact hk9 _ _ _ _ hf
set_option maxRecDepth 100000 in
def fb_X12_hangs_9 (σ : lt_S) (o : Nat) : Nat → Int32 → Int32 → Int32 → lt_W → Option (Int32 × lt_W)
  | 0, _, _, _, _ => none
  | n + 1, x1, x2, x3, w => lt_ck 0 (lt_len σ (lt_r σ o 0)) (if (lt_gi w (lt_r σ o 0) (0 : Int32).toNatClampNeg) ≤ x3 then Option.bind (f_X12_gives σ o x2 w) (fun q2 => some (q2.1, q2.2)) else Option.bind (f_X12_isHere σ o x3 w) (fun q3 => if q3 = 0 then fb_X12_hangs_9 σ o n x1 x2 (x3 + 1) w else Option.bind (f_X12_guestRow x3) (fun q5 => lt_ck (q5 + 5) (lt_len σ (lt_r σ o 0)) (lt_let (lt_si w (lt_r σ o 0) (q5 + 5).toNatClampNeg 0) (fun w6 => Option.bind (f_X12_nextCut σ o w6) (fun q7 => if q7.1 = x1 then fb_X12_hangs_58 σ o (fun x1 x2 x3 w => fb_X12_hangs_9 σ o n x1 x2 x3 w) x1 x3 x2 0 q7.2 else fb_X12_hangs_58 σ o (fun x1 x2 x3 w => fb_X12_hangs_9 σ o n x1 x2 x3 w) x1 x3 x2 (1 <<< (x3 &&& 31)) q7.2))))))
set_option maxHeartbeats 4000000 in
set_option maxRecDepth 100000 in
theorem jb_X12_hangs_9 {X : lt_X} {σ : lt_S} (hT : lt_Wt σ) {o : Nat} (h0 : lt_c σ o = 12) {r : Int32 × lt_W} (hF : lt_F X cX12_hangs RX12 4 (lt_rm 8)) (hE : lt_E X 0 0 σ (some .int) (some (.int r.1)) r.2) (n : Nat) : ∀ (x1 : Int32) (x2 : Int32) (x3 : Int32) (w : lt_W), fb_X12_hangs_9 σ o n x1 x2 x3 w = some r → lt_J X 0 0 σ w 9 [(0, .ref (lt_z X + o)), (1, .int x1), (2, .int x2), (3, .int x3)] [] := by
  induction n with
  | zero => intro x1 x2 x3 w hf; rw [fb_X12_hangs_9] at hf; cases hf
  | succ n ih =>
    intro x1 x2 x3 w hf
    rw [fb_X12_hangs_9] at hf
    refine jr_iload_n hF dX12_hangs_9 3 rfl rfl ?_
    refine jr_aload_n hF dX12_hangs_10 0 rfl rfl ?_
    refine jr_getRT (cr := 50) hF gf_X12_7 hT h0 rfl rfl dX12_hangs_11 (fun th1 => ?_)
    refine jr_iconst (v := 0) hF dX12_hangs_14 rfl ?_
    refine jr_iaload hF th1 dX12_hangs_15 hf (fun hf => ?_)
    refine jr_icmp_ge (tgt := 78) hF dX12_hangs_16 rfl hf (fun hf => ?_) (fun hf => ?_)
    · refine jr_aload_n hF dX12_hangs_78 0 rfl rfl ?_
      refine jr_iload_n hF dX12_hangs_79 2 rfl rfl ?_
      obtain ⟨q2, hq2, hf⟩ := Option.bind_eq_some_iff.mp hf
      refine jr_cV11 hF ml_X12_101 (c_X12_gives h0 hq2) h0 ⟨Nat.le_of_ble_eq_true rfl, Nat.le_of_ble_eq_true rfl⟩ (Nat.le_of_ble_eq_true rfl) dX12_hangs_80 ?_
      obtain rfl := Option.some.inj hf
      exact jr_ireturn hF hE dX12_hangs_83
    · refine jr_aload_n hF dX12_hangs_19 0 rfl rfl ?_
      refine jr_iload_n hF dX12_hangs_20 3 rfl rfl ?_
      obtain ⟨q3, hq3, hf⟩ := Option.bind_eq_some_iff.mp hf
      refine jr_cV11 hF ml_X12_272 (c_X12_isHere hT h0 hq3) h0 ⟨Nat.le_of_ble_eq_true rfl, Nat.le_of_ble_eq_true rfl⟩ (Nat.le_of_ble_eq_true rfl) dX12_hangs_21 ?_
      refine jr_if_ne (tgt := 30) hF dX12_hangs_24 rfl hf (fun hf => ?_) (fun hf => ?_)
      · refine jr_aload_n hF dX12_hangs_30 0 rfl rfl ?_
        refine jr_getRT (cr := 50) hF gf_X12_7 hT h0 rfl rfl dX12_hangs_31 (fun th4 => ?_)
        refine jr_iload_n hF dX12_hangs_34 3 rfl rfl ?_
        obtain ⟨q5, hq5, hf⟩ := Option.bind_eq_some_iff.mp hf
        refine jr_cS11 hF ml_X12_192 (c_X12_guestRow hq5) ⟨Nat.le_of_ble_eq_true rfl, Nat.le_of_ble_eq_true rfl⟩ (Nat.le_of_ble_eq_true rfl) dX12_hangs_35 ?_
        refine jr_iconst (v := 5) hF dX12_hangs_38 rfl ?_
        refine jr_iadd hF dX12_hangs_39 ?_
        refine jr_iconst (v := 0) hF dX12_hangs_40 rfl ?_
        refine jr_iastore hF th4 dX12_hangs_41 hf (fun hf => ?_)
        refine jr_letW hf (fun w6 hf => ?_)
        refine jr_iload_n hF dX12_hangs_42 2 rfl rfl ?_
        refine jr_aload_n hF dX12_hangs_43 0 rfl rfl ?_
        obtain ⟨q7, hq7, hf⟩ := Option.bind_eq_some_iff.mp hf
        refine jr_cV01 hF ml_X12_340 (c_X12_nextCut hT h0 hq7) h0 ⟨Nat.le_of_ble_eq_true rfl, Nat.le_of_ble_eq_true rfl⟩ (Nat.le_of_ble_eq_true rfl) dX12_hangs_44 ?_
        refine jr_iload_n hF dX12_hangs_47 1 rfl rfl ?_
        refine jr_icmp_eq (tgt := 57) hF dX12_hangs_48 rfl hf (fun hf => ?_) (fun hf => ?_)
        · refine jr_iconst (v := 0) hF dX12_hangs_57 rfl ?_
          refine jr_sub [0, 1, 3] rfl ?_
          exact jb_X12_hangs_58 hT h0 hF hE ih _ _ _ _ _ hf
        · refine jr_iconst (v := 1) hF dX12_hangs_51 rfl ?_
          refine jr_iload_n hF dX12_hangs_52 3 rfl rfl ?_
          refine jr_ishl hF dX12_hangs_53 ?_
          refine jr_goto (tgt := 58) hF dX12_hangs_54 rfl ?_
          refine jr_sub [0, 1, 3] rfl ?_
          exact jb_X12_hangs_58 hT h0 hF hE ih _ _ _ _ _ hf
      · refine jr_goto (tgt := 72) hF dX12_hangs_27 rfl ?_
        refine jr_iinc (v := x3 + 1) (lv' := [(0, .ref (lt_z X + o)), (1, .int x1), (2, .int x2), (3, .int (x3 + 1))]) hF dX12_hangs_72 3 rfl rfl (by decide) [1, 2, 3, 0] rfl ?_
        refine jr_goto (tgt := 9) hF dX12_hangs_75 rfl ?_
        exact ih _ _ _ _ hf
set_option maxRecDepth 100000 in
def fb_X12_hangs_0 (σ : lt_S) (o : Nat) (w : lt_W) : Option (Int32 × lt_W) := Option.bind (f_X12_nextCut σ o w) (fun q1 => fb_X12_hangs_9 σ o lt_fu q1.1 0 0 q1.2)
set_option maxHeartbeats 4000000 in
set_option maxRecDepth 100000 in
theorem jb_X12_hangs_0 {X : lt_X} {σ : lt_S} (hT : lt_Wt σ) {o : Nat} (h0 : lt_c σ o = 12) {r : Int32 × lt_W} (hF : lt_F X cX12_hangs RX12 4 (lt_rm 8)) (hE : lt_E X 0 0 σ (some .int) (some (.int r.1)) r.2) : ∀ (w : lt_W), fb_X12_hangs_0 σ o w = some r → lt_J X 0 0 σ w 0 [(0, .ref (lt_z X + o))] [] := by
  intro w hf
  unfold fb_X12_hangs_0 at hf
  refine jr_aload_n hF dX12_hangs_0 0 rfl rfl ?_
  obtain ⟨q1, hq1, hf⟩ := Option.bind_eq_some_iff.mp hf
  refine jr_cV01 hF ml_X12_340 (c_X12_nextCut hT h0 hq1) h0 ⟨Nat.le_of_ble_eq_true rfl, Nat.le_of_ble_eq_true rfl⟩ (Nat.le_of_ble_eq_true rfl) dX12_hangs_1 ?_
  refine jr_istore_n (lv' := [(0, .ref (lt_z X + o)), (1, .int q1.1)]) hF dX12_hangs_4 rfl (by decide) [1, 0] rfl ?_
  refine jr_iconst (v := 0) hF dX12_hangs_5 rfl ?_
  refine jr_istore_n (lv' := [(0, .ref (lt_z X + o)), (1, .int q1.1), (2, .int 0)]) hF dX12_hangs_6 rfl (by decide) [1, 2, 0] rfl ?_
  refine jr_iconst (v := 0) hF dX12_hangs_7 rfl ?_
  refine jr_istore_n (lv' := [(0, .ref (lt_z X + o)), (1, .int q1.1), (2, .int 0), (3, .int 0)]) hF dX12_hangs_8 rfl (by decide) [1, 2, 3, 0] rfl ?_
  exact jb_X12_hangs_9 hT h0 hF hE lt_fu _ _ _ _ hf
def f_X12_hangs (σ : lt_S) (o : Nat) (w : lt_W) : Option (Int32 × lt_W) := fb_X12_hangs_0 σ o w
set_option maxRecDepth 100000 in
theorem c_X12_hangs {l : Launch} {D : va_G} {gA : Nat → ClassId} {s0 : State} {σ : lt_S} (hT : lt_Wt σ) {o : Nat} (h0 : lt_c σ o = 12) {w : lt_W} {r : Int32 × lt_W} (hf : f_X12_hangs σ o w = some r) : lt_C l D gA s0 yX12_hangs cX12_hangs 4 (some .int) (lt_rm 8) [.ref (s0.heap.size + o)] σ w σ (some (.int r.1)) r.2 := by
  refine lt_enter rfl (Nat.le_of_ble_eq_true rfl) (fun X e1 e2 e3 e4 hF hE => ?_)
  subst e1 e2 e3 e4
  exact jb_X12_hangs_0 hT h0 hF hE _ hf

set_option maxRecDepth 100000 in
def fb_X12_isIn_0 (o : Nat) (x1 : Int32) (x2 : Int32) : Option Int32 := if ((x1 >>> (x2 &&& 31)) &&& 1) = 1 then some 1 else some 0
set_option maxHeartbeats 4000000 in
set_option maxRecDepth 100000 in
theorem jb_X12_isIn_0 {X : lt_X} {σ : lt_S} {o : Nat} (h0 : lt_c σ o = 12) {r : Int32} {w : lt_W} (hF : lt_F X cX12_isIn RX12 3 (lt_rm 1)) (hE : lt_E X 0 0 σ (some .boolean) (some (.int r)) w) : ∀ (x1 : Int32) (x2 : Int32), fb_X12_isIn_0 o x1 x2 = some r → lt_J X 0 0 σ w 0 [(0, .ref (lt_z X + o)), (1, .int x1), (2, .int x2)] [] := by
  intro x1 x2 hf
  unfold fb_X12_isIn_0 at hf
  refine jr_iload_n hF dX12_isIn_0 1 rfl rfl ?_
  refine jr_iload_n hF dX12_isIn_1 2 rfl rfl ?_
  refine jr_ishr hF dX12_isIn_2 ?_
  refine jr_iconst (v := 1) hF dX12_isIn_3 rfl ?_
  refine jr_iand hF dX12_isIn_4 ?_
  refine jr_iconst (v := 1) hF dX12_isIn_5 rfl ?_
  refine jr_icmp_ne (tgt := 13) hF dX12_isIn_6 rfl hf (fun hf => ?_) (fun hf => ?_)
  · refine jr_iconst (v := 0) hF dX12_isIn_13 rfl ?_
    obtain rfl := Option.some.inj hf
    exact jr_zreturn hF hE (Or.inl rfl) dX12_isIn_14
  · refine jr_iconst (v := 1) hF dX12_isIn_9 rfl ?_
    refine jr_goto (tgt := 14) hF dX12_isIn_10 rfl ?_
    obtain rfl := Option.some.inj hf
    exact jr_zreturn hF hE (Or.inr rfl) dX12_isIn_14
def f_X12_isIn (o : Nat) (x1 : Int32) (x2 : Int32) : Option Int32 := fb_X12_isIn_0 o x1 x2
set_option maxRecDepth 100000 in
theorem c_X12_isIn {l : Launch} {D : va_G} {gA : Nat → ClassId} {s0 : State} {σ : lt_S} {o : Nat} (h0 : lt_c σ o = 12) {x1 : Int32} {x2 : Int32} {w : lt_W} {r : Int32} (hf : f_X12_isIn o x1 x2 = some r) : lt_C l D gA s0 yX12_isIn cX12_isIn 3 (some .boolean) (lt_rm 1) [.ref (s0.heap.size + o), .int x1, .int x2] σ w σ (some (.int r)) w := by
  refine lt_enter rfl (Nat.le_of_ble_eq_true rfl) (fun X e1 e2 e3 e4 hF hE => ?_)
  subst e1 e2 e3 e4
  exact jb_X12_isIn_0 h0 hF hE _ _ hf

set_option maxRecDepth 100000 in
def fb_X12_holds_69 (σ : lt_S) (o : Nat) (w : lt_W) (x1 : Int32) (y0 : Int32) : Option Int32 := lt_ck (x1 + 5) (lt_len σ (lt_r σ o 0)) (if (lt_gi w (lt_r σ o 0) (x1 + 5).toNatClampNeg) = 60 then lt_ck (x1 + 2) (lt_len σ (lt_r σ o 0)) (if (lt_gi w (lt_r σ o 0) (x1 + 2).toNatClampNeg) ≤ y0 then some 0 else some 1) else lt_ck (x1 + 5) (lt_len σ (lt_r σ o 0)) (if (lt_gi w (lt_r σ o 0) (x1 + 5).toNatClampNeg) = 62 then lt_ck (x1 + 2) (lt_len σ (lt_r σ o 0)) (if y0 ≤ (lt_gi w (lt_r σ o 0) (x1 + 2).toNatClampNeg) then some 0 else some 1) else lt_ck (x1 + 2) (lt_len σ (lt_r σ o 0)) (if y0 = (lt_gi w (lt_r σ o 0) (x1 + 2).toNatClampNeg) then some 1 else some 0)))
set_option maxHeartbeats 4000000 in
set_option maxRecDepth 100000 in
theorem jb_X12_holds_69 {X : lt_X} {σ : lt_S} (hT : lt_Wt σ) {o : Nat} (h0 : lt_c σ o = 12) {r : Int32} {w : lt_W} (hF : lt_F X cX12_holds RX12 5 (lt_rm 5)) (hE : lt_E X 0 0 σ (some .boolean) (some (.int r)) w) : ∀ (x1 : Int32) (y0 : Int32), fb_X12_holds_69 σ o w x1 y0 = some r → lt_J X 0 0 σ w 69 [(0, .ref (lt_z X + o)), (1, .int x1)] [.int y0] := by
  intro x1 y0 hf
  unfold fb_X12_holds_69 at hf
  refine jr_istore (lv' := [(0, .ref (lt_z X + o)), (1, .int x1), (4, .int y0)]) hF dX12_holds_69 (by decide) [1, 2, 0] rfl ?_
  refine jr_aload_n hF dX12_holds_71 0 rfl rfl ?_
  refine jr_getRT (cr := 50) hF gf_X12_7 hT h0 rfl rfl dX12_holds_72 (fun th1 => ?_)
  refine jr_iload_n hF dX12_holds_75 1 rfl rfl ?_
  refine jr_iconst (v := 5) hF dX12_holds_76 rfl ?_
  refine jr_iadd hF dX12_holds_77 ?_
  refine jr_iaload hF th1 dX12_holds_78 hf (fun hf => ?_)
  refine jr_bipush (v := 60) hF dX12_holds_79 rfl ?_
  refine jr_icmp_ne (tgt := 105) hF dX12_holds_81 rfl hf (fun hf => ?_) (fun hf => ?_)
  · refine jr_aload_n hF dX12_holds_105 0 rfl rfl ?_
    refine jr_getRT (cr := 50) hF gf_X12_7 hT h0 rfl rfl dX12_holds_106 (fun th2 => ?_)
    refine jr_iload_n hF dX12_holds_109 1 rfl rfl ?_
    refine jr_iconst (v := 5) hF dX12_holds_110 rfl ?_
    refine jr_iadd hF dX12_holds_111 ?_
    refine jr_iaload hF th2 dX12_holds_112 hf (fun hf => ?_)
    refine jr_bipush (v := 62) hF dX12_holds_113 rfl ?_
    refine jr_icmp_ne (tgt := 139) hF dX12_holds_115 rfl hf (fun hf => ?_) (fun hf => ?_)
    · refine jr_iload hF dX12_holds_139 2 rfl ?_
      refine jr_aload_n hF dX12_holds_141 0 rfl rfl ?_
      refine jr_getRT (cr := 50) hF gf_X12_7 hT h0 rfl rfl dX12_holds_142 (fun th3 => ?_)
      refine jr_iload_n hF dX12_holds_145 1 rfl rfl ?_
      refine jr_iconst (v := 2) hF dX12_holds_146 rfl ?_
      refine jr_iadd hF dX12_holds_147 ?_
      refine jr_iaload hF th3 dX12_holds_148 hf (fun hf => ?_)
      refine jr_icmp_ne (tgt := 156) hF dX12_holds_149 rfl hf (fun hf => ?_) (fun hf => ?_)
      · refine jr_iconst (v := 0) hF dX12_holds_156 rfl ?_
        obtain rfl := Option.some.inj hf
        exact jr_zreturn hF hE (Or.inl rfl) dX12_holds_157
      · refine jr_iconst (v := 1) hF dX12_holds_152 rfl ?_
        refine jr_goto (tgt := 157) hF dX12_holds_153 rfl ?_
        obtain rfl := Option.some.inj hf
        exact jr_zreturn hF hE (Or.inr rfl) dX12_holds_157
    · refine jr_iload hF dX12_holds_118 2 rfl ?_
      refine jr_aload_n hF dX12_holds_120 0 rfl rfl ?_
      refine jr_getRT (cr := 50) hF gf_X12_7 hT h0 rfl rfl dX12_holds_121 (fun th4 => ?_)
      refine jr_iload_n hF dX12_holds_124 1 rfl rfl ?_
      refine jr_iconst (v := 2) hF dX12_holds_125 rfl ?_
      refine jr_iadd hF dX12_holds_126 ?_
      refine jr_iaload hF th4 dX12_holds_127 hf (fun hf => ?_)
      refine jr_icmp_le (tgt := 135) hF dX12_holds_128 rfl hf (fun hf => ?_) (fun hf => ?_)
      · refine jr_iconst (v := 0) hF dX12_holds_135 rfl ?_
        refine jr_goto (tgt := 157) hF dX12_holds_136 rfl ?_
        obtain rfl := Option.some.inj hf
        exact jr_zreturn hF hE (Or.inl rfl) dX12_holds_157
      · refine jr_iconst (v := 1) hF dX12_holds_131 rfl ?_
        refine jr_goto (tgt := 157) hF dX12_holds_132 rfl ?_
        obtain rfl := Option.some.inj hf
        exact jr_zreturn hF hE (Or.inr rfl) dX12_holds_157
  · refine jr_iload hF dX12_holds_84 2 rfl ?_
    refine jr_aload_n hF dX12_holds_86 0 rfl rfl ?_
    refine jr_getRT (cr := 50) hF gf_X12_7 hT h0 rfl rfl dX12_holds_87 (fun th5 => ?_)
    refine jr_iload_n hF dX12_holds_90 1 rfl rfl ?_
    refine jr_iconst (v := 2) hF dX12_holds_91 rfl ?_
    refine jr_iadd hF dX12_holds_92 ?_
    refine jr_iaload hF th5 dX12_holds_93 hf (fun hf => ?_)
    refine jr_icmp_ge (tgt := 101) hF dX12_holds_94 rfl hf (fun hf => ?_) (fun hf => ?_)
    · refine jr_iconst (v := 0) hF dX12_holds_101 rfl ?_
      refine jr_goto (tgt := 157) hF dX12_holds_102 rfl ?_
      obtain rfl := Option.some.inj hf
      exact jr_zreturn hF hE (Or.inl rfl) dX12_holds_157
    · refine jr_iconst (v := 1) hF dX12_holds_97 rfl ?_
      refine jr_goto (tgt := 157) hF dX12_holds_98 rfl ?_
      obtain rfl := Option.some.inj hf
      exact jr_zreturn hF hE (Or.inr rfl) dX12_holds_157
set_option maxRecDepth 100000 in
def fb_X12_holds_0 (σ : lt_S) (o : Nat) (w : lt_W) (x1 : Int32) : Option Int32 := lt_ck x1 (lt_len σ (lt_r σ o 0)) (lt_let ((lt_gi w (lt_r σ o 0) x1.toNatClampNeg) - 1600) (fun z2 => lt_ck (x1 + 1) (lt_len σ (lt_r σ o 0)) (lt_let (lt_gi w (lt_r σ o 0) (x1 + 1).toNatClampNeg) (fun z4 => if z2 = 20 then Option.bind (f_X12_isHere σ o z4 w) (fun q10 => lt_bz q10 (some q10)) else if z2 = 21 then Option.bind (f_X12_areHungry σ o w) (fun q7 => Option.bind (f_X12_isIn o q7 z4) (fun q8 => lt_bz q8 (some q8))) else if z2 = 22 then lt_ck 5 (lt_len σ (lt_r σ o 0)) (fb_X12_holds_69 σ o w x1 (lt_gi w (lt_r σ o 0) (5 : Int32).toNatClampNeg)) else Option.bind (f_X12_guestOf σ o z4 0 w) (fun q5 => fb_X12_holds_69 σ o w x1 q5)))))
set_option maxHeartbeats 4000000 in
set_option maxRecDepth 100000 in
theorem jb_X12_holds_0 {X : lt_X} {σ : lt_S} (hT : lt_Wt σ) {o : Nat} (h0 : lt_c σ o = 12) {r : Int32} {w : lt_W} (hF : lt_F X cX12_holds RX12 5 (lt_rm 5)) (hE : lt_E X 0 0 σ (some .boolean) (some (.int r)) w) : ∀ (x1 : Int32), fb_X12_holds_0 σ o w x1 = some r → lt_J X 0 0 σ w 0 [(0, .ref (lt_z X + o)), (1, .int x1)] [] := by
  intro x1 hf
  unfold fb_X12_holds_0 at hf
  refine jr_aload_n hF dX12_holds_0 0 rfl rfl ?_
  refine jr_getRT (cr := 50) hF gf_X12_7 hT h0 rfl rfl dX12_holds_1 (fun th1 => ?_)
  refine jr_iload_n hF dX12_holds_4 1 rfl rfl ?_
  refine jr_iaload hF th1 dX12_holds_5 hf (fun hf => ?_)
  refine jr_sipush (v := 1600) hF dX12_holds_6 rfl ?_
  refine jr_isub hF dX12_holds_9 ?_
  refine jr_letI hf (fun z2 hf => ?_)
  refine jr_istore_n (lv' := [(0, .ref (lt_z X + o)), (1, .int x1), (2, .int z2)]) hF dX12_holds_10 rfl (by decide) [1, 2, 0] rfl ?_
  refine jr_aload_n hF dX12_holds_11 0 rfl rfl ?_
  refine jr_getRT (cr := 50) hF gf_X12_7 hT h0 rfl rfl dX12_holds_12 (fun th3 => ?_)
  refine jr_iload_n hF dX12_holds_15 1 rfl rfl ?_
  refine jr_iconst (v := 1) hF dX12_holds_16 rfl ?_
  refine jr_iadd hF dX12_holds_17 ?_
  refine jr_iaload hF th3 dX12_holds_18 hf (fun hf => ?_)
  refine jr_letI hf (fun z4 hf => ?_)
  refine jr_istore_n (lv' := [(0, .ref (lt_z X + o)), (1, .int x1), (2, .int z2), (3, .int z4)]) hF dX12_holds_19 rfl (by decide) [1, 2, 3, 0] rfl ?_
  refine jr_iload_n hF dX12_holds_20 2 rfl rfl ?_
  refine jr_bipush (v := 20) hF dX12_holds_21 rfl ?_
  refine jr_icmp_ne (tgt := 32) hF dX12_holds_23 rfl hf (fun hf => ?_) (fun hf => ?_)
  · refine jr_iload_n hF dX12_holds_32 2 rfl rfl ?_
    refine jr_bipush (v := 21) hF dX12_holds_33 rfl ?_
    refine jr_icmp_ne (tgt := 48) hF dX12_holds_35 rfl hf (fun hf => ?_) (fun hf => ?_)
    · refine jr_iload_n hF dX12_holds_48 2 rfl rfl ?_
      refine jr_bipush (v := 22) hF dX12_holds_49 rfl ?_
      refine jr_icmp_ne (tgt := 63) hF dX12_holds_51 rfl hf (fun hf => ?_) (fun hf => ?_)
      · refine jr_aload_n hF dX12_holds_63 0 rfl rfl ?_
        refine jr_iload_n hF dX12_holds_64 3 rfl rfl ?_
        refine jr_iconst (v := 0) hF dX12_holds_65 rfl ?_
        obtain ⟨q5, hq5, hf⟩ := Option.bind_eq_some_iff.mp hf
        refine jr_cV21 hF ml_X12_269 (c_X12_guestOf hT h0 hq5) h0 ⟨Nat.le_of_ble_eq_true rfl, Nat.le_of_ble_eq_true rfl⟩ (Nat.le_of_ble_eq_true rfl) dX12_holds_66 ?_
        refine jr_sub [0, 1] rfl ?_
        exact jb_X12_holds_69 hT h0 hF hE _ _ hf
      · refine jr_aload_n hF dX12_holds_54 0 rfl rfl ?_
        refine jr_getRT (cr := 50) hF gf_X12_7 hT h0 rfl rfl dX12_holds_55 (fun th6 => ?_)
        refine jr_iconst (v := 5) hF dX12_holds_58 rfl ?_
        refine jr_iaload hF th6 dX12_holds_59 hf (fun hf => ?_)
        refine jr_goto (tgt := 69) hF dX12_holds_60 rfl ?_
        refine jr_sub [0, 1] rfl ?_
        exact jb_X12_holds_69 hT h0 hF hE _ _ hf
    · refine jr_aload_n hF dX12_holds_38 0 rfl rfl ?_
      refine jr_aload_n hF dX12_holds_39 0 rfl rfl ?_
      obtain ⟨q7, hq7, hf⟩ := Option.bind_eq_some_iff.mp hf
      refine jr_cV01 hF ml_X12_278 (c_X12_areHungry hT h0 hq7) h0 ⟨Nat.le_of_ble_eq_true rfl, Nat.le_of_ble_eq_true rfl⟩ (Nat.le_of_ble_eq_true rfl) dX12_holds_40 ?_
      refine jr_iload_n hF dX12_holds_43 3 rfl rfl ?_
      obtain ⟨q8, hq8, hf⟩ := Option.bind_eq_some_iff.mp hf
      refine jr_cV21 hF ml_X12_233 (c_X12_isIn h0 hq8) h0 ⟨Nat.le_of_ble_eq_true rfl, Nat.le_of_ble_eq_true rfl⟩ (Nat.le_of_ble_eq_true rfl) dX12_holds_44 ?_
      obtain ⟨b9, hf⟩ := lt_bzE hf
      obtain rfl := Option.some.inj hf
      exact jr_zreturn hF hE b9 dX12_holds_47
  · refine jr_aload_n hF dX12_holds_26 0 rfl rfl ?_
    refine jr_iload_n hF dX12_holds_27 3 rfl rfl ?_
    obtain ⟨q10, hq10, hf⟩ := Option.bind_eq_some_iff.mp hf
    refine jr_cV11 hF ml_X12_272 (c_X12_isHere hT h0 hq10) h0 ⟨Nat.le_of_ble_eq_true rfl, Nat.le_of_ble_eq_true rfl⟩ (Nat.le_of_ble_eq_true rfl) dX12_holds_28 ?_
    obtain ⟨b11, hf⟩ := lt_bzE hf
    obtain rfl := Option.some.inj hf
    exact jr_zreturn hF hE b11 dX12_holds_31
def f_X12_holds (σ : lt_S) (o : Nat) (x1 : Int32) (w : lt_W) : Option Int32 := fb_X12_holds_0 σ o w x1
set_option maxRecDepth 100000 in
theorem c_X12_holds {l : Launch} {D : va_G} {gA : Nat → ClassId} {s0 : State} {σ : lt_S} (hT : lt_Wt σ) {o : Nat} (h0 : lt_c σ o = 12) {x1 : Int32} {w : lt_W} {r : Int32} (hf : f_X12_holds σ o x1 w = some r) : lt_C l D gA s0 yX12_holds cX12_holds 5 (some .boolean) (lt_rm 5) [.ref (s0.heap.size + o), .int x1] σ w σ (some (.int r)) w := by
  refine lt_enter rfl (Nat.le_of_ble_eq_true rfl) (fun X e1 e2 e3 e4 hF hE => ?_)
  subst e1 e2 e3 e4
  exact jb_X12_holds_0 hT h0 hF hE _ hf

set_option maxRecDepth 100000 in
def fb_X12_isSign_0 (σ : lt_S) (o : Nat) (w : lt_W) (x1 : Int32) : Option Int32 := if (lt_gi w o 12) = 4 then if (lt_gi w o 15) = x1 then some 1 else some 0 else some 0
set_option maxHeartbeats 4000000 in
set_option maxRecDepth 100000 in
theorem jb_X12_isSign_0 {X : lt_X} {σ : lt_S} {o : Nat} (h0 : lt_c σ o = 12) {r : Int32} {w : lt_W} (hF : lt_F X cX12_isSign RX12 2 (lt_rm 1)) (hE : lt_E X 0 0 σ (some .boolean) (some (.int r)) w) : ∀ (x1 : Int32), fb_X12_isSign_0 σ o w x1 = some r → lt_J X 0 0 σ w 0 [(0, .ref (lt_z X + o)), (1, .int x1)] [] := by
  intro x1 hf
  unfold fb_X12_isSign_0 at hf
  refine jr_aload_n hF dX12_isSign_0 0 rfl rfl ?_
  refine jr_getI hF gf_X12_142 h0 dX12_isSign_1 ?_
  refine jr_iconst (v := 4) hF dX12_isSign_4 rfl ?_
  refine jr_icmp_ne (tgt := 20) hF dX12_isSign_5 rfl hf (fun hf => ?_) (fun hf => ?_)
  · refine jr_iconst (v := 0) hF dX12_isSign_20 rfl ?_
    obtain rfl := Option.some.inj hf
    exact jr_zreturn hF hE (Or.inl rfl) dX12_isSign_21
  · refine jr_aload_n hF dX12_isSign_8 0 rfl rfl ?_
    refine jr_getI hF gf_X12_139 h0 dX12_isSign_9 ?_
    refine jr_iload_n hF dX12_isSign_12 1 rfl rfl ?_
    refine jr_icmp_ne (tgt := 20) hF dX12_isSign_13 rfl hf (fun hf => ?_) (fun hf => ?_)
    · refine jr_iconst (v := 0) hF dX12_isSign_20 rfl ?_
      obtain rfl := Option.some.inj hf
      exact jr_zreturn hF hE (Or.inl rfl) dX12_isSign_21
    · refine jr_iconst (v := 1) hF dX12_isSign_16 rfl ?_
      refine jr_goto (tgt := 21) hF dX12_isSign_17 rfl ?_
      obtain rfl := Option.some.inj hf
      exact jr_zreturn hF hE (Or.inr rfl) dX12_isSign_21
def f_X12_isSign (σ : lt_S) (o : Nat) (x1 : Int32) (w : lt_W) : Option Int32 := fb_X12_isSign_0 σ o w x1
set_option maxRecDepth 100000 in
theorem c_X12_isSign {l : Launch} {D : va_G} {gA : Nat → ClassId} {s0 : State} {σ : lt_S} {o : Nat} (h0 : lt_c σ o = 12) {x1 : Int32} {w : lt_W} {r : Int32} (hf : f_X12_isSign σ o x1 w = some r) : lt_C l D gA s0 yX12_isSign cX12_isSign 2 (some .boolean) (lt_rm 1) [.ref (s0.heap.size + o), .int x1] σ w σ (some (.int r)) w := by
  refine lt_enter rfl (Nat.le_of_ble_eq_true rfl) (fun X e1 e2 e3 e4 hF hE => ?_)
  subst e1 e2 e3 e4
  exact jb_X12_isSign_0 h0 hF hE _ hf

set_option maxRecDepth 100000 in
def fb_X12_laysPlan_161 (σ : lt_S) (o : Nat) (k26 : Int32 → Int32 → Int32 → lt_W → Option (Int32 × lt_W)) : Nat → Int32 → Int32 → Int32 → Int32 → lt_W → Option (Int32 × lt_W)
  | 0, _, _, _, _, _ => none
  | n + 1, x1, x2, x3, x6, w => if x1 ≤ x6 then k26 x1 x2 x3 w else lt_ck x6 (lt_len σ (lt_r σ o 24)) (lt_ck x6 (lt_len σ (lt_r σ o 26)) (lt_let (lt_si w (lt_r σ o 26) x6.toNatClampNeg ((lt_gi w (lt_r σ o 24) x6.toNatClampNeg) - 1)) (fun w3 => fb_X12_laysPlan_161 σ o k26 n x1 x2 x3 (x6 + 1) w3)))
set_option maxHeartbeats 4000000 in
set_option maxRecDepth 100000 in
theorem jb_X12_laysPlan_161 {X : lt_X} {σ : lt_S} (hT : lt_Wt σ) {o : Nat} (h0 : lt_c σ o = 12) {r : Int32 × lt_W} {k26 : Int32 → Int32 → Int32 → lt_W → Option (Int32 × lt_W)} (hF : lt_F X cX12_laysPlan RX12 7 (lt_rm 6)) (hE : lt_E X 0 0 σ (some .int) (some (.int r.1)) r.2) (hk26 : ∀ (x1 : Int32) (x2 : Int32) (x3 : Int32) (w : lt_W), k26 x1 x2 x3 w = some r → lt_J X 0 0 σ w 26 [(0, .ref (lt_z X + o)), (1, .int x1), (2, .int x2), (3, .int x3)] []) (n : Nat) : ∀ (x1 : Int32) (x2 : Int32) (x3 : Int32) (x6 : Int32) (w : lt_W), fb_X12_laysPlan_161 σ o k26 n x1 x2 x3 x6 w = some r → lt_J X 0 0 σ w 161 [(0, .ref (lt_z X + o)), (1, .int x1), (2, .int x2), (3, .int x3), (6, .int x6)] [] := by
  induction n with
  | zero => intro x1 x2 x3 x6 w hf; rw [fb_X12_laysPlan_161] at hf; cases hf
  | succ n ih =>
    intro x1 x2 x3 x6 w hf
    rw [fb_X12_laysPlan_161] at hf
    refine jr_iload hF dX12_laysPlan_161 4 rfl ?_
    refine jr_iload_n hF dX12_laysPlan_163 1 rfl rfl ?_
    refine jr_icmp_ge (tgt := 189) hF dX12_laysPlan_164 rfl hf (fun hf => ?_) (fun hf => ?_)
    · refine jr_goto (tgt := 218) hF dX12_laysPlan_189 rfl ?_
      refine jr_goto (tgt := 26) hF dX12_laysPlan_218 rfl ?_
      refine jr_sub [0, 1, 2, 3] rfl ?_
      exact hk26 _ _ _ _ hf
    · refine jr_aload_n hF dX12_laysPlan_167 0 rfl rfl ?_
      refine jr_getRT (cr := 50) hF gf_X12_53 hT h0 rfl rfl dX12_laysPlan_168 (fun th1 => ?_)
      refine jr_iload hF dX12_laysPlan_171 4 rfl ?_
      refine jr_aload_n hF dX12_laysPlan_173 0 rfl rfl ?_
      refine jr_getRT (cr := 50) hF gf_X12_47 hT h0 rfl rfl dX12_laysPlan_174 (fun th2 => ?_)
      refine jr_iload hF dX12_laysPlan_177 4 rfl ?_
      refine jr_iaload hF th2 dX12_laysPlan_179 hf (fun hf => ?_)
      refine jr_iconst (v := 1) hF dX12_laysPlan_180 rfl ?_
      refine jr_isub hF dX12_laysPlan_181 ?_
      refine jr_iastore hF th1 dX12_laysPlan_182 hf (fun hf => ?_)
      refine jr_letW hf (fun w3 hf => ?_)
      refine jr_iinc (v := x6 + 1) (lv' := [(0, .ref (lt_z X + o)), (1, .int x1), (2, .int x2), (3, .int x3), (6, .int (x6 + 1))]) hF dX12_laysPlan_183 4 rfl rfl (by decide) [1, 2, 3, 4, 0] rfl ?_
      refine jr_goto (tgt := 161) hF dX12_laysPlan_186 rfl ?_
      exact ih _ _ _ _ _ hf
set_option maxRecDepth 100000 in
def fb_X12_laysPlan_148 (σ : lt_S) (o : Nat) (k26 : Int32 → Int32 → Int32 → lt_W → Option (Int32 × lt_W)) (x1 : Int32) (x2 : Int32) (x3 : Int32) (x5 : Int32) (w : lt_W) : Option (Int32 × lt_W) := if (x3 + 1) = x1 then fb_X12_laysPlan_161 σ o k26 lt_fu x1 x5 x3 0 w else lt_ck (x3 + 1) (lt_len σ (lt_r σ o 24)) (lt_let (lt_si w (lt_r σ o 24) (x3 + 1).toNatClampNeg (-1)) (fun w2 => lt_ck (x3 + 1) (lt_len σ (lt_r σ o 25)) (lt_let (lt_si w2 (lt_r σ o 25) (x3 + 1).toNatClampNeg x5) (fun w4 => Option.bind (f_X12_levelAt (x3 + 1)) (fun q5 => Option.bind (f_X12_keeps σ o q5 w4) (fun q6 => k26 x1 x2 (x3 + 1) q6))))))
set_option maxHeartbeats 4000000 in
set_option maxRecDepth 100000 in
theorem jb_X12_laysPlan_148 {X : lt_X} {σ : lt_S} (hT : lt_Wt σ) {o : Nat} (h0 : lt_c σ o = 12) {r : Int32 × lt_W} {k26 : Int32 → Int32 → Int32 → lt_W → Option (Int32 × lt_W)} (hF : lt_F X cX12_laysPlan RX12 7 (lt_rm 6)) (hE : lt_E X 0 0 σ (some .int) (some (.int r.1)) r.2) (hk26 : ∀ (x1 : Int32) (x2 : Int32) (x3 : Int32) (w : lt_W), k26 x1 x2 x3 w = some r → lt_J X 0 0 σ w 26 [(0, .ref (lt_z X + o)), (1, .int x1), (2, .int x2), (3, .int x3)] []) : ∀ (x1 : Int32) (x2 : Int32) (x3 : Int32) (x5 : Int32) (w : lt_W), fb_X12_laysPlan_148 σ o k26 x1 x2 x3 x5 w = some r → lt_J X 0 0 σ w 148 [(0, .ref (lt_z X + o)), (1, .int x1), (2, .int x2), (3, .int x3), (5, .int x5)] [] := by
  intro x1 x2 x3 x5 w hf
  unfold fb_X12_laysPlan_148 at hf
  refine jr_iload_n hF dX12_laysPlan_148 3 rfl rfl ?_
  refine jr_iconst (v := 1) hF dX12_laysPlan_149 rfl ?_
  refine jr_iadd hF dX12_laysPlan_150 ?_
  refine jr_iload_n hF dX12_laysPlan_151 1 rfl rfl ?_
  refine jr_icmp_ne (tgt := 192) hF dX12_laysPlan_152 rfl hf (fun hf => ?_) (fun hf => ?_)
  · refine jr_iinc (v := x3 + 1) (lv' := [(0, .ref (lt_z X + o)), (1, .int x1), (2, .int x2), (3, .int (x3 + 1)), (5, .int x5)]) hF dX12_laysPlan_192 3 rfl rfl (by decide) [1, 2, 3, 0, 4] rfl ?_
    refine jr_aload_n hF dX12_laysPlan_195 0 rfl rfl ?_
    refine jr_getRT (cr := 50) hF gf_X12_47 hT h0 rfl rfl dX12_laysPlan_196 (fun th1 => ?_)
    refine jr_iload_n hF dX12_laysPlan_199 3 rfl rfl ?_
    refine jr_iconst (v := (-1)) hF dX12_laysPlan_200 rfl ?_
    refine jr_iastore hF th1 dX12_laysPlan_201 hf (fun hf => ?_)
    refine jr_letW hf (fun w2 hf => ?_)
    refine jr_aload_n hF dX12_laysPlan_202 0 rfl rfl ?_
    refine jr_getRT (cr := 50) hF gf_X12_50 hT h0 rfl rfl dX12_laysPlan_203 (fun th3 => ?_)
    refine jr_iload_n hF dX12_laysPlan_206 3 rfl rfl ?_
    refine jr_iload hF dX12_laysPlan_207 4 rfl ?_
    refine jr_iastore hF th3 dX12_laysPlan_209 hf (fun hf => ?_)
    refine jr_letW hf (fun w4 hf => ?_)
    refine jr_aload_n hF dX12_laysPlan_210 0 rfl rfl ?_
    refine jr_iload_n hF dX12_laysPlan_211 3 rfl rfl ?_
    obtain ⟨q5, hq5, hf⟩ := Option.bind_eq_some_iff.mp hf
    refine jr_cS11 hF ml_X12_343 (c_X12_levelAt hq5) ⟨Nat.le_of_ble_eq_true rfl, Nat.le_of_ble_eq_true rfl⟩ (Nat.le_of_ble_eq_true rfl) dX12_laysPlan_212 ?_
    obtain ⟨q6, hq6, hf⟩ := Option.bind_eq_some_iff.mp hf
    refine jr_cV1v hF ml_X12_334 (c_X12_keeps hT h0 hq6) h0 ⟨Nat.le_of_ble_eq_true rfl, Nat.le_of_ble_eq_true rfl⟩ (Nat.le_of_ble_eq_true rfl) dX12_laysPlan_215 ?_
    refine jr_goto (tgt := 26) hF dX12_laysPlan_218 rfl ?_
    refine jr_sub [0, 1, 2, 3] rfl ?_
    exact hk26 _ _ _ _ hf
  · refine jr_iload hF dX12_laysPlan_155 4 rfl ?_
    refine jr_istore_n (lv' := [(0, .ref (lt_z X + o)), (1, .int x1), (2, .int x5), (3, .int x3)]) hF dX12_laysPlan_157 rfl (by decide) [1, 2, 0, 3] rfl ?_
    refine jr_iconst (v := 0) hF dX12_laysPlan_158 rfl ?_
    refine jr_istore (lv' := [(0, .ref (lt_z X + o)), (1, .int x1), (2, .int x5), (3, .int x3), (6, .int 0)]) hF dX12_laysPlan_159 (by decide) [1, 2, 3, 4, 0] rfl ?_
    exact jb_X12_laysPlan_161 hT h0 hF hE hk26 lt_fu _ _ _ _ _ hf
set_option maxRecDepth 100000 in
def fb_X12_laysPlan_123 (σ : lt_S) (o : Nat) (k26 : Int32 → Int32 → Int32 → lt_W → Option (Int32 × lt_W)) (x1 : Int32) (x2 : Int32) (x3 : Int32) (x5 : Int32) (w : lt_W) : Option (Int32 × lt_W) := Option.bind (f_X12_eats σ o w) (fun q1 => Option.bind (f_X12_areStarved σ o q1) (fun q2 => if q2 = 0 then if x2 = (-1) then fb_X12_laysPlan_148 σ o k26 x1 x2 x3 x5 q1 else if x5 < x2 then fb_X12_laysPlan_148 σ o k26 x1 x2 x3 x5 q1 else k26 x1 x2 x3 q1 else k26 x1 x2 x3 q1))
set_option maxHeartbeats 4000000 in
set_option maxRecDepth 100000 in
theorem jb_X12_laysPlan_123 {X : lt_X} {σ : lt_S} (hT : lt_Wt σ) {o : Nat} (h0 : lt_c σ o = 12) {r : Int32 × lt_W} {k26 : Int32 → Int32 → Int32 → lt_W → Option (Int32 × lt_W)} (hF : lt_F X cX12_laysPlan RX12 7 (lt_rm 6)) (hE : lt_E X 0 0 σ (some .int) (some (.int r.1)) r.2) (hk26 : ∀ (x1 : Int32) (x2 : Int32) (x3 : Int32) (w : lt_W), k26 x1 x2 x3 w = some r → lt_J X 0 0 σ w 26 [(0, .ref (lt_z X + o)), (1, .int x1), (2, .int x2), (3, .int x3)] []) : ∀ (x1 : Int32) (x2 : Int32) (x3 : Int32) (x5 : Int32) (w : lt_W), fb_X12_laysPlan_123 σ o k26 x1 x2 x3 x5 w = some r → lt_J X 0 0 σ w 123 [(0, .ref (lt_z X + o)), (1, .int x1), (2, .int x2), (3, .int x3), (5, .int x5)] [] := by
  intro x1 x2 x3 x5 w hf
  unfold fb_X12_laysPlan_123 at hf
  refine jr_aload_n hF dX12_laysPlan_123 0 rfl rfl ?_
  obtain ⟨q1, hq1, hf⟩ := Option.bind_eq_some_iff.mp hf
  refine jr_cV0v hF ml_X12_299 (c_X12_eats hT h0 hq1) h0 ⟨Nat.le_of_ble_eq_true rfl, Nat.le_of_ble_eq_true rfl⟩ (Nat.le_of_ble_eq_true rfl) dX12_laysPlan_124 ?_
  refine jr_aload_n hF dX12_laysPlan_127 0 rfl rfl ?_
  obtain ⟨q2, hq2, hf⟩ := Option.bind_eq_some_iff.mp hf
  refine jr_cV01 hF ml_X12_281 (c_X12_areStarved hT h0 hq2) h0 ⟨Nat.le_of_ble_eq_true rfl, Nat.le_of_ble_eq_true rfl⟩ (Nat.le_of_ble_eq_true rfl) dX12_laysPlan_128 ?_
  refine jr_if_ne (tgt := 26) hF dX12_laysPlan_131 rfl hf (fun hf => ?_) (fun hf => ?_)
  · refine jr_sub [0, 1, 2, 3] rfl ?_
    exact hk26 _ _ _ _ hf
  · refine jr_iload_n hF dX12_laysPlan_134 2 rfl rfl ?_
    refine jr_iconst (v := (-1)) hF dX12_laysPlan_135 rfl ?_
    refine jr_icmp_eq (tgt := 148) hF dX12_laysPlan_136 rfl hf (fun hf => ?_) (fun hf => ?_)
    · exact jb_X12_laysPlan_148 hT h0 hF hE hk26 _ _ _ _ _ hf
    · refine jr_iload hF dX12_laysPlan_139 4 rfl ?_
      refine jr_iload_n hF dX12_laysPlan_141 2 rfl rfl ?_
      refine jr_icmp_lt (tgt := 148) hF dX12_laysPlan_142 rfl hf (fun hf => ?_) (fun hf => ?_)
      · exact jb_X12_laysPlan_148 hT h0 hF hE hk26 _ _ _ _ _ hf
      · refine jr_goto (tgt := 26) hF dX12_laysPlan_145 rfl ?_
        refine jr_sub [0, 1, 2, 3] rfl ?_
        exact hk26 _ _ _ _ hf
set_option maxRecDepth 100000 in
def fb_X12_laysPlan_26 (σ : lt_S) (o : Nat) : Nat → Int32 → Int32 → Int32 → lt_W → Option (Int32 × lt_W)
  | 0, _, _, _, _ => none
  | n + 1, x1, x2, x3, w => if x3 < 0 then Option.bind (f_X12_levelAt 0) (fun q1 => Option.bind (f_X12_brings σ o q1 w) (fun q2 => some (x2, q2))) else Option.bind (f_X12_levelAt x3) (fun q3 => Option.bind (f_X12_brings σ o q3 w) (fun q4 => lt_ck x3 (lt_len σ (lt_r σ o 24)) (lt_ck x3 (lt_len σ (lt_r σ o 24)) (lt_let (lt_si q4 (lt_r σ o 24) x3.toNatClampNeg ((lt_gi q4 (lt_r σ o 24) x3.toNatClampNeg) + 1)) (fun w6 => lt_ck x3 (lt_len σ (lt_r σ o 24)) (lt_let ((lt_gi w6 (lt_r σ o 24) x3.toNatClampNeg) - 1) (fun z8 => lt_ck 0 (lt_len σ (lt_r σ o 0)) (if z8 = (lt_gi w6 (lt_r σ o 0) (0 : Int32).toNatClampNeg) then fb_X12_laysPlan_26 σ o n x1 x2 (x3 + (-1)) w6 else lt_ck x3 (lt_len σ (lt_r σ o 25)) (lt_let (lt_gi w6 (lt_r σ o 25) x3.toNatClampNeg) (fun z11 => if z8 = (-1) then fb_X12_laysPlan_123 σ o (fun x1 x2 x3 w => fb_X12_laysPlan_26 σ o n x1 x2 x3 w) x1 x2 x3 z11 w6 else Option.bind (f_X12_canCut σ o z8 w6) (fun q12 => if q12 = 0 then fb_X12_laysPlan_26 σ o n x1 x2 x3 w6 else Option.bind (f_X12_cuts1 σ o z8 w6) (fun q13 => if q13.1 = 1 then Option.bind (f_X12_guestOf σ o z8 2 q13.2) (fun q14 => fb_X12_laysPlan_123 σ o (fun x1 x2 x3 w => fb_X12_laysPlan_26 σ o n x1 x2 x3 w) x1 x2 x3 (z11 + q14) q13.2) else fb_X12_laysPlan_123 σ o (fun x1 x2 x3 w => fb_X12_laysPlan_26 σ o n x1 x2 x3 w) x1 x2 x3 z11 q13.2))))))))))))
set_option maxHeartbeats 4000000 in
set_option maxRecDepth 100000 in
theorem jb_X12_laysPlan_26 {X : lt_X} {σ : lt_S} (hT : lt_Wt σ) {o : Nat} (h0 : lt_c σ o = 12) {r : Int32 × lt_W} (hF : lt_F X cX12_laysPlan RX12 7 (lt_rm 6)) (hE : lt_E X 0 0 σ (some .int) (some (.int r.1)) r.2) (n : Nat) : ∀ (x1 : Int32) (x2 : Int32) (x3 : Int32) (w : lt_W), fb_X12_laysPlan_26 σ o n x1 x2 x3 w = some r → lt_J X 0 0 σ w 26 [(0, .ref (lt_z X + o)), (1, .int x1), (2, .int x2), (3, .int x3)] [] := by
  induction n with
  | zero => intro x1 x2 x3 w hf; rw [fb_X12_laysPlan_26] at hf; cases hf
  | succ n ih =>
    intro x1 x2 x3 w hf
    rw [fb_X12_laysPlan_26] at hf
    refine jr_iload_n hF dX12_laysPlan_26 3 rfl rfl ?_
    refine jr_if_lt (tgt := 221) hF dX12_laysPlan_27 rfl hf (fun hf => ?_) (fun hf => ?_)
    · refine jr_aload_n hF dX12_laysPlan_221 0 rfl rfl ?_
      refine jr_iconst (v := 0) hF dX12_laysPlan_222 rfl ?_
      obtain ⟨q1, hq1, hf⟩ := Option.bind_eq_some_iff.mp hf
      refine jr_cS11 hF ml_X12_343 (c_X12_levelAt hq1) ⟨Nat.le_of_ble_eq_true rfl, Nat.le_of_ble_eq_true rfl⟩ (Nat.le_of_ble_eq_true rfl) dX12_laysPlan_223 ?_
      obtain ⟨q2, hq2, hf⟩ := Option.bind_eq_some_iff.mp hf
      refine jr_cV1v hF ml_X12_337 (c_X12_brings hT h0 hq2) h0 ⟨Nat.le_of_ble_eq_true rfl, Nat.le_of_ble_eq_true rfl⟩ (Nat.le_of_ble_eq_true rfl) dX12_laysPlan_226 ?_
      refine jr_iload_n hF dX12_laysPlan_229 2 rfl rfl ?_
      obtain rfl := Option.some.inj hf
      exact jr_ireturn hF hE dX12_laysPlan_230
    · refine jr_aload_n hF dX12_laysPlan_30 0 rfl rfl ?_
      refine jr_iload_n hF dX12_laysPlan_31 3 rfl rfl ?_
      obtain ⟨q3, hq3, hf⟩ := Option.bind_eq_some_iff.mp hf
      refine jr_cS11 hF ml_X12_343 (c_X12_levelAt hq3) ⟨Nat.le_of_ble_eq_true rfl, Nat.le_of_ble_eq_true rfl⟩ (Nat.le_of_ble_eq_true rfl) dX12_laysPlan_32 ?_
      obtain ⟨q4, hq4, hf⟩ := Option.bind_eq_some_iff.mp hf
      refine jr_cV1v hF ml_X12_337 (c_X12_brings hT h0 hq4) h0 ⟨Nat.le_of_ble_eq_true rfl, Nat.le_of_ble_eq_true rfl⟩ (Nat.le_of_ble_eq_true rfl) dX12_laysPlan_35 ?_
      refine jr_aload_n hF dX12_laysPlan_38 0 rfl rfl ?_
      refine jr_getRT (cr := 50) hF gf_X12_47 hT h0 rfl rfl dX12_laysPlan_39 (fun th5 => ?_)
      refine jr_iload_n hF dX12_laysPlan_42 3 rfl rfl ?_
      refine jr_dup2 hF dX12_laysPlan_43 rfl rfl ?_
      refine jr_iaload hF th5 dX12_laysPlan_44 hf (fun hf => ?_)
      refine jr_iconst (v := 1) hF dX12_laysPlan_45 rfl ?_
      refine jr_iadd hF dX12_laysPlan_46 ?_
      refine jr_iastore hF th5 dX12_laysPlan_47 hf (fun hf => ?_)
      refine jr_letW hf (fun w6 hf => ?_)
      refine jr_aload_n hF dX12_laysPlan_48 0 rfl rfl ?_
      refine jr_getRT (cr := 50) hF gf_X12_47 hT h0 rfl rfl dX12_laysPlan_49 (fun th7 => ?_)
      refine jr_iload_n hF dX12_laysPlan_52 3 rfl rfl ?_
      refine jr_iaload hF th7 dX12_laysPlan_53 hf (fun hf => ?_)
      refine jr_iconst (v := 1) hF dX12_laysPlan_54 rfl ?_
      refine jr_isub hF dX12_laysPlan_55 ?_
      refine jr_letI hf (fun z8 hf => ?_)
      refine jr_istore (lv' := [(0, .ref (lt_z X + o)), (1, .int x1), (2, .int x2), (3, .int x3), (4, .int z8)]) hF dX12_laysPlan_56 (by decide) [1, 2, 3, 4, 0] rfl ?_
      refine jr_iload hF dX12_laysPlan_58 4 rfl ?_
      refine jr_aload_n hF dX12_laysPlan_60 0 rfl rfl ?_
      refine jr_getRT (cr := 50) hF gf_X12_7 hT h0 rfl rfl dX12_laysPlan_61 (fun th9 => ?_)
      refine jr_iconst (v := 0) hF dX12_laysPlan_64 rfl ?_
      refine jr_iaload hF th9 dX12_laysPlan_65 hf (fun hf => ?_)
      refine jr_icmp_ne (tgt := 75) hF dX12_laysPlan_66 rfl hf (fun hf => ?_) (fun hf => ?_)
      · refine jr_aload_n hF dX12_laysPlan_75 0 rfl rfl ?_
        refine jr_getRT (cr := 50) hF gf_X12_50 hT h0 rfl rfl dX12_laysPlan_76 (fun th10 => ?_)
        refine jr_iload_n hF dX12_laysPlan_79 3 rfl rfl ?_
        refine jr_iaload hF th10 dX12_laysPlan_80 hf (fun hf => ?_)
        refine jr_letI hf (fun z11 hf => ?_)
        refine jr_istore (lv' := [(0, .ref (lt_z X + o)), (1, .int x1), (2, .int x2), (3, .int x3), (4, .int z8), (5, .int z11)]) hF dX12_laysPlan_81 (by decide) [1, 2, 3, 4, 5, 0] rfl ?_
        refine jr_iload hF dX12_laysPlan_83 4 rfl ?_
        refine jr_iconst (v := (-1)) hF dX12_laysPlan_85 rfl ?_
        refine jr_icmp_eq (tgt := 123) hF dX12_laysPlan_86 rfl hf (fun hf => ?_) (fun hf => ?_)
        · refine jr_sub [0, 1, 2, 3, 5] rfl ?_
          exact jb_X12_laysPlan_123 hT h0 hF hE ih _ _ _ _ _ hf
        · refine jr_aload_n hF dX12_laysPlan_89 0 rfl rfl ?_
          refine jr_iload hF dX12_laysPlan_90 4 rfl ?_
          obtain ⟨q12, hq12, hf⟩ := Option.bind_eq_some_iff.mp hf
          refine jr_cV11 hF ml_X12_314 (c_X12_canCut hT h0 hq12) h0 ⟨Nat.le_of_ble_eq_true rfl, Nat.le_of_ble_eq_true rfl⟩ (Nat.le_of_ble_eq_true rfl) dX12_laysPlan_92 ?_
          refine jr_if_ne (tgt := 101) hF dX12_laysPlan_95 rfl hf (fun hf => ?_) (fun hf => ?_)
          · refine jr_aload_n hF dX12_laysPlan_101 0 rfl rfl ?_
            refine jr_iload hF dX12_laysPlan_102 4 rfl ?_
            obtain ⟨q13, hq13, hf⟩ := Option.bind_eq_some_iff.mp hf
            refine jr_cV11 hF ml_X12_296 (c_X12_cuts1 hT h0 hq13) h0 ⟨Nat.le_of_ble_eq_true rfl, Nat.le_of_ble_eq_true rfl⟩ (Nat.le_of_ble_eq_true rfl) dX12_laysPlan_104 ?_
            refine jr_iconst (v := 1) hF dX12_laysPlan_107 rfl ?_
            refine jr_icmp_ne (tgt := 123) hF dX12_laysPlan_108 rfl hf (fun hf => ?_) (fun hf => ?_)
            · refine jr_sub [0, 1, 2, 3, 5] rfl ?_
              exact jb_X12_laysPlan_123 hT h0 hF hE ih _ _ _ _ _ hf
            · refine jr_iload hF dX12_laysPlan_111 5 rfl ?_
              refine jr_aload_n hF dX12_laysPlan_113 0 rfl rfl ?_
              refine jr_iload hF dX12_laysPlan_114 4 rfl ?_
              refine jr_iconst (v := 2) hF dX12_laysPlan_116 rfl ?_
              obtain ⟨q14, hq14, hf⟩ := Option.bind_eq_some_iff.mp hf
              refine jr_cV21 hF ml_X12_269 (c_X12_guestOf hT h0 hq14) h0 ⟨Nat.le_of_ble_eq_true rfl, Nat.le_of_ble_eq_true rfl⟩ (Nat.le_of_ble_eq_true rfl) dX12_laysPlan_117 ?_
              refine jr_iadd hF dX12_laysPlan_120 ?_
              refine jr_istore (lv' := [(0, .ref (lt_z X + o)), (1, .int x1), (2, .int x2), (3, .int x3), (5, .int (z11 + q14))]) hF dX12_laysPlan_121 (by decide) [1, 2, 3, 4, 0] rfl ?_
              exact jb_X12_laysPlan_123 hT h0 hF hE ih _ _ _ _ _ hf
          · refine jr_goto (tgt := 26) hF dX12_laysPlan_98 rfl ?_
            refine jr_sub [0, 1, 2, 3] rfl ?_
            exact ih _ _ _ _ hf
      · refine jr_iinc (v := x3 + (-1)) (lv' := [(0, .ref (lt_z X + o)), (1, .int x1), (2, .int x2), (3, .int (x3 + (-1))), (4, .int z8)]) hF dX12_laysPlan_69 3 rfl rfl (by decide) [1, 2, 3, 0, 4] rfl ?_
        refine jr_goto (tgt := 26) hF dX12_laysPlan_72 rfl ?_
        refine jr_sub [0, 1, 2, 3] rfl ?_
        exact ih _ _ _ _ hf
set_option maxRecDepth 100000 in
def fb_X12_laysPlan_0 (σ : lt_S) (o : Nat) (x1 : Int32) (w : lt_W) : Option (Int32 × lt_W) := lt_ck 0 (lt_len σ (lt_r σ o 24)) (lt_let (lt_si w (lt_r σ o 24) (0 : Int32).toNatClampNeg (-1)) (fun w2 => lt_ck 0 (lt_len σ (lt_r σ o 25)) (lt_let (lt_si w2 (lt_r σ o 25) (0 : Int32).toNatClampNeg 0) (fun w4 => Option.bind (f_X12_levelAt 0) (fun q5 => Option.bind (f_X12_keeps σ o q5 w4) (fun q6 => fb_X12_laysPlan_26 σ o lt_fu x1 (-1) 0 q6))))))
set_option maxHeartbeats 4000000 in
set_option maxRecDepth 100000 in
theorem jb_X12_laysPlan_0 {X : lt_X} {σ : lt_S} (hT : lt_Wt σ) {o : Nat} (h0 : lt_c σ o = 12) {r : Int32 × lt_W} (hF : lt_F X cX12_laysPlan RX12 7 (lt_rm 6)) (hE : lt_E X 0 0 σ (some .int) (some (.int r.1)) r.2) : ∀ (x1 : Int32) (w : lt_W), fb_X12_laysPlan_0 σ o x1 w = some r → lt_J X 0 0 σ w 0 [(0, .ref (lt_z X + o)), (1, .int x1)] [] := by
  intro x1 w hf
  unfold fb_X12_laysPlan_0 at hf
  refine jr_iconst (v := (-1)) hF dX12_laysPlan_0 rfl ?_
  refine jr_istore_n (lv' := [(0, .ref (lt_z X + o)), (1, .int x1), (2, .int (-1))]) hF dX12_laysPlan_1 rfl (by decide) [1, 2, 0] rfl ?_
  refine jr_iconst (v := 0) hF dX12_laysPlan_2 rfl ?_
  refine jr_istore_n (lv' := [(0, .ref (lt_z X + o)), (1, .int x1), (2, .int (-1)), (3, .int 0)]) hF dX12_laysPlan_3 rfl (by decide) [1, 2, 3, 0] rfl ?_
  refine jr_aload_n hF dX12_laysPlan_4 0 rfl rfl ?_
  refine jr_getRT (cr := 50) hF gf_X12_47 hT h0 rfl rfl dX12_laysPlan_5 (fun th1 => ?_)
  refine jr_iconst (v := 0) hF dX12_laysPlan_8 rfl ?_
  refine jr_iconst (v := (-1)) hF dX12_laysPlan_9 rfl ?_
  refine jr_iastore hF th1 dX12_laysPlan_10 hf (fun hf => ?_)
  refine jr_letW hf (fun w2 hf => ?_)
  refine jr_aload_n hF dX12_laysPlan_11 0 rfl rfl ?_
  refine jr_getRT (cr := 50) hF gf_X12_50 hT h0 rfl rfl dX12_laysPlan_12 (fun th3 => ?_)
  refine jr_iconst (v := 0) hF dX12_laysPlan_15 rfl ?_
  refine jr_iconst (v := 0) hF dX12_laysPlan_16 rfl ?_
  refine jr_iastore hF th3 dX12_laysPlan_17 hf (fun hf => ?_)
  refine jr_letW hf (fun w4 hf => ?_)
  refine jr_aload_n hF dX12_laysPlan_18 0 rfl rfl ?_
  refine jr_iconst (v := 0) hF dX12_laysPlan_19 rfl ?_
  obtain ⟨q5, hq5, hf⟩ := Option.bind_eq_some_iff.mp hf
  refine jr_cS11 hF ml_X12_343 (c_X12_levelAt hq5) ⟨Nat.le_of_ble_eq_true rfl, Nat.le_of_ble_eq_true rfl⟩ (Nat.le_of_ble_eq_true rfl) dX12_laysPlan_20 ?_
  obtain ⟨q6, hq6, hf⟩ := Option.bind_eq_some_iff.mp hf
  refine jr_cV1v hF ml_X12_334 (c_X12_keeps hT h0 hq6) h0 ⟨Nat.le_of_ble_eq_true rfl, Nat.le_of_ble_eq_true rfl⟩ (Nat.le_of_ble_eq_true rfl) dX12_laysPlan_23 ?_
  exact jb_X12_laysPlan_26 hT h0 hF hE lt_fu _ _ _ _ hf
def f_X12_laysPlan (σ : lt_S) (o : Nat) (x1 : Int32) (w : lt_W) : Option (Int32 × lt_W) := fb_X12_laysPlan_0 σ o x1 w
set_option maxRecDepth 100000 in
theorem c_X12_laysPlan {l : Launch} {D : va_G} {gA : Nat → ClassId} {s0 : State} {σ : lt_S} (hT : lt_Wt σ) {o : Nat} (h0 : lt_c σ o = 12) {x1 : Int32} {w : lt_W} {r : Int32 × lt_W} (hf : f_X12_laysPlan σ o x1 w = some r) : lt_C l D gA s0 yX12_laysPlan cX12_laysPlan 7 (some .int) (lt_rm 6) [.ref (s0.heap.size + o), .int x1] σ w σ (some (.int r.1)) r.2 := by
  refine lt_enter rfl (Nat.le_of_ble_eq_true rfl) (fun X e1 e2 e3 e4 hF hE => ?_)
  subst e1 e2 e3 e4
  exact jb_X12_laysPlan_0 hT h0 hF hE _ _ hf

set_option maxRecDepth 100000 in
def fb_X12_least_96 (σ : lt_S) (o : Nat) (k29 : Int32 → Int32 → Int32 → lt_W → Option (Int32 × lt_W)) (x1 : Int32) (x2 : Int32) (x3 : Int32) (w : lt_W) : Option (Int32 × lt_W) := Option.bind (f_X12_brings σ o 2140 w) (fun q1 => k29 x1 x2 (x3 + 1) q1)
set_option maxHeartbeats 4000000 in
set_option maxRecDepth 100000 in
theorem jb_X12_least_96 {X : lt_X} {σ : lt_S} (hT : lt_Wt σ) {o : Nat} (h0 : lt_c σ o = 12) {r : Int32 × lt_W} {k29 : Int32 → Int32 → Int32 → lt_W → Option (Int32 × lt_W)} (hF : lt_F X cX12_least RX12 6 (lt_rm 7)) (hE : lt_E X 0 0 σ (some .int) (some (.int r.1)) r.2) (hk29 : ∀ (x1 : Int32) (x2 : Int32) (x3 : Int32) (w : lt_W), k29 x1 x2 x3 w = some r → lt_J X 0 0 σ w 29 [(0, .ref (lt_z X + o)), (1, .int x1), (2, .int x2), (3, .int x3)] []) : ∀ (x1 : Int32) (x2 : Int32) (x3 : Int32) (w : lt_W), fb_X12_least_96 σ o k29 x1 x2 x3 w = some r → lt_J X 0 0 σ w 96 [(0, .ref (lt_z X + o)), (1, .int x1), (2, .int x2), (3, .int x3)] [] := by
  intro x1 x2 x3 w hf
  unfold fb_X12_least_96 at hf
  refine jr_aload_n hF dX12_least_96 0 rfl rfl ?_
  refine jr_sipush (v := 2140) hF dX12_least_97 rfl ?_
  obtain ⟨q1, hq1, hf⟩ := Option.bind_eq_some_iff.mp hf
  refine jr_cV1v hF ml_X12_337 (c_X12_brings hT h0 hq1) h0 ⟨Nat.le_of_ble_eq_true rfl, Nat.le_of_ble_eq_true rfl⟩ (Nat.le_of_ble_eq_true rfl) dX12_least_100 ?_
  refine jr_iinc (v := x3 + 1) (lv' := [(0, .ref (lt_z X + o)), (1, .int x1), (2, .int x2), (3, .int (x3 + 1))]) hF dX12_least_103 3 rfl rfl (by decide) [1, 2, 3, 0] rfl ?_
  refine jr_goto (tgt := 29) hF dX12_least_106 rfl ?_
  exact hk29 _ _ _ _ hf
set_option maxRecDepth 100000 in
def fb_X12_least_89 (σ : lt_S) (o : Nat) (k29 : Int32 → Int32 → Int32 → lt_W → Option (Int32 × lt_W)) (x1 : Int32) (x2 : Int32) (x3 : Int32) (x4 : Int32) (w : lt_W) : Option (Int32 × lt_W) := if x4 = 0 then fb_X12_least_96 σ o k29 x1 x2 x3 w else fb_X12_least_96 σ o k29 x1 x3 x3 w
set_option maxHeartbeats 4000000 in
set_option maxRecDepth 100000 in
theorem jb_X12_least_89 {X : lt_X} {σ : lt_S} (hT : lt_Wt σ) {o : Nat} (h0 : lt_c σ o = 12) {r : Int32 × lt_W} {k29 : Int32 → Int32 → Int32 → lt_W → Option (Int32 × lt_W)} (hF : lt_F X cX12_least RX12 6 (lt_rm 7)) (hE : lt_E X 0 0 σ (some .int) (some (.int r.1)) r.2) (hk29 : ∀ (x1 : Int32) (x2 : Int32) (x3 : Int32) (w : lt_W), k29 x1 x2 x3 w = some r → lt_J X 0 0 σ w 29 [(0, .ref (lt_z X + o)), (1, .int x1), (2, .int x2), (3, .int x3)] []) : ∀ (x1 : Int32) (x2 : Int32) (x3 : Int32) (x4 : Int32) (w : lt_W), fb_X12_least_89 σ o k29 x1 x2 x3 x4 w = some r → lt_J X 0 0 σ w 89 [(0, .ref (lt_z X + o)), (1, .int x1), (2, .int x2), (3, .int x3), (4, .int x4)] [] := by
  intro x1 x2 x3 x4 w hf
  unfold fb_X12_least_89 at hf
  refine jr_iload hF dX12_least_89 4 rfl ?_
  refine jr_if_eq (tgt := 96) hF dX12_least_91 rfl hf (fun hf => ?_) (fun hf => ?_)
  · refine jr_sub [0, 1, 2, 3] rfl ?_
    exact jb_X12_least_96 hT h0 hF hE hk29 _ _ _ _ hf
  · refine jr_iload_n hF dX12_least_94 3 rfl rfl ?_
    refine jr_istore_n (lv' := [(0, .ref (lt_z X + o)), (1, .int x1), (2, .int x3), (3, .int x3)]) hF dX12_least_95 rfl (by decide) [1, 2, 0, 3] rfl ?_
    exact jb_X12_least_96 hT h0 hF hE hk29 _ _ _ _ hf
set_option maxRecDepth 100000 in
def fb_X12_least_53 (σ : lt_S) (o : Nat) (k29 : Int32 → Int32 → Int32 → lt_W → Option (Int32 × lt_W)) : Nat → Int32 → Int32 → Int32 → Int32 → Int32 → lt_W → Option (Int32 × lt_W)
  | 0, _, _, _, _, _, _ => none
  | n + 1, x1, x2, x3, x4, x5, w => if x1 ≤ x5 then fb_X12_least_89 σ o k29 x1 x2 x3 x4 w else if x4 = 0 then fb_X12_least_89 σ o k29 x1 x2 x3 x4 w else Option.bind (f_X12_dayGoes σ o w) (fun q1 => Option.bind (f_X12_areStarved σ o q1.2) (fun q2 => if q2 = 0 then fb_X12_least_53 σ o k29 n x1 x2 x3 1 (x5 + 1) q1.2 else fb_X12_least_53 σ o k29 n x1 x2 x3 0 (x5 + 1) q1.2))
set_option maxHeartbeats 4000000 in
set_option maxRecDepth 100000 in
theorem jb_X12_least_53 {X : lt_X} {σ : lt_S} (hT : lt_Wt σ) {o : Nat} (h0 : lt_c σ o = 12) {r : Int32 × lt_W} {k29 : Int32 → Int32 → Int32 → lt_W → Option (Int32 × lt_W)} (hF : lt_F X cX12_least RX12 6 (lt_rm 7)) (hE : lt_E X 0 0 σ (some .int) (some (.int r.1)) r.2) (hk29 : ∀ (x1 : Int32) (x2 : Int32) (x3 : Int32) (w : lt_W), k29 x1 x2 x3 w = some r → lt_J X 0 0 σ w 29 [(0, .ref (lt_z X + o)), (1, .int x1), (2, .int x2), (3, .int x3)] []) (n : Nat) : ∀ (x1 : Int32) (x2 : Int32) (x3 : Int32) (x4 : Int32) (x5 : Int32) (w : lt_W), fb_X12_least_53 σ o k29 n x1 x2 x3 x4 x5 w = some r → lt_J X 0 0 σ w 53 [(0, .ref (lt_z X + o)), (1, .int x1), (2, .int x2), (3, .int x3), (4, .int x4), (5, .int x5)] [] := by
  induction n with
  | zero => intro x1 x2 x3 x4 x5 w hf; rw [fb_X12_least_53] at hf; cases hf
  | succ n ih =>
    intro x1 x2 x3 x4 x5 w hf
    rw [fb_X12_least_53] at hf
    refine jr_iload hF dX12_least_53 5 rfl ?_
    refine jr_iload_n hF dX12_least_55 1 rfl rfl ?_
    refine jr_icmp_ge (tgt := 89) hF dX12_least_56 rfl hf (fun hf => ?_) (fun hf => ?_)
    · refine jr_sub [0, 1, 2, 3, 4] rfl ?_
      exact jb_X12_least_89 hT h0 hF hE hk29 _ _ _ _ _ hf
    · refine jr_iload hF dX12_least_59 4 rfl ?_
      refine jr_if_eq (tgt := 89) hF dX12_least_61 rfl hf (fun hf => ?_) (fun hf => ?_)
      · refine jr_sub [0, 1, 2, 3, 4] rfl ?_
        exact jb_X12_least_89 hT h0 hF hE hk29 _ _ _ _ _ hf
      · refine jr_aload_n hF dX12_least_64 0 rfl rfl ?_
        obtain ⟨q1, hq1, hf⟩ := Option.bind_eq_some_iff.mp hf
        refine jr_cV01 hF ml_X12_302 (c_X12_dayGoes hT h0 hq1) h0 ⟨Nat.le_of_ble_eq_true rfl, Nat.le_of_ble_eq_true rfl⟩ (Nat.le_of_ble_eq_true rfl) dX12_least_65 ?_
        refine jr_pop hF dX12_least_68 rfl ?_
        refine jr_aload_n hF dX12_least_69 0 rfl rfl ?_
        obtain ⟨q2, hq2, hf⟩ := Option.bind_eq_some_iff.mp hf
        refine jr_cV01 hF ml_X12_281 (c_X12_areStarved hT h0 hq2) h0 ⟨Nat.le_of_ble_eq_true rfl, Nat.le_of_ble_eq_true rfl⟩ (Nat.le_of_ble_eq_true rfl) dX12_least_70 ?_
        refine jr_if_ne (tgt := 80) hF dX12_least_73 rfl hf (fun hf => ?_) (fun hf => ?_)
        · refine jr_iconst (v := 0) hF dX12_least_80 rfl ?_
          refine jr_istore (lv' := [(0, .ref (lt_z X + o)), (1, .int x1), (2, .int x2), (3, .int x3), (4, .int 0), (5, .int x5)]) hF dX12_least_81 (by decide) [1, 2, 3, 4, 0, 5] rfl ?_
          refine jr_iinc (v := x5 + 1) (lv' := [(0, .ref (lt_z X + o)), (1, .int x1), (2, .int x2), (3, .int x3), (4, .int 0), (5, .int (x5 + 1))]) hF dX12_least_83 5 rfl rfl (by decide) [1, 2, 3, 4, 5, 0] rfl ?_
          refine jr_goto (tgt := 53) hF dX12_least_86 rfl ?_
          exact ih _ _ _ _ _ _ hf
        · refine jr_iconst (v := 1) hF dX12_least_76 rfl ?_
          refine jr_goto (tgt := 81) hF dX12_least_77 rfl ?_
          refine jr_istore (lv' := [(0, .ref (lt_z X + o)), (1, .int x1), (2, .int x2), (3, .int x3), (4, .int 1), (5, .int x5)]) hF dX12_least_81 (by decide) [1, 2, 3, 4, 0, 5] rfl ?_
          refine jr_iinc (v := x5 + 1) (lv' := [(0, .ref (lt_z X + o)), (1, .int x1), (2, .int x2), (3, .int x3), (4, .int 1), (5, .int (x5 + 1))]) hF dX12_least_83 5 rfl rfl (by decide) [1, 2, 3, 4, 5, 0] rfl ?_
          refine jr_goto (tgt := 53) hF dX12_least_86 rfl ?_
          exact ih _ _ _ _ _ _ hf
set_option maxRecDepth 100000 in
def fb_X12_least_109 (σ : lt_S) (o : Nat) (x2 : Int32) (w : lt_W) : Option (Int32 × lt_W) := Option.bind (f_X12_orNone σ o x2 w) (fun q1 => some (q1.1, q1.2))
set_option maxHeartbeats 4000000 in
set_option maxRecDepth 100000 in
theorem jb_X12_least_109 {X : lt_X} {σ : lt_S} (hT : lt_Wt σ) {o : Nat} (h0 : lt_c σ o = 12) {r : Int32 × lt_W} (hF : lt_F X cX12_least RX12 6 (lt_rm 7)) (hE : lt_E X 0 0 σ (some .int) (some (.int r.1)) r.2) : ∀ (x2 : Int32) (w : lt_W), fb_X12_least_109 σ o x2 w = some r → lt_J X 0 0 σ w 109 [(0, .ref (lt_z X + o)), (2, .int x2)] [] := by
  intro x2 w hf
  unfold fb_X12_least_109 at hf
  refine jr_aload_n hF dX12_least_109 0 rfl rfl ?_
  refine jr_iload_n hF dX12_least_110 1 rfl rfl ?_
  obtain ⟨q1, hq1, hf⟩ := Option.bind_eq_some_iff.mp hf
  refine jr_cV11 hF ml_X12_284 (c_X12_orNone h0 hq1) h0 ⟨Nat.le_of_ble_eq_true rfl, Nat.le_of_ble_eq_true rfl⟩ (Nat.le_of_ble_eq_true rfl) dX12_least_111 ?_
  obtain rfl := Option.some.inj hf
  exact jr_ireturn hF hE dX12_least_114
set_option maxRecDepth 100000 in
def fb_X12_least_29 (σ : lt_S) (o : Nat) : Nat → Int32 → Int32 → Int32 → lt_W → Option (Int32 × lt_W)
  | 0, _, _, _, _ => none
  | n + 1, x1, x2, x3, w => if 60 < x3 then fb_X12_least_109 σ o x2 w else if x2 = (-1) then lt_ck 4 (lt_len σ (lt_r σ o 0)) (lt_let (lt_si w (lt_r σ o 0) (4 : Int32).toNatClampNeg x3) (fun w2 => fb_X12_least_53 σ o (fun x1 x2 x3 w => fb_X12_least_29 σ o n x1 x2 x3 w) lt_fu x1 x2 x3 1 0 w2)) else fb_X12_least_109 σ o x2 w
set_option maxHeartbeats 4000000 in
set_option maxRecDepth 100000 in
theorem jb_X12_least_29 {X : lt_X} {σ : lt_S} (hT : lt_Wt σ) {o : Nat} (h0 : lt_c σ o = 12) {r : Int32 × lt_W} (hF : lt_F X cX12_least RX12 6 (lt_rm 7)) (hE : lt_E X 0 0 σ (some .int) (some (.int r.1)) r.2) (n : Nat) : ∀ (x1 : Int32) (x2 : Int32) (x3 : Int32) (w : lt_W), fb_X12_least_29 σ o n x1 x2 x3 w = some r → lt_J X 0 0 σ w 29 [(0, .ref (lt_z X + o)), (1, .int x1), (2, .int x2), (3, .int x3)] [] := by
  induction n with
  | zero => intro x1 x2 x3 w hf; rw [fb_X12_least_29] at hf; cases hf
  | succ n ih =>
    intro x1 x2 x3 w hf
    rw [fb_X12_least_29] at hf
    refine jr_iload_n hF dX12_least_29 3 rfl rfl ?_
    refine jr_bipush (v := 60) hF dX12_least_30 rfl ?_
    refine jr_icmp_gt (tgt := 109) hF dX12_least_32 rfl hf (fun hf => ?_) (fun hf => ?_)
    · refine jr_sub [0, 2] rfl ?_
      exact jb_X12_least_109 hT h0 hF hE _ _ hf
    · refine jr_iload_n hF dX12_least_35 2 rfl rfl ?_
      refine jr_iconst (v := (-1)) hF dX12_least_36 rfl ?_
      refine jr_icmp_ne (tgt := 109) hF dX12_least_37 rfl hf (fun hf => ?_) (fun hf => ?_)
      · refine jr_sub [0, 2] rfl ?_
        exact jb_X12_least_109 hT h0 hF hE _ _ hf
      · refine jr_iconst (v := 1) hF dX12_least_40 rfl ?_
        refine jr_istore (lv' := [(0, .ref (lt_z X + o)), (1, .int x1), (2, .int x2), (3, .int x3), (4, .int 1)]) hF dX12_least_41 (by decide) [1, 2, 3, 4, 0] rfl ?_
        refine jr_aload_n hF dX12_least_43 0 rfl rfl ?_
        refine jr_getRT (cr := 50) hF gf_X12_7 hT h0 rfl rfl dX12_least_44 (fun th1 => ?_)
        refine jr_iconst (v := 4) hF dX12_least_47 rfl ?_
        refine jr_iload_n hF dX12_least_48 3 rfl rfl ?_
        refine jr_iastore hF th1 dX12_least_49 hf (fun hf => ?_)
        refine jr_letW hf (fun w2 hf => ?_)
        refine jr_iconst (v := 0) hF dX12_least_50 rfl ?_
        refine jr_istore (lv' := [(0, .ref (lt_z X + o)), (1, .int x1), (2, .int x2), (3, .int x3), (4, .int 1), (5, .int 0)]) hF dX12_least_51 (by decide) [1, 2, 3, 4, 5, 0] rfl ?_
        exact jb_X12_least_53 hT h0 hF hE ih lt_fu _ _ _ _ _ _ hf
set_option maxRecDepth 100000 in
def fb_X12_least_0 (σ : lt_S) (o : Nat) (x1 : Int32) (w : lt_W) : Option (Int32 × lt_W) := Option.bind (f_X12_isFrom x1.toInt64 1 20) (fun q1 => if q1 = 0 then Option.bind (f_X12_refuse σ o 1 w) (fun q3 => some (q3.1, q3.2)) else Option.bind (f_X12_keeps σ o 2140 w) (fun q2 => fb_X12_least_29 σ o lt_fu x1 (-1) 1 q2))
set_option maxHeartbeats 4000000 in
set_option maxRecDepth 100000 in
theorem jb_X12_least_0 {X : lt_X} {σ : lt_S} (hT : lt_Wt σ) {o : Nat} (h0 : lt_c σ o = 12) {r : Int32 × lt_W} (hF : lt_F X cX12_least RX12 6 (lt_rm 7)) (hE : lt_E X 0 0 σ (some .int) (some (.int r.1)) r.2) : ∀ (x1 : Int32) (w : lt_W), fb_X12_least_0 σ o x1 w = some r → lt_J X 0 0 σ w 0 [(0, .ref (lt_z X + o)), (1, .int x1)] [] := by
  intro x1 w hf
  unfold fb_X12_least_0 at hf
  refine jr_iload_n hF dX12_least_0 1 rfl rfl ?_
  refine jr_i2l hF dX12_least_1 ?_
  refine jr_lconst (v := 1) hF dX12_least_2 rfl ?_
  refine jr_ldc2 (v := 20) hF dX12_least_3 kc_X12_328 ?_
  obtain ⟨q1, hq1, hf⟩ := Option.bind_eq_some_iff.mp hf
  refine jr_cS31 hF ml_X12_307 (c_X12_isFrom hq1) ⟨Nat.le_of_ble_eq_true rfl, Nat.le_of_ble_eq_true rfl⟩ (Nat.le_of_ble_eq_true rfl) dX12_least_6 ?_
  refine jr_if_ne (tgt := 18) hF dX12_least_9 rfl hf (fun hf => ?_) (fun hf => ?_)
  · refine jr_iconst (v := (-1)) hF dX12_least_18 rfl ?_
    refine jr_istore_n (lv' := [(0, .ref (lt_z X + o)), (1, .int x1), (2, .int (-1))]) hF dX12_least_19 rfl (by decide) [1, 2, 0] rfl ?_
    refine jr_aload_n hF dX12_least_20 0 rfl rfl ?_
    refine jr_sipush (v := 2140) hF dX12_least_21 rfl ?_
    obtain ⟨q2, hq2, hf⟩ := Option.bind_eq_some_iff.mp hf
    refine jr_cV1v hF ml_X12_334 (c_X12_keeps hT h0 hq2) h0 ⟨Nat.le_of_ble_eq_true rfl, Nat.le_of_ble_eq_true rfl⟩ (Nat.le_of_ble_eq_true rfl) dX12_least_24 ?_
    refine jr_iconst (v := 1) hF dX12_least_27 rfl ?_
    refine jr_istore_n (lv' := [(0, .ref (lt_z X + o)), (1, .int x1), (2, .int (-1)), (3, .int 1)]) hF dX12_least_28 rfl (by decide) [1, 2, 3, 0] rfl ?_
    exact jb_X12_least_29 hT h0 hF hE lt_fu _ _ _ _ hf
  · refine jr_aload_n hF dX12_least_12 0 rfl rfl ?_
    refine jr_iconst (v := 1) hF dX12_least_13 rfl ?_
    obtain ⟨q3, hq3, hf⟩ := Option.bind_eq_some_iff.mp hf
    refine jr_cV11 hF ml_X12_97 (c_X12_refuse h0 hq3) h0 ⟨Nat.le_of_ble_eq_true rfl, Nat.le_of_ble_eq_true rfl⟩ (Nat.le_of_ble_eq_true rfl) dX12_least_14 ?_
    obtain rfl := Option.some.inj hf
    exact jr_ireturn hF hE dX12_least_17
def f_X12_least (σ : lt_S) (o : Nat) (x1 : Int32) (w : lt_W) : Option (Int32 × lt_W) := fb_X12_least_0 σ o x1 w
set_option maxRecDepth 100000 in
theorem c_X12_least {l : Launch} {D : va_G} {gA : Nat → ClassId} {s0 : State} {σ : lt_S} (hT : lt_Wt σ) {o : Nat} (h0 : lt_c σ o = 12) {x1 : Int32} {w : lt_W} {r : Int32 × lt_W} (hf : f_X12_least σ o x1 w = some r) : lt_C l D gA s0 yX12_least cX12_least 6 (some .int) (lt_rm 7) [.ref (s0.heap.size + o), .int x1] σ w σ (some (.int r.1)) r.2 := by
  refine lt_enter rfl (Nat.le_of_ble_eq_true rfl) (fun X e1 e2 e3 e4 hF hE => ?_)
  subst e1 e2 e3 e4
  exact jb_X12_least_0 hT h0 hF hE _ _ hf

set_option maxRecDepth 100000 in
def fb_X12_leastOf_0 (x0 : Int32) : Option Int32 := if x0 = 1 then some 0 else if x0 = 5 then some 0 else some 1
set_option maxHeartbeats 4000000 in
set_option maxRecDepth 100000 in
theorem jb_X12_leastOf_0 {X : lt_X} {σ : lt_S} {r : Int32} {w : lt_W} (hF : lt_F X cX12_leastOf RX12 1 (lt_rm 1)) (hE : lt_E X 0 0 σ (some .int) (some (.int r)) w) : ∀ (x0 : Int32), fb_X12_leastOf_0 x0 = some r → lt_J X 0 0 σ w 0 [(0, .int x0)] [] := by
  intro x0 hf
  unfold fb_X12_leastOf_0 at hf
  refine jr_iload_n hF dX12_leastOf_0 0 rfl rfl ?_
  refine jr_iconst (v := 1) hF dX12_leastOf_1 rfl ?_
  refine jr_icmp_eq (tgt := 10) hF dX12_leastOf_2 rfl hf (fun hf => ?_) (fun hf => ?_)
  · refine jr_iconst (v := 0) hF dX12_leastOf_10 rfl ?_
    refine jr_goto (tgt := 15) hF dX12_leastOf_11 rfl ?_
    obtain rfl := Option.some.inj hf
    exact jr_ireturn hF hE dX12_leastOf_15
  · refine jr_iload_n hF dX12_leastOf_5 0 rfl rfl ?_
    refine jr_iconst (v := 5) hF dX12_leastOf_6 rfl ?_
    refine jr_icmp_ne (tgt := 14) hF dX12_leastOf_7 rfl hf (fun hf => ?_) (fun hf => ?_)
    · refine jr_iconst (v := 1) hF dX12_leastOf_14 rfl ?_
      obtain rfl := Option.some.inj hf
      exact jr_ireturn hF hE dX12_leastOf_15
    · refine jr_iconst (v := 0) hF dX12_leastOf_10 rfl ?_
      refine jr_goto (tgt := 15) hF dX12_leastOf_11 rfl ?_
      obtain rfl := Option.some.inj hf
      exact jr_ireturn hF hE dX12_leastOf_15
def f_X12_leastOf (x0 : Int32) : Option Int32 := fb_X12_leastOf_0 x0
set_option maxRecDepth 100000 in
theorem c_X12_leastOf {l : Launch} {D : va_G} {gA : Nat → ClassId} {s0 : State} {σ : lt_S} {x0 : Int32} {w : lt_W} {r : Int32} (hf : f_X12_leastOf x0 = some r) : lt_C l D gA s0 yX12_leastOf cX12_leastOf 1 (some .int) (lt_rm 1) [.int x0] σ w σ (some (.int r)) w := by
  refine lt_enter rfl (Nat.le_of_ble_eq_true rfl) (fun X e1 e2 e3 e4 hF hE => ?_)
  subst e1 e2 e3 e4
  exact jb_X12_leastOf_0 hF hE _ hf

set_option maxRecDepth 100000 in
def fb_X12_lives_177 (σ : lt_S) (o : Nat) (k32 : Int32 → lt_W → Option lt_W) (y1 : Int32) (w : lt_W) : Option lt_W := Option.bind (f_X12_behindEnds σ o y1 w) (fun q1 => k32 q1.1 q1.2)
set_option maxHeartbeats 4000000 in
set_option maxRecDepth 100000 in
theorem jb_X12_lives_177 {X : lt_X} {σ : lt_S} (hT : lt_Wt σ) {o : Nat} (h0 : lt_c σ o = 12) {r : lt_W} {k32 : Int32 → lt_W → Option lt_W} (hF : lt_F X cX12_lives RX12 4 (lt_rm 10)) (hE : lt_E X 0 0 σ none none r) (hk32 : ∀ (x2 : Int32) (w : lt_W), k32 x2 w = some r → lt_J X 0 0 σ w 32 [(0, .ref (lt_z X + o)), (2, .int x2)] []) : ∀ (y1 : Int32) (w : lt_W), fb_X12_lives_177 σ o k32 y1 w = some r → lt_J X 0 0 σ w 177 [(0, .ref (lt_z X + o))] [.int y1, .ref (lt_z X + o)] := by
  intro y1 w hf
  unfold fb_X12_lives_177 at hf
  obtain ⟨q1, hq1, hf⟩ := Option.bind_eq_some_iff.mp hf
  refine jr_cV11 hF ml_X12_425 (c_X12_behindEnds hT h0 hq1) h0 ⟨Nat.le_of_ble_eq_true rfl, Nat.le_of_ble_eq_true rfl⟩ (Nat.le_of_ble_eq_true rfl) dX12_lives_177 ?_
  refine jr_istore_n (lv' := [(0, .ref (lt_z X + o)), (2, .int q1.1)]) hF dX12_lives_180 rfl (by decide) [1, 0] rfl ?_
  refine jr_goto (tgt := 32) hF dX12_lives_181 rfl ?_
  exact hk32 _ _ hf
set_option maxRecDepth 100000 in
def fb_X12_lives_174 (σ : lt_S) (o : Nat) (k32 : Int32 → lt_W → Option lt_W) (x2 : Int32) (w : lt_W) : Option lt_W := fb_X12_lives_177 σ o k32 (x2 + 1) w
set_option maxHeartbeats 4000000 in
set_option maxRecDepth 100000 in
theorem jb_X12_lives_174 {X : lt_X} {σ : lt_S} (hT : lt_Wt σ) {o : Nat} (h0 : lt_c σ o = 12) {r : lt_W} {k32 : Int32 → lt_W → Option lt_W} (hF : lt_F X cX12_lives RX12 4 (lt_rm 10)) (hE : lt_E X 0 0 σ none none r) (hk32 : ∀ (x2 : Int32) (w : lt_W), k32 x2 w = some r → lt_J X 0 0 σ w 32 [(0, .ref (lt_z X + o)), (2, .int x2)] []) : ∀ (x2 : Int32) (w : lt_W), fb_X12_lives_174 σ o k32 x2 w = some r → lt_J X 0 0 σ w 174 [(0, .ref (lt_z X + o)), (2, .int x2)] [.ref (lt_z X + o)] := by
  intro x2 w hf
  unfold fb_X12_lives_174 at hf
  refine jr_iload_n hF dX12_lives_174 1 rfl rfl ?_
  refine jr_iconst (v := 1) hF dX12_lives_175 rfl ?_
  refine jr_iadd hF dX12_lives_176 ?_
  refine jr_sub [0] rfl ?_
  exact jb_X12_lives_177 hT h0 hF hE hk32 _ _ hf
set_option maxRecDepth 100000 in
def fb_X12_lives_140 (σ : lt_S) (o : Nat) (k32 : Int32 → lt_W → Option lt_W) (x2 : Int32) (x3 : Int32) (w : lt_W) : Option lt_W := lt_ck x3 (lt_len σ (lt_r σ o 0)) (if (lt_gi w (lt_r σ o 0) x3.toNatClampNeg) < 1600 then fb_X12_lives_174 σ o k32 x2 w else Option.bind (f_X12_holds σ o x3 w) (fun q2 => if q2 = 0 then lt_ck (x3 + 4) (lt_len σ (lt_r σ o 0)) (fb_X12_lives_177 σ o k32 ((lt_gi w (lt_r σ o 0) (x3 + 4).toNatClampNeg) + 1) w) else fb_X12_lives_174 σ o k32 x2 w))
set_option maxHeartbeats 4000000 in
set_option maxRecDepth 100000 in
theorem jb_X12_lives_140 {X : lt_X} {σ : lt_S} (hT : lt_Wt σ) {o : Nat} (h0 : lt_c σ o = 12) {r : lt_W} {k32 : Int32 → lt_W → Option lt_W} (hF : lt_F X cX12_lives RX12 4 (lt_rm 10)) (hE : lt_E X 0 0 σ none none r) (hk32 : ∀ (x2 : Int32) (w : lt_W), k32 x2 w = some r → lt_J X 0 0 σ w 32 [(0, .ref (lt_z X + o)), (2, .int x2)] []) : ∀ (x2 : Int32) (x3 : Int32) (w : lt_W), fb_X12_lives_140 σ o k32 x2 x3 w = some r → lt_J X 0 0 σ w 140 [(0, .ref (lt_z X + o)), (2, .int x2), (3, .int x3)] [] := by
  intro x2 x3 w hf
  unfold fb_X12_lives_140 at hf
  refine jr_aload_n hF dX12_lives_140 0 rfl rfl ?_
  refine jr_aload_n hF dX12_lives_141 0 rfl rfl ?_
  refine jr_getRT (cr := 50) hF gf_X12_7 hT h0 rfl rfl dX12_lives_142 (fun th1 => ?_)
  refine jr_iload_n hF dX12_lives_145 2 rfl rfl ?_
  refine jr_iaload hF th1 dX12_lives_146 hf (fun hf => ?_)
  refine jr_sipush (v := 1600) hF dX12_lives_147 rfl ?_
  refine jr_icmp_lt (tgt := 174) hF dX12_lives_150 rfl hf (fun hf => ?_) (fun hf => ?_)
  · refine jr_sub [0, 1] rfl ?_
    exact jb_X12_lives_174 hT h0 hF hE hk32 _ _ hf
  · refine jr_aload_n hF dX12_lives_153 0 rfl rfl ?_
    refine jr_iload_n hF dX12_lives_154 2 rfl rfl ?_
    obtain ⟨q2, hq2, hf⟩ := Option.bind_eq_some_iff.mp hf
    refine jr_cV11 hF ml_X12_422 (c_X12_holds hT h0 hq2) h0 ⟨Nat.le_of_ble_eq_true rfl, Nat.le_of_ble_eq_true rfl⟩ (Nat.le_of_ble_eq_true rfl) dX12_lives_155 ?_
    refine jr_if_ne (tgt := 174) hF dX12_lives_158 rfl hf (fun hf => ?_) (fun hf => ?_)
    · refine jr_sub [0, 1] rfl ?_
      exact jb_X12_lives_174 hT h0 hF hE hk32 _ _ hf
    · refine jr_aload_n hF dX12_lives_161 0 rfl rfl ?_
      refine jr_getRT (cr := 50) hF gf_X12_7 hT h0 rfl rfl dX12_lives_162 (fun th3 => ?_)
      refine jr_iload_n hF dX12_lives_165 2 rfl rfl ?_
      refine jr_iconst (v := 4) hF dX12_lives_166 rfl ?_
      refine jr_iadd hF dX12_lives_167 ?_
      refine jr_iaload hF th3 dX12_lives_168 hf (fun hf => ?_)
      refine jr_iconst (v := 1) hF dX12_lives_169 rfl ?_
      refine jr_iadd hF dX12_lives_170 ?_
      refine jr_goto (tgt := 177) hF dX12_lives_171 rfl ?_
      refine jr_sub [0] rfl ?_
      exact jb_X12_lives_177 hT h0 hF hE hk32 _ _ hf
set_option maxRecDepth 100000 in
def fb_X12_lives_111 (σ : lt_S) (o : Nat) (k32 : Int32 → lt_W → Option lt_W) (x2 : Int32) (x3 : Int32) (y0 : Nat) (y1 : Int32) (y2 : Int32) (y3 : Int32) (w : lt_W) : Option lt_W := lt_ck y1 (lt_len σ y0) (lt_let (lt_si w y0 y1.toNatClampNeg (y2 + y3)) (fun w1 => lt_ck x3 (lt_len σ (lt_r σ o 0)) (if (lt_gi w1 (lt_r σ o 0) x3.toNatClampNeg) = 17 then lt_ck (x3 + 1) (lt_len σ (lt_r σ o 0)) (lt_ck x2 (lt_len σ (lt_r σ o 36)) (lt_let (lt_si w1 (lt_r σ o 36) x2.toNatClampNeg ((lt_gi w1 (lt_r σ o 0) (x3 + 1).toNatClampNeg) - 1)) (fun w5 => fb_X12_lives_140 σ o k32 x2 x3 w5))) else fb_X12_lives_140 σ o k32 x2 x3 w1)))
set_option maxHeartbeats 4000000 in
set_option maxRecDepth 100000 in
theorem jb_X12_lives_111 {X : lt_X} {σ : lt_S} (hT : lt_Wt σ) {o : Nat} (h0 : lt_c σ o = 12) {r : lt_W} {k32 : Int32 → lt_W → Option lt_W} (hF : lt_F X cX12_lives RX12 4 (lt_rm 10)) (hE : lt_E X 0 0 σ none none r) (hk32 : ∀ (x2 : Int32) (w : lt_W), k32 x2 w = some r → lt_J X 0 0 σ w 32 [(0, .ref (lt_z X + o)), (2, .int x2)] []) : ∀ (x2 : Int32) (x3 : Int32) (y0 : Nat) (y1 : Int32) (y2 : Int32) (y3 : Int32) (w : lt_W), lt_c σ y0 = 50 → fb_X12_lives_111 σ o k32 x2 x3 y0 y1 y2 y3 w = some r → lt_J X 0 0 σ w 111 [(0, .ref (lt_z X + o)), (2, .int x2), (3, .int x3)] [.int y3, .int y2, .int y1, .ref (lt_z X + y0)] := by
  intro x2 x3 y0 y1 y2 y3 w u0 hf
  unfold fb_X12_lives_111 at hf
  refine jr_iadd hF dX12_lives_111 ?_
  refine jr_iastore hF u0 dX12_lives_112 hf (fun hf => ?_)
  refine jr_letW hf (fun w1 hf => ?_)
  refine jr_aload_n hF dX12_lives_113 0 rfl rfl ?_
  refine jr_getRT (cr := 50) hF gf_X12_7 hT h0 rfl rfl dX12_lives_114 (fun th2 => ?_)
  refine jr_iload_n hF dX12_lives_117 2 rfl rfl ?_
  refine jr_iaload hF th2 dX12_lives_118 hf (fun hf => ?_)
  refine jr_bipush (v := 17) hF dX12_lives_119 rfl ?_
  refine jr_icmp_ne (tgt := 140) hF dX12_lives_121 rfl hf (fun hf => ?_) (fun hf => ?_)
  · exact jb_X12_lives_140 hT h0 hF hE hk32 _ _ _ hf
  · refine jr_aload_n hF dX12_lives_124 0 rfl rfl ?_
    refine jr_getRT (cr := 50) hF gf_X12_78 hT h0 rfl rfl dX12_lives_125 (fun th3 => ?_)
    refine jr_iload_n hF dX12_lives_128 1 rfl rfl ?_
    refine jr_aload_n hF dX12_lives_129 0 rfl rfl ?_
    refine jr_getRT (cr := 50) hF gf_X12_7 hT h0 rfl rfl dX12_lives_130 (fun th4 => ?_)
    refine jr_iload_n hF dX12_lives_133 2 rfl rfl ?_
    refine jr_iconst (v := 1) hF dX12_lives_134 rfl ?_
    refine jr_iadd hF dX12_lives_135 ?_
    refine jr_iaload hF th4 dX12_lives_136 hf (fun hf => ?_)
    refine jr_iconst (v := 1) hF dX12_lives_137 rfl ?_
    refine jr_isub hF dX12_lives_138 ?_
    refine jr_iastore hF th3 dX12_lives_139 hf (fun hf => ?_)
    refine jr_letW hf (fun w5 hf => ?_)
    exact jb_X12_lives_140 hT h0 hF hE hk32 _ _ _ hf
set_option maxRecDepth 100000 in
def fb_X12_lives_32 (σ : lt_S) (o : Nat) : Nat → Int32 → lt_W → Option lt_W
  | 0, _, _ => none
  | n + 1, x2, w => lt_ck 8 (lt_len σ (lt_r σ o 0)) (if (lt_gi w (lt_r σ o 0) (8 : Int32).toNatClampNeg) ≤ x2 then some w else if (lt_gi w o 35) = 300 then lt_ck 4 (lt_len σ (lt_r σ o 37)) (lt_let (lt_si w (lt_r σ o 37) (4 : Int32).toNatClampNeg 1) (fun w7 => some w7)) else lt_let (lt_si w o 35 ((lt_gi w o 35) + 1)) (fun w2 => lt_ck (60 + (6 * x2)) (lt_len σ (lt_r σ o 0)) (if (lt_gi w2 (lt_r σ o 0) (60 + (6 * x2)).toNatClampNeg) = 19 then some w2 else lt_ck 0 (lt_len σ (lt_r σ o 37)) (Option.bind (f_X12_does σ o (60 + (6 * x2)) w2) (fun q5 => if q5.1 = 0 then fb_X12_lives_111 σ o (fun x2 w => fb_X12_lives_32 σ o n x2 w) x2 (60 + (6 * x2)) (lt_r σ o 37) 0 (lt_gi w2 (lt_r σ o 37) (0 : Int32).toNatClampNeg) 1 q5.2 else fb_X12_lives_111 σ o (fun x2 w => fb_X12_lives_32 σ o n x2 w) x2 (60 + (6 * x2)) (lt_r σ o 37) 0 (lt_gi w2 (lt_r σ o 37) (0 : Int32).toNatClampNeg) 0 q5.2)))))
set_option maxHeartbeats 4000000 in
set_option maxRecDepth 100000 in
theorem jb_X12_lives_32 {X : lt_X} {σ : lt_S} (hT : lt_Wt σ) {o : Nat} (h0 : lt_c σ o = 12) {r : lt_W} (hF : lt_F X cX12_lives RX12 4 (lt_rm 10)) (hE : lt_E X 0 0 σ none none r) (n : Nat) : ∀ (x2 : Int32) (w : lt_W), fb_X12_lives_32 σ o n x2 w = some r → lt_J X 0 0 σ w 32 [(0, .ref (lt_z X + o)), (2, .int x2)] [] := by
  induction n with
  | zero => intro x2 w hf; rw [fb_X12_lives_32] at hf; cases hf
  | succ n ih =>
    intro x2 w hf
    rw [fb_X12_lives_32] at hf
    refine jr_iload_n hF dX12_lives_32 1 rfl rfl ?_
    refine jr_aload_n hF dX12_lives_33 0 rfl rfl ?_
    refine jr_getRT (cr := 50) hF gf_X12_7 hT h0 rfl rfl dX12_lives_34 (fun th1 => ?_)
    refine jr_bipush (v := 8) hF dX12_lives_37 rfl ?_
    refine jr_iaload hF th1 dX12_lives_39 hf (fun hf => ?_)
    refine jr_icmp_ge (tgt := 184) hF dX12_lives_40 rfl hf (fun hf => ?_) (fun hf => ?_)
    · obtain rfl := Option.some.inj hf
      exact jr_return hF hE dX12_lives_184
    · refine jr_aload_n hF dX12_lives_43 0 rfl rfl ?_
      refine jr_getI hF gf_X12_416 h0 dX12_lives_44 ?_
      refine jr_sipush (v := 300) hF dX12_lives_47 rfl ?_
      refine jr_icmp_ne (tgt := 61) hF dX12_lives_50 rfl hf (fun hf => ?_) (fun hf => ?_)
      · refine jr_bipush (v := 60) hF dX12_lives_61 rfl ?_
        refine jr_bipush (v := 6) hF dX12_lives_63 rfl ?_
        refine jr_iload_n hF dX12_lives_65 1 rfl rfl ?_
        refine jr_imul hF dX12_lives_66 ?_
        refine jr_iadd hF dX12_lives_67 ?_
        refine jr_istore_n (lv' := [(0, .ref (lt_z X + o)), (2, .int x2), (3, .int (60 + (6 * x2)))]) hF dX12_lives_68 rfl (by decide) [1, 2, 0] rfl ?_
        refine jr_aload_n hF dX12_lives_69 0 rfl rfl ?_
        refine jr_dup hF dX12_lives_70 rfl ?_
        refine jr_getI hF gf_X12_416 h0 dX12_lives_71 ?_
        refine jr_iconst (v := 1) hF dX12_lives_74 rfl ?_
        refine jr_iadd hF dX12_lives_75 ?_
        refine jr_putI hF pf_X12_416 h0 dX12_lives_76 ?_
        refine jr_letW hf (fun w2 hf => ?_)
        refine jr_aload_n hF dX12_lives_79 0 rfl rfl ?_
        refine jr_getRT (cr := 50) hF gf_X12_7 hT h0 rfl rfl dX12_lives_80 (fun th3 => ?_)
        refine jr_iload_n hF dX12_lives_83 2 rfl rfl ?_
        refine jr_iaload hF th3 dX12_lives_84 hf (fun hf => ?_)
        refine jr_bipush (v := 19) hF dX12_lives_85 rfl ?_
        refine jr_icmp_ne (tgt := 91) hF dX12_lives_87 rfl hf (fun hf => ?_) (fun hf => ?_)
        · refine jr_aload_n hF dX12_lives_91 0 rfl rfl ?_
          refine jr_getRT (cr := 50) hF gf_X12_81 hT h0 rfl rfl dX12_lives_92 (fun th4 => ?_)
          refine jr_iconst (v := 0) hF dX12_lives_95 rfl ?_
          refine jr_dup2 hF dX12_lives_96 rfl rfl ?_
          refine jr_iaload hF th4 dX12_lives_97 hf (fun hf => ?_)
          refine jr_aload_n hF dX12_lives_98 0 rfl rfl ?_
          refine jr_iload_n hF dX12_lives_99 2 rfl rfl ?_
          obtain ⟨q5, hq5, hf⟩ := Option.bind_eq_some_iff.mp hf
          refine jr_cV11 hF ml_X12_419 (c_X12_does hT h0 hq5) h0 ⟨Nat.le_of_ble_eq_true rfl, Nat.le_of_ble_eq_true rfl⟩ (Nat.le_of_ble_eq_true rfl) dX12_lives_100 ?_
          refine jr_if_eq (tgt := 110) hF dX12_lives_103 rfl hf (fun hf => ?_) (fun hf => ?_)
          · refine jr_iconst (v := 1) hF dX12_lives_110 rfl ?_
            exact jb_X12_lives_111 hT h0 hF hE ih _ _ _ _ _ _ _ th4 hf
          · refine jr_iconst (v := 0) hF dX12_lives_106 rfl ?_
            refine jr_goto (tgt := 111) hF dX12_lives_107 rfl ?_
            exact jb_X12_lives_111 hT h0 hF hE ih _ _ _ _ _ _ _ th4 hf
        · obtain rfl := Option.some.inj hf
          exact jr_return hF hE dX12_lives_90
      · refine jr_aload_n hF dX12_lives_53 0 rfl rfl ?_
        refine jr_getRT (cr := 50) hF gf_X12_81 hT h0 rfl rfl dX12_lives_54 (fun th6 => ?_)
        refine jr_iconst (v := 4) hF dX12_lives_57 rfl ?_
        refine jr_iconst (v := 1) hF dX12_lives_58 rfl ?_
        refine jr_iastore hF th6 dX12_lives_59 hf (fun hf => ?_)
        refine jr_letW hf (fun w7 hf => ?_)
        obtain rfl := Option.some.inj hf
        exact jr_return hF hE dX12_lives_60
set_option maxRecDepth 100000 in
def fb_X12_lives_12 (σ : lt_S) (o : Nat) : Nat → Int32 → lt_W → Option lt_W
  | 0, _, _ => none
  | n + 1, x2, w => if 5 ≤ x2 then fb_X12_lives_32 σ o lt_fu 0 w else lt_ck x2 (lt_len σ (lt_r σ o 37)) (lt_let (lt_si w (lt_r σ o 37) x2.toNatClampNeg 0) (fun w2 => fb_X12_lives_12 σ o n (x2 + 1) w2))
set_option maxHeartbeats 4000000 in
set_option maxRecDepth 100000 in
theorem jb_X12_lives_12 {X : lt_X} {σ : lt_S} (hT : lt_Wt σ) {o : Nat} (h0 : lt_c σ o = 12) {r : lt_W} (hF : lt_F X cX12_lives RX12 4 (lt_rm 10)) (hE : lt_E X 0 0 σ none none r) (n : Nat) : ∀ (x2 : Int32) (w : lt_W), fb_X12_lives_12 σ o n x2 w = some r → lt_J X 0 0 σ w 12 [(0, .ref (lt_z X + o)), (2, .int x2)] [] := by
  induction n with
  | zero => intro x2 w hf; rw [fb_X12_lives_12] at hf; cases hf
  | succ n ih =>
    intro x2 w hf
    rw [fb_X12_lives_12] at hf
    refine jr_iload_n hF dX12_lives_12 1 rfl rfl ?_
    refine jr_iconst (v := 5) hF dX12_lives_13 rfl ?_
    refine jr_icmp_ge (tgt := 30) hF dX12_lives_14 rfl hf (fun hf => ?_) (fun hf => ?_)
    · refine jr_iconst (v := 0) hF dX12_lives_30 rfl ?_
      refine jr_istore_n (lv' := [(0, .ref (lt_z X + o)), (2, .int 0)]) hF dX12_lives_31 rfl (by decide) [1, 0] rfl ?_
      exact jb_X12_lives_32 hT h0 hF hE lt_fu _ _ hf
    · refine jr_aload_n hF dX12_lives_17 0 rfl rfl ?_
      refine jr_getRT (cr := 50) hF gf_X12_81 hT h0 rfl rfl dX12_lives_18 (fun th1 => ?_)
      refine jr_iload_n hF dX12_lives_21 1 rfl rfl ?_
      refine jr_iconst (v := 0) hF dX12_lives_22 rfl ?_
      refine jr_iastore hF th1 dX12_lives_23 hf (fun hf => ?_)
      refine jr_letW hf (fun w2 hf => ?_)
      refine jr_iinc (v := x2 + 1) (lv' := [(0, .ref (lt_z X + o)), (2, .int (x2 + 1))]) hF dX12_lives_24 1 rfl rfl (by decide) [1, 0] rfl ?_
      refine jr_goto (tgt := 12) hF dX12_lives_27 rfl ?_
      exact ih _ _ hf
set_option maxRecDepth 100000 in
def fb_X12_lives_0 (σ : lt_S) (o : Nat) (x1 : Int32) (w : lt_W) : Option lt_W := lt_let (lt_si w o 34 x1) (fun w1 => lt_let (lt_si w1 o 35 0) (fun w2 => fb_X12_lives_12 σ o lt_fu 0 w2))
set_option maxHeartbeats 4000000 in
set_option maxRecDepth 100000 in
theorem jb_X12_lives_0 {X : lt_X} {σ : lt_S} (hT : lt_Wt σ) {o : Nat} (h0 : lt_c σ o = 12) {r : lt_W} (hF : lt_F X cX12_lives RX12 4 (lt_rm 10)) (hE : lt_E X 0 0 σ none none r) : ∀ (x1 : Int32) (w : lt_W), fb_X12_lives_0 σ o x1 w = some r → lt_J X 0 0 σ w 0 [(0, .ref (lt_z X + o)), (1, .int x1)] [] := by
  intro x1 w hf
  unfold fb_X12_lives_0 at hf
  refine jr_aload_n hF dX12_lives_0 0 rfl rfl ?_
  refine jr_iload_n hF dX12_lives_1 1 rfl rfl ?_
  refine jr_putI hF pf_X12_397 h0 dX12_lives_2 ?_
  refine jr_letW hf (fun w1 hf => ?_)
  refine jr_aload_n hF dX12_lives_5 0 rfl rfl ?_
  refine jr_iconst (v := 0) hF dX12_lives_6 rfl ?_
  refine jr_putI hF pf_X12_416 h0 dX12_lives_7 ?_
  refine jr_letW hf (fun w2 hf => ?_)
  refine jr_iconst (v := 0) hF dX12_lives_10 rfl ?_
  refine jr_istore_n (lv' := [(0, .ref (lt_z X + o)), (2, .int 0)]) hF dX12_lives_11 rfl (by decide) [1, 0] rfl ?_
  exact jb_X12_lives_12 hT h0 hF hE lt_fu _ _ hf
def f_X12_lives (σ : lt_S) (o : Nat) (x1 : Int32) (w : lt_W) : Option lt_W := fb_X12_lives_0 σ o x1 w
set_option maxRecDepth 100000 in
theorem c_X12_lives {l : Launch} {D : va_G} {gA : Nat → ClassId} {s0 : State} {σ : lt_S} (hT : lt_Wt σ) {o : Nat} (h0 : lt_c σ o = 12) {x1 : Int32} {w : lt_W} {r : lt_W} (hf : f_X12_lives σ o x1 w = some r) : lt_C l D gA s0 yX12_lives cX12_lives 4 none (lt_rm 10) [.ref (s0.heap.size + o), .int x1] σ w σ none r := by
  refine lt_enter rfl (Nat.le_of_ble_eq_true rfl) (fun X e1 e2 e3 e4 hF hE => ?_)
  subst e1 e2 e3 e4
  exact jb_X12_lives_0 hT h0 hF hE _ _ hf

set_option maxRecDepth 100000 in
def fb_X12_live_43 (σ : lt_S) (o : Nat) : Nat → Int32 → lt_W → Option (Int32 × lt_W)
  | 0, _, _ => none
  | n + 1, x2, w => if 5 ≤ x2 then lt_let (lt_si w o 39 1) (fun w1 => Option.bind (f_X12_gives σ o (lt_gi w1 o 35) w1) (fun q2 => some (q2.1, q2.2))) else lt_ck x2 (lt_len σ (lt_r σ o 37)) (lt_ck x2 (lt_len σ (lt_r σ o 38)) (lt_let (lt_si w (lt_r σ o 38) x2.toNatClampNeg (lt_gi w (lt_r σ o 37) x2.toNatClampNeg)) (fun w5 => fb_X12_live_43 σ o n (x2 + 1) w5)))
set_option maxHeartbeats 4000000 in
set_option maxRecDepth 100000 in
theorem jb_X12_live_43 {X : lt_X} {σ : lt_S} (hT : lt_Wt σ) {o : Nat} (h0 : lt_c σ o = 12) {r : Int32 × lt_W} (hF : lt_F X cX12_live RX12 3 (lt_rm 11)) (hE : lt_E X 0 0 σ (some .int) (some (.int r.1)) r.2) (n : Nat) : ∀ (x2 : Int32) (w : lt_W), fb_X12_live_43 σ o n x2 w = some r → lt_J X 0 0 σ w 43 [(0, .ref (lt_z X + o)), (2, .int x2)] [] := by
  induction n with
  | zero => intro x2 w hf; rw [fb_X12_live_43] at hf; cases hf
  | succ n ih =>
    intro x2 w hf
    rw [fb_X12_live_43] at hf
    refine jr_iload_n hF dX12_live_43 1 rfl rfl ?_
    refine jr_iconst (v := 5) hF dX12_live_44 rfl ?_
    refine jr_icmp_ge (tgt := 66) hF dX12_live_45 rfl hf (fun hf => ?_) (fun hf => ?_)
    · refine jr_aload_n hF dX12_live_66 0 rfl rfl ?_
      refine jr_iconst (v := 1) hF dX12_live_67 rfl ?_
      refine jr_putZ hF pf_X12_433 h0 (Or.inr rfl) dX12_live_68 ?_
      refine jr_letW hf (fun w1 hf => ?_)
      refine jr_aload_n hF dX12_live_71 0 rfl rfl ?_
      refine jr_aload_n hF dX12_live_72 0 rfl rfl ?_
      refine jr_getI hF gf_X12_416 h0 dX12_live_73 ?_
      obtain ⟨q2, hq2, hf⟩ := Option.bind_eq_some_iff.mp hf
      refine jr_cV11 hF ml_X12_101 (c_X12_gives h0 hq2) h0 ⟨Nat.le_of_ble_eq_true rfl, Nat.le_of_ble_eq_true rfl⟩ (Nat.le_of_ble_eq_true rfl) dX12_live_76 ?_
      obtain rfl := Option.some.inj hf
      exact jr_ireturn hF hE dX12_live_79
    · refine jr_aload_n hF dX12_live_48 0 rfl rfl ?_
      refine jr_getRT (cr := 50) hF gf_X12_84 hT h0 rfl rfl dX12_live_49 (fun th3 => ?_)
      refine jr_iload_n hF dX12_live_52 1 rfl rfl ?_
      refine jr_aload_n hF dX12_live_53 0 rfl rfl ?_
      refine jr_getRT (cr := 50) hF gf_X12_81 hT h0 rfl rfl dX12_live_54 (fun th4 => ?_)
      refine jr_iload_n hF dX12_live_57 1 rfl rfl ?_
      refine jr_iaload hF th4 dX12_live_58 hf (fun hf => ?_)
      refine jr_iastore hF th3 dX12_live_59 hf (fun hf => ?_)
      refine jr_letW hf (fun w5 hf => ?_)
      refine jr_iinc (v := x2 + 1) (lv' := [(0, .ref (lt_z X + o)), (2, .int (x2 + 1))]) hF dX12_live_60 1 rfl rfl (by decide) [1, 0] rfl ?_
      refine jr_goto (tgt := 43) hF dX12_live_63 rfl ?_
      exact ih _ _ hf
set_option maxRecDepth 100000 in
def fb_X12_live_0 (σ : lt_S) (o : Nat) (x1 : Int32) (w : lt_W) : Option (Int32 × lt_W) := Option.bind (f_X12_isFrom x1.toInt64 0 9999) (fun q1 => if q1 = 0 then Option.bind (f_X12_refuse σ o 1 w) (fun q5 => some (q5.1, q5.2)) else lt_ck 8 (lt_len σ (lt_r σ o 0)) (if (lt_gi w (lt_r σ o 0) (8 : Int32).toNatClampNeg) = (-1) then Option.bind (f_X12_refuse σ o 6 w) (fun q4 => some (q4.1, q4.2)) else Option.bind (f_X12_lives σ o x1 w) (fun q3 => fb_X12_live_43 σ o lt_fu 0 q3)))
set_option maxHeartbeats 4000000 in
set_option maxRecDepth 100000 in
theorem jb_X12_live_0 {X : lt_X} {σ : lt_S} (hT : lt_Wt σ) {o : Nat} (h0 : lt_c σ o = 12) {r : Int32 × lt_W} (hF : lt_F X cX12_live RX12 3 (lt_rm 11)) (hE : lt_E X 0 0 σ (some .int) (some (.int r.1)) r.2) : ∀ (x1 : Int32) (w : lt_W), fb_X12_live_0 σ o x1 w = some r → lt_J X 0 0 σ w 0 [(0, .ref (lt_z X + o)), (1, .int x1)] [] := by
  intro x1 w hf
  unfold fb_X12_live_0 at hf
  refine jr_iload_n hF dX12_live_0 1 rfl rfl ?_
  refine jr_i2l hF dX12_live_1 ?_
  refine jr_lconst (v := 0) hF dX12_live_2 rfl ?_
  refine jr_ldc2 (v := 9999) hF dX12_live_3 kc_X12_428 ?_
  obtain ⟨q1, hq1, hf⟩ := Option.bind_eq_some_iff.mp hf
  refine jr_cS31 hF ml_X12_307 (c_X12_isFrom hq1) ⟨Nat.le_of_ble_eq_true rfl, Nat.le_of_ble_eq_true rfl⟩ (Nat.le_of_ble_eq_true rfl) dX12_live_6 ?_
  refine jr_if_ne (tgt := 18) hF dX12_live_9 rfl hf (fun hf => ?_) (fun hf => ?_)
  · refine jr_aload_n hF dX12_live_18 0 rfl rfl ?_
    refine jr_getRT (cr := 50) hF gf_X12_7 hT h0 rfl rfl dX12_live_19 (fun th2 => ?_)
    refine jr_bipush (v := 8) hF dX12_live_22 rfl ?_
    refine jr_iaload hF th2 dX12_live_24 hf (fun hf => ?_)
    refine jr_iconst (v := (-1)) hF dX12_live_25 rfl ?_
    refine jr_icmp_ne (tgt := 36) hF dX12_live_26 rfl hf (fun hf => ?_) (fun hf => ?_)
    · refine jr_aload_n hF dX12_live_36 0 rfl rfl ?_
      refine jr_iload_n hF dX12_live_37 1 rfl rfl ?_
      obtain ⟨q3, hq3, hf⟩ := Option.bind_eq_some_iff.mp hf
      refine jr_cV1v hF ml_X12_430 (c_X12_lives hT h0 hq3) h0 ⟨Nat.le_of_ble_eq_true rfl, Nat.le_of_ble_eq_true rfl⟩ (Nat.le_of_ble_eq_true rfl) dX12_live_38 ?_
      refine jr_iconst (v := 0) hF dX12_live_41 rfl ?_
      refine jr_istore_n (lv' := [(0, .ref (lt_z X + o)), (2, .int 0)]) hF dX12_live_42 rfl (by decide) [1, 0] rfl ?_
      exact jb_X12_live_43 hT h0 hF hE lt_fu _ _ hf
    · refine jr_aload_n hF dX12_live_29 0 rfl rfl ?_
      refine jr_bipush (v := 6) hF dX12_live_30 rfl ?_
      obtain ⟨q4, hq4, hf⟩ := Option.bind_eq_some_iff.mp hf
      refine jr_cV11 hF ml_X12_97 (c_X12_refuse h0 hq4) h0 ⟨Nat.le_of_ble_eq_true rfl, Nat.le_of_ble_eq_true rfl⟩ (Nat.le_of_ble_eq_true rfl) dX12_live_32 ?_
      obtain rfl := Option.some.inj hf
      exact jr_ireturn hF hE dX12_live_35
  · refine jr_aload_n hF dX12_live_12 0 rfl rfl ?_
    refine jr_iconst (v := 1) hF dX12_live_13 rfl ?_
    obtain ⟨q5, hq5, hf⟩ := Option.bind_eq_some_iff.mp hf
    refine jr_cV11 hF ml_X12_97 (c_X12_refuse h0 hq5) h0 ⟨Nat.le_of_ble_eq_true rfl, Nat.le_of_ble_eq_true rfl⟩ (Nat.le_of_ble_eq_true rfl) dX12_live_14 ?_
    obtain rfl := Option.some.inj hf
    exact jr_ireturn hF hE dX12_live_17
def f_X12_live (σ : lt_S) (o : Nat) (x1 : Int32) (w : lt_W) : Option (Int32 × lt_W) := fb_X12_live_0 σ o x1 w
set_option maxRecDepth 100000 in
theorem c_X12_live {l : Launch} {D : va_G} {gA : Nat → ClassId} {s0 : State} {σ : lt_S} (hT : lt_Wt σ) {o : Nat} (h0 : lt_c σ o = 12) {x1 : Int32} {w : lt_W} {r : Int32 × lt_W} (hf : f_X12_live σ o x1 w = some r) : lt_C l D gA s0 yX12_live cX12_live 3 (some .int) (lt_rm 11) [.ref (s0.heap.size + o), .int x1] σ w σ (some (.int r.1)) r.2 := by
  refine lt_enter rfl (Nat.le_of_ble_eq_true rfl) (fun X e1 e2 e3 e4 hF hE => ?_)
  subst e1 e2 e3 e4
  exact jb_X12_live_0 hT h0 hF hE _ _ hf

set_option maxRecDepth 100000 in
def fb_X12_lived_9 (σ : lt_S) (o : Nat) (w : lt_W) : Option (Int32 × lt_W) := Option.bind (f_X12_refuse σ o 1 w) (fun q1 => some (q1.1, q1.2))
set_option maxHeartbeats 4000000 in
set_option maxRecDepth 100000 in
theorem jb_X12_lived_9 {X : lt_X} {σ : lt_S} (hT : lt_Wt σ) {o : Nat} (h0 : lt_c σ o = 12) {r : Int32 × lt_W} (hF : lt_F X cX12_lived RX12 2 (lt_rm 2)) (hE : lt_E X 0 0 σ (some .int) (some (.int r.1)) r.2) : ∀ (w : lt_W), fb_X12_lived_9 σ o w = some r → lt_J X 0 0 σ w 9 [(0, .ref (lt_z X + o))] [] := by
  intro w hf
  unfold fb_X12_lived_9 at hf
  refine jr_aload_n hF dX12_lived_9 0 rfl rfl ?_
  refine jr_iconst (v := 1) hF dX12_lived_10 rfl ?_
  obtain ⟨q1, hq1, hf⟩ := Option.bind_eq_some_iff.mp hf
  refine jr_cV11 hF ml_X12_97 (c_X12_refuse h0 hq1) h0 ⟨Nat.le_of_ble_eq_true rfl, Nat.le_of_ble_eq_true rfl⟩ (Nat.le_of_ble_eq_true rfl) dX12_lived_11 ?_
  refine jr_goto (tgt := 43) hF dX12_lived_14 rfl ?_
  obtain rfl := Option.some.inj hf
  exact jr_ireturn hF hE dX12_lived_43
set_option maxRecDepth 100000 in
def fb_X12_lived_0 (σ : lt_S) (o : Nat) (x1 : Int32) (w : lt_W) : Option (Int32 × lt_W) := if x1 < 0 then fb_X12_lived_9 σ o w else if x1 ≤ 4 then if (lt_gi w o 39) = 0 then Option.bind (f_X12_refuse σ o 6 w) (fun q1 => some (q1.1, q1.2)) else lt_ck x1 (lt_len σ (lt_r σ o 38)) (Option.bind (f_X12_gives σ o (lt_gi w (lt_r σ o 38) x1.toNatClampNeg) w) (fun q3 => some (q3.1, q3.2))) else fb_X12_lived_9 σ o w
set_option maxHeartbeats 4000000 in
set_option maxRecDepth 100000 in
theorem jb_X12_lived_0 {X : lt_X} {σ : lt_S} (hT : lt_Wt σ) {o : Nat} (h0 : lt_c σ o = 12) {r : Int32 × lt_W} (hF : lt_F X cX12_lived RX12 2 (lt_rm 2)) (hE : lt_E X 0 0 σ (some .int) (some (.int r.1)) r.2) : ∀ (x1 : Int32) (w : lt_W), fb_X12_lived_0 σ o x1 w = some r → lt_J X 0 0 σ w 0 [(0, .ref (lt_z X + o)), (1, .int x1)] [] := by
  intro x1 w hf
  unfold fb_X12_lived_0 at hf
  refine jr_iload_n hF dX12_lived_0 1 rfl rfl ?_
  refine jr_if_lt (tgt := 9) hF dX12_lived_1 rfl hf (fun hf => ?_) (fun hf => ?_)
  · refine jr_sub [0] rfl ?_
    exact jb_X12_lived_9 hT h0 hF hE _ hf
  · refine jr_iload_n hF dX12_lived_4 1 rfl rfl ?_
    refine jr_iconst (v := 4) hF dX12_lived_5 rfl ?_
    refine jr_icmp_le (tgt := 17) hF dX12_lived_6 rfl hf (fun hf => ?_) (fun hf => ?_)
    · refine jr_aload_n hF dX12_lived_17 0 rfl rfl ?_
      refine jr_getI hF gf_X12_433 h0 dX12_lived_18 ?_
      refine jr_if_eq (tgt := 37) hF dX12_lived_21 rfl hf (fun hf => ?_) (fun hf => ?_)
      · refine jr_aload_n hF dX12_lived_37 0 rfl rfl ?_
        refine jr_bipush (v := 6) hF dX12_lived_38 rfl ?_
        obtain ⟨q1, hq1, hf⟩ := Option.bind_eq_some_iff.mp hf
        refine jr_cV11 hF ml_X12_97 (c_X12_refuse h0 hq1) h0 ⟨Nat.le_of_ble_eq_true rfl, Nat.le_of_ble_eq_true rfl⟩ (Nat.le_of_ble_eq_true rfl) dX12_lived_40 ?_
        obtain rfl := Option.some.inj hf
        exact jr_ireturn hF hE dX12_lived_43
      · refine jr_aload_n hF dX12_lived_24 0 rfl rfl ?_
        refine jr_aload_n hF dX12_lived_25 0 rfl rfl ?_
        refine jr_getRT (cr := 50) hF gf_X12_84 hT h0 rfl rfl dX12_lived_26 (fun th2 => ?_)
        refine jr_iload_n hF dX12_lived_29 1 rfl rfl ?_
        refine jr_iaload hF th2 dX12_lived_30 hf (fun hf => ?_)
        obtain ⟨q3, hq3, hf⟩ := Option.bind_eq_some_iff.mp hf
        refine jr_cV11 hF ml_X12_101 (c_X12_gives h0 hq3) h0 ⟨Nat.le_of_ble_eq_true rfl, Nat.le_of_ble_eq_true rfl⟩ (Nat.le_of_ble_eq_true rfl) dX12_lived_31 ?_
        refine jr_goto (tgt := 43) hF dX12_lived_34 rfl ?_
        obtain rfl := Option.some.inj hf
        exact jr_ireturn hF hE dX12_lived_43
    · refine jr_sub [0] rfl ?_
      exact jb_X12_lived_9 hT h0 hF hE _ hf
def f_X12_lived (σ : lt_S) (o : Nat) (x1 : Int32) (w : lt_W) : Option (Int32 × lt_W) := fb_X12_lived_0 σ o x1 w
set_option maxRecDepth 100000 in
theorem c_X12_lived {l : Launch} {D : va_G} {gA : Nat → ClassId} {s0 : State} {σ : lt_S} (hT : lt_Wt σ) {o : Nat} (h0 : lt_c σ o = 12) {x1 : Int32} {w : lt_W} {r : Int32 × lt_W} (hf : f_X12_lived σ o x1 w = some r) : lt_C l D gA s0 yX12_lived cX12_lived 2 (some .int) (lt_rm 2) [.ref (s0.heap.size + o), .int x1] σ w σ (some (.int r.1)) r.2 := by
  refine lt_enter rfl (Nat.le_of_ble_eq_true rfl) (fun X e1 e2 e3 e4 hF hE => ?_)
  subst e1 e2 e3 e4
  exact jb_X12_lived_0 hT h0 hF hE _ _ hf

set_option maxRecDepth 100000 in
def fb_X12_mark_0 (σ : lt_S) (o : Nat) (w : lt_W) : Option (Int32 × lt_W) := if (lt_gi w o 40) = 3 then Option.bind (f_X12_refuse σ o 4 w) (fun q4 => some (q4.1, q4.2)) else lt_let (lt_si w o 40 ((lt_gi w o 40) + 1)) (fun w1 => Option.bind (f_X12_copies σ o 0 (lt_gi w1 o 40) w1) (fun q2 => Option.bind (f_X12_gives σ o (lt_gi q2 o 40) q2) (fun q3 => some (q3.1, q3.2))))
set_option maxHeartbeats 4000000 in
set_option maxRecDepth 100000 in
theorem jb_X12_mark_0 {X : lt_X} {σ : lt_S} (hT : lt_Wt σ) {o : Nat} (h0 : lt_c σ o = 12) {r : Int32 × lt_W} (hF : lt_F X cX12_mark RX12 1 (lt_rm 2)) (hE : lt_E X 0 0 σ (some .int) (some (.int r.1)) r.2) : ∀ (w : lt_W), fb_X12_mark_0 σ o w = some r → lt_J X 0 0 σ w 0 [(0, .ref (lt_z X + o))] [] := by
  intro w hf
  unfold fb_X12_mark_0 at hf
  refine jr_aload_n hF dX12_mark_0 0 rfl rfl ?_
  refine jr_getI hF gf_X12_437 h0 dX12_mark_1 ?_
  refine jr_iconst (v := 3) hF dX12_mark_4 rfl ?_
  refine jr_icmp_ne (tgt := 14) hF dX12_mark_5 rfl hf (fun hf => ?_) (fun hf => ?_)
  · refine jr_aload_n hF dX12_mark_14 0 rfl rfl ?_
    refine jr_dup hF dX12_mark_15 rfl ?_
    refine jr_getI hF gf_X12_437 h0 dX12_mark_16 ?_
    refine jr_iconst (v := 1) hF dX12_mark_19 rfl ?_
    refine jr_iadd hF dX12_mark_20 ?_
    refine jr_putI hF pf_X12_437 h0 dX12_mark_21 ?_
    refine jr_letW hf (fun w1 hf => ?_)
    refine jr_aload_n hF dX12_mark_24 0 rfl rfl ?_
    refine jr_iconst (v := 0) hF dX12_mark_25 rfl ?_
    refine jr_aload_n hF dX12_mark_26 0 rfl rfl ?_
    refine jr_getI hF gf_X12_437 h0 dX12_mark_27 ?_
    obtain ⟨q2, hq2, hf⟩ := Option.bind_eq_some_iff.mp hf
    refine jr_cV2v hF ml_X12_440 (c_X12_copies hT h0 hq2) h0 ⟨Nat.le_of_ble_eq_true rfl, Nat.le_of_ble_eq_true rfl⟩ (Nat.le_of_ble_eq_true rfl) dX12_mark_30 ?_
    refine jr_aload_n hF dX12_mark_33 0 rfl rfl ?_
    refine jr_aload_n hF dX12_mark_34 0 rfl rfl ?_
    refine jr_getI hF gf_X12_437 h0 dX12_mark_35 ?_
    obtain ⟨q3, hq3, hf⟩ := Option.bind_eq_some_iff.mp hf
    refine jr_cV11 hF ml_X12_101 (c_X12_gives h0 hq3) h0 ⟨Nat.le_of_ble_eq_true rfl, Nat.le_of_ble_eq_true rfl⟩ (Nat.le_of_ble_eq_true rfl) dX12_mark_38 ?_
    obtain rfl := Option.some.inj hf
    exact jr_ireturn hF hE dX12_mark_41
  · refine jr_aload_n hF dX12_mark_8 0 rfl rfl ?_
    refine jr_iconst (v := 4) hF dX12_mark_9 rfl ?_
    obtain ⟨q4, hq4, hf⟩ := Option.bind_eq_some_iff.mp hf
    refine jr_cV11 hF ml_X12_97 (c_X12_refuse h0 hq4) h0 ⟨Nat.le_of_ble_eq_true rfl, Nat.le_of_ble_eq_true rfl⟩ (Nat.le_of_ble_eq_true rfl) dX12_mark_10 ?_
    obtain rfl := Option.some.inj hf
    exact jr_ireturn hF hE dX12_mark_13
def f_X12_mark (σ : lt_S) (o : Nat) (w : lt_W) : Option (Int32 × lt_W) := fb_X12_mark_0 σ o w
set_option maxRecDepth 100000 in
theorem c_X12_mark {l : Launch} {D : va_G} {gA : Nat → ClassId} {s0 : State} {σ : lt_S} (hT : lt_Wt σ) {o : Nat} (h0 : lt_c σ o = 12) {w : lt_W} {r : Int32 × lt_W} (hf : f_X12_mark σ o w = some r) : lt_C l D gA s0 yX12_mark cX12_mark 1 (some .int) (lt_rm 2) [.ref (s0.heap.size + o)] σ w σ (some (.int r.1)) r.2 := by
  refine lt_enter rfl (Nat.le_of_ble_eq_true rfl) (fun X e1 e2 e3 e4 hF hE => ?_)
  subst e1 e2 e3 e4
  exact jb_X12_mark_0 hT h0 hF hE _ hf

set_option maxRecDepth 100000 in
def fb_X12_mean_35 (σ : lt_S) (o : Nat) (w : lt_W) : Option (Int32 × lt_W) := Option.bind (f_X12_is σ o 1 w) (fun q1 => lt_bz q1.1 (some (q1.1, q1.2)))
set_option maxHeartbeats 4000000 in
set_option maxRecDepth 100000 in
theorem jb_X12_mean_35 {X : lt_X} {σ : lt_S} (hT : lt_Wt σ) {o : Nat} (h0 : lt_c σ o = 12) {r : Int32 × lt_W} (hF : lt_F X cX12_mean RX12 6 (lt_rm 11)) (hE : lt_E X 0 0 σ (some .boolean) (some (.int r.1)) r.2) : ∀ (w : lt_W), fb_X12_mean_35 σ o w = some r → lt_J X 0 0 σ w 35 [(0, .ref (lt_z X + o))] [] := by
  intro w hf
  unfold fb_X12_mean_35 at hf
  refine jr_aload_n hF dX12_mean_35 0 rfl rfl ?_
  refine jr_iconst (v := 1) hF dX12_mean_36 rfl ?_
  obtain ⟨q1, hq1, hf⟩ := Option.bind_eq_some_iff.mp hf
  refine jr_cV11 hF ml_X12_104 (c_X12_is h0 hq1) h0 ⟨Nat.le_of_ble_eq_true rfl, Nat.le_of_ble_eq_true rfl⟩ (Nat.le_of_ble_eq_true rfl) dX12_mean_37 ?_
  obtain ⟨b2, hf⟩ := lt_bzE hf
  obtain rfl := Option.some.inj hf
  exact jr_zreturn hF hE b2 dX12_mean_40
set_option maxRecDepth 100000 in
def fb_X12_mean_71 (σ : lt_S) (o : Nat) : Nat → Int32 → Int32 → Int64 → Int32 → lt_W → Option (Int32 × lt_W)
  | 0, _, _, _, _, _ => none
  | n + 1, x1, x2, x3, x5, w => if x2 ≤ x5 then Option.bind (f_X12_tellsBy σ o x3 x2.toInt64 w) (fun q1 => lt_bz q1.1 (some (q1.1, q1.2))) else Option.bind (f_X12_lives σ o (x1 + x5) w) (fun q3 => Option.bind (f_X12_areHere σ o q3) (fun q4 => Option.bind (f_X12_bits q4) (fun q5 => Option.bind (f_X12_brings σ o 2140 q3) (fun q6 => fb_X12_mean_71 σ o n x1 x2 (x3 + q5.toInt64) (x5 + 1) q6))))
set_option maxHeartbeats 4000000 in
set_option maxRecDepth 100000 in
theorem jb_X12_mean_71 {X : lt_X} {σ : lt_S} (hT : lt_Wt σ) {o : Nat} (h0 : lt_c σ o = 12) {r : Int32 × lt_W} (hF : lt_F X cX12_mean RX12 6 (lt_rm 11)) (hE : lt_E X 0 0 σ (some .boolean) (some (.int r.1)) r.2) (n : Nat) : ∀ (x1 : Int32) (x2 : Int32) (x3 : Int64) (x5 : Int32) (w : lt_W), fb_X12_mean_71 σ o n x1 x2 x3 x5 w = some r → lt_J X 0 0 σ w 71 [(0, .ref (lt_z X + o)), (1, .int x1), (2, .int x2), (3, .long x3), (5, .int x5)] [] := by
  induction n with
  | zero => intro x1 x2 x3 x5 w hf; rw [fb_X12_mean_71] at hf; cases hf
  | succ n ih =>
    intro x1 x2 x3 x5 w hf
    rw [fb_X12_mean_71] at hf
    refine jr_iload hF dX12_mean_71 4 rfl ?_
    refine jr_iload_n hF dX12_mean_73 2 rfl rfl ?_
    refine jr_icmp_ge (tgt := 109) hF dX12_mean_74 rfl hf (fun hf => ?_) (fun hf => ?_)
    · refine jr_aload_n hF dX12_mean_109 0 rfl rfl ?_
      refine jr_lload_n hF dX12_mean_110 3 rfl rfl ?_
      refine jr_iload_n hF dX12_mean_111 2 rfl rfl ?_
      refine jr_i2l hF dX12_mean_112 ?_
      obtain ⟨q1, hq1, hf⟩ := Option.bind_eq_some_iff.mp hf
      refine jr_cV21 hF ml_X12_373 (c_X12_tellsBy h0 hq1) h0 ⟨Nat.le_of_ble_eq_true rfl, Nat.le_of_ble_eq_true rfl⟩ (Nat.le_of_ble_eq_true rfl) dX12_mean_113 ?_
      obtain ⟨b2, hf⟩ := lt_bzE hf
      obtain rfl := Option.some.inj hf
      exact jr_zreturn hF hE b2 dX12_mean_116
    · refine jr_aload_n hF dX12_mean_77 0 rfl rfl ?_
      refine jr_iload_n hF dX12_mean_78 1 rfl rfl ?_
      refine jr_iload hF dX12_mean_79 4 rfl ?_
      refine jr_iadd hF dX12_mean_81 ?_
      obtain ⟨q3, hq3, hf⟩ := Option.bind_eq_some_iff.mp hf
      refine jr_cV1v hF ml_X12_430 (c_X12_lives hT h0 hq3) h0 ⟨Nat.le_of_ble_eq_true rfl, Nat.le_of_ble_eq_true rfl⟩ (Nat.le_of_ble_eq_true rfl) dX12_mean_82 ?_
      refine jr_lload_n hF dX12_mean_85 3 rfl rfl ?_
      refine jr_aload_n hF dX12_mean_86 0 rfl rfl ?_
      obtain ⟨q4, hq4, hf⟩ := Option.bind_eq_some_iff.mp hf
      refine jr_cV01 hF ml_X12_275 (c_X12_areHere hT h0 hq4) h0 ⟨Nat.le_of_ble_eq_true rfl, Nat.le_of_ble_eq_true rfl⟩ (Nat.le_of_ble_eq_true rfl) dX12_mean_87 ?_
      obtain ⟨q5, hq5, hf⟩ := Option.bind_eq_some_iff.mp hf
      refine jr_cS11 hF ml_X12_293 (c_X12_bits hq5) ⟨Nat.le_of_ble_eq_true rfl, Nat.le_of_ble_eq_true rfl⟩ (Nat.le_of_ble_eq_true rfl) dX12_mean_90 ?_
      refine jr_i2l hF dX12_mean_93 ?_
      refine jr_ladd hF dX12_mean_94 ?_
      refine jr_lstore_n (lv' := [(0, .ref (lt_z X + o)), (1, .int x1), (2, .int x2), (3, .long (x3 + q5.toInt64)), (5, .int x5)]) hF dX12_mean_95 rfl (by decide) [1, 2, 3, 0, 4] rfl ?_
      refine jr_aload_n hF dX12_mean_96 0 rfl rfl ?_
      refine jr_sipush (v := 2140) hF dX12_mean_97 rfl ?_
      obtain ⟨q6, hq6, hf⟩ := Option.bind_eq_some_iff.mp hf
      refine jr_cV1v hF ml_X12_337 (c_X12_brings hT h0 hq6) h0 ⟨Nat.le_of_ble_eq_true rfl, Nat.le_of_ble_eq_true rfl⟩ (Nat.le_of_ble_eq_true rfl) dX12_mean_100 ?_
      refine jr_iinc (v := x5 + 1) (lv' := [(0, .ref (lt_z X + o)), (1, .int x1), (2, .int x2), (3, .long (x3 + q5.toInt64)), (5, .int (x5 + 1))]) hF dX12_mean_103 4 rfl rfl (by decide) [1, 2, 3, 4, 0] rfl ?_
      refine jr_goto (tgt := 71) hF dX12_mean_106 rfl ?_
      exact ih _ _ _ _ _ hf
set_option maxRecDepth 100000 in
def fb_X12_mean_0 (σ : lt_S) (o : Nat) (x1 : Int32) (x2 : Int32) (w : lt_W) : Option (Int32 × lt_W) := Option.bind (f_X12_isFrom x1.toInt64 0 9999) (fun q1 => if q1 = 0 then fb_X12_mean_35 σ o w else Option.bind (f_X12_isFrom x2.toInt64 1 20) (fun q2 => if q2 = 0 then fb_X12_mean_35 σ o w else if ((x1 + x2) - 1) ≤ 9999 then lt_ck 8 (lt_len σ (lt_r σ o 0)) (if (lt_gi w (lt_r σ o 0) (8 : Int32).toNatClampNeg) = (-1) then Option.bind (f_X12_is σ o 6 w) (fun q5 => lt_bz q5.1 (some (q5.1, q5.2))) else Option.bind (f_X12_keeps σ o 2140 w) (fun q4 => fb_X12_mean_71 σ o lt_fu x1 x2 0 0 q4)) else fb_X12_mean_35 σ o w))
set_option maxHeartbeats 4000000 in
set_option maxRecDepth 100000 in
theorem jb_X12_mean_0 {X : lt_X} {σ : lt_S} (hT : lt_Wt σ) {o : Nat} (h0 : lt_c σ o = 12) {r : Int32 × lt_W} (hF : lt_F X cX12_mean RX12 6 (lt_rm 11)) (hE : lt_E X 0 0 σ (some .boolean) (some (.int r.1)) r.2) : ∀ (x1 : Int32) (x2 : Int32) (w : lt_W), fb_X12_mean_0 σ o x1 x2 w = some r → lt_J X 0 0 σ w 0 [(0, .ref (lt_z X + o)), (1, .int x1), (2, .int x2)] [] := by
  intro x1 x2 w hf
  unfold fb_X12_mean_0 at hf
  refine jr_iload_n hF dX12_mean_0 1 rfl rfl ?_
  refine jr_i2l hF dX12_mean_1 ?_
  refine jr_lconst (v := 0) hF dX12_mean_2 rfl ?_
  refine jr_ldc2 (v := 9999) hF dX12_mean_3 kc_X12_428 ?_
  obtain ⟨q1, hq1, hf⟩ := Option.bind_eq_some_iff.mp hf
  refine jr_cS31 hF ml_X12_307 (c_X12_isFrom hq1) ⟨Nat.le_of_ble_eq_true rfl, Nat.le_of_ble_eq_true rfl⟩ (Nat.le_of_ble_eq_true rfl) dX12_mean_6 ?_
  refine jr_if_eq (tgt := 35) hF dX12_mean_9 rfl hf (fun hf => ?_) (fun hf => ?_)
  · refine jr_sub [0] rfl ?_
    exact jb_X12_mean_35 hT h0 hF hE _ hf
  · refine jr_iload_n hF dX12_mean_12 2 rfl rfl ?_
    refine jr_i2l hF dX12_mean_13 ?_
    refine jr_lconst (v := 1) hF dX12_mean_14 rfl ?_
    refine jr_ldc2 (v := 20) hF dX12_mean_15 kc_X12_328 ?_
    obtain ⟨q2, hq2, hf⟩ := Option.bind_eq_some_iff.mp hf
    refine jr_cS31 hF ml_X12_307 (c_X12_isFrom hq2) ⟨Nat.le_of_ble_eq_true rfl, Nat.le_of_ble_eq_true rfl⟩ (Nat.le_of_ble_eq_true rfl) dX12_mean_18 ?_
    refine jr_if_eq (tgt := 35) hF dX12_mean_21 rfl hf (fun hf => ?_) (fun hf => ?_)
    · refine jr_sub [0] rfl ?_
      exact jb_X12_mean_35 hT h0 hF hE _ hf
    · refine jr_iload_n hF dX12_mean_24 1 rfl rfl ?_
      refine jr_iload_n hF dX12_mean_25 2 rfl rfl ?_
      refine jr_iadd hF dX12_mean_26 ?_
      refine jr_iconst (v := 1) hF dX12_mean_27 rfl ?_
      refine jr_isub hF dX12_mean_28 ?_
      refine jr_sipush (v := 9999) hF dX12_mean_29 rfl ?_
      refine jr_icmp_le (tgt := 41) hF dX12_mean_32 rfl hf (fun hf => ?_) (fun hf => ?_)
      · refine jr_aload_n hF dX12_mean_41 0 rfl rfl ?_
        refine jr_getRT (cr := 50) hF gf_X12_7 hT h0 rfl rfl dX12_mean_42 (fun th3 => ?_)
        refine jr_bipush (v := 8) hF dX12_mean_45 rfl ?_
        refine jr_iaload hF th3 dX12_mean_47 hf (fun hf => ?_)
        refine jr_iconst (v := (-1)) hF dX12_mean_48 rfl ?_
        refine jr_icmp_ne (tgt := 59) hF dX12_mean_49 rfl hf (fun hf => ?_) (fun hf => ?_)
        · refine jr_aload_n hF dX12_mean_59 0 rfl rfl ?_
          refine jr_sipush (v := 2140) hF dX12_mean_60 rfl ?_
          obtain ⟨q4, hq4, hf⟩ := Option.bind_eq_some_iff.mp hf
          refine jr_cV1v hF ml_X12_334 (c_X12_keeps hT h0 hq4) h0 ⟨Nat.le_of_ble_eq_true rfl, Nat.le_of_ble_eq_true rfl⟩ (Nat.le_of_ble_eq_true rfl) dX12_mean_63 ?_
          refine jr_lconst (v := 0) hF dX12_mean_66 rfl ?_
          refine jr_lstore_n (lv' := [(0, .ref (lt_z X + o)), (1, .int x1), (2, .int x2), (3, .long 0)]) hF dX12_mean_67 rfl (by decide) [1, 2, 3, 0] rfl ?_
          refine jr_iconst (v := 0) hF dX12_mean_68 rfl ?_
          refine jr_istore (lv' := [(0, .ref (lt_z X + o)), (1, .int x1), (2, .int x2), (3, .long 0), (5, .int 0)]) hF dX12_mean_69 (by decide) [1, 2, 3, 4, 0] rfl ?_
          exact jb_X12_mean_71 hT h0 hF hE lt_fu _ _ _ _ _ hf
        · refine jr_aload_n hF dX12_mean_52 0 rfl rfl ?_
          refine jr_bipush (v := 6) hF dX12_mean_53 rfl ?_
          obtain ⟨q5, hq5, hf⟩ := Option.bind_eq_some_iff.mp hf
          refine jr_cV11 hF ml_X12_104 (c_X12_is h0 hq5) h0 ⟨Nat.le_of_ble_eq_true rfl, Nat.le_of_ble_eq_true rfl⟩ (Nat.le_of_ble_eq_true rfl) dX12_mean_55 ?_
          obtain ⟨b6, hf⟩ := lt_bzE hf
          obtain rfl := Option.some.inj hf
          exact jr_zreturn hF hE b6 dX12_mean_58
      · refine jr_sub [0] rfl ?_
        exact jb_X12_mean_35 hT h0 hF hE _ hf
def f_X12_mean (σ : lt_S) (o : Nat) (x1 : Int32) (x2 : Int32) (w : lt_W) : Option (Int32 × lt_W) := fb_X12_mean_0 σ o x1 x2 w
set_option maxRecDepth 100000 in
theorem c_X12_mean {l : Launch} {D : va_G} {gA : Nat → ClassId} {s0 : State} {σ : lt_S} (hT : lt_Wt σ) {o : Nat} (h0 : lt_c σ o = 12) {x1 : Int32} {x2 : Int32} {w : lt_W} {r : Int32 × lt_W} (hf : f_X12_mean σ o x1 x2 w = some r) : lt_C l D gA s0 yX12_mean cX12_mean 6 (some .boolean) (lt_rm 11) [.ref (s0.heap.size + o), .int x1, .int x2] σ w σ (some (.int r.1)) r.2 := by
  refine lt_enter rfl (Nat.le_of_ble_eq_true rfl) (fun X e1 e2 e3 e4 hF hE => ?_)
  subst e1 e2 e3 e4
  exact jb_X12_mean_0 hT h0 hF hE _ _ _ hf

set_option maxRecDepth 100000 in
def fb_X12_mostOf_0 (x0 : Int32) : Option Int32 := if x0 = 1 then some 16 else if x0 = 2 then some 20 else if x0 = 3 then some 6 else some 60
set_option maxHeartbeats 4000000 in
set_option maxRecDepth 100000 in
theorem jb_X12_mostOf_0 {X : lt_X} {σ : lt_S} {r : Int32} {w : lt_W} (hF : lt_F X cX12_mostOf RX12 1 (lt_rm 1)) (hE : lt_E X 0 0 σ (some .int) (some (.int r)) w) : ∀ (x0 : Int32), fb_X12_mostOf_0 x0 = some r → lt_J X 0 0 σ w 0 [(0, .int x0)] [] := by
  intro x0 hf
  unfold fb_X12_mostOf_0 at hf
  refine jr_iload_n hF dX12_mostOf_0 0 rfl rfl ?_
  by_cases c1 : x0 = 1
  · rw [if_pos c1] at hf
    refine jr_tableIn (off := 27) (tgt := 28) hF dX12_mostOf_1 (by rw [c1]; decide) (by rw [c1]; decide) (by rw [c1]; rfl) rfl ?_
    refine jr_bipush (v := 16) hF dX12_mostOf_28 rfl ?_
    obtain rfl := Option.some.inj hf
    exact jr_ireturn hF hE dX12_mostOf_30
  rw [if_neg c1] at hf
  by_cases c2 : x0 = 2
  · rw [if_pos c2] at hf
    refine jr_tableIn (off := 30) (tgt := 31) hF dX12_mostOf_1 (by rw [c2]; decide) (by rw [c2]; decide) (by rw [c2]; rfl) rfl ?_
    refine jr_bipush (v := 20) hF dX12_mostOf_31 rfl ?_
    obtain rfl := Option.some.inj hf
    exact jr_ireturn hF hE dX12_mostOf_33
  rw [if_neg c2] at hf
  by_cases c3 : x0 = 3
  · rw [if_pos c3] at hf
    refine jr_tableIn (off := 33) (tgt := 34) hF dX12_mostOf_1 (by rw [c3]; decide) (by rw [c3]; decide) (by rw [c3]; rfl) rfl ?_
    refine jr_bipush (v := 6) hF dX12_mostOf_34 rfl ?_
    obtain rfl := Option.some.inj hf
    exact jr_ireturn hF hE dX12_mostOf_36
  rw [if_neg c3] at hf
  refine jr_tableOut (tgt := 37) hF dX12_mostOf_1 (lt_swd fun kk h1 h2 => by rcases (show kk = 1 ∨ kk = 2 ∨ kk = 3 by omega) with rfl | rfl | rfl <;> first | exact c1 | exact c2 | exact c3) rfl ?_
  refine jr_bipush (v := 60) hF dX12_mostOf_37 rfl ?_
  obtain rfl := Option.some.inj hf
  exact jr_ireturn hF hE dX12_mostOf_39
def f_X12_mostOf (x0 : Int32) : Option Int32 := fb_X12_mostOf_0 x0
set_option maxRecDepth 100000 in
theorem c_X12_mostOf {l : Launch} {D : va_G} {gA : Nat → ClassId} {s0 : State} {σ : lt_S} {x0 : Int32} {w : lt_W} {r : Int32} (hf : f_X12_mostOf x0 = some r) : lt_C l D gA s0 yX12_mostOf cX12_mostOf 1 (some .int) (lt_rm 1) [.int x0] σ w σ (some (.int r)) w := by
  refine lt_enter rfl (Nat.le_of_ble_eq_true rfl) (fun X e1 e2 e3 e4 hF hE => ?_)
  subst e1 e2 e3 e4
  exact jb_X12_mostOf_0 hF hE _ hf

set_option maxRecDepth 100000 in
def fb_X12_moveOf_21 (σ : lt_S) (o : Nat) (w : lt_W) : Option (Int32 × lt_W) := Option.bind (f_X12_refuse σ o 1 w) (fun q1 => some (q1.1, q1.2))
set_option maxHeartbeats 4000000 in
set_option maxRecDepth 100000 in
theorem jb_X12_moveOf_21 {X : lt_X} {σ : lt_S} (hT : lt_Wt σ) {o : Nat} (h0 : lt_c σ o = 12) {r : Int32 × lt_W} (hF : lt_F X cX12_moveOf RX12 4 (lt_rm 10)) (hE : lt_E X 0 0 σ (some .int) (some (.int r.1)) r.2) : ∀ (w : lt_W), fb_X12_moveOf_21 σ o w = some r → lt_J X 0 0 σ w 21 [(0, .ref (lt_z X + o))] [] := by
  intro w hf
  unfold fb_X12_moveOf_21 at hf
  refine jr_aload_n hF dX12_moveOf_21 0 rfl rfl ?_
  refine jr_iconst (v := 1) hF dX12_moveOf_22 rfl ?_
  obtain ⟨q1, hq1, hf⟩ := Option.bind_eq_some_iff.mp hf
  refine jr_cV11 hF ml_X12_97 (c_X12_refuse h0 hq1) h0 ⟨Nat.le_of_ble_eq_true rfl, Nat.le_of_ble_eq_true rfl⟩ (Nat.le_of_ble_eq_true rfl) dX12_moveOf_23 ?_
  obtain rfl := Option.some.inj hf
  exact jr_ireturn hF hE dX12_moveOf_26
set_option maxRecDepth 100000 in
def fb_X12_moveOf_0 (σ : lt_S) (o : Nat) (x1 : Int32) (x2 : Int32) (x3 : Int32) (w : lt_W) : Option (Int32 × lt_W) := Option.bind (f_X12_areTwo σ o x1 x2 w) (fun q1 => if q1 = 0 then fb_X12_moveOf_21 σ o w else Option.bind (f_X12_isFrom x3.toInt64 1 3) (fun q2 => if q2 = 0 then fb_X12_moveOf_21 σ o w else Option.bind (f_X12_playing σ o x1 x2 x3 w) (fun q3 => lt_ck 0 (lt_len σ (lt_r σ o 33)) (lt_ck 0 (lt_len σ (lt_r σ o 0)) (if (lt_gi q3.2 (lt_r σ o 33) (0 : Int32).toNatClampNeg) = (lt_gi q3.2 (lt_r σ o 0) (0 : Int32).toNatClampNeg) then Option.bind (f_X12_refuse σ o 6 q3.2) (fun q8 => some (q8.1, q8.2)) else lt_ck 0 (lt_len σ (lt_r σ o 33)) (Option.bind (f_X12_gives σ o (lt_gi q3.2 (lt_r σ o 33) (0 : Int32).toNatClampNeg) q3.2) (fun q7 => some (q7.1, q7.2))))))))
set_option maxHeartbeats 4000000 in
set_option maxRecDepth 100000 in
theorem jb_X12_moveOf_0 {X : lt_X} {σ : lt_S} (hT : lt_Wt σ) {o : Nat} (h0 : lt_c σ o = 12) {r : Int32 × lt_W} (hF : lt_F X cX12_moveOf RX12 4 (lt_rm 10)) (hE : lt_E X 0 0 σ (some .int) (some (.int r.1)) r.2) : ∀ (x1 : Int32) (x2 : Int32) (x3 : Int32) (w : lt_W), fb_X12_moveOf_0 σ o x1 x2 x3 w = some r → lt_J X 0 0 σ w 0 [(0, .ref (lt_z X + o)), (1, .int x1), (2, .int x2), (3, .int x3)] [] := by
  intro x1 x2 x3 w hf
  unfold fb_X12_moveOf_0 at hf
  refine jr_aload_n hF dX12_moveOf_0 0 rfl rfl ?_
  refine jr_iload_n hF dX12_moveOf_1 1 rfl rfl ?_
  refine jr_iload_n hF dX12_moveOf_2 2 rfl rfl ?_
  obtain ⟨q1, hq1, hf⟩ := Option.bind_eq_some_iff.mp hf
  refine jr_cV21 hF ml_X12_317 (c_X12_areTwo hT h0 hq1) h0 ⟨Nat.le_of_ble_eq_true rfl, Nat.le_of_ble_eq_true rfl⟩ (Nat.le_of_ble_eq_true rfl) dX12_moveOf_3 ?_
  refine jr_if_eq (tgt := 21) hF dX12_moveOf_6 rfl hf (fun hf => ?_) (fun hf => ?_)
  · refine jr_sub [0] rfl ?_
    exact jb_X12_moveOf_21 hT h0 hF hE _ hf
  · refine jr_iload_n hF dX12_moveOf_9 3 rfl rfl ?_
    refine jr_i2l hF dX12_moveOf_10 ?_
    refine jr_lconst (v := 1) hF dX12_moveOf_11 rfl ?_
    refine jr_ldc2 (v := 3) hF dX12_moveOf_12 kc_X12_392 ?_
    obtain ⟨q2, hq2, hf⟩ := Option.bind_eq_some_iff.mp hf
    refine jr_cS31 hF ml_X12_307 (c_X12_isFrom hq2) ⟨Nat.le_of_ble_eq_true rfl, Nat.le_of_ble_eq_true rfl⟩ (Nat.le_of_ble_eq_true rfl) dX12_moveOf_15 ?_
    refine jr_if_ne (tgt := 27) hF dX12_moveOf_18 rfl hf (fun hf => ?_) (fun hf => ?_)
    · refine jr_aload_n hF dX12_moveOf_27 0 rfl rfl ?_
      refine jr_iload_n hF dX12_moveOf_28 1 rfl rfl ?_
      refine jr_iload_n hF dX12_moveOf_29 2 rfl rfl ?_
      refine jr_iload_n hF dX12_moveOf_30 3 rfl rfl ?_
      obtain ⟨q3, hq3, hf⟩ := Option.bind_eq_some_iff.mp hf
      refine jr_cV31 hF ml_X12_394 (c_X12_playing hT h0 hq3) h0 ⟨Nat.le_of_ble_eq_true rfl, Nat.le_of_ble_eq_true rfl⟩ (Nat.le_of_ble_eq_true rfl) dX12_moveOf_31 ?_
      refine jr_pop hF dX12_moveOf_34 rfl ?_
      refine jr_aload_n hF dX12_moveOf_35 0 rfl rfl ?_
      refine jr_getRT (cr := 50) hF gf_X12_75 hT h0 rfl rfl dX12_moveOf_36 (fun th4 => ?_)
      refine jr_iconst (v := 0) hF dX12_moveOf_39 rfl ?_
      refine jr_iaload hF th4 dX12_moveOf_40 hf (fun hf => ?_)
      refine jr_aload_n hF dX12_moveOf_41 0 rfl rfl ?_
      refine jr_getRT (cr := 50) hF gf_X12_7 hT h0 rfl rfl dX12_moveOf_42 (fun th5 => ?_)
      refine jr_iconst (v := 0) hF dX12_moveOf_45 rfl ?_
      refine jr_iaload hF th5 dX12_moveOf_46 hf (fun hf => ?_)
      refine jr_icmp_ne (tgt := 59) hF dX12_moveOf_47 rfl hf (fun hf => ?_) (fun hf => ?_)
      · refine jr_aload_n hF dX12_moveOf_59 0 rfl rfl ?_
        refine jr_aload_n hF dX12_moveOf_60 0 rfl rfl ?_
        refine jr_getRT (cr := 50) hF gf_X12_75 hT h0 rfl rfl dX12_moveOf_61 (fun th6 => ?_)
        refine jr_iconst (v := 0) hF dX12_moveOf_64 rfl ?_
        refine jr_iaload hF th6 dX12_moveOf_65 hf (fun hf => ?_)
        obtain ⟨q7, hq7, hf⟩ := Option.bind_eq_some_iff.mp hf
        refine jr_cV11 hF ml_X12_101 (c_X12_gives h0 hq7) h0 ⟨Nat.le_of_ble_eq_true rfl, Nat.le_of_ble_eq_true rfl⟩ (Nat.le_of_ble_eq_true rfl) dX12_moveOf_66 ?_
        obtain rfl := Option.some.inj hf
        exact jr_ireturn hF hE dX12_moveOf_69
      · refine jr_aload_n hF dX12_moveOf_50 0 rfl rfl ?_
        refine jr_bipush (v := 6) hF dX12_moveOf_51 rfl ?_
        obtain ⟨q8, hq8, hf⟩ := Option.bind_eq_some_iff.mp hf
        refine jr_cV11 hF ml_X12_97 (c_X12_refuse h0 hq8) h0 ⟨Nat.le_of_ble_eq_true rfl, Nat.le_of_ble_eq_true rfl⟩ (Nat.le_of_ble_eq_true rfl) dX12_moveOf_53 ?_
        refine jr_goto (tgt := 69) hF dX12_moveOf_56 rfl ?_
        obtain rfl := Option.some.inj hf
        exact jr_ireturn hF hE dX12_moveOf_69
    · refine jr_sub [0] rfl ?_
      exact jb_X12_moveOf_21 hT h0 hF hE _ hf
def f_X12_moveOf (σ : lt_S) (o : Nat) (x1 : Int32) (x2 : Int32) (x3 : Int32) (w : lt_W) : Option (Int32 × lt_W) := fb_X12_moveOf_0 σ o x1 x2 x3 w
set_option maxRecDepth 100000 in
theorem c_X12_moveOf {l : Launch} {D : va_G} {gA : Nat → ClassId} {s0 : State} {σ : lt_S} (hT : lt_Wt σ) {o : Nat} (h0 : lt_c σ o = 12) {x1 : Int32} {x2 : Int32} {x3 : Int32} {w : lt_W} {r : Int32 × lt_W} (hf : f_X12_moveOf σ o x1 x2 x3 w = some r) : lt_C l D gA s0 yX12_moveOf cX12_moveOf 4 (some .int) (lt_rm 10) [.ref (s0.heap.size + o), .int x1, .int x2, .int x3] σ w σ (some (.int r.1)) r.2 := by
  refine lt_enter rfl (Nat.le_of_ble_eq_true rfl) (fun X e1 e2 e3 e4 hF hE => ?_)
  subst e1 e2 e3 e4
  exact jb_X12_moveOf_0 hT h0 hF hE _ _ _ _ hf

set_option maxRecDepth 100000 in
def fb_X12_next_0 (σ : lt_S) (o : Nat) (w : lt_W) : Option (Int32 × lt_W) := Option.bind (f_X12_nextCut σ o w) (fun q1 => if q1.1 = (-1) then Option.bind (f_X12_refuse σ o 6 q1.2) (fun q3 => some (q3.1, q3.2)) else Option.bind (f_X12_gives σ o (q1.1 / 10) q1.2) (fun q2 => some (q2.1, q2.2)))
set_option maxHeartbeats 4000000 in
set_option maxRecDepth 100000 in
theorem jb_X12_next_0 {X : lt_X} {σ : lt_S} (hT : lt_Wt σ) {o : Nat} (h0 : lt_c σ o = 12) {r : Int32 × lt_W} (hF : lt_F X cX12_next RX12 2 (lt_rm 8)) (hE : lt_E X 0 0 σ (some .int) (some (.int r.1)) r.2) : ∀ (w : lt_W), fb_X12_next_0 σ o w = some r → lt_J X 0 0 σ w 0 [(0, .ref (lt_z X + o))] [] := by
  intro w hf
  unfold fb_X12_next_0 at hf
  refine jr_aload_n hF dX12_next_0 0 rfl rfl ?_
  obtain ⟨q1, hq1, hf⟩ := Option.bind_eq_some_iff.mp hf
  refine jr_cV01 hF ml_X12_340 (c_X12_nextCut hT h0 hq1) h0 ⟨Nat.le_of_ble_eq_true rfl, Nat.le_of_ble_eq_true rfl⟩ (Nat.le_of_ble_eq_true rfl) dX12_next_1 ?_
  refine jr_istore_n (lv' := [(0, .ref (lt_z X + o)), (1, .int q1.1)]) hF dX12_next_4 rfl (by decide) [1, 0] rfl ?_
  refine jr_iload_n hF dX12_next_5 1 rfl rfl ?_
  refine jr_iconst (v := (-1)) hF dX12_next_6 rfl ?_
  refine jr_icmp_ne (tgt := 19) hF dX12_next_7 rfl hf (fun hf => ?_) (fun hf => ?_)
  · refine jr_aload_n hF dX12_next_19 0 rfl rfl ?_
    refine jr_iload_n hF dX12_next_20 1 rfl rfl ?_
    refine jr_bipush (v := 10) hF dX12_next_21 rfl ?_
    refine jr_idivc hF dX12_next_23 (by decide) ?_
    obtain ⟨q2, hq2, hf⟩ := Option.bind_eq_some_iff.mp hf
    refine jr_cV11 hF ml_X12_101 (c_X12_gives h0 hq2) h0 ⟨Nat.le_of_ble_eq_true rfl, Nat.le_of_ble_eq_true rfl⟩ (Nat.le_of_ble_eq_true rfl) dX12_next_24 ?_
    obtain rfl := Option.some.inj hf
    exact jr_ireturn hF hE dX12_next_27
  · refine jr_aload_n hF dX12_next_10 0 rfl rfl ?_
    refine jr_bipush (v := 6) hF dX12_next_11 rfl ?_
    obtain ⟨q3, hq3, hf⟩ := Option.bind_eq_some_iff.mp hf
    refine jr_cV11 hF ml_X12_97 (c_X12_refuse h0 hq3) h0 ⟨Nat.le_of_ble_eq_true rfl, Nat.le_of_ble_eq_true rfl⟩ (Nat.le_of_ble_eq_true rfl) dX12_next_13 ?_
    refine jr_goto (tgt := 27) hF dX12_next_16 rfl ?_
    obtain rfl := Option.some.inj hf
    exact jr_ireturn hF hE dX12_next_27
def f_X12_next (σ : lt_S) (o : Nat) (w : lt_W) : Option (Int32 × lt_W) := fb_X12_next_0 σ o w
set_option maxRecDepth 100000 in
theorem c_X12_next {l : Launch} {D : va_G} {gA : Nat → ClassId} {s0 : State} {σ : lt_S} (hT : lt_Wt σ) {o : Nat} (h0 : lt_c σ o = 12) {w : lt_W} {r : Int32 × lt_W} (hf : f_X12_next σ o w = some r) : lt_C l D gA s0 yX12_next cX12_next 2 (some .int) (lt_rm 8) [.ref (s0.heap.size + o)] σ w σ (some (.int r.1)) r.2 := by
  refine lt_enter rfl (Nat.le_of_ble_eq_true rfl) (fun X e1 e2 e3 e4 hF hE => ?_)
  subst e1 e2 e3 e4
  exact jb_X12_next_0 hT h0 hF hE _ hf

set_option maxRecDepth 100000 in
def fb_X12_nextBy_0 (σ : lt_S) (o : Nat) (w : lt_W) : Option (Int32 × lt_W) := Option.bind (f_X12_nextCut σ o w) (fun q1 => if q1.1 = (-1) then Option.bind (f_X12_refuse σ o 6 q1.2) (fun q3 => some (q3.1, q3.2)) else Option.bind (f_X12_gives σ o (q1.1 - q1.1 / 10 * 10) q1.2) (fun q2 => some (q2.1, q2.2)))
set_option maxHeartbeats 4000000 in
set_option maxRecDepth 100000 in
theorem jb_X12_nextBy_0 {X : lt_X} {σ : lt_S} (hT : lt_Wt σ) {o : Nat} (h0 : lt_c σ o = 12) {r : Int32 × lt_W} (hF : lt_F X cX12_nextBy RX12 2 (lt_rm 8)) (hE : lt_E X 0 0 σ (some .int) (some (.int r.1)) r.2) : ∀ (w : lt_W), fb_X12_nextBy_0 σ o w = some r → lt_J X 0 0 σ w 0 [(0, .ref (lt_z X + o))] [] := by
  intro w hf
  unfold fb_X12_nextBy_0 at hf
  refine jr_aload_n hF dX12_nextBy_0 0 rfl rfl ?_
  obtain ⟨q1, hq1, hf⟩ := Option.bind_eq_some_iff.mp hf
  refine jr_cV01 hF ml_X12_340 (c_X12_nextCut hT h0 hq1) h0 ⟨Nat.le_of_ble_eq_true rfl, Nat.le_of_ble_eq_true rfl⟩ (Nat.le_of_ble_eq_true rfl) dX12_nextBy_1 ?_
  refine jr_istore_n (lv' := [(0, .ref (lt_z X + o)), (1, .int q1.1)]) hF dX12_nextBy_4 rfl (by decide) [1, 0] rfl ?_
  refine jr_iload_n hF dX12_nextBy_5 1 rfl rfl ?_
  refine jr_iconst (v := (-1)) hF dX12_nextBy_6 rfl ?_
  refine jr_icmp_ne (tgt := 19) hF dX12_nextBy_7 rfl hf (fun hf => ?_) (fun hf => ?_)
  · refine jr_aload_n hF dX12_nextBy_19 0 rfl rfl ?_
    refine jr_iload_n hF dX12_nextBy_20 1 rfl rfl ?_
    refine jr_bipush (v := 10) hF dX12_nextBy_21 rfl ?_
    refine jr_iremc hF dX12_nextBy_23 (by decide) ?_
    obtain ⟨q2, hq2, hf⟩ := Option.bind_eq_some_iff.mp hf
    refine jr_cV11 hF ml_X12_101 (c_X12_gives h0 hq2) h0 ⟨Nat.le_of_ble_eq_true rfl, Nat.le_of_ble_eq_true rfl⟩ (Nat.le_of_ble_eq_true rfl) dX12_nextBy_24 ?_
    obtain rfl := Option.some.inj hf
    exact jr_ireturn hF hE dX12_nextBy_27
  · refine jr_aload_n hF dX12_nextBy_10 0 rfl rfl ?_
    refine jr_bipush (v := 6) hF dX12_nextBy_11 rfl ?_
    obtain ⟨q3, hq3, hf⟩ := Option.bind_eq_some_iff.mp hf
    refine jr_cV11 hF ml_X12_97 (c_X12_refuse h0 hq3) h0 ⟨Nat.le_of_ble_eq_true rfl, Nat.le_of_ble_eq_true rfl⟩ (Nat.le_of_ble_eq_true rfl) dX12_nextBy_13 ?_
    refine jr_goto (tgt := 27) hF dX12_nextBy_16 rfl ?_
    obtain rfl := Option.some.inj hf
    exact jr_ireturn hF hE dX12_nextBy_27
def f_X12_nextBy (σ : lt_S) (o : Nat) (w : lt_W) : Option (Int32 × lt_W) := fb_X12_nextBy_0 σ o w
set_option maxRecDepth 100000 in
theorem c_X12_nextBy {l : Launch} {D : va_G} {gA : Nat → ClassId} {s0 : State} {σ : lt_S} (hT : lt_Wt σ) {o : Nat} (h0 : lt_c σ o = 12) {w : lt_W} {r : Int32 × lt_W} (hf : f_X12_nextBy σ o w = some r) : lt_C l D gA s0 yX12_nextBy cX12_nextBy 2 (some .int) (lt_rm 8) [.ref (s0.heap.size + o)] σ w σ (some (.int r.1)) r.2 := by
  refine lt_enter rfl (Nat.le_of_ble_eq_true rfl) (fun X e1 e2 e3 e4 hF hE => ?_)
  subst e1 e2 e3 e4
  exact jb_X12_nextBy_0 hT h0 hF hE _ hf

set_option maxRecDepth 100000 in
def fb_X12_plain_2 (σ : lt_S) (o : Nat) : Nat → Int32 → Int32 → lt_W → Option lt_W
  | 0, _, _, _ => none
  | n + 1, x1, x2, w => if 428 ≤ x2 then lt_ck (x1 + 1) (lt_len σ (lt_r σ o 0)) (lt_let (lt_si w (lt_r σ o 0) (x1 + 1).toNatClampNeg 4) (fun w2 => lt_ck (x1 + 2) (lt_len σ (lt_r σ o 0)) (lt_let (lt_si w2 (lt_r σ o 0) (x1 + 2).toNatClampNeg 5) (fun w4 => lt_ck (x1 + 3) (lt_len σ (lt_r σ o 0)) (lt_let (lt_si w4 (lt_r σ o 0) (x1 + 3).toNatClampNeg 2) (fun w6 => lt_ck (x1 + 4) (lt_len σ (lt_r σ o 0)) (lt_let (lt_si w6 (lt_r σ o 0) (x1 + 4).toNatClampNeg 8) (fun w8 => lt_ck (x1 + 8) (lt_len σ (lt_r σ o 0)) (lt_let (lt_si w8 (lt_r σ o 0) (x1 + 8).toNatClampNeg (-1)) (fun w10 => some w10)))))))))) else lt_ck (x1 + x2) (lt_len σ (lt_r σ o 0)) (lt_let (lt_si w (lt_r σ o 0) (x1 + x2).toNatClampNeg 0) (fun w12 => fb_X12_plain_2 σ o n x1 (x2 + 1) w12))
set_option maxHeartbeats 4000000 in
set_option maxRecDepth 100000 in
theorem jb_X12_plain_2 {X : lt_X} {σ : lt_S} (hT : lt_Wt σ) {o : Nat} (h0 : lt_c σ o = 12) {r : lt_W} (hF : lt_F X cX12_plain RX12 3 (lt_rm 1)) (hE : lt_E X 0 0 σ none none r) (n : Nat) : ∀ (x1 : Int32) (x2 : Int32) (w : lt_W), fb_X12_plain_2 σ o n x1 x2 w = some r → lt_J X 0 0 σ w 2 [(0, .ref (lt_z X + o)), (1, .int x1), (2, .int x2)] [] := by
  induction n with
  | zero => intro x1 x2 w hf; rw [fb_X12_plain_2] at hf; cases hf
  | succ n ih =>
    intro x1 x2 w hf
    rw [fb_X12_plain_2] at hf
    refine jr_iload_n hF dX12_plain_2 2 rfl rfl ?_
    refine jr_sipush (v := 428) hF dX12_plain_3 rfl ?_
    refine jr_icmp_ge (tgt := 24) hF dX12_plain_6 rfl hf (fun hf => ?_) (fun hf => ?_)
    · refine jr_aload_n hF dX12_plain_24 0 rfl rfl ?_
      refine jr_getRT (cr := 50) hF gf_X12_7 hT h0 rfl rfl dX12_plain_25 (fun th1 => ?_)
      refine jr_iload_n hF dX12_plain_28 1 rfl rfl ?_
      refine jr_iconst (v := 1) hF dX12_plain_29 rfl ?_
      refine jr_iadd hF dX12_plain_30 ?_
      refine jr_iconst (v := 4) hF dX12_plain_31 rfl ?_
      refine jr_iastore hF th1 dX12_plain_32 hf (fun hf => ?_)
      refine jr_letW hf (fun w2 hf => ?_)
      refine jr_aload_n hF dX12_plain_33 0 rfl rfl ?_
      refine jr_getRT (cr := 50) hF gf_X12_7 hT h0 rfl rfl dX12_plain_34 (fun th3 => ?_)
      refine jr_iload_n hF dX12_plain_37 1 rfl rfl ?_
      refine jr_iconst (v := 2) hF dX12_plain_38 rfl ?_
      refine jr_iadd hF dX12_plain_39 ?_
      refine jr_iconst (v := 5) hF dX12_plain_40 rfl ?_
      refine jr_iastore hF th3 dX12_plain_41 hf (fun hf => ?_)
      refine jr_letW hf (fun w4 hf => ?_)
      refine jr_aload_n hF dX12_plain_42 0 rfl rfl ?_
      refine jr_getRT (cr := 50) hF gf_X12_7 hT h0 rfl rfl dX12_plain_43 (fun th5 => ?_)
      refine jr_iload_n hF dX12_plain_46 1 rfl rfl ?_
      refine jr_iconst (v := 3) hF dX12_plain_47 rfl ?_
      refine jr_iadd hF dX12_plain_48 ?_
      refine jr_iconst (v := 2) hF dX12_plain_49 rfl ?_
      refine jr_iastore hF th5 dX12_plain_50 hf (fun hf => ?_)
      refine jr_letW hf (fun w6 hf => ?_)
      refine jr_aload_n hF dX12_plain_51 0 rfl rfl ?_
      refine jr_getRT (cr := 50) hF gf_X12_7 hT h0 rfl rfl dX12_plain_52 (fun th7 => ?_)
      refine jr_iload_n hF dX12_plain_55 1 rfl rfl ?_
      refine jr_iconst (v := 4) hF dX12_plain_56 rfl ?_
      refine jr_iadd hF dX12_plain_57 ?_
      refine jr_bipush (v := 8) hF dX12_plain_58 rfl ?_
      refine jr_iastore hF th7 dX12_plain_60 hf (fun hf => ?_)
      refine jr_letW hf (fun w8 hf => ?_)
      refine jr_aload_n hF dX12_plain_61 0 rfl rfl ?_
      refine jr_getRT (cr := 50) hF gf_X12_7 hT h0 rfl rfl dX12_plain_62 (fun th9 => ?_)
      refine jr_iload_n hF dX12_plain_65 1 rfl rfl ?_
      refine jr_bipush (v := 8) hF dX12_plain_66 rfl ?_
      refine jr_iadd hF dX12_plain_68 ?_
      refine jr_iconst (v := (-1)) hF dX12_plain_69 rfl ?_
      refine jr_iastore hF th9 dX12_plain_70 hf (fun hf => ?_)
      refine jr_letW hf (fun w10 hf => ?_)
      obtain rfl := Option.some.inj hf
      exact jr_return hF hE dX12_plain_71
    · refine jr_aload_n hF dX12_plain_9 0 rfl rfl ?_
      refine jr_getRT (cr := 50) hF gf_X12_7 hT h0 rfl rfl dX12_plain_10 (fun th11 => ?_)
      refine jr_iload_n hF dX12_plain_13 1 rfl rfl ?_
      refine jr_iload_n hF dX12_plain_14 2 rfl rfl ?_
      refine jr_iadd hF dX12_plain_15 ?_
      refine jr_iconst (v := 0) hF dX12_plain_16 rfl ?_
      refine jr_iastore hF th11 dX12_plain_17 hf (fun hf => ?_)
      refine jr_letW hf (fun w12 hf => ?_)
      refine jr_iinc (v := x2 + 1) (lv' := [(0, .ref (lt_z X + o)), (1, .int x1), (2, .int (x2 + 1))]) hF dX12_plain_18 2 rfl rfl (by decide) [1, 2, 0] rfl ?_
      refine jr_goto (tgt := 2) hF dX12_plain_21 rfl ?_
      exact ih _ _ _ hf
set_option maxRecDepth 100000 in
def fb_X12_plain_0 (σ : lt_S) (o : Nat) (x1 : Int32) (w : lt_W) : Option lt_W := fb_X12_plain_2 σ o lt_fu x1 0 w
set_option maxHeartbeats 4000000 in
set_option maxRecDepth 100000 in
theorem jb_X12_plain_0 {X : lt_X} {σ : lt_S} (hT : lt_Wt σ) {o : Nat} (h0 : lt_c σ o = 12) {r : lt_W} (hF : lt_F X cX12_plain RX12 3 (lt_rm 1)) (hE : lt_E X 0 0 σ none none r) : ∀ (x1 : Int32) (w : lt_W), fb_X12_plain_0 σ o x1 w = some r → lt_J X 0 0 σ w 0 [(0, .ref (lt_z X + o)), (1, .int x1)] [] := by
  intro x1 w hf
  unfold fb_X12_plain_0 at hf
  refine jr_iconst (v := 0) hF dX12_plain_0 rfl ?_
  refine jr_istore_n (lv' := [(0, .ref (lt_z X + o)), (1, .int x1), (2, .int 0)]) hF dX12_plain_1 rfl (by decide) [1, 2, 0] rfl ?_
  exact jb_X12_plain_2 hT h0 hF hE lt_fu _ _ _ hf
def f_X12_plain (σ : lt_S) (o : Nat) (x1 : Int32) (w : lt_W) : Option lt_W := fb_X12_plain_0 σ o x1 w
set_option maxRecDepth 100000 in
theorem c_X12_plain {l : Launch} {D : va_G} {gA : Nat → ClassId} {s0 : State} {σ : lt_S} (hT : lt_Wt σ) {o : Nat} (h0 : lt_c σ o = 12) {x1 : Int32} {w : lt_W} {r : lt_W} (hf : f_X12_plain σ o x1 w = some r) : lt_C l D gA s0 yX12_plain cX12_plain 3 none (lt_rm 1) [.ref (s0.heap.size + o), .int x1] σ w σ none r := by
  refine lt_enter rfl (Nat.le_of_ble_eq_true rfl) (fun X e1 e2 e3 e4 hF hE => ?_)
  subst e1 e2 e3 e4
  exact jb_X12_plain_0 hT h0 hF hE _ _ hf

set_option maxRecDepth 100000 in
def fb_X12_plan_0 (σ : lt_S) (o : Nat) (x1 : Int32) (w : lt_W) : Option (Int32 × lt_W) := Option.bind (f_X12_isFrom x1.toInt64 1 5) (fun q1 => if q1 = 0 then Option.bind (f_X12_refuse σ o 1 w) (fun q4 => some (q4.1, q4.2)) else Option.bind (f_X12_laysPlan σ o x1 w) (fun q2 => Option.bind (f_X12_orNone σ o q2.1 q2.2) (fun q3 => some (q3.1, q3.2))))
set_option maxHeartbeats 4000000 in
set_option maxRecDepth 100000 in
theorem jb_X12_plan_0 {X : lt_X} {σ : lt_S} (hT : lt_Wt σ) {o : Nat} (h0 : lt_c σ o = 12) {r : Int32 × lt_W} (hF : lt_F X cX12_plan RX12 2 (lt_rm 7)) (hE : lt_E X 0 0 σ (some .int) (some (.int r.1)) r.2) : ∀ (x1 : Int32) (w : lt_W), fb_X12_plan_0 σ o x1 w = some r → lt_J X 0 0 σ w 0 [(0, .ref (lt_z X + o)), (1, .int x1)] [] := by
  intro x1 w hf
  unfold fb_X12_plan_0 at hf
  refine jr_iload_n hF dX12_plan_0 1 rfl rfl ?_
  refine jr_i2l hF dX12_plan_1 ?_
  refine jr_lconst (v := 1) hF dX12_plan_2 rfl ?_
  refine jr_ldc2 (v := 5) hF dX12_plan_3 kc_X12_346 ?_
  obtain ⟨q1, hq1, hf⟩ := Option.bind_eq_some_iff.mp hf
  refine jr_cS31 hF ml_X12_307 (c_X12_isFrom hq1) ⟨Nat.le_of_ble_eq_true rfl, Nat.le_of_ble_eq_true rfl⟩ (Nat.le_of_ble_eq_true rfl) dX12_plan_6 ?_
  refine jr_if_ne (tgt := 18) hF dX12_plan_9 rfl hf (fun hf => ?_) (fun hf => ?_)
  · refine jr_aload_n hF dX12_plan_18 0 rfl rfl ?_
    refine jr_aload_n hF dX12_plan_19 0 rfl rfl ?_
    refine jr_iload_n hF dX12_plan_20 1 rfl rfl ?_
    obtain ⟨q2, hq2, hf⟩ := Option.bind_eq_some_iff.mp hf
    refine jr_cV11 hF ml_X12_348 (c_X12_laysPlan hT h0 hq2) h0 ⟨Nat.le_of_ble_eq_true rfl, Nat.le_of_ble_eq_true rfl⟩ (Nat.le_of_ble_eq_true rfl) dX12_plan_21 ?_
    obtain ⟨q3, hq3, hf⟩ := Option.bind_eq_some_iff.mp hf
    refine jr_cV11 hF ml_X12_284 (c_X12_orNone h0 hq3) h0 ⟨Nat.le_of_ble_eq_true rfl, Nat.le_of_ble_eq_true rfl⟩ (Nat.le_of_ble_eq_true rfl) dX12_plan_24 ?_
    obtain rfl := Option.some.inj hf
    exact jr_ireturn hF hE dX12_plan_27
  · refine jr_aload_n hF dX12_plan_12 0 rfl rfl ?_
    refine jr_iconst (v := 1) hF dX12_plan_13 rfl ?_
    obtain ⟨q4, hq4, hf⟩ := Option.bind_eq_some_iff.mp hf
    refine jr_cV11 hF ml_X12_97 (c_X12_refuse h0 hq4) h0 ⟨Nat.le_of_ble_eq_true rfl, Nat.le_of_ble_eq_true rfl⟩ (Nat.le_of_ble_eq_true rfl) dX12_plan_14 ?_
    obtain rfl := Option.some.inj hf
    exact jr_ireturn hF hE dX12_plan_17
def f_X12_plan (σ : lt_S) (o : Nat) (x1 : Int32) (w : lt_W) : Option (Int32 × lt_W) := fb_X12_plan_0 σ o x1 w
set_option maxRecDepth 100000 in
theorem c_X12_plan {l : Launch} {D : va_G} {gA : Nat → ClassId} {s0 : State} {σ : lt_S} (hT : lt_Wt σ) {o : Nat} (h0 : lt_c σ o = 12) {x1 : Int32} {w : lt_W} {r : Int32 × lt_W} (hf : f_X12_plan σ o x1 w = some r) : lt_C l D gA s0 yX12_plan cX12_plan 2 (some .int) (lt_rm 7) [.ref (s0.heap.size + o), .int x1] σ w σ (some (.int r.1)) r.2 := by
  refine lt_enter rfl (Nat.le_of_ble_eq_true rfl) (fun X e1 e2 e3 e4 hF hE => ?_)
  subst e1 e2 e3 e4
  exact jb_X12_plan_0 hT h0 hF hE _ _ hf

set_option maxRecDepth 100000 in
def fb_X12_planAt_21 (σ : lt_S) (o : Nat) (w : lt_W) : Option (Int32 × lt_W) := Option.bind (f_X12_refuse σ o 1 w) (fun q1 => some (q1.1, q1.2))
set_option maxHeartbeats 4000000 in
set_option maxRecDepth 100000 in
theorem jb_X12_planAt_21 {X : lt_X} {σ : lt_S} (hT : lt_Wt σ) {o : Nat} (h0 : lt_c σ o = 12) {r : Int32 × lt_W} (hF : lt_F X cX12_planAt RX12 3 (lt_rm 7)) (hE : lt_E X 0 0 σ (some .int) (some (.int r.1)) r.2) : ∀ (w : lt_W), fb_X12_planAt_21 σ o w = some r → lt_J X 0 0 σ w 21 [(0, .ref (lt_z X + o))] [] := by
  intro w hf
  unfold fb_X12_planAt_21 at hf
  refine jr_aload_n hF dX12_planAt_21 0 rfl rfl ?_
  refine jr_iconst (v := 1) hF dX12_planAt_22 rfl ?_
  obtain ⟨q1, hq1, hf⟩ := Option.bind_eq_some_iff.mp hf
  refine jr_cV11 hF ml_X12_97 (c_X12_refuse h0 hq1) h0 ⟨Nat.le_of_ble_eq_true rfl, Nat.le_of_ble_eq_true rfl⟩ (Nat.le_of_ble_eq_true rfl) dX12_planAt_23 ?_
  obtain rfl := Option.some.inj hf
  exact jr_ireturn hF hE dX12_planAt_26
set_option maxRecDepth 100000 in
def fb_X12_planAt_69 (σ : lt_S) (o : Nat) (y1 : Int32) (w : lt_W) : Option (Int32 × lt_W) := Option.bind (f_X12_gives σ o y1 w) (fun q1 => some (q1.1, q1.2))
set_option maxHeartbeats 4000000 in
set_option maxRecDepth 100000 in
theorem jb_X12_planAt_69 {X : lt_X} {σ : lt_S} (hT : lt_Wt σ) {o : Nat} (h0 : lt_c σ o = 12) {r : Int32 × lt_W} (hF : lt_F X cX12_planAt RX12 3 (lt_rm 7)) (hE : lt_E X 0 0 σ (some .int) (some (.int r.1)) r.2) : ∀ (y1 : Int32) (w : lt_W), fb_X12_planAt_69 σ o y1 w = some r → lt_J X 0 0 σ w 69 [(0, .ref (lt_z X + o))] [.int y1, .ref (lt_z X + o)] := by
  intro y1 w hf
  unfold fb_X12_planAt_69 at hf
  obtain ⟨q1, hq1, hf⟩ := Option.bind_eq_some_iff.mp hf
  refine jr_cV11 hF ml_X12_101 (c_X12_gives h0 hq1) h0 ⟨Nat.le_of_ble_eq_true rfl, Nat.le_of_ble_eq_true rfl⟩ (Nat.le_of_ble_eq_true rfl) dX12_planAt_69 ?_
  obtain rfl := Option.some.inj hf
  exact jr_ireturn hF hE dX12_planAt_72
set_option maxRecDepth 100000 in
def fb_X12_planAt_0 (σ : lt_S) (o : Nat) (x1 : Int32) (x2 : Int32) (w : lt_W) : Option (Int32 × lt_W) := Option.bind (f_X12_isFrom x1.toInt64 1 5) (fun q1 => if q1 = 0 then fb_X12_planAt_21 σ o w else if x2 < 0 then fb_X12_planAt_21 σ o w else if x2 < x1 then Option.bind (f_X12_laysPlan σ o x1 w) (fun q2 => if q2.1 = (-1) then Option.bind (f_X12_refuse σ o 6 q2.2) (fun q6 => some (q6.1, q6.2)) else lt_ck x2 (lt_len σ (lt_r σ o 26)) (if (lt_gi q2.2 (lt_r σ o 26) x2.toNatClampNeg) = (-1) then lt_ck 0 (lt_len σ (lt_r σ o 0)) (fb_X12_planAt_69 σ o (lt_gi q2.2 (lt_r σ o 0) (0 : Int32).toNatClampNeg) q2.2) else lt_ck x2 (lt_len σ (lt_r σ o 26)) (fb_X12_planAt_69 σ o (lt_gi q2.2 (lt_r σ o 26) x2.toNatClampNeg) q2.2))) else fb_X12_planAt_21 σ o w)
set_option maxHeartbeats 4000000 in
set_option maxRecDepth 100000 in
theorem jb_X12_planAt_0 {X : lt_X} {σ : lt_S} (hT : lt_Wt σ) {o : Nat} (h0 : lt_c σ o = 12) {r : Int32 × lt_W} (hF : lt_F X cX12_planAt RX12 3 (lt_rm 7)) (hE : lt_E X 0 0 σ (some .int) (some (.int r.1)) r.2) : ∀ (x1 : Int32) (x2 : Int32) (w : lt_W), fb_X12_planAt_0 σ o x1 x2 w = some r → lt_J X 0 0 σ w 0 [(0, .ref (lt_z X + o)), (1, .int x1), (2, .int x2)] [] := by
  intro x1 x2 w hf
  unfold fb_X12_planAt_0 at hf
  refine jr_iload_n hF dX12_planAt_0 1 rfl rfl ?_
  refine jr_i2l hF dX12_planAt_1 ?_
  refine jr_lconst (v := 1) hF dX12_planAt_2 rfl ?_
  refine jr_ldc2 (v := 5) hF dX12_planAt_3 kc_X12_346 ?_
  obtain ⟨q1, hq1, hf⟩ := Option.bind_eq_some_iff.mp hf
  refine jr_cS31 hF ml_X12_307 (c_X12_isFrom hq1) ⟨Nat.le_of_ble_eq_true rfl, Nat.le_of_ble_eq_true rfl⟩ (Nat.le_of_ble_eq_true rfl) dX12_planAt_6 ?_
  refine jr_if_eq (tgt := 21) hF dX12_planAt_9 rfl hf (fun hf => ?_) (fun hf => ?_)
  · refine jr_sub [0] rfl ?_
    exact jb_X12_planAt_21 hT h0 hF hE _ hf
  · refine jr_iload_n hF dX12_planAt_12 2 rfl rfl ?_
    refine jr_if_lt (tgt := 21) hF dX12_planAt_13 rfl hf (fun hf => ?_) (fun hf => ?_)
    · refine jr_sub [0] rfl ?_
      exact jb_X12_planAt_21 hT h0 hF hE _ hf
    · refine jr_iload_n hF dX12_planAt_16 2 rfl rfl ?_
      refine jr_iload_n hF dX12_planAt_17 1 rfl rfl ?_
      refine jr_icmp_lt (tgt := 27) hF dX12_planAt_18 rfl hf (fun hf => ?_) (fun hf => ?_)
      · refine jr_aload_n hF dX12_planAt_27 0 rfl rfl ?_
        refine jr_iload_n hF dX12_planAt_28 1 rfl rfl ?_
        obtain ⟨q2, hq2, hf⟩ := Option.bind_eq_some_iff.mp hf
        refine jr_cV11 hF ml_X12_348 (c_X12_laysPlan hT h0 hq2) h0 ⟨Nat.le_of_ble_eq_true rfl, Nat.le_of_ble_eq_true rfl⟩ (Nat.le_of_ble_eq_true rfl) dX12_planAt_29 ?_
        refine jr_iconst (v := (-1)) hF dX12_planAt_32 rfl ?_
        refine jr_icmp_ne (tgt := 43) hF dX12_planAt_33 rfl hf (fun hf => ?_) (fun hf => ?_)
        · refine jr_aload_n hF dX12_planAt_43 0 rfl rfl ?_
          refine jr_aload_n hF dX12_planAt_44 0 rfl rfl ?_
          refine jr_getRT (cr := 50) hF gf_X12_53 hT h0 rfl rfl dX12_planAt_45 (fun th3 => ?_)
          refine jr_iload_n hF dX12_planAt_48 2 rfl rfl ?_
          refine jr_iaload hF th3 dX12_planAt_49 hf (fun hf => ?_)
          refine jr_iconst (v := (-1)) hF dX12_planAt_50 rfl ?_
          refine jr_icmp_ne (tgt := 63) hF dX12_planAt_51 rfl hf (fun hf => ?_) (fun hf => ?_)
          · refine jr_aload_n hF dX12_planAt_63 0 rfl rfl ?_
            refine jr_getRT (cr := 50) hF gf_X12_53 hT h0 rfl rfl dX12_planAt_64 (fun th4 => ?_)
            refine jr_iload_n hF dX12_planAt_67 2 rfl rfl ?_
            refine jr_iaload hF th4 dX12_planAt_68 hf (fun hf => ?_)
            refine jr_sub [0] rfl ?_
            exact jb_X12_planAt_69 hT h0 hF hE _ _ hf
          · refine jr_aload_n hF dX12_planAt_54 0 rfl rfl ?_
            refine jr_getRT (cr := 50) hF gf_X12_7 hT h0 rfl rfl dX12_planAt_55 (fun th5 => ?_)
            refine jr_iconst (v := 0) hF dX12_planAt_58 rfl ?_
            refine jr_iaload hF th5 dX12_planAt_59 hf (fun hf => ?_)
            refine jr_goto (tgt := 69) hF dX12_planAt_60 rfl ?_
            refine jr_sub [0] rfl ?_
            exact jb_X12_planAt_69 hT h0 hF hE _ _ hf
        · refine jr_aload_n hF dX12_planAt_36 0 rfl rfl ?_
          refine jr_bipush (v := 6) hF dX12_planAt_37 rfl ?_
          obtain ⟨q6, hq6, hf⟩ := Option.bind_eq_some_iff.mp hf
          refine jr_cV11 hF ml_X12_97 (c_X12_refuse h0 hq6) h0 ⟨Nat.le_of_ble_eq_true rfl, Nat.le_of_ble_eq_true rfl⟩ (Nat.le_of_ble_eq_true rfl) dX12_planAt_39 ?_
          obtain rfl := Option.some.inj hf
          exact jr_ireturn hF hE dX12_planAt_42
      · refine jr_sub [0] rfl ?_
        exact jb_X12_planAt_21 hT h0 hF hE _ hf
def f_X12_planAt (σ : lt_S) (o : Nat) (x1 : Int32) (x2 : Int32) (w : lt_W) : Option (Int32 × lt_W) := fb_X12_planAt_0 σ o x1 x2 w
set_option maxRecDepth 100000 in
theorem c_X12_planAt {l : Launch} {D : va_G} {gA : Nat → ClassId} {s0 : State} {σ : lt_S} (hT : lt_Wt σ) {o : Nat} (h0 : lt_c σ o = 12) {x1 : Int32} {x2 : Int32} {w : lt_W} {r : Int32 × lt_W} (hf : f_X12_planAt σ o x1 x2 w = some r) : lt_C l D gA s0 yX12_planAt cX12_planAt 3 (some .int) (lt_rm 7) [.ref (s0.heap.size + o), .int x1, .int x2] σ w σ (some (.int r.1)) r.2 := by
  refine lt_enter rfl (Nat.le_of_ble_eq_true rfl) (fun X e1 e2 e3 e4 hF hE => ?_)
  subst e1 e2 e3 e4
  exact jb_X12_planAt_0 hT h0 hF hE _ _ _ hf

set_option maxRecDepth 100000 in
def fb_X12_pour_28 (σ : lt_S) (o : Nat) (w : lt_W) : Option (Int32 × lt_W) := Option.bind (f_X12_is σ o 1 w) (fun q1 => lt_bz q1.1 (some (q1.1, q1.2)))
set_option maxHeartbeats 4000000 in
set_option maxRecDepth 100000 in
theorem jb_X12_pour_28 {X : lt_X} {σ : lt_S} (hT : lt_Wt σ) {o : Nat} (h0 : lt_c σ o = 12) {r : Int32 × lt_W} (hF : lt_F X cX12_pour RX12 8 (lt_rm 2)) (hE : lt_E X 0 0 σ (some .boolean) (some (.int r.1)) r.2) : ∀ (w : lt_W), fb_X12_pour_28 σ o w = some r → lt_J X 0 0 σ w 28 [(0, .ref (lt_z X + o))] [] := by
  intro w hf
  unfold fb_X12_pour_28 at hf
  refine jr_aload_n hF dX12_pour_28 0 rfl rfl ?_
  refine jr_iconst (v := 1) hF dX12_pour_29 rfl ?_
  obtain ⟨q1, hq1, hf⟩ := Option.bind_eq_some_iff.mp hf
  refine jr_cV11 hF ml_X12_104 (c_X12_is h0 hq1) h0 ⟨Nat.le_of_ble_eq_true rfl, Nat.le_of_ble_eq_true rfl⟩ (Nat.le_of_ble_eq_true rfl) dX12_pour_30 ?_
  obtain ⟨b2, hf⟩ := lt_bzE hf
  obtain rfl := Option.some.inj hf
  exact jr_zreturn hF hE b2 dX12_pour_33
set_option maxRecDepth 100000 in
def fb_X12_pour_54 (σ : lt_S) (o : Nat) (w : lt_W) : Option (Int32 × lt_W) := Option.bind (f_X12_is σ o 2 w) (fun q1 => lt_bz q1.1 (some (q1.1, q1.2)))
set_option maxHeartbeats 4000000 in
set_option maxRecDepth 100000 in
theorem jb_X12_pour_54 {X : lt_X} {σ : lt_S} (hT : lt_Wt σ) {o : Nat} (h0 : lt_c σ o = 12) {r : Int32 × lt_W} (hF : lt_F X cX12_pour RX12 8 (lt_rm 2)) (hE : lt_E X 0 0 σ (some .boolean) (some (.int r.1)) r.2) : ∀ (w : lt_W), fb_X12_pour_54 σ o w = some r → lt_J X 0 0 σ w 54 [(0, .ref (lt_z X + o))] [] := by
  intro w hf
  unfold fb_X12_pour_54 at hf
  refine jr_aload_n hF dX12_pour_54 0 rfl rfl ?_
  refine jr_iconst (v := 2) hF dX12_pour_55 rfl ?_
  obtain ⟨q1, hq1, hf⟩ := Option.bind_eq_some_iff.mp hf
  refine jr_cV11 hF ml_X12_104 (c_X12_is h0 hq1) h0 ⟨Nat.le_of_ble_eq_true rfl, Nat.le_of_ble_eq_true rfl⟩ (Nat.le_of_ble_eq_true rfl) dX12_pour_56 ?_
  obtain ⟨b2, hf⟩ := lt_bzE hf
  obtain rfl := Option.some.inj hf
  exact jr_zreturn hF hE b2 dX12_pour_59
set_option maxRecDepth 100000 in
def fb_X12_pour_109 (σ : lt_S) (o : Nat) (w : lt_W) : Option (Int32 × lt_W) := Option.bind (f_X12_is σ o 3 w) (fun q1 => lt_bz q1.1 (some (q1.1, q1.2)))
set_option maxHeartbeats 4000000 in
set_option maxRecDepth 100000 in
theorem jb_X12_pour_109 {X : lt_X} {σ : lt_S} (hT : lt_Wt σ) {o : Nat} (h0 : lt_c σ o = 12) {r : Int32 × lt_W} (hF : lt_F X cX12_pour RX12 8 (lt_rm 2)) (hE : lt_E X 0 0 σ (some .boolean) (some (.int r.1)) r.2) : ∀ (w : lt_W), fb_X12_pour_109 σ o w = some r → lt_J X 0 0 σ w 109 [(0, .ref (lt_z X + o))] [] := by
  intro w hf
  unfold fb_X12_pour_109 at hf
  refine jr_aload_n hF dX12_pour_109 0 rfl rfl ?_
  refine jr_iconst (v := 3) hF dX12_pour_110 rfl ?_
  obtain ⟨q1, hq1, hf⟩ := Option.bind_eq_some_iff.mp hf
  refine jr_cV11 hF ml_X12_104 (c_X12_is h0 hq1) h0 ⟨Nat.le_of_ble_eq_true rfl, Nat.le_of_ble_eq_true rfl⟩ (Nat.le_of_ble_eq_true rfl) dX12_pour_111 ?_
  obtain ⟨b2, hf⟩ := lt_bzE hf
  obtain rfl := Option.some.inj hf
  exact jr_zreturn hF hE b2 dX12_pour_114
set_option maxRecDepth 100000 in
def fb_X12_pour_143 (σ : lt_S) (o : Nat) (k118 : Int32 → Int32 → Int32 → Int32 → Int32 → Int32 → lt_W → Option (Int32 × lt_W)) (x1 : Int32) (x2 : Int32) (x3 : Int32) (x4 : Int32) (x5 : Int32) (x6 : Int32) (y0 : Int32) (w : lt_W) : Option (Int32 × lt_W) := lt_ck (((60 * x1) + x2) + y0) (lt_len σ (lt_r σ o 7)) (lt_ck (((60 * x3) + x4) + y0) (lt_len σ (lt_r σ o 7)) (lt_let (lt_sl w (lt_r σ o 7) (((60 * x3) + x4) + y0).toNatClampNeg (lt_gl w (lt_r σ o 7) (((60 * x1) + x2) + y0).toNatClampNeg)) (fun w3 => k118 x1 x2 x3 x4 x5 (x6 + 1) w3)))
set_option maxHeartbeats 4000000 in
set_option maxRecDepth 100000 in
theorem jb_X12_pour_143 {X : lt_X} {σ : lt_S} (hT : lt_Wt σ) {o : Nat} (h0 : lt_c σ o = 12) {r : Int32 × lt_W} {k118 : Int32 → Int32 → Int32 → Int32 → Int32 → Int32 → lt_W → Option (Int32 × lt_W)} (hF : lt_F X cX12_pour RX12 8 (lt_rm 2)) (hE : lt_E X 0 0 σ (some .boolean) (some (.int r.1)) r.2) (hk118 : ∀ (x1 : Int32) (x2 : Int32) (x3 : Int32) (x4 : Int32) (x5 : Int32) (x6 : Int32) (w : lt_W), k118 x1 x2 x3 x4 x5 x6 w = some r → lt_J X 0 0 σ w 118 [(0, .ref (lt_z X + o)), (1, .int x1), (2, .int x2), (3, .int x3), (4, .int x4), (5, .int x5), (6, .int x6)] []) : ∀ (x1 : Int32) (x2 : Int32) (x3 : Int32) (x4 : Int32) (x5 : Int32) (x6 : Int32) (y0 : Int32) (w : lt_W), fb_X12_pour_143 σ o k118 x1 x2 x3 x4 x5 x6 y0 w = some r → lt_J X 0 0 σ w 143 [(0, .ref (lt_z X + o)), (1, .int x1), (2, .int x2), (3, .int x3), (4, .int x4), (5, .int x5), (6, .int x6)] [.int y0] := by
  intro x1 x2 x3 x4 x5 x6 y0 w hf
  unfold fb_X12_pour_143 at hf
  refine jr_istore (lv' := [(0, .ref (lt_z X + o)), (1, .int x1), (2, .int x2), (3, .int x3), (4, .int x4), (5, .int x5), (6, .int x6), (7, .int y0)]) hF dX12_pour_143 (by decide) [1, 2, 3, 4, 5, 6, 7, 0] rfl ?_
  refine jr_aload_n hF dX12_pour_145 0 rfl rfl ?_
  refine jr_getRT (cr := 51) hF gf_X12_27 hT h0 rfl rfl dX12_pour_146 (fun th1 => ?_)
  refine jr_bipush (v := 60) hF dX12_pour_149 rfl ?_
  refine jr_iload_n hF dX12_pour_151 3 rfl rfl ?_
  refine jr_imul hF dX12_pour_152 ?_
  refine jr_iload hF dX12_pour_153 4 rfl ?_
  refine jr_iadd hF dX12_pour_155 ?_
  refine jr_iload hF dX12_pour_156 7 rfl ?_
  refine jr_iadd hF dX12_pour_158 ?_
  refine jr_aload_n hF dX12_pour_159 0 rfl rfl ?_
  refine jr_getRT (cr := 51) hF gf_X12_27 hT h0 rfl rfl dX12_pour_160 (fun th2 => ?_)
  refine jr_bipush (v := 60) hF dX12_pour_163 rfl ?_
  refine jr_iload_n hF dX12_pour_165 1 rfl rfl ?_
  refine jr_imul hF dX12_pour_166 ?_
  refine jr_iload_n hF dX12_pour_167 2 rfl rfl ?_
  refine jr_iadd hF dX12_pour_168 ?_
  refine jr_iload hF dX12_pour_169 7 rfl ?_
  refine jr_iadd hF dX12_pour_171 ?_
  refine jr_laload hF th2 dX12_pour_172 hf (fun hf => ?_)
  refine jr_lastore hF th1 dX12_pour_173 hf (fun hf => ?_)
  refine jr_letW hf (fun w3 hf => ?_)
  refine jr_iinc (v := x6 + 1) (lv' := [(0, .ref (lt_z X + o)), (1, .int x1), (2, .int x2), (3, .int x3), (4, .int x4), (5, .int x5), (6, .int (x6 + 1)), (7, .int y0)]) hF dX12_pour_174 6 rfl rfl (by decide) [1, 2, 3, 4, 5, 6, 0, 7] rfl ?_
  refine jr_goto (tgt := 118) hF dX12_pour_177 rfl ?_
  refine jr_sub [0, 1, 2, 3, 4, 5, 6] rfl ?_
  exact hk118 _ _ _ _ _ _ _ hf
set_option maxRecDepth 100000 in
def fb_X12_pour_118 (σ : lt_S) (o : Nat) : Nat → Int32 → Int32 → Int32 → Int32 → Int32 → Int32 → lt_W → Option (Int32 × lt_W)
  | 0, _, _, _, _, _, _, _ => none
  | n + 1, x1, x2, x3, x4, x5, x6, w => if x5 ≤ x6 then Option.bind (f_X12_is σ o 0 w) (fun q1 => lt_bz q1.1 (some (q1.1, q1.2))) else if x4 ≤ x2 then fb_X12_pour_143 σ o (fun x1 x2 x3 x4 x5 x6 w => fb_X12_pour_118 σ o n x1 x2 x3 x4 x5 x6 w) x1 x2 x3 x4 x5 x6 x6 w else fb_X12_pour_143 σ o (fun x1 x2 x3 x4 x5 x6 w => fb_X12_pour_118 σ o n x1 x2 x3 x4 x5 x6 w) x1 x2 x3 x4 x5 x6 ((x5 - 1) - x6) w
set_option maxHeartbeats 4000000 in
set_option maxRecDepth 100000 in
theorem jb_X12_pour_118 {X : lt_X} {σ : lt_S} (hT : lt_Wt σ) {o : Nat} (h0 : lt_c σ o = 12) {r : Int32 × lt_W} (hF : lt_F X cX12_pour RX12 8 (lt_rm 2)) (hE : lt_E X 0 0 σ (some .boolean) (some (.int r.1)) r.2) (n : Nat) : ∀ (x1 : Int32) (x2 : Int32) (x3 : Int32) (x4 : Int32) (x5 : Int32) (x6 : Int32) (w : lt_W), fb_X12_pour_118 σ o n x1 x2 x3 x4 x5 x6 w = some r → lt_J X 0 0 σ w 118 [(0, .ref (lt_z X + o)), (1, .int x1), (2, .int x2), (3, .int x3), (4, .int x4), (5, .int x5), (6, .int x6)] [] := by
  induction n with
  | zero => intro x1 x2 x3 x4 x5 x6 w hf; rw [fb_X12_pour_118] at hf; cases hf
  | succ n ih =>
    intro x1 x2 x3 x4 x5 x6 w hf
    rw [fb_X12_pour_118] at hf
    refine jr_iload hF dX12_pour_118 6 rfl ?_
    refine jr_iload hF dX12_pour_120 5 rfl ?_
    refine jr_icmp_ge (tgt := 180) hF dX12_pour_122 rfl hf (fun hf => ?_) (fun hf => ?_)
    · refine jr_aload_n hF dX12_pour_180 0 rfl rfl ?_
      refine jr_iconst (v := 0) hF dX12_pour_181 rfl ?_
      obtain ⟨q1, hq1, hf⟩ := Option.bind_eq_some_iff.mp hf
      refine jr_cV11 hF ml_X12_104 (c_X12_is h0 hq1) h0 ⟨Nat.le_of_ble_eq_true rfl, Nat.le_of_ble_eq_true rfl⟩ (Nat.le_of_ble_eq_true rfl) dX12_pour_182 ?_
      obtain ⟨b2, hf⟩ := lt_bzE hf
      obtain rfl := Option.some.inj hf
      exact jr_zreturn hF hE b2 dX12_pour_185
    · refine jr_iload_n hF dX12_pour_125 2 rfl rfl ?_
      refine jr_iload hF dX12_pour_126 4 rfl ?_
      refine jr_icmp_ge (tgt := 141) hF dX12_pour_128 rfl hf (fun hf => ?_) (fun hf => ?_)
      · refine jr_iload hF dX12_pour_141 6 rfl ?_
        exact jb_X12_pour_143 hT h0 hF hE ih _ _ _ _ _ _ _ _ hf
      · refine jr_iload hF dX12_pour_131 5 rfl ?_
        refine jr_iconst (v := 1) hF dX12_pour_133 rfl ?_
        refine jr_isub hF dX12_pour_134 ?_
        refine jr_iload hF dX12_pour_135 6 rfl ?_
        refine jr_isub hF dX12_pour_137 ?_
        refine jr_goto (tgt := 143) hF dX12_pour_138 rfl ?_
        exact jb_X12_pour_143 hT h0 hF hE ih _ _ _ _ _ _ _ _ hf
set_option maxRecDepth 100000 in
def fb_X12_pour_0 (σ : lt_S) (o : Nat) (x1 : Int32) (x2 : Int32) (x3 : Int32) (x4 : Int32) (x5 : Int32) (w : lt_W) : Option (Int32 × lt_W) := Option.bind (f_X12_isTray x1) (fun q1 => if q1 = 0 then fb_X12_pour_28 σ o w else Option.bind (f_X12_isTray x3) (fun q2 => if q2 = 0 then fb_X12_pour_28 σ o w else if x2 < 0 then fb_X12_pour_28 σ o w else if x4 < 0 then fb_X12_pour_28 σ o w else if 0 ≤ x5 then lt_ck x1 (lt_len σ (lt_r σ o 6)) (if (lt_gi w (lt_r σ o 6) x1.toNatClampNeg) = (-1) then fb_X12_pour_54 σ o w else lt_ck x3 (lt_len σ (lt_r σ o 6)) (if (lt_gi w (lt_r σ o 6) x3.toNatClampNeg) = (-1) then fb_X12_pour_54 σ o w else lt_ck x1 (lt_len σ (lt_r σ o 5)) (lt_ck x3 (lt_len σ (lt_r σ o 5)) (if (lt_gi w (lt_r σ o 5) x1.toNatClampNeg) = (lt_gi w (lt_r σ o 5) x3.toNatClampNeg) then lt_ck x1 (lt_len σ (lt_r σ o 6)) (if ((lt_gi w (lt_r σ o 6) x1.toNatClampNeg) - x2) < x5 then fb_X12_pour_109 σ o w else lt_ck x3 (lt_len σ (lt_r σ o 6)) (if x5 ≤ ((lt_gi w (lt_r σ o 6) x3.toNatClampNeg) - x4) then fb_X12_pour_118 σ o lt_fu x1 x2 x3 x4 x5 0 w else fb_X12_pour_109 σ o w)) else Option.bind (f_X12_is σ o 8 w) (fun q9 => lt_bz q9.1 (some (q9.1, q9.2))))))) else fb_X12_pour_28 σ o w))
set_option maxHeartbeats 4000000 in
set_option maxRecDepth 100000 in
theorem jb_X12_pour_0 {X : lt_X} {σ : lt_S} (hT : lt_Wt σ) {o : Nat} (h0 : lt_c σ o = 12) {r : Int32 × lt_W} (hF : lt_F X cX12_pour RX12 8 (lt_rm 2)) (hE : lt_E X 0 0 σ (some .boolean) (some (.int r.1)) r.2) : ∀ (x1 : Int32) (x2 : Int32) (x3 : Int32) (x4 : Int32) (x5 : Int32) (w : lt_W), fb_X12_pour_0 σ o x1 x2 x3 x4 x5 w = some r → lt_J X 0 0 σ w 0 [(0, .ref (lt_z X + o)), (1, .int x1), (2, .int x2), (3, .int x3), (4, .int x4), (5, .int x5)] [] := by
  intro x1 x2 x3 x4 x5 w hf
  unfold fb_X12_pour_0 at hf
  refine jr_iload_n hF dX12_pour_0 1 rfl rfl ?_
  obtain ⟨q1, hq1, hf⟩ := Option.bind_eq_some_iff.mp hf
  refine jr_cS11 hF ml_X12_108 (c_X12_isTray hq1) ⟨Nat.le_of_ble_eq_true rfl, Nat.le_of_ble_eq_true rfl⟩ (Nat.le_of_ble_eq_true rfl) dX12_pour_1 ?_
  refine jr_if_eq (tgt := 28) hF dX12_pour_4 rfl hf (fun hf => ?_) (fun hf => ?_)
  · refine jr_sub [0] rfl ?_
    exact jb_X12_pour_28 hT h0 hF hE _ hf
  · refine jr_iload_n hF dX12_pour_7 3 rfl rfl ?_
    obtain ⟨q2, hq2, hf⟩ := Option.bind_eq_some_iff.mp hf
    refine jr_cS11 hF ml_X12_108 (c_X12_isTray hq2) ⟨Nat.le_of_ble_eq_true rfl, Nat.le_of_ble_eq_true rfl⟩ (Nat.le_of_ble_eq_true rfl) dX12_pour_8 ?_
    refine jr_if_eq (tgt := 28) hF dX12_pour_11 rfl hf (fun hf => ?_) (fun hf => ?_)
    · refine jr_sub [0] rfl ?_
      exact jb_X12_pour_28 hT h0 hF hE _ hf
    · refine jr_iload_n hF dX12_pour_14 2 rfl rfl ?_
      refine jr_if_lt (tgt := 28) hF dX12_pour_15 rfl hf (fun hf => ?_) (fun hf => ?_)
      · refine jr_sub [0] rfl ?_
        exact jb_X12_pour_28 hT h0 hF hE _ hf
      · refine jr_iload hF dX12_pour_18 4 rfl ?_
        refine jr_if_lt (tgt := 28) hF dX12_pour_20 rfl hf (fun hf => ?_) (fun hf => ?_)
        · refine jr_sub [0] rfl ?_
          exact jb_X12_pour_28 hT h0 hF hE _ hf
        · refine jr_iload hF dX12_pour_23 5 rfl ?_
          refine jr_if_ge (tgt := 34) hF dX12_pour_25 rfl hf (fun hf => ?_) (fun hf => ?_)
          · refine jr_aload_n hF dX12_pour_34 0 rfl rfl ?_
            refine jr_getRT (cr := 50) hF gf_X12_24 hT h0 rfl rfl dX12_pour_35 (fun th3 => ?_)
            refine jr_iload_n hF dX12_pour_38 1 rfl rfl ?_
            refine jr_iaload hF th3 dX12_pour_39 hf (fun hf => ?_)
            refine jr_iconst (v := (-1)) hF dX12_pour_40 rfl ?_
            refine jr_icmp_eq (tgt := 54) hF dX12_pour_41 rfl hf (fun hf => ?_) (fun hf => ?_)
            · refine jr_sub [0] rfl ?_
              exact jb_X12_pour_54 hT h0 hF hE _ hf
            · refine jr_aload_n hF dX12_pour_44 0 rfl rfl ?_
              refine jr_getRT (cr := 50) hF gf_X12_24 hT h0 rfl rfl dX12_pour_45 (fun th4 => ?_)
              refine jr_iload_n hF dX12_pour_48 3 rfl rfl ?_
              refine jr_iaload hF th4 dX12_pour_49 hf (fun hf => ?_)
              refine jr_iconst (v := (-1)) hF dX12_pour_50 rfl ?_
              refine jr_icmp_ne (tgt := 60) hF dX12_pour_51 rfl hf (fun hf => ?_) (fun hf => ?_)
              · refine jr_aload_n hF dX12_pour_60 0 rfl rfl ?_
                refine jr_getRT (cr := 50) hF gf_X12_21 hT h0 rfl rfl dX12_pour_61 (fun th5 => ?_)
                refine jr_iload_n hF dX12_pour_64 1 rfl rfl ?_
                refine jr_iaload hF th5 dX12_pour_65 hf (fun hf => ?_)
                refine jr_aload_n hF dX12_pour_66 0 rfl rfl ?_
                refine jr_getRT (cr := 50) hF gf_X12_21 hT h0 rfl rfl dX12_pour_67 (fun th6 => ?_)
                refine jr_iload_n hF dX12_pour_70 3 rfl rfl ?_
                refine jr_iaload hF th6 dX12_pour_71 hf (fun hf => ?_)
                refine jr_icmp_eq (tgt := 82) hF dX12_pour_72 rfl hf (fun hf => ?_) (fun hf => ?_)
                · refine jr_iload hF dX12_pour_82 5 rfl ?_
                  refine jr_aload_n hF dX12_pour_84 0 rfl rfl ?_
                  refine jr_getRT (cr := 50) hF gf_X12_24 hT h0 rfl rfl dX12_pour_85 (fun th7 => ?_)
                  refine jr_iload_n hF dX12_pour_88 1 rfl rfl ?_
                  refine jr_iaload hF th7 dX12_pour_89 hf (fun hf => ?_)
                  refine jr_iload_n hF dX12_pour_90 2 rfl rfl ?_
                  refine jr_isub hF dX12_pour_91 ?_
                  refine jr_icmp_gt (tgt := 109) hF dX12_pour_92 rfl hf (fun hf => ?_) (fun hf => ?_)
                  · refine jr_sub [0] rfl ?_
                    exact jb_X12_pour_109 hT h0 hF hE _ hf
                  · refine jr_iload hF dX12_pour_95 5 rfl ?_
                    refine jr_aload_n hF dX12_pour_97 0 rfl rfl ?_
                    refine jr_getRT (cr := 50) hF gf_X12_24 hT h0 rfl rfl dX12_pour_98 (fun th8 => ?_)
                    refine jr_iload_n hF dX12_pour_101 3 rfl rfl ?_
                    refine jr_iaload hF th8 dX12_pour_102 hf (fun hf => ?_)
                    refine jr_iload hF dX12_pour_103 4 rfl ?_
                    refine jr_isub hF dX12_pour_105 ?_
                    refine jr_icmp_le (tgt := 115) hF dX12_pour_106 rfl hf (fun hf => ?_) (fun hf => ?_)
                    · refine jr_iconst (v := 0) hF dX12_pour_115 rfl ?_
                      refine jr_istore (lv' := [(0, .ref (lt_z X + o)), (1, .int x1), (2, .int x2), (3, .int x3), (4, .int x4), (5, .int x5), (6, .int 0)]) hF dX12_pour_116 (by decide) [1, 2, 3, 4, 5, 6, 0] rfl ?_
                      exact jb_X12_pour_118 hT h0 hF hE lt_fu _ _ _ _ _ _ _ hf
                    · refine jr_sub [0] rfl ?_
                      exact jb_X12_pour_109 hT h0 hF hE _ hf
                · refine jr_aload_n hF dX12_pour_75 0 rfl rfl ?_
                  refine jr_bipush (v := 8) hF dX12_pour_76 rfl ?_
                  obtain ⟨q9, hq9, hf⟩ := Option.bind_eq_some_iff.mp hf
                  refine jr_cV11 hF ml_X12_104 (c_X12_is h0 hq9) h0 ⟨Nat.le_of_ble_eq_true rfl, Nat.le_of_ble_eq_true rfl⟩ (Nat.le_of_ble_eq_true rfl) dX12_pour_78 ?_
                  obtain ⟨b10, hf⟩ := lt_bzE hf
                  obtain rfl := Option.some.inj hf
                  exact jr_zreturn hF hE b10 dX12_pour_81
              · refine jr_sub [0] rfl ?_
                exact jb_X12_pour_54 hT h0 hF hE _ hf
          · refine jr_sub [0] rfl ?_
            exact jb_X12_pour_28 hT h0 hF hE _ hf
def f_X12_pour (σ : lt_S) (o : Nat) (x1 : Int32) (x2 : Int32) (x3 : Int32) (x4 : Int32) (x5 : Int32) (w : lt_W) : Option (Int32 × lt_W) := fb_X12_pour_0 σ o x1 x2 x3 x4 x5 w
set_option maxRecDepth 100000 in
theorem c_X12_pour {l : Launch} {D : va_G} {gA : Nat → ClassId} {s0 : State} {σ : lt_S} (hT : lt_Wt σ) {o : Nat} (h0 : lt_c σ o = 12) {x1 : Int32} {x2 : Int32} {x3 : Int32} {x4 : Int32} {x5 : Int32} {w : lt_W} {r : Int32 × lt_W} (hf : f_X12_pour σ o x1 x2 x3 x4 x5 w = some r) : lt_C l D gA s0 yX12_pour cX12_pour 8 (some .boolean) (lt_rm 2) [.ref (s0.heap.size + o), .int x1, .int x2, .int x3, .int x4, .int x5] σ w σ (some (.int r.1)) r.2 := by
  refine lt_enter rfl (Nat.le_of_ble_eq_true rfl) (fun X e1 e2 e3 e4 hF hE => ?_)
  subst e1 e2 e3 e4
  exact jb_X12_pour_0 hT h0 hF hE _ _ _ _ _ _ hf
