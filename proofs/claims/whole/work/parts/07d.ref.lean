set_option maxRecDepth 100000 in
def fb_X12_isSign_0 (σ : lt_S) (o : Nat) (w : lt_W) (x1 : Int32) : Option Int32 := if (lt_gi w o 12) = 4 then if (lt_gi w o 15) = x1 then some 1 else some 0 else some 0
set_option maxHeartbeats 4000000 in
set_option maxRecDepth 100000 in
theorem jb_X12_isSign_0 {X : lt_X} {σ : lt_S} {o : Nat} (h0 : lt_c σ o = 12) {r : Int32} {w : lt_W} (hF : lt_F X cX12_isSign RX12 2 (lt_rm 1)) (hE : lt_E X 0 0 σ (some .boolean) (some (.int r)) w) : ∀ (x1 : Int32), fb_X12_isSign_0 σ o w x1 = some r → lt_J X 0 0 σ w 0 [(0, .ref (lt_z X + o)), (1, .int x1)] [] := by
  intro x1 hf
  unfold fb_X12_isSign_0 at hf
  refine jr_aload_n hF dX12_isSign_0 0 rfl rfl ?_
  refine jr_getI hF gf_X12_142 h0 dX12_isSign_1 ?_
  refine jr_iconst (v := 4) hF dX12_isSign_4 rfl ?_
  refine jr_icmp_ne (tgt := 20) hF dX12_isSign_5 rfl hf (fun hf => ?_) (fun hf => ?_)
  · refine jr_iconst (v := 0) hF dX12_isSign_20 rfl ?_
    obtain rfl := Option.some.inj hf
    exact jr_zreturn hF hE (Or.inl rfl) dX12_isSign_21
  · refine jr_aload_n hF dX12_isSign_8 0 rfl rfl ?_
    refine jr_getI hF gf_X12_139 h0 dX12_isSign_9 ?_
    refine jr_iload_n hF dX12_isSign_12 1 rfl rfl ?_
    refine jr_icmp_ne (tgt := 20) hF dX12_isSign_13 rfl hf (fun hf => ?_) (fun hf => ?_)
    · refine jr_iconst (v := 0) hF dX12_isSign_20 rfl ?_
      obtain rfl := Option.some.inj hf
      exact jr_zreturn hF hE (Or.inl rfl) dX12_isSign_21
    · refine jr_iconst (v := 1) hF dX12_isSign_16 rfl ?_
      refine jr_goto (tgt := 21) hF dX12_isSign_17 rfl ?_
      obtain rfl := Option.some.inj hf
      exact jr_zreturn hF hE (Or.inr rfl) dX12_isSign_21
def f_X12_isSign (σ : lt_S) (o : Nat) (x1 : Int32) (w : lt_W) : Option Int32 := fb_X12_isSign_0 σ o w x1
set_option maxRecDepth 100000 in
theorem c_X12_isSign {l : Launch} {D : va_G} {gA : Nat → ClassId} {s0 : State} {σ : lt_S} {o : Nat} (h0 : lt_c σ o = 12) {x1 : Int32} {w : lt_W} {r : Int32} (hf : f_X12_isSign σ o x1 w = some r) : lt_C l D gA s0 yX12_isSign cX12_isSign 2 (some .boolean) (lt_rm 1) [.ref (s0.heap.size + o), .int x1] σ w σ (some (.int r)) w := by
  refine lt_enter rfl (Nat.le_of_ble_eq_true rfl) (fun X e1 e2 e3 e4 hF hE => ?_)
  subst e1 e2 e3 e4
  exact jb_X12_isSign_0 h0 hF hE _ hf

set_option maxRecDepth 100000 in
def fb_X12_laysPlan_161 (σ : lt_S) (o : Nat) (k26 : Int32 → Int32 → Int32 → lt_W → Option (Int32 × lt_W)) : Nat → Int32 → Int32 → Int32 → Int32 → lt_W → Option (Int32 × lt_W)
  | 0, _, _, _, _, _ => none
  | n + 1, x1, x2, x3, x6, w => if x1 ≤ x6 then k26 x1 x2 x3 w else lt_ck x6 (lt_len σ (lt_r σ o 24)) (lt_ck x6 (lt_len σ (lt_r σ o 26)) (lt_let (lt_si w (lt_r σ o 26) x6.toNatClampNeg ((lt_gi w (lt_r σ o 24) x6.toNatClampNeg) - 1)) (fun w3 => fb_X12_laysPlan_161 σ o k26 n x1 x2 x3 (x6 + 1) w3)))
set_option maxHeartbeats 4000000 in
set_option maxRecDepth 100000 in
theorem jb_X12_laysPlan_161 {X : lt_X} {σ : lt_S} (hT : lt_Wt σ) {o : Nat} (h0 : lt_c σ o = 12) {r : Int32 × lt_W} {k26 : Int32 → Int32 → Int32 → lt_W → Option (Int32 × lt_W)} (hF : lt_F X cX12_laysPlan RX12 7 (lt_rm 6)) (hE : lt_E X 0 0 σ (some .int) (some (.int r.1)) r.2) (hk26 : ∀ (x1 : Int32) (x2 : Int32) (x3 : Int32) (w : lt_W), k26 x1 x2 x3 w = some r → lt_J X 0 0 σ w 26 [(0, .ref (lt_z X + o)), (1, .int x1), (2, .int x2), (3, .int x3)] []) (n : Nat) : ∀ (x1 : Int32) (x2 : Int32) (x3 : Int32) (x6 : Int32) (w : lt_W), fb_X12_laysPlan_161 σ o k26 n x1 x2 x3 x6 w = some r → lt_J X 0 0 σ w 161 [(0, .ref (lt_z X + o)), (1, .int x1), (2, .int x2), (3, .int x3), (6, .int x6)] [] := by
  induction n with
  | zero => intro x1 x2 x3 x6 w hf; rw [fb_X12_laysPlan_161] at hf; cases hf
  | succ n ih =>
    intro x1 x2 x3 x6 w hf
    rw [fb_X12_laysPlan_161] at hf
    refine jr_iload hF dX12_laysPlan_161 4 rfl ?_
    refine jr_iload_n hF dX12_laysPlan_163 1 rfl rfl ?_
    refine jr_icmp_ge (tgt := 189) hF dX12_laysPlan_164 rfl hf (fun hf => ?_) (fun hf => ?_)
    · refine jr_goto (tgt := 218) hF dX12_laysPlan_189 rfl ?_
      refine jr_goto (tgt := 26) hF dX12_laysPlan_218 rfl ?_
      refine jr_sub [0, 1, 2, 3] rfl ?_
      exact hk26 _ _ _ _ hf
    · refine jr_aload_n hF dX12_laysPlan_167 0 rfl rfl ?_
      refine jr_getRT (cr := 50) hF gf_X12_53 hT h0 rfl rfl dX12_laysPlan_168 (fun th1 => ?_)
      refine jr_iload hF dX12_laysPlan_171 4 rfl ?_
      refine jr_aload_n hF dX12_laysPlan_173 0 rfl rfl ?_
      refine jr_getRT (cr := 50) hF gf_X12_47 hT h0 rfl rfl dX12_laysPlan_174 (fun th2 => ?_)
      refine jr_iload hF dX12_laysPlan_177 4 rfl ?_
      refine jr_iaload hF th2 dX12_laysPlan_179 hf (fun hf => ?_)
      refine jr_iconst (v := 1) hF dX12_laysPlan_180 rfl ?_
      refine jr_isub hF dX12_laysPlan_181 ?_
      refine jr_iastore hF th1 dX12_laysPlan_182 hf (fun hf => ?_)
      refine jr_letW hf (fun w3 hf => ?_)
      refine jr_iinc (v := x6 + 1) (lv' := [(0, .ref (lt_z X + o)), (1, .int x1), (2, .int x2), (3, .int x3), (6, .int (x6 + 1))]) hF dX12_laysPlan_183 4 rfl rfl (by decide) [1, 2, 3, 4, 0] rfl ?_
      refine jr_goto (tgt := 161) hF dX12_laysPlan_186 rfl ?_
      exact ih _ _ _ _ _ hf
set_option maxRecDepth 100000 in
def fb_X12_laysPlan_148 (σ : lt_S) (o : Nat) (k26 : Int32 → Int32 → Int32 → lt_W → Option (Int32 × lt_W)) (x1 : Int32) (x2 : Int32) (x3 : Int32) (x5 : Int32) (w : lt_W) : Option (Int32 × lt_W) := if (x3 + 1) = x1 then fb_X12_laysPlan_161 σ o k26 lt_fu x1 x5 x3 0 w else lt_ck (x3 + 1) (lt_len σ (lt_r σ o 24)) (lt_let (lt_si w (lt_r σ o 24) (x3 + 1).toNatClampNeg (-1)) (fun w2 => lt_ck (x3 + 1) (lt_len σ (lt_r σ o 25)) (lt_let (lt_si w2 (lt_r σ o 25) (x3 + 1).toNatClampNeg x5) (fun w4 => Option.bind (f_X12_levelAt (x3 + 1)) (fun q5 => Option.bind (f_X12_keeps σ o q5 w4) (fun q6 => k26 x1 x2 (x3 + 1) q6))))))
set_option maxHeartbeats 4000000 in
set_option maxRecDepth 100000 in
theorem jb_X12_laysPlan_148 {X : lt_X} {σ : lt_S} (hT : lt_Wt σ) {o : Nat} (h0 : lt_c σ o = 12) {r : Int32 × lt_W} {k26 : Int32 → Int32 → Int32 → lt_W → Option (Int32 × lt_W)} (hF : lt_F X cX12_laysPlan RX12 7 (lt_rm 6)) (hE : lt_E X 0 0 σ (some .int) (some (.int r.1)) r.2) (hk26 : ∀ (x1 : Int32) (x2 : Int32) (x3 : Int32) (w : lt_W), k26 x1 x2 x3 w = some r → lt_J X 0 0 σ w 26 [(0, .ref (lt_z X + o)), (1, .int x1), (2, .int x2), (3, .int x3)] []) : ∀ (x1 : Int32) (x2 : Int32) (x3 : Int32) (x5 : Int32) (w : lt_W), fb_X12_laysPlan_148 σ o k26 x1 x2 x3 x5 w = some r → lt_J X 0 0 σ w 148 [(0, .ref (lt_z X + o)), (1, .int x1), (2, .int x2), (3, .int x3), (5, .int x5)] [] := by
  intro x1 x2 x3 x5 w hf
  unfold fb_X12_laysPlan_148 at hf
  refine jr_iload_n hF dX12_laysPlan_148 3 rfl rfl ?_
  refine jr_iconst (v := 1) hF dX12_laysPlan_149 rfl ?_
  refine jr_iadd hF dX12_laysPlan_150 ?_
  refine jr_iload_n hF dX12_laysPlan_151 1 rfl rfl ?_
  refine jr_icmp_ne (tgt := 192) hF dX12_laysPlan_152 rfl hf (fun hf => ?_) (fun hf => ?_)
  · refine jr_iinc (v := x3 + 1) (lv' := [(0, .ref (lt_z X + o)), (1, .int x1), (2, .int x2), (3, .int (x3 + 1)), (5, .int x5)]) hF dX12_laysPlan_192 3 rfl rfl (by decide) [1, 2, 3, 0, 4] rfl ?_
    refine jr_aload_n hF dX12_laysPlan_195 0 rfl rfl ?_
    refine jr_getRT (cr := 50) hF gf_X12_47 hT h0 rfl rfl dX12_laysPlan_196 (fun th1 => ?_)
    refine jr_iload_n hF dX12_laysPlan_199 3 rfl rfl ?_
    refine jr_iconst (v := (-1)) hF dX12_laysPlan_200 rfl ?_
    refine jr_iastore hF th1 dX12_laysPlan_201 hf (fun hf => ?_)
    refine jr_letW hf (fun w2 hf => ?_)
    refine jr_aload_n hF dX12_laysPlan_202 0 rfl rfl ?_
    refine jr_getRT (cr := 50) hF gf_X12_50 hT h0 rfl rfl dX12_laysPlan_203 (fun th3 => ?_)
    refine jr_iload_n hF dX12_laysPlan_206 3 rfl rfl ?_
    refine jr_iload hF dX12_laysPlan_207 4 rfl ?_
    refine jr_iastore hF th3 dX12_laysPlan_209 hf (fun hf => ?_)
    refine jr_letW hf (fun w4 hf => ?_)
    refine jr_aload_n hF dX12_laysPlan_210 0 rfl rfl ?_
    refine jr_iload_n hF dX12_laysPlan_211 3 rfl rfl ?_
    obtain ⟨q5, hq5, hf⟩ := Option.bind_eq_some_iff.mp hf
    refine jr_cS11 hF ml_X12_343 (c_X12_levelAt hq5) ⟨Nat.le_of_ble_eq_true rfl, Nat.le_of_ble_eq_true rfl⟩ (Nat.le_of_ble_eq_true rfl) dX12_laysPlan_212 ?_
    obtain ⟨q6, hq6, hf⟩ := Option.bind_eq_some_iff.mp hf
    refine jr_cV1v hF ml_X12_334 (c_X12_keeps hT h0 hq6) h0 ⟨Nat.le_of_ble_eq_true rfl, Nat.le_of_ble_eq_true rfl⟩ (Nat.le_of_ble_eq_true rfl) dX12_laysPlan_215 ?_
    refine jr_goto (tgt := 26) hF dX12_laysPlan_218 rfl ?_
    refine jr_sub [0, 1, 2, 3] rfl ?_
    exact hk26 _ _ _ _ hf
  · refine jr_iload hF dX12_laysPlan_155 4 rfl ?_
    refine jr_istore_n (lv' := [(0, .ref (lt_z X + o)), (1, .int x1), (2, .int x5), (3, .int x3)]) hF dX12_laysPlan_157 rfl (by decide) [1, 2, 0, 3] rfl ?_
    refine jr_iconst (v := 0) hF dX12_laysPlan_158 rfl ?_
    refine jr_istore (lv' := [(0, .ref (lt_z X + o)), (1, .int x1), (2, .int x5), (3, .int x3), (6, .int 0)]) hF dX12_laysPlan_159 (by decide) [1, 2, 3, 4, 0] rfl ?_
    exact jb_X12_laysPlan_161 hT h0 hF hE hk26 lt_fu _ _ _ _ _ hf
set_option maxRecDepth 100000 in
def fb_X12_laysPlan_123 (σ : lt_S) (o : Nat) (k26 : Int32 → Int32 → Int32 → lt_W → Option (Int32 × lt_W)) (x1 : Int32) (x2 : Int32) (x3 : Int32) (x5 : Int32) (w : lt_W) : Option (Int32 × lt_W) := Option.bind (f_X12_eats σ o w) (fun q1 => Option.bind (f_X12_areStarved σ o q1) (fun q2 => if q2 = 0 then if x2 = (-1) then fb_X12_laysPlan_148 σ o k26 x1 x2 x3 x5 q1 else if x5 < x2 then fb_X12_laysPlan_148 σ o k26 x1 x2 x3 x5 q1 else k26 x1 x2 x3 q1 else k26 x1 x2 x3 q1))
set_option maxHeartbeats 4000000 in
set_option maxRecDepth 100000 in
theorem jb_X12_laysPlan_123 {X : lt_X} {σ : lt_S} (hT : lt_Wt σ) {o : Nat} (h0 : lt_c σ o = 12) {r : Int32 × lt_W} {k26 : Int32 → Int32 → Int32 → lt_W → Option (Int32 × lt_W)} (hF : lt_F X cX12_laysPlan RX12 7 (lt_rm 6)) (hE : lt_E X 0 0 σ (some .int) (some (.int r.1)) r.2) (hk26 : ∀ (x1 : Int32) (x2 : Int32) (x3 : Int32) (w : lt_W), k26 x1 x2 x3 w = some r → lt_J X 0 0 σ w 26 [(0, .ref (lt_z X + o)), (1, .int x1), (2, .int x2), (3, .int x3)] []) : ∀ (x1 : Int32) (x2 : Int32) (x3 : Int32) (x5 : Int32) (w : lt_W), fb_X12_laysPlan_123 σ o k26 x1 x2 x3 x5 w = some r → lt_J X 0 0 σ w 123 [(0, .ref (lt_z X + o)), (1, .int x1), (2, .int x2), (3, .int x3), (5, .int x5)] [] := by
  intro x1 x2 x3 x5 w hf
  unfold fb_X12_laysPlan_123 at hf
  refine jr_aload_n hF dX12_laysPlan_123 0 rfl rfl ?_
  obtain ⟨q1, hq1, hf⟩ := Option.bind_eq_some_iff.mp hf
  refine jr_cV0v hF ml_X12_299 (c_X12_eats hT h0 hq1) h0 ⟨Nat.le_of_ble_eq_true rfl, Nat.le_of_ble_eq_true rfl⟩ (Nat.le_of_ble_eq_true rfl) dX12_laysPlan_124 ?_
  refine jr_aload_n hF dX12_laysPlan_127 0 rfl rfl ?_
  obtain ⟨q2, hq2, hf⟩ := Option.bind_eq_some_iff.mp hf
  refine jr_cV01 hF ml_X12_281 (c_X12_areStarved hT h0 hq2) h0 ⟨Nat.le_of_ble_eq_true rfl, Nat.le_of_ble_eq_true rfl⟩ (Nat.le_of_ble_eq_true rfl) dX12_laysPlan_128 ?_
  refine jr_if_ne (tgt := 26) hF dX12_laysPlan_131 rfl hf (fun hf => ?_) (fun hf => ?_)
  · refine jr_sub [0, 1, 2, 3] rfl ?_
    exact hk26 _ _ _ _ hf
  · refine jr_iload_n hF dX12_laysPlan_134 2 rfl rfl ?_
    refine jr_iconst (v := (-1)) hF dX12_laysPlan_135 rfl ?_
    refine jr_icmp_eq (tgt := 148) hF dX12_laysPlan_136 rfl hf (fun hf => ?_) (fun hf => ?_)
    · exact jb_X12_laysPlan_148 hT h0 hF hE hk26 _ _ _ _ _ hf
    · refine jr_iload hF dX12_laysPlan_139 4 rfl ?_
      refine jr_iload_n hF dX12_laysPlan_141 2 rfl rfl ?_
      refine jr_icmp_lt (tgt := 148) hF dX12_laysPlan_142 rfl hf (fun hf => ?_) (fun hf => ?_)
      · exact jb_X12_laysPlan_148 hT h0 hF hE hk26 _ _ _ _ _ hf
      · refine jr_goto (tgt := 26) hF dX12_laysPlan_145 rfl ?_
        refine jr_sub [0, 1, 2, 3] rfl ?_
        exact hk26 _ _ _ _ hf
set_option maxRecDepth 100000 in
def fb_X12_laysPlan_26 (σ : lt_S) (o : Nat) : Nat → Int32 → Int32 → Int32 → lt_W → Option (Int32 × lt_W)
  | 0, _, _, _, _ => none
  | n + 1, x1, x2, x3, w => if x3 < 0 then Option.bind (f_X12_levelAt 0) (fun q1 => Option.bind (f_X12_brings σ o q1 w) (fun q2 => some (x2, q2))) else Option.bind (f_X12_levelAt x3) (fun q3 => Option.bind (f_X12_brings σ o q3 w) (fun q4 => lt_ck x3 (lt_len σ (lt_r σ o 24)) (lt_ck x3 (lt_len σ (lt_r σ o 24)) (lt_let (lt_si q4 (lt_r σ o 24) x3.toNatClampNeg ((lt_gi q4 (lt_r σ o 24) x3.toNatClampNeg) + 1)) (fun w6 => lt_ck x3 (lt_len σ (lt_r σ o 24)) (lt_let ((lt_gi w6 (lt_r σ o 24) x3.toNatClampNeg) - 1) (fun z8 => lt_ck 0 (lt_len σ (lt_r σ o 0)) (if z8 = (lt_gi w6 (lt_r σ o 0) (0 : Int32).toNatClampNeg) then fb_X12_laysPlan_26 σ o n x1 x2 (x3 + (-1)) w6 else lt_ck x3 (lt_len σ (lt_r σ o 25)) (lt_let (lt_gi w6 (lt_r σ o 25) x3.toNatClampNeg) (fun z11 => if z8 = (-1) then fb_X12_laysPlan_123 σ o (fun x1 x2 x3 w => fb_X12_laysPlan_26 σ o n x1 x2 x3 w) x1 x2 x3 z11 w6 else Option.bind (f_X12_canCut σ o z8 w6) (fun q12 => if q12 = 0 then fb_X12_laysPlan_26 σ o n x1 x2 x3 w6 else Option.bind (f_X12_cuts1 σ o z8 w6) (fun q13 => if q13.1 = 1 then Option.bind (f_X12_guestOf σ o z8 2 q13.2) (fun q14 => fb_X12_laysPlan_123 σ o (fun x1 x2 x3 w => fb_X12_laysPlan_26 σ o n x1 x2 x3 w) x1 x2 x3 (z11 + q14) q13.2) else fb_X12_laysPlan_123 σ o (fun x1 x2 x3 w => fb_X12_laysPlan_26 σ o n x1 x2 x3 w) x1 x2 x3 z11 q13.2))))))))))))
set_option maxHeartbeats 4000000 in
set_option maxRecDepth 100000 in
theorem jb_X12_laysPlan_26 {X : lt_X} {σ : lt_S} (hT : lt_Wt σ) {o : Nat} (h0 : lt_c σ o = 12) {r : Int32 × lt_W} (hF : lt_F X cX12_laysPlan RX12 7 (lt_rm 6)) (hE : lt_E X 0 0 σ (some .int) (some (.int r.1)) r.2) (n : Nat) : ∀ (x1 : Int32) (x2 : Int32) (x3 : Int32) (w : lt_W), fb_X12_laysPlan_26 σ o n x1 x2 x3 w = some r → lt_J X 0 0 σ w 26 [(0, .ref (lt_z X + o)), (1, .int x1), (2, .int x2), (3, .int x3)] [] := by
  induction n with
  | zero => intro x1 x2 x3 w hf; rw [fb_X12_laysPlan_26] at hf; cases hf
  | succ n ih =>
    intro x1 x2 x3 w hf
    rw [fb_X12_laysPlan_26] at hf
    refine jr_iload_n hF dX12_laysPlan_26 3 rfl rfl ?_
    refine jr_if_lt (tgt := 221) hF dX12_laysPlan_27 rfl hf (fun hf => ?_) (fun hf => ?_)
    · refine jr_aload_n hF dX12_laysPlan_221 0 rfl rfl ?_
      refine jr_iconst (v := 0) hF dX12_laysPlan_222 rfl ?_
      obtain ⟨q1, hq1, hf⟩ := Option.bind_eq_some_iff.mp hf
      refine jr_cS11 hF ml_X12_343 (c_X12_levelAt hq1) ⟨Nat.le_of_ble_eq_true rfl, Nat.le_of_ble_eq_true rfl⟩ (Nat.le_of_ble_eq_true rfl) dX12_laysPlan_223 ?_
      obtain ⟨q2, hq2, hf⟩ := Option.bind_eq_some_iff.mp hf
      refine jr_cV1v hF ml_X12_337 (c_X12_brings hT h0 hq2) h0 ⟨Nat.le_of_ble_eq_true rfl, Nat.le_of_ble_eq_true rfl⟩ (Nat.le_of_ble_eq_true rfl) dX12_laysPlan_226 ?_
      refine jr_iload_n hF dX12_laysPlan_229 2 rfl rfl ?_
      obtain rfl := Option.some.inj hf
      exact jr_ireturn hF hE dX12_laysPlan_230
    · refine jr_aload_n hF dX12_laysPlan_30 0 rfl rfl ?_
      refine jr_iload_n hF dX12_laysPlan_31 3 rfl rfl ?_
      obtain ⟨q3, hq3, hf⟩ := Option.bind_eq_some_iff.mp hf
      refine jr_cS11 hF ml_X12_343 (c_X12_levelAt hq3) ⟨Nat.le_of_ble_eq_true rfl, Nat.le_of_ble_eq_true rfl⟩ (Nat.le_of_ble_eq_true rfl) dX12_laysPlan_32 ?_
      obtain ⟨q4, hq4, hf⟩ := Option.bind_eq_some_iff.mp hf
      refine jr_cV1v hF ml_X12_337 (c_X12_brings hT h0 hq4) h0 ⟨Nat.le_of_ble_eq_true rfl, Nat.le_of_ble_eq_true rfl⟩ (Nat.le_of_ble_eq_true rfl) dX12_laysPlan_35 ?_
      refine jr_aload_n hF dX12_laysPlan_38 0 rfl rfl ?_
      refine jr_getRT (cr := 50) hF gf_X12_47 hT h0 rfl rfl dX12_laysPlan_39 (fun th5 => ?_)
      refine jr_iload_n hF dX12_laysPlan_42 3 rfl rfl ?_
      refine jr_dup2 hF dX12_laysPlan_43 rfl rfl ?_
      refine jr_iaload hF th5 dX12_laysPlan_44 hf (fun hf => ?_)
      refine jr_iconst (v := 1) hF dX12_laysPlan_45 rfl ?_
      refine jr_iadd hF dX12_laysPlan_46 ?_
      refine jr_iastore hF th5 dX12_laysPlan_47 hf (fun hf => ?_)
      refine jr_letW hf (fun w6 hf => ?_)
      refine jr_aload_n hF dX12_laysPlan_48 0 rfl rfl ?_
      refine jr_getRT (cr := 50) hF gf_X12_47 hT h0 rfl rfl dX12_laysPlan_49 (fun th7 => ?_)
      refine jr_iload_n hF dX12_laysPlan_52 3 rfl rfl ?_
      refine jr_iaload hF th7 dX12_laysPlan_53 hf (fun hf => ?_)
      refine jr_iconst (v := 1) hF dX12_laysPlan_54 rfl ?_
      refine jr_isub hF dX12_laysPlan_55 ?_
      refine jr_letI hf (fun z8 hf => ?_)
      refine jr_istore (lv' := [(0, .ref (lt_z X + o)), (1, .int x1), (2, .int x2), (3, .int x3), (4, .int z8)]) hF dX12_laysPlan_56 (by decide) [1, 2, 3, 4, 0] rfl ?_
      refine jr_iload hF dX12_laysPlan_58 4 rfl ?_
      refine jr_aload_n hF dX12_laysPlan_60 0 rfl rfl ?_
      refine jr_getRT (cr := 50) hF gf_X12_7 hT h0 rfl rfl dX12_laysPlan_61 (fun th9 => ?_)
      refine jr_iconst (v := 0) hF dX12_laysPlan_64 rfl ?_
      refine jr_iaload hF th9 dX12_laysPlan_65 hf (fun hf => ?_)
      refine jr_icmp_ne (tgt := 75) hF dX12_laysPlan_66 rfl hf (fun hf => ?_) (fun hf => ?_)
      · refine jr_aload_n hF dX12_laysPlan_75 0 rfl rfl ?_
        refine jr_getRT (cr := 50) hF gf_X12_50 hT h0 rfl rfl dX12_laysPlan_76 (fun th10 => ?_)
        refine jr_iload_n hF dX12_laysPlan_79 3 rfl rfl ?_
        refine jr_iaload hF th10 dX12_laysPlan_80 hf (fun hf => ?_)
        refine jr_letI hf (fun z11 hf => ?_)
        refine jr_istore (lv' := [(0, .ref (lt_z X + o)), (1, .int x1), (2, .int x2), (3, .int x3), (4, .int z8), (5, .int z11)]) hF dX12_laysPlan_81 (by decide) [1, 2, 3, 4, 5, 0] rfl ?_
        refine jr_iload hF dX12_laysPlan_83 4 rfl ?_
        refine jr_iconst (v := (-1)) hF dX12_laysPlan_85 rfl ?_
        refine jr_icmp_eq (tgt := 123) hF dX12_laysPlan_86 rfl hf (fun hf => ?_) (fun hf => ?_)
        · refine jr_sub [0, 1, 2, 3, 5] rfl ?_
          exact jb_X12_laysPlan_123 hT h0 hF hE ih _ _ _ _ _ hf
        · refine jr_aload_n hF dX12_laysPlan_89 0 rfl rfl ?_
          refine jr_iload hF dX12_laysPlan_90 4 rfl ?_
          obtain ⟨q12, hq12, hf⟩ := Option.bind_eq_some_iff.mp hf
          refine jr_cV11 hF ml_X12_314 (c_X12_canCut hT h0 hq12) h0 ⟨Nat.le_of_ble_eq_true rfl, Nat.le_of_ble_eq_true rfl⟩ (Nat.le_of_ble_eq_true rfl) dX12_laysPlan_92 ?_
          refine jr_if_ne (tgt := 101) hF dX12_laysPlan_95 rfl hf (fun hf => ?_) (fun hf => ?_)
          · refine jr_aload_n hF dX12_laysPlan_101 0 rfl rfl ?_
            refine jr_iload hF dX12_laysPlan_102 4 rfl ?_
            obtain ⟨q13, hq13, hf⟩ := Option.bind_eq_some_iff.mp hf
            refine jr_cV11 hF ml_X12_296 (c_X12_cuts1 hT h0 hq13) h0 ⟨Nat.le_of_ble_eq_true rfl, Nat.le_of_ble_eq_true rfl⟩ (Nat.le_of_ble_eq_true rfl) dX12_laysPlan_104 ?_
            refine jr_iconst (v := 1) hF dX12_laysPlan_107 rfl ?_
            refine jr_icmp_ne (tgt := 123) hF dX12_laysPlan_108 rfl hf (fun hf => ?_) (fun hf => ?_)
            · refine jr_sub [0, 1, 2, 3, 5] rfl ?_
              exact jb_X12_laysPlan_123 hT h0 hF hE ih _ _ _ _ _ hf
            · refine jr_iload hF dX12_laysPlan_111 5 rfl ?_
              refine jr_aload_n hF dX12_laysPlan_113 0 rfl rfl ?_
              refine jr_iload hF dX12_laysPlan_114 4 rfl ?_
              refine jr_iconst (v := 2) hF dX12_laysPlan_116 rfl ?_
              obtain ⟨q14, hq14, hf⟩ := Option.bind_eq_some_iff.mp hf
              refine jr_cV21 hF ml_X12_269 (c_X12_guestOf hT h0 hq14) h0 ⟨Nat.le_of_ble_eq_true rfl, Nat.le_of_ble_eq_true rfl⟩ (Nat.le_of_ble_eq_true rfl) dX12_laysPlan_117 ?_
              refine jr_iadd hF dX12_laysPlan_120 ?_
              refine jr_istore (lv' := [(0, .ref (lt_z X + o)), (1, .int x1), (2, .int x2), (3, .int x3), (5, .int (z11 + q14))]) hF dX12_laysPlan_121 (by decide) [1, 2, 3, 4, 0] rfl ?_
              exact jb_X12_laysPlan_123 hT h0 hF hE ih _ _ _ _ _ hf
          · refine jr_goto (tgt := 26) hF dX12_laysPlan_98 rfl ?_
            refine jr_sub [0, 1, 2, 3] rfl ?_
            exact ih _ _ _ _ hf
      · refine jr_iinc (v := x3 + (-1)) (lv' := [(0, .ref (lt_z X + o)), (1, .int x1), (2, .int x2), (3, .int (x3 + (-1))), (4, .int z8)]) hF dX12_laysPlan_69 3 rfl rfl (by decide) [1, 2, 3, 0, 4] rfl ?_
        refine jr_goto (tgt := 26) hF dX12_laysPlan_72 rfl ?_
        refine jr_sub [0, 1, 2, 3] rfl ?_
        exact ih _ _ _ _ hf
set_option maxRecDepth 100000 in
def fb_X12_laysPlan_0 (σ : lt_S) (o : Nat) (x1 : Int32) (w : lt_W) : Option (Int32 × lt_W) := lt_ck 0 (lt_len σ (lt_r σ o 24)) (lt_let (lt_si w (lt_r σ o 24) (0 : Int32).toNatClampNeg (-1)) (fun w2 => lt_ck 0 (lt_len σ (lt_r σ o 25)) (lt_let (lt_si w2 (lt_r σ o 25) (0 : Int32).toNatClampNeg 0) (fun w4 => Option.bind (f_X12_levelAt 0) (fun q5 => Option.bind (f_X12_keeps σ o q5 w4) (fun q6 => fb_X12_laysPlan_26 σ o lt_fu x1 (-1) 0 q6))))))
set_option maxHeartbeats 4000000 in
set_option maxRecDepth 100000 in
theorem jb_X12_laysPlan_0 {X : lt_X} {σ : lt_S} (hT : lt_Wt σ) {o : Nat} (h0 : lt_c σ o = 12) {r : Int32 × lt_W} (hF : lt_F X cX12_laysPlan RX12 7 (lt_rm 6)) (hE : lt_E X 0 0 σ (some .int) (some (.int r.1)) r.2) : ∀ (x1 : Int32) (w : lt_W), fb_X12_laysPlan_0 σ o x1 w = some r → lt_J X 0 0 σ w 0 [(0, .ref (lt_z X + o)), (1, .int x1)] [] := by
  intro x1 w hf
  unfold fb_X12_laysPlan_0 at hf
  refine jr_iconst (v := (-1)) hF dX12_laysPlan_0 rfl ?_
  refine jr_istore_n (lv' := [(0, .ref (lt_z X + o)), (1, .int x1), (2, .int (-1))]) hF dX12_laysPlan_1 rfl (by decide) [1, 2, 0] rfl ?_
  refine jr_iconst (v := 0) hF dX12_laysPlan_2 rfl ?_
  refine jr_istore_n (lv' := [(0, .ref (lt_z X + o)), (1, .int x1), (2, .int (-1)), (3, .int 0)]) hF dX12_laysPlan_3 rfl (by decide) [1, 2, 3, 0] rfl ?_
  refine jr_aload_n hF dX12_laysPlan_4 0 rfl rfl ?_
  refine jr_getRT (cr := 50) hF gf_X12_47 hT h0 rfl rfl dX12_laysPlan_5 (fun th1 => ?_)
  refine jr_iconst (v := 0) hF dX12_laysPlan_8 rfl ?_
  refine jr_iconst (v := (-1)) hF dX12_laysPlan_9 rfl ?_
  refine jr_iastore hF th1 dX12_laysPlan_10 hf (fun hf => ?_)
  refine jr_letW hf (fun w2 hf => ?_)
  refine jr_aload_n hF dX12_laysPlan_11 0 rfl rfl ?_
  refine jr_getRT (cr := 50) hF gf_X12_50 hT h0 rfl rfl dX12_laysPlan_12 (fun th3 => ?_)
  refine jr_iconst (v := 0) hF dX12_laysPlan_15 rfl ?_
  refine jr_iconst (v := 0) hF dX12_laysPlan_16 rfl ?_
  refine jr_iastore hF th3 dX12_laysPlan_17 hf (fun hf => ?_)
  refine jr_letW hf (fun w4 hf => ?_)
  refine jr_aload_n hF dX12_laysPlan_18 0 rfl rfl ?_
  refine jr_iconst (v := 0) hF dX12_laysPlan_19 rfl ?_
  obtain ⟨q5, hq5, hf⟩ := Option.bind_eq_some_iff.mp hf
  refine jr_cS11 hF ml_X12_343 (c_X12_levelAt hq5) ⟨Nat.le_of_ble_eq_true rfl, Nat.le_of_ble_eq_true rfl⟩ (Nat.le_of_ble_eq_true rfl) dX12_laysPlan_20 ?_
  obtain ⟨q6, hq6, hf⟩ := Option.bind_eq_some_iff.mp hf
  refine jr_cV1v hF ml_X12_334 (c_X12_keeps hT h0 hq6) h0 ⟨Nat.le_of_ble_eq_true rfl, Nat.le_of_ble_eq_true rfl⟩ (Nat.le_of_ble_eq_true rfl) dX12_laysPlan_23 ?_
  exact jb_X12_laysPlan_26 hT h0 hF hE lt_fu _ _ _ _ hf
def f_X12_laysPlan (σ : lt_S) (o : Nat) (x1 : Int32) (w : lt_W) : Option (Int32 × lt_W) := fb_X12_laysPlan_0 σ o x1 w
set_option maxRecDepth 100000 in
theorem c_X12_laysPlan {l : Launch} {D : va_G} {gA : Nat → ClassId} {s0 : State} {σ : lt_S} (hT : lt_Wt σ) {o : Nat} (h0 : lt_c σ o = 12) {x1 : Int32} {w : lt_W} {r : Int32 × lt_W} (hf : f_X12_laysPlan σ o x1 w = some r) : lt_C l D gA s0 yX12_laysPlan cX12_laysPlan 7 (some .int) (lt_rm 6) [.ref (s0.heap.size + o), .int x1] σ w σ (some (.int r.1)) r.2 := by
  refine lt_enter rfl (Nat.le_of_ble_eq_true rfl) (fun X e1 e2 e3 e4 hF hE => ?_)
  subst e1 e2 e3 e4
  exact jb_X12_laysPlan_0 hT h0 hF hE _ _ hf

set_option maxRecDepth 100000 in
def fb_X12_least_96 (σ : lt_S) (o : Nat) (k29 : Int32 → Int32 → Int32 → lt_W → Option (Int32 × lt_W)) (x1 : Int32) (x2 : Int32) (x3 : Int32) (w : lt_W) : Option (Int32 × lt_W) := Option.bind (f_X12_brings σ o 2140 w) (fun q1 => k29 x1 x2 (x3 + 1) q1)
set_option maxHeartbeats 4000000 in
set_option maxRecDepth 100000 in
theorem jb_X12_least_96 {X : lt_X} {σ : lt_S} (hT : lt_Wt σ) {o : Nat} (h0 : lt_c σ o = 12) {r : Int32 × lt_W} {k29 : Int32 → Int32 → Int32 → lt_W → Option (Int32 × lt_W)} (hF : lt_F X cX12_least RX12 6 (lt_rm 7)) (hE : lt_E X 0 0 σ (some .int) (some (.int r.1)) r.2) (hk29 : ∀ (x1 : Int32) (x2 : Int32) (x3 : Int32) (w : lt_W), k29 x1 x2 x3 w = some r → lt_J X 0 0 σ w 29 [(0, .ref (lt_z X + o)), (1, .int x1), (2, .int x2), (3, .int x3)] []) : ∀ (x1 : Int32) (x2 : Int32) (x3 : Int32) (w : lt_W), fb_X12_least_96 σ o k29 x1 x2 x3 w = some r → lt_J X 0 0 σ w 96 [(0, .ref (lt_z X + o)), (1, .int x1), (2, .int x2), (3, .int x3)] [] := by
  intro x1 x2 x3 w hf
  unfold fb_X12_least_96 at hf
  refine jr_aload_n hF dX12_least_96 0 rfl rfl ?_
  refine jr_sipush (v := 2140) hF dX12_least_97 rfl ?_
  obtain ⟨q1, hq1, hf⟩ := Option.bind_eq_some_iff.mp hf
  refine jr_cV1v hF ml_X12_337 (c_X12_brings hT h0 hq1) h0 ⟨Nat.le_of_ble_eq_true rfl, Nat.le_of_ble_eq_true rfl⟩ (Nat.le_of_ble_eq_true rfl) dX12_least_100 ?_
  refine jr_iinc (v := x3 + 1) (lv' := [(0, .ref (lt_z X + o)), (1, .int x1), (2, .int x2), (3, .int (x3 + 1))]) hF dX12_least_103 3 rfl rfl (by decide) [1, 2, 3, 0] rfl ?_
  refine jr_goto (tgt := 29) hF dX12_least_106 rfl ?_
  exact hk29 _ _ _ _ hf
set_option maxRecDepth 100000 in
def fb_X12_least_89 (σ : lt_S) (o : Nat) (k29 : Int32 → Int32 → Int32 → lt_W → Option (Int32 × lt_W)) (x1 : Int32) (x2 : Int32) (x3 : Int32) (x4 : Int32) (w : lt_W) : Option (Int32 × lt_W) := if x4 = 0 then fb_X12_least_96 σ o k29 x1 x2 x3 w else fb_X12_least_96 σ o k29 x1 x3 x3 w
set_option maxHeartbeats 4000000 in
set_option maxRecDepth 100000 in
theorem jb_X12_least_89 {X : lt_X} {σ : lt_S} (hT : lt_Wt σ) {o : Nat} (h0 : lt_c σ o = 12) {r : Int32 × lt_W} {k29 : Int32 → Int32 → Int32 → lt_W → Option (Int32 × lt_W)} (hF : lt_F X cX12_least RX12 6 (lt_rm 7)) (hE : lt_E X 0 0 σ (some .int) (some (.int r.1)) r.2) (hk29 : ∀ (x1 : Int32) (x2 : Int32) (x3 : Int32) (w : lt_W), k29 x1 x2 x3 w = some r → lt_J X 0 0 σ w 29 [(0, .ref (lt_z X + o)), (1, .int x1), (2, .int x2), (3, .int x3)] []) : ∀ (x1 : Int32) (x2 : Int32) (x3 : Int32) (x4 : Int32) (w : lt_W), fb_X12_least_89 σ o k29 x1 x2 x3 x4 w = some r → lt_J X 0 0 σ w 89 [(0, .ref (lt_z X + o)), (1, .int x1), (2, .int x2), (3, .int x3), (4, .int x4)] [] := by
  intro x1 x2 x3 x4 w hf
  unfold fb_X12_least_89 at hf
  refine jr_iload hF dX12_least_89 4 rfl ?_
  refine jr_if_eq (tgt := 96) hF dX12_least_91 rfl hf (fun hf => ?_) (fun hf => ?_)
  · refine jr_sub [0, 1, 2, 3] rfl ?_
    exact jb_X12_least_96 hT h0 hF hE hk29 _ _ _ _ hf
  · refine jr_iload_n hF dX12_least_94 3 rfl rfl ?_
    refine jr_istore_n (lv' := [(0, .ref (lt_z X + o)), (1, .int x1), (2, .int x3), (3, .int x3)]) hF dX12_least_95 rfl (by decide) [1, 2, 0, 3] rfl ?_
    exact jb_X12_least_96 hT h0 hF hE hk29 _ _ _ _ hf
set_option maxRecDepth 100000 in
def fb_X12_least_53 (σ : lt_S) (o : Nat) (k29 : Int32 → Int32 → Int32 → lt_W → Option (Int32 × lt_W)) : Nat → Int32 → Int32 → Int32 → Int32 → Int32 → lt_W → Option (Int32 × lt_W)
  | 0, _, _, _, _, _, _ => none
  | n + 1, x1, x2, x3, x4, x5, w => if x1 ≤ x5 then fb_X12_least_89 σ o k29 x1 x2 x3 x4 w else if x4 = 0 then fb_X12_least_89 σ o k29 x1 x2 x3 x4 w else Option.bind (f_X12_dayGoes σ o w) (fun q1 => Option.bind (f_X12_areStarved σ o q1.2) (fun q2 => if q2 = 0 then fb_X12_least_53 σ o k29 n x1 x2 x3 1 (x5 + 1) q1.2 else fb_X12_least_53 σ o k29 n x1 x2 x3 0 (x5 + 1) q1.2))
set_option maxHeartbeats 4000000 in
set_option maxRecDepth 100000 in
theorem jb_X12_least_53 {X : lt_X} {σ : lt_S} (hT : lt_Wt σ) {o : Nat} (h0 : lt_c σ o = 12) {r : Int32 × lt_W} {k29 : Int32 → Int32 → Int32 → lt_W → Option (Int32 × lt_W)} (hF : lt_F X cX12_least RX12 6 (lt_rm 7)) (hE : lt_E X 0 0 σ (some .int) (some (.int r.1)) r.2) (hk29 : ∀ (x1 : Int32) (x2 : Int32) (x3 : Int32) (w : lt_W), k29 x1 x2 x3 w = some r → lt_J X 0 0 σ w 29 [(0, .ref (lt_z X + o)), (1, .int x1), (2, .int x2), (3, .int x3)] []) (n : Nat) : ∀ (x1 : Int32) (x2 : Int32) (x3 : Int32) (x4 : Int32) (x5 : Int32) (w : lt_W), fb_X12_least_53 σ o k29 n x1 x2 x3 x4 x5 w = some r → lt_J X 0 0 σ w 53 [(0, .ref (lt_z X + o)), (1, .int x1), (2, .int x2), (3, .int x3), (4, .int x4), (5, .int x5)] [] := by
  induction n with
  | zero => intro x1 x2 x3 x4 x5 w hf; rw [fb_X12_least_53] at hf; cases hf
  | succ n ih =>
    intro x1 x2 x3 x4 x5 w hf
    rw [fb_X12_least_53] at hf
    refine jr_iload hF dX12_least_53 5 rfl ?_
    refine jr_iload_n hF dX12_least_55 1 rfl rfl ?_
    refine jr_icmp_ge (tgt := 89) hF dX12_least_56 rfl hf (fun hf => ?_) (fun hf => ?_)
    · refine jr_sub [0, 1, 2, 3, 4] rfl ?_
      exact jb_X12_least_89 hT h0 hF hE hk29 _ _ _ _ _ hf
    · refine jr_iload hF dX12_least_59 4 rfl ?_
      refine jr_if_eq (tgt := 89) hF dX12_least_61 rfl hf (fun hf => ?_) (fun hf => ?_)
      · refine jr_sub [0, 1, 2, 3, 4] rfl ?_
        exact jb_X12_least_89 hT h0 hF hE hk29 _ _ _ _ _ hf
      · refine jr_aload_n hF dX12_least_64 0 rfl rfl ?_
        obtain ⟨q1, hq1, hf⟩ := Option.bind_eq_some_iff.mp hf
        refine jr_cV01 hF ml_X12_302 (c_X12_dayGoes hT h0 hq1) h0 ⟨Nat.le_of_ble_eq_true rfl, Nat.le_of_ble_eq_true rfl⟩ (Nat.le_of_ble_eq_true rfl) dX12_least_65 ?_
        refine jr_pop hF dX12_least_68 rfl ?_
        refine jr_aload_n hF dX12_least_69 0 rfl rfl ?_
        obtain ⟨q2, hq2, hf⟩ := Option.bind_eq_some_iff.mp hf
        refine jr_cV01 hF ml_X12_281 (c_X12_areStarved hT h0 hq2) h0 ⟨Nat.le_of_ble_eq_true rfl, Nat.le_of_ble_eq_true rfl⟩ (Nat.le_of_ble_eq_true rfl) dX12_least_70 ?_
        refine jr_if_ne (tgt := 80) hF dX12_least_73 rfl hf (fun hf => ?_) (fun hf => ?_)
        · refine jr_iconst (v := 0) hF dX12_least_80 rfl ?_
          refine jr_istore (lv' := [(0, .ref (lt_z X + o)), (1, .int x1), (2, .int x2), (3, .int x3), (4, .int 0), (5, .int x5)]) hF dX12_least_81 (by decide) [1, 2, 3, 4, 0, 5] rfl ?_
          refine jr_iinc (v := x5 + 1) (lv' := [(0, .ref (lt_z X + o)), (1, .int x1), (2, .int x2), (3, .int x3), (4, .int 0), (5, .int (x5 + 1))]) hF dX12_least_83 5 rfl rfl (by decide) [1, 2, 3, 4, 5, 0] rfl ?_
          refine jr_goto (tgt := 53) hF dX12_least_86 rfl ?_
          exact ih _ _ _ _ _ _ hf
        · refine jr_iconst (v := 1) hF dX12_least_76 rfl ?_
          refine jr_goto (tgt := 81) hF dX12_least_77 rfl ?_
          refine jr_istore (lv' := [(0, .ref (lt_z X + o)), (1, .int x1), (2, .int x2), (3, .int x3), (4, .int 1), (5, .int x5)]) hF dX12_least_81 (by decide) [1, 2, 3, 4, 0, 5] rfl ?_
          refine jr_iinc (v := x5 + 1) (lv' := [(0, .ref (lt_z X + o)), (1, .int x1), (2, .int x2), (3, .int x3), (4, .int 1), (5, .int (x5 + 1))]) hF dX12_least_83 5 rfl rfl (by decide) [1, 2, 3, 4, 5, 0] rfl ?_
          refine jr_goto (tgt := 53) hF dX12_least_86 rfl ?_
          exact ih _ _ _ _ _ _ hf
set_option maxRecDepth 100000 in
def fb_X12_least_109 (σ : lt_S) (o : Nat) (x2 : Int32) (w : lt_W) : Option (Int32 × lt_W) := Option.bind (f_X12_orNone σ o x2 w) (fun q1 => some (q1.1, q1.2))
set_option maxHeartbeats 4000000 in
set_option maxRecDepth 100000 in
theorem jb_X12_least_109 {X : lt_X} {σ : lt_S} (hT : lt_Wt σ) {o : Nat} (h0 : lt_c σ o = 12) {r : Int32 × lt_W} (hF : lt_F X cX12_least RX12 6 (lt_rm 7)) (hE : lt_E X 0 0 σ (some .int) (some (.int r.1)) r.2) : ∀ (x2 : Int32) (w : lt_W), fb_X12_least_109 σ o x2 w = some r → lt_J X 0 0 σ w 109 [(0, .ref (lt_z X + o)), (2, .int x2)] [] := by
  intro x2 w hf
  unfold fb_X12_least_109 at hf
  refine jr_aload_n hF dX12_least_109 0 rfl rfl ?_
  refine jr_iload_n hF dX12_least_110 1 rfl rfl ?_
  obtain ⟨q1, hq1, hf⟩ := Option.bind_eq_some_iff.mp hf
  refine jr_cV11 hF ml_X12_284 (c_X12_orNone h0 hq1) h0 ⟨Nat.le_of_ble_eq_true rfl, Nat.le_of_ble_eq_true rfl⟩ (Nat.le_of_ble_eq_true rfl) dX12_least_111 ?_
  obtain rfl := Option.some.inj hf
  exact jr_ireturn hF hE dX12_least_114
set_option maxRecDepth 100000 in
def fb_X12_least_29 (σ : lt_S) (o : Nat) : Nat → Int32 → Int32 → Int32 → lt_W → Option (Int32 × lt_W)
  | 0, _, _, _, _ => none
  | n + 1, x1, x2, x3, w => if 60 < x3 then fb_X12_least_109 σ o x2 w else if x2 = (-1) then lt_ck 4 (lt_len σ (lt_r σ o 0)) (lt_let (lt_si w (lt_r σ o 0) (4 : Int32).toNatClampNeg x3) (fun w2 => fb_X12_least_53 σ o (fun x1 x2 x3 w => fb_X12_least_29 σ o n x1 x2 x3 w) lt_fu x1 x2 x3 1 0 w2)) else fb_X12_least_109 σ o x2 w
set_option maxHeartbeats 4000000 in
set_option maxRecDepth 100000 in
theorem jb_X12_least_29 {X : lt_X} {σ : lt_S} (hT : lt_Wt σ) {o : Nat} (h0 : lt_c σ o = 12) {r : Int32 × lt_W} (hF : lt_F X cX12_least RX12 6 (lt_rm 7)) (hE : lt_E X 0 0 σ (some .int) (some (.int r.1)) r.2) (n : Nat) : ∀ (x1 : Int32) (x2 : Int32) (x3 : Int32) (w : lt_W), fb_X12_least_29 σ o n x1 x2 x3 w = some r → lt_J X 0 0 σ w 29 [(0, .ref (lt_z X + o)), (1, .int x1), (2, .int x2), (3, .int x3)] [] := by
  induction n with
  | zero => intro x1 x2 x3 w hf; rw [fb_X12_least_29] at hf; cases hf
  | succ n ih =>
    intro x1 x2 x3 w hf
    rw [fb_X12_least_29] at hf
    refine jr_iload_n hF dX12_least_29 3 rfl rfl ?_
    refine jr_bipush (v := 60) hF dX12_least_30 rfl ?_
    refine jr_icmp_gt (tgt := 109) hF dX12_least_32 rfl hf (fun hf => ?_) (fun hf => ?_)
    · refine jr_sub [0, 2] rfl ?_
      exact jb_X12_least_109 hT h0 hF hE _ _ hf
    · refine jr_iload_n hF dX12_least_35 2 rfl rfl ?_
      refine jr_iconst (v := (-1)) hF dX12_least_36 rfl ?_
      refine jr_icmp_ne (tgt := 109) hF dX12_least_37 rfl hf (fun hf => ?_) (fun hf => ?_)
      · refine jr_sub [0, 2] rfl ?_
        exact jb_X12_least_109 hT h0 hF hE _ _ hf
      · refine jr_iconst (v := 1) hF dX12_least_40 rfl ?_
        refine jr_istore (lv' := [(0, .ref (lt_z X + o)), (1, .int x1), (2, .int x2), (3, .int x3), (4, .int 1)]) hF dX12_least_41 (by decide) [1, 2, 3, 4, 0] rfl ?_
        refine jr_aload_n hF dX12_least_43 0 rfl rfl ?_
        refine jr_getRT (cr := 50) hF gf_X12_7 hT h0 rfl rfl dX12_least_44 (fun th1 => ?_)
        refine jr_iconst (v := 4) hF dX12_least_47 rfl ?_
        refine jr_iload_n hF dX12_least_48 3 rfl rfl ?_
        refine jr_iastore hF th1 dX12_least_49 hf (fun hf => ?_)
        refine jr_letW hf (fun w2 hf => ?_)
        refine jr_iconst (v := 0) hF dX12_least_50 rfl ?_
        refine jr_istore (lv' := [(0, .ref (lt_z X + o)), (1, .int x1), (2, .int x2), (3, .int x3), (4, .int 1), (5, .int 0)]) hF dX12_least_51 (by decide) [1, 2, 3, 4, 5, 0] rfl ?_
        exact jb_X12_least_53 hT h0 hF hE ih lt_fu _ _ _ _ _ _ hf
set_option maxRecDepth 100000 in
def fb_X12_least_0 (σ : lt_S) (o : Nat) (x1 : Int32) (w : lt_W) : Option (Int32 × lt_W) := Option.bind (f_X12_isFrom x1.toInt64 1 20) (fun q1 => if q1 = 0 then Option.bind (f_X12_refuse σ o 1 w) (fun q3 => some (q3.1, q3.2)) else Option.bind (f_X12_keeps σ o 2140 w) (fun q2 => fb_X12_least_29 σ o lt_fu x1 (-1) 1 q2))
set_option maxHeartbeats 4000000 in
set_option maxRecDepth 100000 in
theorem jb_X12_least_0 {X : lt_X} {σ : lt_S} (hT : lt_Wt σ) {o : Nat} (h0 : lt_c σ o = 12) {r : Int32 × lt_W} (hF : lt_F X cX12_least RX12 6 (lt_rm 7)) (hE : lt_E X 0 0 σ (some .int) (some (.int r.1)) r.2) : ∀ (x1 : Int32) (w : lt_W), fb_X12_least_0 σ o x1 w = some r → lt_J X 0 0 σ w 0 [(0, .ref (lt_z X + o)), (1, .int x1)] [] := by
  intro x1 w hf
  unfold fb_X12_least_0 at hf
  refine jr_iload_n hF dX12_least_0 1 rfl rfl ?_
  refine jr_i2l hF dX12_least_1 ?_
  refine jr_lconst (v := 1) hF dX12_least_2 rfl ?_
  refine jr_ldc2 (v := 20) hF dX12_least_3 kc_X12_328 ?_
  obtain ⟨q1, hq1, hf⟩ := Option.bind_eq_some_iff.mp hf
  refine jr_cS31 hF ml_X12_307 (c_X12_isFrom hq1) ⟨Nat.le_of_ble_eq_true rfl, Nat.le_of_ble_eq_true rfl⟩ (Nat.le_of_ble_eq_true rfl) dX12_least_6 ?_
  refine jr_if_ne (tgt := 18) hF dX12_least_9 rfl hf (fun hf => ?_) (fun hf => ?_)
  · refine jr_iconst (v := (-1)) hF dX12_least_18 rfl ?_
    refine jr_istore_n (lv' := [(0, .ref (lt_z X + o)), (1, .int x1), (2, .int (-1))]) hF dX12_least_19 rfl (by decide) [1, 2, 0] rfl ?_
    refine jr_aload_n hF dX12_least_20 0 rfl rfl ?_
    refine jr_sipush (v := 2140) hF dX12_least_21 rfl ?_
    obtain ⟨q2, hq2, hf⟩ := Option.bind_eq_some_iff.mp hf
    refine jr_cV1v hF ml_X12_334 (c_X12_keeps hT h0 hq2) h0 ⟨Nat.le_of_ble_eq_true rfl, Nat.le_of_ble_eq_true rfl⟩ (Nat.le_of_ble_eq_true rfl) dX12_least_24 ?_
    refine jr_iconst (v := 1) hF dX12_least_27 rfl ?_
    refine jr_istore_n (lv' := [(0, .ref (lt_z X + o)), (1, .int x1), (2, .int (-1)), (3, .int 1)]) hF dX12_least_28 rfl (by decide) [1, 2, 3, 0] rfl ?_
    exact jb_X12_least_29 hT h0 hF hE lt_fu _ _ _ _ hf
  · refine jr_aload_n hF dX12_least_12 0 rfl rfl ?_
    refine jr_iconst (v := 1) hF dX12_least_13 rfl ?_
    obtain ⟨q3, hq3, hf⟩ := Option.bind_eq_some_iff.mp hf
    refine jr_cV11 hF ml_X12_97 (c_X12_refuse h0 hq3) h0 ⟨Nat.le_of_ble_eq_true rfl, Nat.le_of_ble_eq_true rfl⟩ (Nat.le_of_ble_eq_true rfl) dX12_least_14 ?_
    obtain rfl := Option.some.inj hf
    exact jr_ireturn hF hE dX12_least_17
def f_X12_least (σ : lt_S) (o : Nat) (x1 : Int32) (w : lt_W) : Option (Int32 × lt_W) := fb_X12_least_0 σ o x1 w
set_option maxRecDepth 100000 in
theorem c_X12_least {l : Launch} {D : va_G} {gA : Nat → ClassId} {s0 : State} {σ : lt_S} (hT : lt_Wt σ) {o : Nat} (h0 : lt_c σ o = 12) {x1 : Int32} {w : lt_W} {r : Int32 × lt_W} (hf : f_X12_least σ o x1 w = some r) : lt_C l D gA s0 yX12_least cX12_least 6 (some .int) (lt_rm 7) [.ref (s0.heap.size + o), .int x1] σ w σ (some (.int r.1)) r.2 := by
  refine lt_enter rfl (Nat.le_of_ble_eq_true rfl) (fun X e1 e2 e3 e4 hF hE => ?_)
  subst e1 e2 e3 e4
  exact jb_X12_least_0 hT h0 hF hE _ _ hf

set_option maxRecDepth 100000 in
def fb_X12_leastOf_0 (x0 : Int32) : Option Int32 := if x0 = 1 then some 0 else if x0 = 5 then some 0 else some 1
set_option maxHeartbeats 4000000 in
set_option maxRecDepth 100000 in
theorem jb_X12_leastOf_0 {X : lt_X} {σ : lt_S} {r : Int32} {w : lt_W} (hF : lt_F X cX12_leastOf RX12 1 (lt_rm 1)) (hE : lt_E X 0 0 σ (some .int) (some (.int r)) w) : ∀ (x0 : Int32), fb_X12_leastOf_0 x0 = some r → lt_J X 0 0 σ w 0 [(0, .int x0)] [] := by
  intro x0 hf
  unfold fb_X12_leastOf_0 at hf
  refine jr_iload_n hF dX12_leastOf_0 0 rfl rfl ?_
  refine jr_iconst (v := 1) hF dX12_leastOf_1 rfl ?_
  refine jr_icmp_eq (tgt := 10) hF dX12_leastOf_2 rfl hf (fun hf => ?_) (fun hf => ?_)
  · refine jr_iconst (v := 0) hF dX12_leastOf_10 rfl ?_
    refine jr_goto (tgt := 15) hF dX12_leastOf_11 rfl ?_
    obtain rfl := Option.some.inj hf
    exact jr_ireturn hF hE dX12_leastOf_15
  · refine jr_iload_n hF dX12_leastOf_5 0 rfl rfl ?_
    refine jr_iconst (v := 5) hF dX12_leastOf_6 rfl ?_
    refine jr_icmp_ne (tgt := 14) hF dX12_leastOf_7 rfl hf (fun hf => ?_) (fun hf => ?_)
    · refine jr_iconst (v := 1) hF dX12_leastOf_14 rfl ?_
      obtain rfl := Option.some.inj hf
      exact jr_ireturn hF hE dX12_leastOf_15
    · refine jr_iconst (v := 0) hF dX12_leastOf_10 rfl ?_
      refine jr_goto (tgt := 15) hF dX12_leastOf_11 rfl ?_
      obtain rfl := Option.some.inj hf
      exact jr_ireturn hF hE dX12_leastOf_15
def f_X12_leastOf (x0 : Int32) : Option Int32 := fb_X12_leastOf_0 x0
set_option maxRecDepth 100000 in
theorem c_X12_leastOf {l : Launch} {D : va_G} {gA : Nat → ClassId} {s0 : State} {σ : lt_S} {x0 : Int32} {w : lt_W} {r : Int32} (hf : f_X12_leastOf x0 = some r) : lt_C l D gA s0 yX12_leastOf cX12_leastOf 1 (some .int) (lt_rm 1) [.int x0] σ w σ (some (.int r)) w := by
  refine lt_enter rfl (Nat.le_of_ble_eq_true rfl) (fun X e1 e2 e3 e4 hF hE => ?_)
  subst e1 e2 e3 e4
  exact jb_X12_leastOf_0 hF hE _ hf

set_option maxRecDepth 100000 in
def fb_X12_lives_177 (σ : lt_S) (o : Nat) (k32 : Int32 → lt_W → Option lt_W) (y1 : Int32) (w : lt_W) : Option lt_W := Option.bind (f_X12_behindEnds σ o y1 w) (fun q1 => k32 q1.1 q1.2)
set_option maxHeartbeats 4000000 in
set_option maxRecDepth 100000 in
theorem jb_X12_lives_177 {X : lt_X} {σ : lt_S} (hT : lt_Wt σ) {o : Nat} (h0 : lt_c σ o = 12) {r : lt_W} {k32 : Int32 → lt_W → Option lt_W} (hF : lt_F X cX12_lives RX12 4 (lt_rm 10)) (hE : lt_E X 0 0 σ none none r) (hk32 : ∀ (x2 : Int32) (w : lt_W), k32 x2 w = some r → lt_J X 0 0 σ w 32 [(0, .ref (lt_z X + o)), (2, .int x2)] []) : ∀ (y1 : Int32) (w : lt_W), fb_X12_lives_177 σ o k32 y1 w = some r → lt_J X 0 0 σ w 177 [(0, .ref (lt_z X + o))] [.int y1, .ref (lt_z X + o)] := by
  intro y1 w hf
  unfold fb_X12_lives_177 at hf
  obtain ⟨q1, hq1, hf⟩ := Option.bind_eq_some_iff.mp hf
  refine jr_cV11 hF ml_X12_425 (c_X12_behindEnds hT h0 hq1) h0 ⟨Nat.le_of_ble_eq_true rfl, Nat.le_of_ble_eq_true rfl⟩ (Nat.le_of_ble_eq_true rfl) dX12_lives_177 ?_
  refine jr_istore_n (lv' := [(0, .ref (lt_z X + o)), (2, .int q1.1)]) hF dX12_lives_180 rfl (by decide) [1, 0] rfl ?_
  refine jr_goto (tgt := 32) hF dX12_lives_181 rfl ?_
  exact hk32 _ _ hf
set_option maxRecDepth 100000 in
def fb_X12_lives_174 (σ : lt_S) (o : Nat) (k32 : Int32 → lt_W → Option lt_W) (x2 : Int32) (w : lt_W) : Option lt_W := fb_X12_lives_177 σ o k32 (x2 + 1) w
set_option maxHeartbeats 4000000 in
set_option maxRecDepth 100000 in
theorem jb_X12_lives_174 {X : lt_X} {σ : lt_S} (hT : lt_Wt σ) {o : Nat} (h0 : lt_c σ o = 12) {r : lt_W} {k32 : Int32 → lt_W → Option lt_W} (hF : lt_F X cX12_lives RX12 4 (lt_rm 10)) (hE : lt_E X 0 0 σ none none r) (hk32 : ∀ (x2 : Int32) (w : lt_W), k32 x2 w = some r → lt_J X 0 0 σ w 32 [(0, .ref (lt_z X + o)), (2, .int x2)] []) : ∀ (x2 : Int32) (w : lt_W), fb_X12_lives_174 σ o k32 x2 w = some r → lt_J X 0 0 σ w 174 [(0, .ref (lt_z X + o)), (2, .int x2)] [.ref (lt_z X + o)] := by
  intro x2 w hf
  unfold fb_X12_lives_174 at hf
  refine jr_iload_n hF dX12_lives_174 1 rfl rfl ?_
  refine jr_iconst (v := 1) hF dX12_lives_175 rfl ?_
  refine jr_iadd hF dX12_lives_176 ?_
  refine jr_sub [0] rfl ?_
  exact jb_X12_lives_177 hT h0 hF hE hk32 _ _ hf
set_option maxRecDepth 100000 in
def fb_X12_lives_140 (σ : lt_S) (o : Nat) (k32 : Int32 → lt_W → Option lt_W) (x2 : Int32) (x3 : Int32) (w : lt_W) : Option lt_W := lt_ck x3 (lt_len σ (lt_r σ o 0)) (if (lt_gi w (lt_r σ o 0) x3.toNatClampNeg) < 1600 then fb_X12_lives_174 σ o k32 x2 w else Option.bind (f_X12_holds σ o x3 w) (fun q2 => if q2 = 0 then lt_ck (x3 + 4) (lt_len σ (lt_r σ o 0)) (fb_X12_lives_177 σ o k32 ((lt_gi w (lt_r σ o 0) (x3 + 4).toNatClampNeg) + 1) w) else fb_X12_lives_174 σ o k32 x2 w))
set_option maxHeartbeats 4000000 in
set_option maxRecDepth 100000 in
theorem jb_X12_lives_140 {X : lt_X} {σ : lt_S} (hT : lt_Wt σ) {o : Nat} (h0 : lt_c σ o = 12) {r : lt_W} {k32 : Int32 → lt_W → Option lt_W} (hF : lt_F X cX12_lives RX12 4 (lt_rm 10)) (hE : lt_E X 0 0 σ none none r) (hk32 : ∀ (x2 : Int32) (w : lt_W), k32 x2 w = some r → lt_J X 0 0 σ w 32 [(0, .ref (lt_z X + o)), (2, .int x2)] []) : ∀ (x2 : Int32) (x3 : Int32) (w : lt_W), fb_X12_lives_140 σ o k32 x2 x3 w = some r → lt_J X 0 0 σ w 140 [(0, .ref (lt_z X + o)), (2, .int x2), (3, .int x3)] [] := by
  intro x2 x3 w hf
  unfold fb_X12_lives_140 at hf
  refine jr_aload_n hF dX12_lives_140 0 rfl rfl ?_
  refine jr_aload_n hF dX12_lives_141 0 rfl rfl ?_
  refine jr_getRT (cr := 50) hF gf_X12_7 hT h0 rfl rfl dX12_lives_142 (fun th1 => ?_)
  refine jr_iload_n hF dX12_lives_145 2 rfl rfl ?_
  refine jr_iaload hF th1 dX12_lives_146 hf (fun hf => ?_)
  refine jr_sipush (v := 1600) hF dX12_lives_147 rfl ?_
  refine jr_icmp_lt (tgt := 174) hF dX12_lives_150 rfl hf (fun hf => ?_) (fun hf => ?_)
  · refine jr_sub [0, 1] rfl ?_
    exact jb_X12_lives_174 hT h0 hF hE hk32 _ _ hf
  · refine jr_aload_n hF dX12_lives_153 0 rfl rfl ?_
    refine jr_iload_n hF dX12_lives_154 2 rfl rfl ?_
    obtain ⟨q2, hq2, hf⟩ := Option.bind_eq_some_iff.mp hf
    refine jr_cV11 hF ml_X12_422 (c_X12_holds hT h0 hq2) h0 ⟨Nat.le_of_ble_eq_true rfl, Nat.le_of_ble_eq_true rfl⟩ (Nat.le_of_ble_eq_true rfl) dX12_lives_155 ?_
    refine jr_if_ne (tgt := 174) hF dX12_lives_158 rfl hf (fun hf => ?_) (fun hf => ?_)
    · refine jr_sub [0, 1] rfl ?_
      exact jb_X12_lives_174 hT h0 hF hE hk32 _ _ hf
    · refine jr_aload_n hF dX12_lives_161 0 rfl rfl ?_
      refine jr_getRT (cr := 50) hF gf_X12_7 hT h0 rfl rfl dX12_lives_162 (fun th3 => ?_)
      refine jr_iload_n hF dX12_lives_165 2 rfl rfl ?_
      refine jr_iconst (v := 4) hF dX12_lives_166 rfl ?_
      refine jr_iadd hF dX12_lives_167 ?_
      refine jr_iaload hF th3 dX12_lives_168 hf (fun hf => ?_)
      refine jr_iconst (v := 1) hF dX12_lives_169 rfl ?_
      refine jr_iadd hF dX12_lives_170 ?_
      refine jr_goto (tgt := 177) hF dX12_lives_171 rfl ?_
      refine jr_sub [0] rfl ?_
      exact jb_X12_lives_177 hT h0 hF hE hk32 _ _ hf
set_option maxRecDepth 100000 in
def fb_X12_lives_111 (σ : lt_S) (o : Nat) (k32 : Int32 → lt_W → Option lt_W) (x2 : Int32) (x3 : Int32) (y0 : Nat) (y1 : Int32) (y2 : Int32) (y3 : Int32) (w : lt_W) : Option lt_W := lt_ck y1 (lt_len σ y0) (lt_let (lt_si w y0 y1.toNatClampNeg (y2 + y3)) (fun w1 => lt_ck x3 (lt_len σ (lt_r σ o 0)) (if (lt_gi w1 (lt_r σ o 0) x3.toNatClampNeg) = 17 then lt_ck (x3 + 1) (lt_len σ (lt_r σ o 0)) (lt_ck x2 (lt_len σ (lt_r σ o 36)) (lt_let (lt_si w1 (lt_r σ o 36) x2.toNatClampNeg ((lt_gi w1 (lt_r σ o 0) (x3 + 1).toNatClampNeg) - 1)) (fun w5 => fb_X12_lives_140 σ o k32 x2 x3 w5))) else fb_X12_lives_140 σ o k32 x2 x3 w1)))
set_option maxHeartbeats 4000000 in
set_option maxRecDepth 100000 in
theorem jb_X12_lives_111 {X : lt_X} {σ : lt_S} (hT : lt_Wt σ) {o : Nat} (h0 : lt_c σ o = 12) {r : lt_W} {k32 : Int32 → lt_W → Option lt_W} (hF : lt_F X cX12_lives RX12 4 (lt_rm 10)) (hE : lt_E X 0 0 σ none none r) (hk32 : ∀ (x2 : Int32) (w : lt_W), k32 x2 w = some r → lt_J X 0 0 σ w 32 [(0, .ref (lt_z X + o)), (2, .int x2)] []) : ∀ (x2 : Int32) (x3 : Int32) (y0 : Nat) (y1 : Int32) (y2 : Int32) (y3 : Int32) (w : lt_W), lt_c σ y0 = 50 → fb_X12_lives_111 σ o k32 x2 x3 y0 y1 y2 y3 w = some r → lt_J X 0 0 σ w 111 [(0, .ref (lt_z X + o)), (2, .int x2), (3, .int x3)] [.int y3, .int y2, .int y1, .ref (lt_z X + y0)] := by
  intro x2 x3 y0 y1 y2 y3 w u0 hf
  unfold fb_X12_lives_111 at hf
  refine jr_iadd hF dX12_lives_111 ?_
  refine jr_iastore hF u0 dX12_lives_112 hf (fun hf => ?_)
  refine jr_letW hf (fun w1 hf => ?_)
  refine jr_aload_n hF dX12_lives_113 0 rfl rfl ?_
  refine jr_getRT (cr := 50) hF gf_X12_7 hT h0 rfl rfl dX12_lives_114 (fun th2 => ?_)
  refine jr_iload_n hF dX12_lives_117 2 rfl rfl ?_
  refine jr_iaload hF th2 dX12_lives_118 hf (fun hf => ?_)
  refine jr_bipush (v := 17) hF dX12_lives_119 rfl ?_
  refine jr_icmp_ne (tgt := 140) hF dX12_lives_121 rfl hf (fun hf => ?_) (fun hf => ?_)
  · exact jb_X12_lives_140 hT h0 hF hE hk32 _ _ _ hf
  · refine jr_aload_n hF dX12_lives_124 0 rfl rfl ?_
    refine jr_getRT (cr := 50) hF gf_X12_78 hT h0 rfl rfl dX12_lives_125 (fun th3 => ?_)
    refine jr_iload_n hF dX12_lives_128 1 rfl rfl ?_
    refine jr_aload_n hF dX12_lives_129 0 rfl rfl ?_
    refine jr_getRT (cr := 50) hF gf_X12_7 hT h0 rfl rfl dX12_lives_130 (fun th4 => ?_)
    refine jr_iload_n hF dX12_lives_133 2 rfl rfl ?_
    refine jr_iconst (v := 1) hF dX12_lives_134 rfl ?_
    refine jr_iadd hF dX12_lives_135 ?_
    refine jr_iaload hF th4 dX12_lives_136 hf (fun hf => ?_)
    refine jr_iconst (v := 1) hF dX12_lives_137 rfl ?_
    refine jr_isub hF dX12_lives_138 ?_
    refine jr_iastore hF th3 dX12_lives_139 hf (fun hf => ?_)
    refine jr_letW hf (fun w5 hf => ?_)
    exact jb_X12_lives_140 hT h0 hF hE hk32 _ _ _ hf
set_option maxRecDepth 100000 in
def fb_X12_lives_32 (σ : lt_S) (o : Nat) : Nat → Int32 → lt_W → Option lt_W
  | 0, _, _ => none
  | n + 1, x2, w => lt_ck 8 (lt_len σ (lt_r σ o 0)) (if (lt_gi w (lt_r σ o 0) (8 : Int32).toNatClampNeg) ≤ x2 then some w else if (lt_gi w o 35) = 300 then lt_ck 4 (lt_len σ (lt_r σ o 37)) (lt_let (lt_si w (lt_r σ o 37) (4 : Int32).toNatClampNeg 1) (fun w7 => some w7)) else lt_let (lt_si w o 35 ((lt_gi w o 35) + 1)) (fun w2 => lt_ck (60 + (6 * x2)) (lt_len σ (lt_r σ o 0)) (if (lt_gi w2 (lt_r σ o 0) (60 + (6 * x2)).toNatClampNeg) = 19 then some w2 else lt_ck 0 (lt_len σ (lt_r σ o 37)) (Option.bind (f_X12_does σ o (60 + (6 * x2)) w2) (fun q5 => if q5.1 = 0 then fb_X12_lives_111 σ o (fun x2 w => fb_X12_lives_32 σ o n x2 w) x2 (60 + (6 * x2)) (lt_r σ o 37) 0 (lt_gi w2 (lt_r σ o 37) (0 : Int32).toNatClampNeg) 1 q5.2 else fb_X12_lives_111 σ o (fun x2 w => fb_X12_lives_32 σ o n x2 w) x2 (60 + (6 * x2)) (lt_r σ o 37) 0 (lt_gi w2 (lt_r σ o 37) (0 : Int32).toNatClampNeg) 0 q5.2)))))
set_option maxHeartbeats 4000000 in
set_option maxRecDepth 100000 in
theorem jb_X12_lives_32 {X : lt_X} {σ : lt_S} (hT : lt_Wt σ) {o : Nat} (h0 : lt_c σ o = 12) {r : lt_W} (hF : lt_F X cX12_lives RX12 4 (lt_rm 10)) (hE : lt_E X 0 0 σ none none r) (n : Nat) : ∀ (x2 : Int32) (w : lt_W), fb_X12_lives_32 σ o n x2 w = some r → lt_J X 0 0 σ w 32 [(0, .ref (lt_z X + o)), (2, .int x2)] [] := by
  induction n with
  | zero => intro x2 w hf; rw [fb_X12_lives_32] at hf; cases hf
  | succ n ih =>
    intro x2 w hf
    rw [fb_X12_lives_32] at hf
    refine jr_iload_n hF dX12_lives_32 1 rfl rfl ?_
    refine jr_aload_n hF dX12_lives_33 0 rfl rfl ?_
    refine jr_getRT (cr := 50) hF gf_X12_7 hT h0 rfl rfl dX12_lives_34 (fun th1 => ?_)
    refine jr_bipush (v := 8) hF dX12_lives_37 rfl ?_
    refine jr_iaload hF th1 dX12_lives_39 hf (fun hf => ?_)
    refine jr_icmp_ge (tgt := 184) hF dX12_lives_40 rfl hf (fun hf => ?_) (fun hf => ?_)
    · obtain rfl := Option.some.inj hf
      exact jr_return hF hE dX12_lives_184
    · refine jr_aload_n hF dX12_lives_43 0 rfl rfl ?_
      refine jr_getI hF gf_X12_416 h0 dX12_lives_44 ?_
      refine jr_sipush (v := 300) hF dX12_lives_47 rfl ?_
      refine jr_icmp_ne (tgt := 61) hF dX12_lives_50 rfl hf (fun hf => ?_) (fun hf => ?_)
      · refine jr_bipush (v := 60) hF dX12_lives_61 rfl ?_
        refine jr_bipush (v := 6) hF dX12_lives_63 rfl ?_
        refine jr_iload_n hF dX12_lives_65 1 rfl rfl ?_
        refine jr_imul hF dX12_lives_66 ?_
        refine jr_iadd hF dX12_lives_67 ?_
        refine jr_istore_n (lv' := [(0, .ref (lt_z X + o)), (2, .int x2), (3, .int (60 + (6 * x2)))]) hF dX12_lives_68 rfl (by decide) [1, 2, 0] rfl ?_
        refine jr_aload_n hF dX12_lives_69 0 rfl rfl ?_
        refine jr_dup hF dX12_lives_70 rfl ?_
        refine jr_getI hF gf_X12_416 h0 dX12_lives_71 ?_
        refine jr_iconst (v := 1) hF dX12_lives_74 rfl ?_
        refine jr_iadd hF dX12_lives_75 ?_
        refine jr_putI hF pf_X12_416 h0 dX12_lives_76 ?_
        refine jr_letW hf (fun w2 hf => ?_)
        refine jr_aload_n hF dX12_lives_79 0 rfl rfl ?_
        refine jr_getRT (cr := 50) hF gf_X12_7 hT h0 rfl rfl dX12_lives_80 (fun th3 => ?_)
        refine jr_iload_n hF dX12_lives_83 2 rfl rfl ?_
        refine jr_iaload hF th3 dX12_lives_84 hf (fun hf => ?_)
        refine jr_bipush (v := 19) hF dX12_lives_85 rfl ?_
        refine jr_icmp_ne (tgt := 91) hF dX12_lives_87 rfl hf (fun hf => ?_) (fun hf => ?_)
        · refine jr_aload_n hF dX12_lives_91 0 rfl rfl ?_
          refine jr_getRT (cr := 50) hF gf_X12_81 hT h0 rfl rfl dX12_lives_92 (fun th4 => ?_)
          refine jr_iconst (v := 0) hF dX12_lives_95 rfl ?_
          refine jr_dup2 hF dX12_lives_96 rfl rfl ?_
          refine jr_iaload hF th4 dX12_lives_97 hf (fun hf => ?_)
          refine jr_aload_n hF dX12_lives_98 0 rfl rfl ?_
          refine jr_iload_n hF dX12_lives_99 2 rfl rfl ?_
          obtain ⟨q5, hq5, hf⟩ := Option.bind_eq_some_iff.mp hf
          refine jr_cV11 hF ml_X12_419 (c_X12_does hT h0 hq5) h0 ⟨Nat.le_of_ble_eq_true rfl, Nat.le_of_ble_eq_true rfl⟩ (Nat.le_of_ble_eq_true rfl) dX12_lives_100 ?_
          refine jr_if_eq (tgt := 110) hF dX12_lives_103 rfl hf (fun hf => ?_) (fun hf => ?_)
          · refine jr_iconst (v := 1) hF dX12_lives_110 rfl ?_
            exact jb_X12_lives_111 hT h0 hF hE ih _ _ _ _ _ _ _ th4 hf
          · refine jr_iconst (v := 0) hF dX12_lives_106 rfl ?_
            refine jr_goto (tgt := 111) hF dX12_lives_107 rfl ?_
            exact jb_X12_lives_111 hT h0 hF hE ih _ _ _ _ _ _ _ th4 hf
        · obtain rfl := Option.some.inj hf
          exact jr_return hF hE dX12_lives_90
      · refine jr_aload_n hF dX12_lives_53 0 rfl rfl ?_
        refine jr_getRT (cr := 50) hF gf_X12_81 hT h0 rfl rfl dX12_lives_54 (fun th6 => ?_)
        refine jr_iconst (v := 4) hF dX12_lives_57 rfl ?_
        refine jr_iconst (v := 1) hF dX12_lives_58 rfl ?_
        refine jr_iastore hF th6 dX12_lives_59 hf (fun hf => ?_)
        refine jr_letW hf (fun w7 hf => ?_)
        obtain rfl := Option.some.inj hf
        exact jr_return hF hE dX12_lives_60
set_option maxRecDepth 100000 in
def fb_X12_lives_12 (σ : lt_S) (o : Nat) : Nat → Int32 → lt_W → Option lt_W
  | 0, _, _ => none
  | n + 1, x2, w => if 5 ≤ x2 then fb_X12_lives_32 σ o lt_fu 0 w else lt_ck x2 (lt_len σ (lt_r σ o 37)) (lt_let (lt_si w (lt_r σ o 37) x2.toNatClampNeg 0) (fun w2 => fb_X12_lives_12 σ o n (x2 + 1) w2))
set_option maxHeartbeats 4000000 in
set_option maxRecDepth 100000 in
theorem jb_X12_lives_12 {X : lt_X} {σ : lt_S} (hT : lt_Wt σ) {o : Nat} (h0 : lt_c σ o = 12) {r : lt_W} (hF : lt_F X cX12_lives RX12 4 (lt_rm 10)) (hE : lt_E X 0 0 σ none none r) (n : Nat) : ∀ (x2 : Int32) (w : lt_W), fb_X12_lives_12 σ o n x2 w = some r → lt_J X 0 0 σ w 12 [(0, .ref (lt_z X + o)), (2, .int x2)] [] := by
  induction n with
  | zero => intro x2 w hf; rw [fb_X12_lives_12] at hf; cases hf
  | succ n ih =>
    intro x2 w hf
    rw [fb_X12_lives_12] at hf
    refine jr_iload_n hF dX12_lives_12 1 rfl rfl ?_
    refine jr_iconst (v := 5) hF dX12_lives_13 rfl ?_
    refine jr_icmp_ge (tgt := 30) hF dX12_lives_14 rfl hf (fun hf => ?_) (fun hf => ?_)
    · refine jr_iconst (v := 0) hF dX12_lives_30 rfl ?_
      refine jr_istore_n (lv' := [(0, .ref (lt_z X + o)), (2, .int 0)]) hF dX12_lives_31 rfl (by decide) [1, 0] rfl ?_
      exact jb_X12_lives_32 hT h0 hF hE lt_fu _ _ hf
    · refine jr_aload_n hF dX12_lives_17 0 rfl rfl ?_
      refine jr_getRT (cr := 50) hF gf_X12_81 hT h0 rfl rfl dX12_lives_18 (fun th1 => ?_)
      refine jr_iload_n hF dX12_lives_21 1 rfl rfl ?_
      refine jr_iconst (v := 0) hF dX12_lives_22 rfl ?_
      refine jr_iastore hF th1 dX12_lives_23 hf (fun hf => ?_)
      refine jr_letW hf (fun w2 hf => ?_)
      refine jr_iinc (v := x2 + 1) (lv' := [(0, .ref (lt_z X + o)), (2, .int (x2 + 1))]) hF dX12_lives_24 1 rfl rfl (by decide) [1, 0] rfl ?_
      refine jr_goto (tgt := 12) hF dX12_lives_27 rfl ?_
      exact ih _ _ hf
set_option maxRecDepth 100000 in
def fb_X12_lives_0 (σ : lt_S) (o : Nat) (x1 : Int32) (w : lt_W) : Option lt_W := lt_let (lt_si w o 34 x1) (fun w1 => lt_let (lt_si w1 o 35 0) (fun w2 => fb_X12_lives_12 σ o lt_fu 0 w2))
set_option maxHeartbeats 4000000 in
set_option maxRecDepth 100000 in
theorem jb_X12_lives_0 {X : lt_X} {σ : lt_S} (hT : lt_Wt σ) {o : Nat} (h0 : lt_c σ o = 12) {r : lt_W} (hF : lt_F X cX12_lives RX12 4 (lt_rm 10)) (hE : lt_E X 0 0 σ none none r) : ∀ (x1 : Int32) (w : lt_W), fb_X12_lives_0 σ o x1 w = some r → lt_J X 0 0 σ w 0 [(0, .ref (lt_z X + o)), (1, .int x1)] [] := by
  intro x1 w hf
  unfold fb_X12_lives_0 at hf
  refine jr_aload_n hF dX12_lives_0 0 rfl rfl ?_
  refine jr_iload_n hF dX12_lives_1 1 rfl rfl ?_
  refine jr_putI hF pf_X12_397 h0 dX12_lives_2 ?_
  refine jr_letW hf (fun w1 hf => ?_)
  refine jr_aload_n hF dX12_lives_5 0 rfl rfl ?_
  refine jr_iconst (v := 0) hF dX12_lives_6 rfl ?_
  refine jr_putI hF pf_X12_416 h0 dX12_lives_7 ?_
  refine jr_letW hf (fun w2 hf => ?_)
  refine jr_iconst (v := 0) hF dX12_lives_10 rfl ?_
  refine jr_istore_n (lv' := [(0, .ref (lt_z X + o)), (2, .int 0)]) hF dX12_lives_11 rfl (by decide) [1, 0] rfl ?_
  exact jb_X12_lives_12 hT h0 hF hE lt_fu _ _ hf
def f_X12_lives (σ : lt_S) (o : Nat) (x1 : Int32) (w : lt_W) : Option lt_W := fb_X12_lives_0 σ o x1 w
set_option maxRecDepth 100000 in
theorem c_X12_lives {l : Launch} {D : va_G} {gA : Nat → ClassId} {s0 : State} {σ : lt_S} (hT : lt_Wt σ) {o : Nat} (h0 : lt_c σ o = 12) {x1 : Int32} {w : lt_W} {r : lt_W} (hf : f_X12_lives σ o x1 w = some r) : lt_C l D gA s0 yX12_lives cX12_lives 4 none (lt_rm 10) [.ref (s0.heap.size + o), .int x1] σ w σ none r := by
  refine lt_enter rfl (Nat.le_of_ble_eq_true rfl) (fun X e1 e2 e3 e4 hF hE => ?_)
  subst e1 e2 e3 e4
  exact jb_X12_lives_0 hT h0 hF hE _ _ hf

set_option maxRecDepth 100000 in
def fb_X12_live_43 (σ : lt_S) (o : Nat) : Nat → Int32 → lt_W → Option (Int32 × lt_W)
  | 0, _, _ => none
  | n + 1, x2, w => if 5 ≤ x2 then lt_let (lt_si w o 39 1) (fun w1 => Option.bind (f_X12_gives σ o (lt_gi w1 o 35) w1) (fun q2 => some (q2.1, q2.2))) else lt_ck x2 (lt_len σ (lt_r σ o 37)) (lt_ck x2 (lt_len σ (lt_r σ o 38)) (lt_let (lt_si w (lt_r σ o 38) x2.toNatClampNeg (lt_gi w (lt_r σ o 37) x2.toNatClampNeg)) (fun w5 => fb_X12_live_43 σ o n (x2 + 1) w5)))
set_option maxHeartbeats 4000000 in
set_option maxRecDepth 100000 in
theorem jb_X12_live_43 {X : lt_X} {σ : lt_S} (hT : lt_Wt σ) {o : Nat} (h0 : lt_c σ o = 12) {r : Int32 × lt_W} (hF : lt_F X cX12_live RX12 3 (lt_rm 11)) (hE : lt_E X 0 0 σ (some .int) (some (.int r.1)) r.2) (n : Nat) : ∀ (x2 : Int32) (w : lt_W), fb_X12_live_43 σ o n x2 w = some r → lt_J X 0 0 σ w 43 [(0, .ref (lt_z X + o)), (2, .int x2)] [] := by
  induction n with
  | zero => intro x2 w hf; rw [fb_X12_live_43] at hf; cases hf
  | succ n ih =>
    intro x2 w hf
    rw [fb_X12_live_43] at hf
    refine jr_iload_n hF dX12_live_43 1 rfl rfl ?_
    refine jr_iconst (v := 5) hF dX12_live_44 rfl ?_
    refine jr_icmp_ge (tgt := 66) hF dX12_live_45 rfl hf (fun hf => ?_) (fun hf => ?_)
    · refine jr_aload_n hF dX12_live_66 0 rfl rfl ?_
      refine jr_iconst (v := 1) hF dX12_live_67 rfl ?_
      refine jr_putZ hF pf_X12_433 h0 (Or.inr rfl) dX12_live_68 ?_
      refine jr_letW hf (fun w1 hf => ?_)
      refine jr_aload_n hF dX12_live_71 0 rfl rfl ?_
      refine jr_aload_n hF dX12_live_72 0 rfl rfl ?_
      refine jr_getI hF gf_X12_416 h0 dX12_live_73 ?_
      obtain ⟨q2, hq2, hf⟩ := Option.bind_eq_some_iff.mp hf
      refine jr_cV11 hF ml_X12_101 (c_X12_gives h0 hq2) h0 ⟨Nat.le_of_ble_eq_true rfl, Nat.le_of_ble_eq_true rfl⟩ (Nat.le_of_ble_eq_true rfl) dX12_live_76 ?_
      obtain rfl := Option.some.inj hf
      exact jr_ireturn hF hE dX12_live_79
    · refine jr_aload_n hF dX12_live_48 0 rfl rfl ?_
      refine jr_getRT (cr := 50) hF gf_X12_84 hT h0 rfl rfl dX12_live_49 (fun th3 => ?_)
      refine jr_iload_n hF dX12_live_52 1 rfl rfl ?_
      refine jr_aload_n hF dX12_live_53 0 rfl rfl ?_
      refine jr_getRT (cr := 50) hF gf_X12_81 hT h0 rfl rfl dX12_live_54 (fun th4 => ?_)
      refine jr_iload_n hF dX12_live_57 1 rfl rfl ?_
      refine jr_iaload hF th4 dX12_live_58 hf (fun hf => ?_)
      refine jr_iastore hF th3 dX12_live_59 hf (fun hf => ?_)
      refine jr_letW hf (fun w5 hf => ?_)
      refine jr_iinc (v := x2 + 1) (lv' := [(0, .ref (lt_z X + o)), (2, .int (x2 + 1))]) hF dX12_live_60 1 rfl rfl (by decide) [1, 0] rfl ?_
      refine jr_goto (tgt := 43) hF dX12_live_63 rfl ?_
      exact ih _ _ hf
set_option maxRecDepth 100000 in
def fb_X12_live_0 (σ : lt_S) (o : Nat) (x1 : Int32) (w : lt_W) : Option (Int32 × lt_W) := Option.bind (f_X12_isFrom x1.toInt64 0 9999) (fun q1 => if q1 = 0 then Option.bind (f_X12_refuse σ o 1 w) (fun q5 => some (q5.1, q5.2)) else lt_ck 8 (lt_len σ (lt_r σ o 0)) (if (lt_gi w (lt_r σ o 0) (8 : Int32).toNatClampNeg) = (-1) then Option.bind (f_X12_refuse σ o 6 w) (fun q4 => some (q4.1, q4.2)) else Option.bind (f_X12_lives σ o x1 w) (fun q3 => fb_X12_live_43 σ o lt_fu 0 q3)))
set_option maxHeartbeats 4000000 in
set_option maxRecDepth 100000 in
theorem jb_X12_live_0 {X : lt_X} {σ : lt_S} (hT : lt_Wt σ) {o : Nat} (h0 : lt_c σ o = 12) {r : Int32 × lt_W} (hF : lt_F X cX12_live RX12 3 (lt_rm 11)) (hE : lt_E X 0 0 σ (some .int) (some (.int r.1)) r.2) : ∀ (x1 : Int32) (w : lt_W), fb_X12_live_0 σ o x1 w = some r → lt_J X 0 0 σ w 0 [(0, .ref (lt_z X + o)), (1, .int x1)] [] := by
  intro x1 w hf
  unfold fb_X12_live_0 at hf
  refine jr_iload_n hF dX12_live_0 1 rfl rfl ?_
  refine jr_i2l hF dX12_live_1 ?_
  refine jr_lconst (v := 0) hF dX12_live_2 rfl ?_
  refine jr_ldc2 (v := 9999) hF dX12_live_3 kc_X12_428 ?_
  obtain ⟨q1, hq1, hf⟩ := Option.bind_eq_some_iff.mp hf
  refine jr_cS31 hF ml_X12_307 (c_X12_isFrom hq1) ⟨Nat.le_of_ble_eq_true rfl, Nat.le_of_ble_eq_true rfl⟩ (Nat.le_of_ble_eq_true rfl) dX12_live_6 ?_
  refine jr_if_ne (tgt := 18) hF dX12_live_9 rfl hf (fun hf => ?_) (fun hf => ?_)
  · refine jr_aload_n hF dX12_live_18 0 rfl rfl ?_
    refine jr_getRT (cr := 50) hF gf_X12_7 hT h0 rfl rfl dX12_live_19 (fun th2 => ?_)
    refine jr_bipush (v := 8) hF dX12_live_22 rfl ?_
    refine jr_iaload hF th2 dX12_live_24 hf (fun hf => ?_)
    refine jr_iconst (v := (-1)) hF dX12_live_25 rfl ?_
    refine jr_icmp_ne (tgt := 36) hF dX12_live_26 rfl hf (fun hf => ?_) (fun hf => ?_)
    · refine jr_aload_n hF dX12_live_36 0 rfl rfl ?_
      refine jr_iload_n hF dX12_live_37 1 rfl rfl ?_
      obtain ⟨q3, hq3, hf⟩ := Option.bind_eq_some_iff.mp hf
      refine jr_cV1v hF ml_X12_430 (c_X12_lives hT h0 hq3) h0 ⟨Nat.le_of_ble_eq_true rfl, Nat.le_of_ble_eq_true rfl⟩ (Nat.le_of_ble_eq_true rfl) dX12_live_38 ?_
      refine jr_iconst (v := 0) hF dX12_live_41 rfl ?_
      refine jr_istore_n (lv' := [(0, .ref (lt_z X + o)), (2, .int 0)]) hF dX12_live_42 rfl (by decide) [1, 0] rfl ?_
      exact jb_X12_live_43 hT h0 hF hE lt_fu _ _ hf
    · refine jr_aload_n hF dX12_live_29 0 rfl rfl ?_
      refine jr_bipush (v := 6) hF dX12_live_30 rfl ?_
      obtain ⟨q4, hq4, hf⟩ := Option.bind_eq_some_iff.mp hf
      refine jr_cV11 hF ml_X12_97 (c_X12_refuse h0 hq4) h0 ⟨Nat.le_of_ble_eq_true rfl, Nat.le_of_ble_eq_true rfl⟩ (Nat.le_of_ble_eq_true rfl) dX12_live_32 ?_
      obtain rfl := Option.some.inj hf
      exact jr_ireturn hF hE dX12_live_35
  · refine jr_aload_n hF dX12_live_12 0 rfl rfl ?_
    refine jr_iconst (v := 1) hF dX12_live_13 rfl ?_
    obtain ⟨q5, hq5, hf⟩ := Option.bind_eq_some_iff.mp hf
    refine jr_cV11 hF ml_X12_97 (c_X12_refuse h0 hq5) h0 ⟨Nat.le_of_ble_eq_true rfl, Nat.le_of_ble_eq_true rfl⟩ (Nat.le_of_ble_eq_true rfl) dX12_live_14 ?_
    obtain rfl := Option.some.inj hf
    exact jr_ireturn hF hE dX12_live_17
def f_X12_live (σ : lt_S) (o : Nat) (x1 : Int32) (w : lt_W) : Option (Int32 × lt_W) := fb_X12_live_0 σ o x1 w
set_option maxRecDepth 100000 in
theorem c_X12_live {l : Launch} {D : va_G} {gA : Nat → ClassId} {s0 : State} {σ : lt_S} (hT : lt_Wt σ) {o : Nat} (h0 : lt_c σ o = 12) {x1 : Int32} {w : lt_W} {r : Int32 × lt_W} (hf : f_X12_live σ o x1 w = some r) : lt_C l D gA s0 yX12_live cX12_live 3 (some .int) (lt_rm 11) [.ref (s0.heap.size + o), .int x1] σ w σ (some (.int r.1)) r.2 := by
  refine lt_enter rfl (Nat.le_of_ble_eq_true rfl) (fun X e1 e2 e3 e4 hF hE => ?_)
  subst e1 e2 e3 e4
  exact jb_X12_live_0 hT h0 hF hE _ _ hf

set_option maxRecDepth 100000 in
def fb_X12_lived_9 (σ : lt_S) (o : Nat) (w : lt_W) : Option (Int32 × lt_W) := Option.bind (f_X12_refuse σ o 1 w) (fun q1 => some (q1.1, q1.2))
set_option maxHeartbeats 4000000 in
set_option maxRecDepth 100000 in
theorem jb_X12_lived_9 {X : lt_X} {σ : lt_S} (hT : lt_Wt σ) {o : Nat} (h0 : lt_c σ o = 12) {r : Int32 × lt_W} (hF : lt_F X cX12_lived RX12 2 (lt_rm 2)) (hE : lt_E X 0 0 σ (some .int) (some (.int r.1)) r.2) : ∀ (w : lt_W), fb_X12_lived_9 σ o w = some r → lt_J X 0 0 σ w 9 [(0, .ref (lt_z X + o))] [] := by
  intro w hf
  unfold fb_X12_lived_9 at hf
  refine jr_aload_n hF dX12_lived_9 0 rfl rfl ?_
  refine jr_iconst (v := 1) hF dX12_lived_10 rfl ?_
  obtain ⟨q1, hq1, hf⟩ := Option.bind_eq_some_iff.mp hf
  refine jr_cV11 hF ml_X12_97 (c_X12_refuse h0 hq1) h0 ⟨Nat.le_of_ble_eq_true rfl, Nat.le_of_ble_eq_true rfl⟩ (Nat.le_of_ble_eq_true rfl) dX12_lived_11 ?_
  refine jr_goto (tgt := 43) hF dX12_lived_14 rfl ?_
  obtain rfl := Option.some.inj hf
  exact jr_ireturn hF hE dX12_lived_43
set_option maxRecDepth 100000 in
def fb_X12_lived_0 (σ : lt_S) (o : Nat) (x1 : Int32) (w : lt_W) : Option (Int32 × lt_W) := if x1 < 0 then fb_X12_lived_9 σ o w else if x1 ≤ 4 then if (lt_gi w o 39) = 0 then Option.bind (f_X12_refuse σ o 6 w) (fun q1 => some (q1.1, q1.2)) else lt_ck x1 (lt_len σ (lt_r σ o 38)) (Option.bind (f_X12_gives σ o (lt_gi w (lt_r σ o 38) x1.toNatClampNeg) w) (fun q3 => some (q3.1, q3.2))) else fb_X12_lived_9 σ o w
set_option maxHeartbeats 4000000 in
set_option maxRecDepth 100000 in
theorem jb_X12_lived_0 {X : lt_X} {σ : lt_S} (hT : lt_Wt σ) {o : Nat} (h0 : lt_c σ o = 12) {r : Int32 × lt_W} (hF : lt_F X cX12_lived RX12 2 (lt_rm 2)) (hE : lt_E X 0 0 σ (some .int) (some (.int r.1)) r.2) : ∀ (x1 : Int32) (w : lt_W), fb_X12_lived_0 σ o x1 w = some r → lt_J X 0 0 σ w 0 [(0, .ref (lt_z X + o)), (1, .int x1)] [] := by
  intro x1 w hf
  unfold fb_X12_lived_0 at hf
  refine jr_iload_n hF dX12_lived_0 1 rfl rfl ?_
  refine jr_if_lt (tgt := 9) hF dX12_lived_1 rfl hf (fun hf => ?_) (fun hf => ?_)
  · refine jr_sub [0] rfl ?_
    exact jb_X12_lived_9 hT h0 hF hE _ hf
  · refine jr_iload_n hF dX12_lived_4 1 rfl rfl ?_
    refine jr_iconst (v := 4) hF dX12_lived_5 rfl ?_
    refine jr_icmp_le (tgt := 17) hF dX12_lived_6 rfl hf (fun hf => ?_) (fun hf => ?_)
    · refine jr_aload_n hF dX12_lived_17 0 rfl rfl ?_
      refine jr_getI hF gf_X12_433 h0 dX12_lived_18 ?_
      refine jr_if_eq (tgt := 37) hF dX12_lived_21 rfl hf (fun hf => ?_) (fun hf => ?_)
      · refine jr_aload_n hF dX12_lived_37 0 rfl rfl ?_
        refine jr_bipush (v := 6) hF dX12_lived_38 rfl ?_
        obtain ⟨q1, hq1, hf⟩ := Option.bind_eq_some_iff.mp hf
        refine jr_cV11 hF ml_X12_97 (c_X12_refuse h0 hq1) h0 ⟨Nat.le_of_ble_eq_true rfl, Nat.le_of_ble_eq_true rfl⟩ (Nat.le_of_ble_eq_true rfl) dX12_lived_40 ?_
        obtain rfl := Option.some.inj hf
        exact jr_ireturn hF hE dX12_lived_43
      · refine jr_aload_n hF dX12_lived_24 0 rfl rfl ?_
        refine jr_aload_n hF dX12_lived_25 0 rfl rfl ?_
        refine jr_getRT (cr := 50) hF gf_X12_84 hT h0 rfl rfl dX12_lived_26 (fun th2 => ?_)
        refine jr_iload_n hF dX12_lived_29 1 rfl rfl ?_
        refine jr_iaload hF th2 dX12_lived_30 hf (fun hf => ?_)
        obtain ⟨q3, hq3, hf⟩ := Option.bind_eq_some_iff.mp hf
        refine jr_cV11 hF ml_X12_101 (c_X12_gives h0 hq3) h0 ⟨Nat.le_of_ble_eq_true rfl, Nat.le_of_ble_eq_true rfl⟩ (Nat.le_of_ble_eq_true rfl) dX12_lived_31 ?_
        refine jr_goto (tgt := 43) hF dX12_lived_34 rfl ?_
        obtain rfl := Option.some.inj hf
        exact jr_ireturn hF hE dX12_lived_43
    · refine jr_sub [0] rfl ?_
      exact jb_X12_lived_9 hT h0 hF hE _ hf
def f_X12_lived (σ : lt_S) (o : Nat) (x1 : Int32) (w : lt_W) : Option (Int32 × lt_W) := fb_X12_lived_0 σ o x1 w
set_option maxRecDepth 100000 in
theorem c_X12_lived {l : Launch} {D : va_G} {gA : Nat → ClassId} {s0 : State} {σ : lt_S} (hT : lt_Wt σ) {o : Nat} (h0 : lt_c σ o = 12) {x1 : Int32} {w : lt_W} {r : Int32 × lt_W} (hf : f_X12_lived σ o x1 w = some r) : lt_C l D gA s0 yX12_lived cX12_lived 2 (some .int) (lt_rm 2) [.ref (s0.heap.size + o), .int x1] σ w σ (some (.int r.1)) r.2 := by
  refine lt_enter rfl (Nat.le_of_ble_eq_true rfl) (fun X e1 e2 e3 e4 hF hE => ?_)
  subst e1 e2 e3 e4
  exact jb_X12_lived_0 hT h0 hF hE _ _ hf

set_option maxRecDepth 100000 in
def fb_X12_mark_0 (σ : lt_S) (o : Nat) (w : lt_W) : Option (Int32 × lt_W) := if (lt_gi w o 40) = 3 then Option.bind (f_X12_refuse σ o 4 w) (fun q4 => some (q4.1, q4.2)) else lt_let (lt_si w o 40 ((lt_gi w o 40) + 1)) (fun w1 => Option.bind (f_X12_copies σ o 0 (lt_gi w1 o 40) w1) (fun q2 => Option.bind (f_X12_gives σ o (lt_gi q2 o 40) q2) (fun q3 => some (q3.1, q3.2))))
set_option maxHeartbeats 4000000 in
set_option maxRecDepth 100000 in
theorem jb_X12_mark_0 {X : lt_X} {σ : lt_S} (hT : lt_Wt σ) {o : Nat} (h0 : lt_c σ o = 12) {r : Int32 × lt_W} (hF : lt_F X cX12_mark RX12 1 (lt_rm 2)) (hE : lt_E X 0 0 σ (some .int) (some (.int r.1)) r.2) : ∀ (w : lt_W), fb_X12_mark_0 σ o w = some r → lt_J X 0 0 σ w 0 [(0, .ref (lt_z X + o))] [] := by
  intro w hf
  unfold fb_X12_mark_0 at hf
  refine jr_aload_n hF dX12_mark_0 0 rfl rfl ?_
  refine jr_getI hF gf_X12_437 h0 dX12_mark_1 ?_
  refine jr_iconst (v := 3) hF dX12_mark_4 rfl ?_
  refine jr_icmp_ne (tgt := 14) hF dX12_mark_5 rfl hf (fun hf => ?_) (fun hf => ?_)
  · refine jr_aload_n hF dX12_mark_14 0 rfl rfl ?_
    refine jr_dup hF dX12_mark_15 rfl ?_
    refine jr_getI hF gf_X12_437 h0 dX12_mark_16 ?_
    refine jr_iconst (v := 1) hF dX12_mark_19 rfl ?_
    refine jr_iadd hF dX12_mark_20 ?_
    refine jr_putI hF pf_X12_437 h0 dX12_mark_21 ?_
    refine jr_letW hf (fun w1 hf => ?_)
    refine jr_aload_n hF dX12_mark_24 0 rfl rfl ?_
    refine jr_iconst (v := 0) hF dX12_mark_25 rfl ?_
    refine jr_aload_n hF dX12_mark_26 0 rfl rfl ?_
    refine jr_getI hF gf_X12_437 h0 dX12_mark_27 ?_
    obtain ⟨q2, hq2, hf⟩ := Option.bind_eq_some_iff.mp hf
    refine jr_cV2v hF ml_X12_440 (c_X12_copies hT h0 hq2) h0 ⟨Nat.le_of_ble_eq_true rfl, Nat.le_of_ble_eq_true rfl⟩ (Nat.le_of_ble_eq_true rfl) dX12_mark_30 ?_
    refine jr_aload_n hF dX12_mark_33 0 rfl rfl ?_
    refine jr_aload_n hF dX12_mark_34 0 rfl rfl ?_
    refine jr_getI hF gf_X12_437 h0 dX12_mark_35 ?_
    obtain ⟨q3, hq3, hf⟩ := Option.bind_eq_some_iff.mp hf
    refine jr_cV11 hF ml_X12_101 (c_X12_gives h0 hq3) h0 ⟨Nat.le_of_ble_eq_true rfl, Nat.le_of_ble_eq_true rfl⟩ (Nat.le_of_ble_eq_true rfl) dX12_mark_38 ?_
    obtain rfl := Option.some.inj hf
    exact jr_ireturn hF hE dX12_mark_41
  · refine jr_aload_n hF dX12_mark_8 0 rfl rfl ?_
    refine jr_iconst (v := 4) hF dX12_mark_9 rfl ?_
    obtain ⟨q4, hq4, hf⟩ := Option.bind_eq_some_iff.mp hf
    refine jr_cV11 hF ml_X12_97 (c_X12_refuse h0 hq4) h0 ⟨Nat.le_of_ble_eq_true rfl, Nat.le_of_ble_eq_true rfl⟩ (Nat.le_of_ble_eq_true rfl) dX12_mark_10 ?_
    obtain rfl := Option.some.inj hf
    exact jr_ireturn hF hE dX12_mark_13
def f_X12_mark (σ : lt_S) (o : Nat) (w : lt_W) : Option (Int32 × lt_W) := fb_X12_mark_0 σ o w
set_option maxRecDepth 100000 in
theorem c_X12_mark {l : Launch} {D : va_G} {gA : Nat → ClassId} {s0 : State} {σ : lt_S} (hT : lt_Wt σ) {o : Nat} (h0 : lt_c σ o = 12) {w : lt_W} {r : Int32 × lt_W} (hf : f_X12_mark σ o w = some r) : lt_C l D gA s0 yX12_mark cX12_mark 1 (some .int) (lt_rm 2) [.ref (s0.heap.size + o)] σ w σ (some (.int r.1)) r.2 := by
  refine lt_enter rfl (Nat.le_of_ble_eq_true rfl) (fun X e1 e2 e3 e4 hF hE => ?_)
  subst e1 e2 e3 e4
  exact jb_X12_mark_0 hT h0 hF hE _ hf

set_option maxRecDepth 100000 in
def fb_X12_mean_35 (σ : lt_S) (o : Nat) (w : lt_W) : Option (Int32 × lt_W) := Option.bind (f_X12_is σ o 1 w) (fun q1 => lt_bz q1.1 (some (q1.1, q1.2)))
set_option maxHeartbeats 4000000 in
set_option maxRecDepth 100000 in
theorem jb_X12_mean_35 {X : lt_X} {σ : lt_S} (hT : lt_Wt σ) {o : Nat} (h0 : lt_c σ o = 12) {r : Int32 × lt_W} (hF : lt_F X cX12_mean RX12 6 (lt_rm 11)) (hE : lt_E X 0 0 σ (some .boolean) (some (.int r.1)) r.2) : ∀ (w : lt_W), fb_X12_mean_35 σ o w = some r → lt_J X 0 0 σ w 35 [(0, .ref (lt_z X + o))] [] := by
  intro w hf
  unfold fb_X12_mean_35 at hf
  refine jr_aload_n hF dX12_mean_35 0 rfl rfl ?_
  refine jr_iconst (v := 1) hF dX12_mean_36 rfl ?_
  obtain ⟨q1, hq1, hf⟩ := Option.bind_eq_some_iff.mp hf
  refine jr_cV11 hF ml_X12_104 (c_X12_is h0 hq1) h0 ⟨Nat.le_of_ble_eq_true rfl, Nat.le_of_ble_eq_true rfl⟩ (Nat.le_of_ble_eq_true rfl) dX12_mean_37 ?_
  obtain ⟨b2, hf⟩ := lt_bzE hf
  obtain rfl := Option.some.inj hf
  exact jr_zreturn hF hE b2 dX12_mean_40
set_option maxRecDepth 100000 in
def fb_X12_mean_71 (σ : lt_S) (o : Nat) : Nat → Int32 → Int32 → Int64 → Int32 → lt_W → Option (Int32 × lt_W)
  | 0, _, _, _, _, _ => none
  | n + 1, x1, x2, x3, x5, w => if x2 ≤ x5 then Option.bind (f_X12_tellsBy σ o x3 x2.toInt64 w) (fun q1 => lt_bz q1.1 (some (q1.1, q1.2))) else Option.bind (f_X12_lives σ o (x1 + x5) w) (fun q3 => Option.bind (f_X12_areHere σ o q3) (fun q4 => Option.bind (f_X12_bits q4) (fun q5 => Option.bind (f_X12_brings σ o 2140 q3) (fun q6 => fb_X12_mean_71 σ o n x1 x2 (x3 + q5.toInt64) (x5 + 1) q6))))
set_option maxHeartbeats 4000000 in
set_option maxRecDepth 100000 in
theorem jb_X12_mean_71 {X : lt_X} {σ : lt_S} (hT : lt_Wt σ) {o : Nat} (h0 : lt_c σ o = 12) {r : Int32 × lt_W} (hF : lt_F X cX12_mean RX12 6 (lt_rm 11)) (hE : lt_E X 0 0 σ (some .boolean) (some (.int r.1)) r.2) (n : Nat) : ∀ (x1 : Int32) (x2 : Int32) (x3 : Int64) (x5 : Int32) (w : lt_W), fb_X12_mean_71 σ o n x1 x2 x3 x5 w = some r → lt_J X 0 0 σ w 71 [(0, .ref (lt_z X + o)), (1, .int x1), (2, .int x2), (3, .long x3), (5, .int x5)] [] := by
  induction n with
  | zero => intro x1 x2 x3 x5 w hf; rw [fb_X12_mean_71] at hf; cases hf
  | succ n ih =>
    intro x1 x2 x3 x5 w hf
    rw [fb_X12_mean_71] at hf
    refine jr_iload hF dX12_mean_71 4 rfl ?_
    refine jr_iload_n hF dX12_mean_73 2 rfl rfl ?_
    refine jr_icmp_ge (tgt := 109) hF dX12_mean_74 rfl hf (fun hf => ?_) (fun hf => ?_)
    · refine jr_aload_n hF dX12_mean_109 0 rfl rfl ?_
      refine jr_lload_n hF dX12_mean_110 3 rfl rfl ?_
      refine jr_iload_n hF dX12_mean_111 2 rfl rfl ?_
      refine jr_i2l hF dX12_mean_112 ?_
      obtain ⟨q1, hq1, hf⟩ := Option.bind_eq_some_iff.mp hf
      refine jr_cV21 hF ml_X12_373 (c_X12_tellsBy h0 hq1) h0 ⟨Nat.le_of_ble_eq_true rfl, Nat.le_of_ble_eq_true rfl⟩ (Nat.le_of_ble_eq_true rfl) dX12_mean_113 ?_
      obtain ⟨b2, hf⟩ := lt_bzE hf
      obtain rfl := Option.some.inj hf
      exact jr_zreturn hF hE b2 dX12_mean_116
    · refine jr_aload_n hF dX12_mean_77 0 rfl rfl ?_
      refine jr_iload_n hF dX12_mean_78 1 rfl rfl ?_
      refine jr_iload hF dX12_mean_79 4 rfl ?_
      refine jr_iadd hF dX12_mean_81 ?_
      obtain ⟨q3, hq3, hf⟩ := Option.bind_eq_some_iff.mp hf
      refine jr_cV1v hF ml_X12_430 (c_X12_lives hT h0 hq3) h0 ⟨Nat.le_of_ble_eq_true rfl, Nat.le_of_ble_eq_true rfl⟩ (Nat.le_of_ble_eq_true rfl) dX12_mean_82 ?_
      refine jr_lload_n hF dX12_mean_85 3 rfl rfl ?_
      refine jr_aload_n hF dX12_mean_86 0 rfl rfl ?_
      obtain ⟨q4, hq4, hf⟩ := Option.bind_eq_some_iff.mp hf
      refine jr_cV01 hF ml_X12_275 (c_X12_areHere hT h0 hq4) h0 ⟨Nat.le_of_ble_eq_true rfl, Nat.le_of_ble_eq_true rfl⟩ (Nat.le_of_ble_eq_true rfl) dX12_mean_87 ?_
      obtain ⟨q5, hq5, hf⟩ := Option.bind_eq_some_iff.mp hf
      refine jr_cS11 hF ml_X12_293 (c_X12_bits hq5) ⟨Nat.le_of_ble_eq_true rfl, Nat.le_of_ble_eq_true rfl⟩ (Nat.le_of_ble_eq_true rfl) dX12_mean_90 ?_
      refine jr_i2l hF dX12_mean_93 ?_
      refine jr_ladd hF dX12_mean_94 ?_
      refine jr_lstore_n (lv' := [(0, .ref (lt_z X + o)), (1, .int x1), (2, .int x2), (3, .long (x3 + q5.toInt64)), (5, .int x5)]) hF dX12_mean_95 rfl (by decide) [1, 2, 3, 0, 4] rfl ?_
      refine jr_aload_n hF dX12_mean_96 0 rfl rfl ?_
      refine jr_sipush (v := 2140) hF dX12_mean_97 rfl ?_
      obtain ⟨q6, hq6, hf⟩ := Option.bind_eq_some_iff.mp hf
      refine jr_cV1v hF ml_X12_337 (c_X12_brings hT h0 hq6) h0 ⟨Nat.le_of_ble_eq_true rfl, Nat.le_of_ble_eq_true rfl⟩ (Nat.le_of_ble_eq_true rfl) dX12_mean_100 ?_
      refine jr_iinc (v := x5 + 1) (lv' := [(0, .ref (lt_z X + o)), (1, .int x1), (2, .int x2), (3, .long (x3 + q5.toInt64)), (5, .int (x5 + 1))]) hF dX12_mean_103 4 rfl rfl (by decide) [1, 2, 3, 4, 0] rfl ?_
      refine jr_goto (tgt := 71) hF dX12_mean_106 rfl ?_
      exact ih _ _ _ _ _ hf
set_option maxRecDepth 100000 in
def fb_X12_mean_0 (σ : lt_S) (o : Nat) (x1 : Int32) (x2 : Int32) (w : lt_W) : Option (Int32 × lt_W) := Option.bind (f_X12_isFrom x1.toInt64 0 9999) (fun q1 => if q1 = 0 then fb_X12_mean_35 σ o w else Option.bind (f_X12_isFrom x2.toInt64 1 20) (fun q2 => if q2 = 0 then fb_X12_mean_35 σ o w else if ((x1 + x2) - 1) ≤ 9999 then lt_ck 8 (lt_len σ (lt_r σ o 0)) (if (lt_gi w (lt_r σ o 0) (8 : Int32).toNatClampNeg) = (-1) then Option.bind (f_X12_is σ o 6 w) (fun q5 => lt_bz q5.1 (some (q5.1, q5.2))) else Option.bind (f_X12_keeps σ o 2140 w) (fun q4 => fb_X12_mean_71 σ o lt_fu x1 x2 0 0 q4)) else fb_X12_mean_35 σ o w))
set_option maxHeartbeats 4000000 in
set_option maxRecDepth 100000 in
theorem jb_X12_mean_0 {X : lt_X} {σ : lt_S} (hT : lt_Wt σ) {o : Nat} (h0 : lt_c σ o = 12) {r : Int32 × lt_W} (hF : lt_F X cX12_mean RX12 6 (lt_rm 11)) (hE : lt_E X 0 0 σ (some .boolean) (some (.int r.1)) r.2) : ∀ (x1 : Int32) (x2 : Int32) (w : lt_W), fb_X12_mean_0 σ o x1 x2 w = some r → lt_J X 0 0 σ w 0 [(0, .ref (lt_z X + o)), (1, .int x1), (2, .int x2)] [] := by
  intro x1 x2 w hf
  unfold fb_X12_mean_0 at hf
  refine jr_iload_n hF dX12_mean_0 1 rfl rfl ?_
  refine jr_i2l hF dX12_mean_1 ?_
  refine jr_lconst (v := 0) hF dX12_mean_2 rfl ?_
  refine jr_ldc2 (v := 9999) hF dX12_mean_3 kc_X12_428 ?_
  obtain ⟨q1, hq1, hf⟩ := Option.bind_eq_some_iff.mp hf
  refine jr_cS31 hF ml_X12_307 (c_X12_isFrom hq1) ⟨Nat.le_of_ble_eq_true rfl, Nat.le_of_ble_eq_true rfl⟩ (Nat.le_of_ble_eq_true rfl) dX12_mean_6 ?_
  refine jr_if_eq (tgt := 35) hF dX12_mean_9 rfl hf (fun hf => ?_) (fun hf => ?_)
  · refine jr_sub [0] rfl ?_
    exact jb_X12_mean_35 hT h0 hF hE _ hf
  · refine jr_iload_n hF dX12_mean_12 2 rfl rfl ?_
    refine jr_i2l hF dX12_mean_13 ?_
    refine jr_lconst (v := 1) hF dX12_mean_14 rfl ?_
    refine jr_ldc2 (v := 20) hF dX12_mean_15 kc_X12_328 ?_
    obtain ⟨q2, hq2, hf⟩ := Option.bind_eq_some_iff.mp hf
    refine jr_cS31 hF ml_X12_307 (c_X12_isFrom hq2) ⟨Nat.le_of_ble_eq_true rfl, Nat.le_of_ble_eq_true rfl⟩ (Nat.le_of_ble_eq_true rfl) dX12_mean_18 ?_
    refine jr_if_eq (tgt := 35) hF dX12_mean_21 rfl hf (fun hf => ?_) (fun hf => ?_)
    · refine jr_sub [0] rfl ?_
      exact jb_X12_mean_35 hT h0 hF hE _ hf
    · refine jr_iload_n hF dX12_mean_24 1 rfl rfl ?_
      refine jr_iload_n hF dX12_mean_25 2 rfl rfl ?_
      refine jr_iadd hF dX12_mean_26 ?_
      refine jr_iconst (v := 1) hF dX12_mean_27 rfl ?_
      refine jr_isub hF dX12_mean_28 ?_
      refine jr_sipush (v := 9999) hF dX12_mean_29 rfl ?_
      refine jr_icmp_le (tgt := 41) hF dX12_mean_32 rfl hf (fun hf => ?_) (fun hf => ?_)
      · refine jr_aload_n hF dX12_mean_41 0 rfl rfl ?_
        refine jr_getRT (cr := 50) hF gf_X12_7 hT h0 rfl rfl dX12_mean_42 (fun th3 => ?_)
        refine jr_bipush (v := 8) hF dX12_mean_45 rfl ?_
        refine jr_iaload hF th3 dX12_mean_47 hf (fun hf => ?_)
        refine jr_iconst (v := (-1)) hF dX12_mean_48 rfl ?_
        refine jr_icmp_ne (tgt := 59) hF dX12_mean_49 rfl hf (fun hf => ?_) (fun hf => ?_)
        · refine jr_aload_n hF dX12_mean_59 0 rfl rfl ?_
          refine jr_sipush (v := 2140) hF dX12_mean_60 rfl ?_
          obtain ⟨q4, hq4, hf⟩ := Option.bind_eq_some_iff.mp hf
          refine jr_cV1v hF ml_X12_334 (c_X12_keeps hT h0 hq4) h0 ⟨Nat.le_of_ble_eq_true rfl, Nat.le_of_ble_eq_true rfl⟩ (Nat.le_of_ble_eq_true rfl) dX12_mean_63 ?_
          refine jr_lconst (v := 0) hF dX12_mean_66 rfl ?_
          refine jr_lstore_n (lv' := [(0, .ref (lt_z X + o)), (1, .int x1), (2, .int x2), (3, .long 0)]) hF dX12_mean_67 rfl (by decide) [1, 2, 3, 0] rfl ?_
          refine jr_iconst (v := 0) hF dX12_mean_68 rfl ?_
          refine jr_istore (lv' := [(0, .ref (lt_z X + o)), (1, .int x1), (2, .int x2), (3, .long 0), (5, .int 0)]) hF dX12_mean_69 (by decide) [1, 2, 3, 4, 0] rfl ?_
          exact jb_X12_mean_71 hT h0 hF hE lt_fu _ _ _ _ _ hf
        · refine jr_aload_n hF dX12_mean_52 0 rfl rfl ?_
          refine jr_bipush (v := 6) hF dX12_mean_53 rfl ?_
          obtain ⟨q5, hq5, hf⟩ := Option.bind_eq_some_iff.mp hf
          refine jr_cV11 hF ml_X12_104 (c_X12_is h0 hq5) h0 ⟨Nat.le_of_ble_eq_true rfl, Nat.le_of_ble_eq_true rfl⟩ (Nat.le_of_ble_eq_true rfl) dX12_mean_55 ?_
          obtain ⟨b6, hf⟩ := lt_bzE hf
          obtain rfl := Option.some.inj hf
          exact jr_zreturn hF hE b6 dX12_mean_58
      · refine jr_sub [0] rfl ?_
        exact jb_X12_mean_35 hT h0 hF hE _ hf
def f_X12_mean (σ : lt_S) (o : Nat) (x1 : Int32) (x2 : Int32) (w : lt_W) : Option (Int32 × lt_W) := fb_X12_mean_0 σ o x1 x2 w
set_option maxRecDepth 100000 in
theorem c_X12_mean {l : Launch} {D : va_G} {gA : Nat → ClassId} {s0 : State} {σ : lt_S} (hT : lt_Wt σ) {o : Nat} (h0 : lt_c σ o = 12) {x1 : Int32} {x2 : Int32} {w : lt_W} {r : Int32 × lt_W} (hf : f_X12_mean σ o x1 x2 w = some r) : lt_C l D gA s0 yX12_mean cX12_mean 6 (some .boolean) (lt_rm 11) [.ref (s0.heap.size + o), .int x1, .int x2] σ w σ (some (.int r.1)) r.2 := by
  refine lt_enter rfl (Nat.le_of_ble_eq_true rfl) (fun X e1 e2 e3 e4 hF hE => ?_)
  subst e1 e2 e3 e4
  exact jb_X12_mean_0 hT h0 hF hE _ _ _ hf

set_option maxRecDepth 100000 in
def fb_X12_mostOf_0 (x0 : Int32) : Option Int32 := if x0 = 1 then some 16 else if x0 = 2 then some 20 else if x0 = 3 then some 6 else some 60
set_option maxHeartbeats 4000000 in
set_option maxRecDepth 100000 in
theorem jb_X12_mostOf_0 {X : lt_X} {σ : lt_S} {r : Int32} {w : lt_W} (hF : lt_F X cX12_mostOf RX12 1 (lt_rm 1)) (hE : lt_E X 0 0 σ (some .int) (some (.int r)) w) : ∀ (x0 : Int32), fb_X12_mostOf_0 x0 = some r → lt_J X 0 0 σ w 0 [(0, .int x0)] [] := by
  intro x0 hf
  unfold fb_X12_mostOf_0 at hf
  refine jr_iload_n hF dX12_mostOf_0 0 rfl rfl ?_
  by_cases c1 : x0 = 1
  · rw [if_pos c1] at hf
    refine jr_tableIn (off := 27) (tgt := 28) hF dX12_mostOf_1 (by rw [c1]; decide) (by rw [c1]; decide) (by rw [c1]; rfl) rfl ?_
    refine jr_bipush (v := 16) hF dX12_mostOf_28 rfl ?_
    obtain rfl := Option.some.inj hf
    exact jr_ireturn hF hE dX12_mostOf_30
  rw [if_neg c1] at hf
  by_cases c2 : x0 = 2
  · rw [if_pos c2] at hf
    refine jr_tableIn (off := 30) (tgt := 31) hF dX12_mostOf_1 (by rw [c2]; decide) (by rw [c2]; decide) (by rw [c2]; rfl) rfl ?_
    refine jr_bipush (v := 20) hF dX12_mostOf_31 rfl ?_
    obtain rfl := Option.some.inj hf
    exact jr_ireturn hF hE dX12_mostOf_33
  rw [if_neg c2] at hf
  by_cases c3 : x0 = 3
  · rw [if_pos c3] at hf
    refine jr_tableIn (off := 33) (tgt := 34) hF dX12_mostOf_1 (by rw [c3]; decide) (by rw [c3]; decide) (by rw [c3]; rfl) rfl ?_
    refine jr_bipush (v := 6) hF dX12_mostOf_34 rfl ?_
    obtain rfl := Option.some.inj hf
    exact jr_ireturn hF hE dX12_mostOf_36
  rw [if_neg c3] at hf
  refine jr_tableOut (tgt := 37) hF dX12_mostOf_1 (lt_swd fun kk h1 h2 => by rcases (show kk = 1 ∨ kk = 2 ∨ kk = 3 by omega) with rfl | rfl | rfl <;> first | exact c1 | exact c2 | exact c3) rfl ?_
  refine jr_bipush (v := 60) hF dX12_mostOf_37 rfl ?_
  obtain rfl := Option.some.inj hf
  exact jr_ireturn hF hE dX12_mostOf_39
def f_X12_mostOf (x0 : Int32) : Option Int32 := fb_X12_mostOf_0 x0
set_option maxRecDepth 100000 in
theorem c_X12_mostOf {l : Launch} {D : va_G} {gA : Nat → ClassId} {s0 : State} {σ : lt_S} {x0 : Int32} {w : lt_W} {r : Int32} (hf : f_X12_mostOf x0 = some r) : lt_C l D gA s0 yX12_mostOf cX12_mostOf 1 (some .int) (lt_rm 1) [.int x0] σ w σ (some (.int r)) w := by
  refine lt_enter rfl (Nat.le_of_ble_eq_true rfl) (fun X e1 e2 e3 e4 hF hE => ?_)
  subst e1 e2 e3 e4
  exact jb_X12_mostOf_0 hF hE _ hf

set_option maxRecDepth 100000 in
def fb_X12_moveOf_21 (σ : lt_S) (o : Nat) (w : lt_W) : Option (Int32 × lt_W) := Option.bind (f_X12_refuse σ o 1 w) (fun q1 => some (q1.1, q1.2))
set_option maxHeartbeats 4000000 in
set_option maxRecDepth 100000 in
theorem jb_X12_moveOf_21 {X : lt_X} {σ : lt_S} (hT : lt_Wt σ) {o : Nat} (h0 : lt_c σ o = 12) {r : Int32 × lt_W} (hF : lt_F X cX12_moveOf RX12 4 (lt_rm 10)) (hE : lt_E X 0 0 σ (some .int) (some (.int r.1)) r.2) : ∀ (w : lt_W), fb_X12_moveOf_21 σ o w = some r → lt_J X 0 0 σ w 21 [(0, .ref (lt_z X + o))] [] := by
  intro w hf
  unfold fb_X12_moveOf_21 at hf
  refine jr_aload_n hF dX12_moveOf_21 0 rfl rfl ?_
  refine jr_iconst (v := 1) hF dX12_moveOf_22 rfl ?_
  obtain ⟨q1, hq1, hf⟩ := Option.bind_eq_some_iff.mp hf
  refine jr_cV11 hF ml_X12_97 (c_X12_refuse h0 hq1) h0 ⟨Nat.le_of_ble_eq_true rfl, Nat.le_of_ble_eq_true rfl⟩ (Nat.le_of_ble_eq_true rfl) dX12_moveOf_23 ?_
  obtain rfl := Option.some.inj hf
  exact jr_ireturn hF hE dX12_moveOf_26
set_option maxRecDepth 100000 in
def fb_X12_moveOf_0 (σ : lt_S) (o : Nat) (x1 : Int32) (x2 : Int32) (x3 : Int32) (w : lt_W) : Option (Int32 × lt_W) := Option.bind (f_X12_areTwo σ o x1 x2 w) (fun q1 => if q1 = 0 then fb_X12_moveOf_21 σ o w else Option.bind (f_X12_isFrom x3.toInt64 1 3) (fun q2 => if q2 = 0 then fb_X12_moveOf_21 σ o w else Option.bind (f_X12_playing σ o x1 x2 x3 w) (fun q3 => lt_ck 0 (lt_len σ (lt_r σ o 33)) (lt_ck 0 (lt_len σ (lt_r σ o 0)) (if (lt_gi q3.2 (lt_r σ o 33) (0 : Int32).toNatClampNeg) = (lt_gi q3.2 (lt_r σ o 0) (0 : Int32).toNatClampNeg) then Option.bind (f_X12_refuse σ o 6 q3.2) (fun q8 => some (q8.1, q8.2)) else lt_ck 0 (lt_len σ (lt_r σ o 33)) (Option.bind (f_X12_gives σ o (lt_gi q3.2 (lt_r σ o 33) (0 : Int32).toNatClampNeg) q3.2) (fun q7 => some (q7.1, q7.2))))))))
set_option maxHeartbeats 4000000 in
set_option maxRecDepth 100000 in
theorem jb_X12_moveOf_0 {X : lt_X} {σ : lt_S} (hT : lt_Wt σ) {o : Nat} (h0 : lt_c σ o = 12) {r : Int32 × lt_W} (hF : lt_F X cX12_moveOf RX12 4 (lt_rm 10)) (hE : lt_E X 0 0 σ (some .int) (some (.int r.1)) r.2) : ∀ (x1 : Int32) (x2 : Int32) (x3 : Int32) (w : lt_W), fb_X12_moveOf_0 σ o x1 x2 x3 w = some r → lt_J X 0 0 σ w 0 [(0, .ref (lt_z X + o)), (1, .int x1), (2, .int x2), (3, .int x3)] [] := by
  intro x1 x2 x3 w hf
  unfold fb_X12_moveOf_0 at hf
  refine jr_aload_n hF dX12_moveOf_0 0 rfl rfl ?_
  refine jr_iload_n hF dX12_moveOf_1 1 rfl rfl ?_
  refine jr_iload_n hF dX12_moveOf_2 2 rfl rfl ?_
  obtain ⟨q1, hq1, hf⟩ := Option.bind_eq_some_iff.mp hf
  refine jr_cV21 hF ml_X12_317 (c_X12_areTwo hT h0 hq1) h0 ⟨Nat.le_of_ble_eq_true rfl, Nat.le_of_ble_eq_true rfl⟩ (Nat.le_of_ble_eq_true rfl) dX12_moveOf_3 ?_
  refine jr_if_eq (tgt := 21) hF dX12_moveOf_6 rfl hf (fun hf => ?_) (fun hf => ?_)
  · refine jr_sub [0] rfl ?_
    exact jb_X12_moveOf_21 hT h0 hF hE _ hf
  · refine jr_iload_n hF dX12_moveOf_9 3 rfl rfl ?_
    refine jr_i2l hF dX12_moveOf_10 ?_
    refine jr_lconst (v := 1) hF dX12_moveOf_11 rfl ?_
    refine jr_ldc2 (v := 3) hF dX12_moveOf_12 kc_X12_392 ?_
    obtain ⟨q2, hq2, hf⟩ := Option.bind_eq_some_iff.mp hf
    refine jr_cS31 hF ml_X12_307 (c_X12_isFrom hq2) ⟨Nat.le_of_ble_eq_true rfl, Nat.le_of_ble_eq_true rfl⟩ (Nat.le_of_ble_eq_true rfl) dX12_moveOf_15 ?_
    refine jr_if_ne (tgt := 27) hF dX12_moveOf_18 rfl hf (fun hf => ?_) (fun hf => ?_)
    · refine jr_aload_n hF dX12_moveOf_27 0 rfl rfl ?_
      refine jr_iload_n hF dX12_moveOf_28 1 rfl rfl ?_
      refine jr_iload_n hF dX12_moveOf_29 2 rfl rfl ?_
      refine jr_iload_n hF dX12_moveOf_30 3 rfl rfl ?_
      obtain ⟨q3, hq3, hf⟩ := Option.bind_eq_some_iff.mp hf
      refine jr_cV31 hF ml_X12_394 (c_X12_playing hT h0 hq3) h0 ⟨Nat.le_of_ble_eq_true rfl, Nat.le_of_ble_eq_true rfl⟩ (Nat.le_of_ble_eq_true rfl) dX12_moveOf_31 ?_
      refine jr_pop hF dX12_moveOf_34 rfl ?_
      refine jr_aload_n hF dX12_moveOf_35 0 rfl rfl ?_
      refine jr_getRT (cr := 50) hF gf_X12_75 hT h0 rfl rfl dX12_moveOf_36 (fun th4 => ?_)
      refine jr_iconst (v := 0) hF dX12_moveOf_39 rfl ?_
      refine jr_iaload hF th4 dX12_moveOf_40 hf (fun hf => ?_)
      refine jr_aload_n hF dX12_moveOf_41 0 rfl rfl ?_
      refine jr_getRT (cr := 50) hF gf_X12_7 hT h0 rfl rfl dX12_moveOf_42 (fun th5 => ?_)
      refine jr_iconst (v := 0) hF dX12_moveOf_45 rfl ?_
      refine jr_iaload hF th5 dX12_moveOf_46 hf (fun hf => ?_)
      refine jr_icmp_ne (tgt := 59) hF dX12_moveOf_47 rfl hf (fun hf => ?_) (fun hf => ?_)
      · refine jr_aload_n hF dX12_moveOf_59 0 rfl rfl ?_
        refine jr_aload_n hF dX12_moveOf_60 0 rfl rfl ?_
        refine jr_getRT (cr := 50) hF gf_X12_75 hT h0 rfl rfl dX12_moveOf_61 (fun th6 => ?_)
        refine jr_iconst (v := 0) hF dX12_moveOf_64 rfl ?_
        refine jr_iaload hF th6 dX12_moveOf_65 hf (fun hf => ?_)
        obtain ⟨q7, hq7, hf⟩ := Option.bind_eq_some_iff.mp hf
        refine jr_cV11 hF ml_X12_101 (c_X12_gives h0 hq7) h0 ⟨Nat.le_of_ble_eq_true rfl, Nat.le_of_ble_eq_true rfl⟩ (Nat.le_of_ble_eq_true rfl) dX12_moveOf_66 ?_
        obtain rfl := Option.some.inj hf
        exact jr_ireturn hF hE dX12_moveOf_69
      · refine jr_aload_n hF dX12_moveOf_50 0 rfl rfl ?_
        refine jr_bipush (v := 6) hF dX12_moveOf_51 rfl ?_
        obtain ⟨q8, hq8, hf⟩ := Option.bind_eq_some_iff.mp hf
        refine jr_cV11 hF ml_X12_97 (c_X12_refuse h0 hq8) h0 ⟨Nat.le_of_ble_eq_true rfl, Nat.le_of_ble_eq_true rfl⟩ (Nat.le_of_ble_eq_true rfl) dX12_moveOf_53 ?_
        refine jr_goto (tgt := 69) hF dX12_moveOf_56 rfl ?_
        obtain rfl := Option.some.inj hf
        exact jr_ireturn hF hE dX12_moveOf_69
    · refine jr_sub [0] rfl ?_
      exact jb_X12_moveOf_21 hT h0 hF hE _ hf
def f_X12_moveOf (σ : lt_S) (o : Nat) (x1 : Int32) (x2 : Int32) (x3 : Int32) (w : lt_W) : Option (Int32 × lt_W) := fb_X12_moveOf_0 σ o x1 x2 x3 w
set_option maxRecDepth 100000 in
theorem c_X12_moveOf {l : Launch} {D : va_G} {gA : Nat → ClassId} {s0 : State} {σ : lt_S} (hT : lt_Wt σ) {o : Nat} (h0 : lt_c σ o = 12) {x1 : Int32} {x2 : Int32} {x3 : Int32} {w : lt_W} {r : Int32 × lt_W} (hf : f_X12_moveOf σ o x1 x2 x3 w = some r) : lt_C l D gA s0 yX12_moveOf cX12_moveOf 4 (some .int) (lt_rm 10) [.ref (s0.heap.size + o), .int x1, .int x2, .int x3] σ w σ (some (.int r.1)) r.2 := by
  refine lt_enter rfl (Nat.le_of_ble_eq_true rfl) (fun X e1 e2 e3 e4 hF hE => ?_)
  subst e1 e2 e3 e4
  exact jb_X12_moveOf_0 hT h0 hF hE _ _ _ _ hf

set_option maxRecDepth 100000 in
def fb_X12_next_0 (σ : lt_S) (o : Nat) (w : lt_W) : Option (Int32 × lt_W) := Option.bind (f_X12_nextCut σ o w) (fun q1 => if q1.1 = (-1) then Option.bind (f_X12_refuse σ o 6 q1.2) (fun q3 => some (q3.1, q3.2)) else Option.bind (f_X12_gives σ o (q1.1 / 10) q1.2) (fun q2 => some (q2.1, q2.2)))
set_option maxHeartbeats 4000000 in
set_option maxRecDepth 100000 in
theorem jb_X12_next_0 {X : lt_X} {σ : lt_S} (hT : lt_Wt σ) {o : Nat} (h0 : lt_c σ o = 12) {r : Int32 × lt_W} (hF : lt_F X cX12_next RX12 2 (lt_rm 8)) (hE : lt_E X 0 0 σ (some .int) (some (.int r.1)) r.2) : ∀ (w : lt_W), fb_X12_next_0 σ o w = some r → lt_J X 0 0 σ w 0 [(0, .ref (lt_z X + o))] [] := by
  intro w hf
  unfold fb_X12_next_0 at hf
  refine jr_aload_n hF dX12_next_0 0 rfl rfl ?_
  obtain ⟨q1, hq1, hf⟩ := Option.bind_eq_some_iff.mp hf
  refine jr_cV01 hF ml_X12_340 (c_X12_nextCut hT h0 hq1) h0 ⟨Nat.le_of_ble_eq_true rfl, Nat.le_of_ble_eq_true rfl⟩ (Nat.le_of_ble_eq_true rfl) dX12_next_1 ?_
  refine jr_istore_n (lv' := [(0, .ref (lt_z X + o)), (1, .int q1.1)]) hF dX12_next_4 rfl (by decide) [1, 0] rfl ?_
  refine jr_iload_n hF dX12_next_5 1 rfl rfl ?_
  refine jr_iconst (v := (-1)) hF dX12_next_6 rfl ?_
  refine jr_icmp_ne (tgt := 19) hF dX12_next_7 rfl hf (fun hf => ?_) (fun hf => ?_)
  · refine jr_aload_n hF dX12_next_19 0 rfl rfl ?_
    refine jr_iload_n hF dX12_next_20 1 rfl rfl ?_
    refine jr_bipush (v := 10) hF dX12_next_21 rfl ?_
    refine jr_idivc hF dX12_next_23 (by decide) ?_
    obtain ⟨q2, hq2, hf⟩ := Option.bind_eq_some_iff.mp hf
    refine jr_cV11 hF ml_X12_101 (c_X12_gives h0 hq2) h0 ⟨Nat.le_of_ble_eq_true rfl, Nat.le_of_ble_eq_true rfl⟩ (Nat.le_of_ble_eq_true rfl) dX12_next_24 ?_
    obtain rfl := Option.some.inj hf
    exact jr_ireturn hF hE dX12_next_27
  · refine jr_aload_n hF dX12_next_10 0 rfl rfl ?_
    refine jr_bipush (v := 6) hF dX12_next_11 rfl ?_
    obtain ⟨q3, hq3, hf⟩ := Option.bind_eq_some_iff.mp hf
    refine jr_cV11 hF ml_X12_97 (c_X12_refuse h0 hq3) h0 ⟨Nat.le_of_ble_eq_true rfl, Nat.le_of_ble_eq_true rfl⟩ (Nat.le_of_ble_eq_true rfl) dX12_next_13 ?_
    refine jr_goto (tgt := 27) hF dX12_next_16 rfl ?_
    obtain rfl := Option.some.inj hf
    exact jr_ireturn hF hE dX12_next_27
def f_X12_next (σ : lt_S) (o : Nat) (w : lt_W) : Option (Int32 × lt_W) := fb_X12_next_0 σ o w
set_option maxRecDepth 100000 in
theorem c_X12_next {l : Launch} {D : va_G} {gA : Nat → ClassId} {s0 : State} {σ : lt_S} (hT : lt_Wt σ) {o : Nat} (h0 : lt_c σ o = 12) {w : lt_W} {r : Int32 × lt_W} (hf : f_X12_next σ o w = some r) : lt_C l D gA s0 yX12_next cX12_next 2 (some .int) (lt_rm 8) [.ref (s0.heap.size + o)] σ w σ (some (.int r.1)) r.2 := by
  refine lt_enter rfl (Nat.le_of_ble_eq_true rfl) (fun X e1 e2 e3 e4 hF hE => ?_)
  subst e1 e2 e3 e4
  exact jb_X12_next_0 hT h0 hF hE _ hf

set_option maxRecDepth 100000 in
def fb_X12_nextBy_0 (σ : lt_S) (o : Nat) (w : lt_W) : Option (Int32 × lt_W) := Option.bind (f_X12_nextCut σ o w) (fun q1 => if q1.1 = (-1) then Option.bind (f_X12_refuse σ o 6 q1.2) (fun q3 => some (q3.1, q3.2)) else Option.bind (f_X12_gives σ o (q1.1 - q1.1 / 10 * 10) q1.2) (fun q2 => some (q2.1, q2.2)))
set_option maxHeartbeats 4000000 in
set_option maxRecDepth 100000 in
theorem jb_X12_nextBy_0 {X : lt_X} {σ : lt_S} (hT : lt_Wt σ) {o : Nat} (h0 : lt_c σ o = 12) {r : Int32 × lt_W} (hF : lt_F X cX12_nextBy RX12 2 (lt_rm 8)) (hE : lt_E X 0 0 σ (some .int) (some (.int r.1)) r.2) : ∀ (w : lt_W), fb_X12_nextBy_0 σ o w = some r → lt_J X 0 0 σ w 0 [(0, .ref (lt_z X + o))] [] := by
  intro w hf
  unfold fb_X12_nextBy_0 at hf
  refine jr_aload_n hF dX12_nextBy_0 0 rfl rfl ?_
  obtain ⟨q1, hq1, hf⟩ := Option.bind_eq_some_iff.mp hf
  refine jr_cV01 hF ml_X12_340 (c_X12_nextCut hT h0 hq1) h0 ⟨Nat.le_of_ble_eq_true rfl, Nat.le_of_ble_eq_true rfl⟩ (Nat.le_of_ble_eq_true rfl) dX12_nextBy_1 ?_
  refine jr_istore_n (lv' := [(0, .ref (lt_z X + o)), (1, .int q1.1)]) hF dX12_nextBy_4 rfl (by decide) [1, 0] rfl ?_
  refine jr_iload_n hF dX12_nextBy_5 1 rfl rfl ?_
  refine jr_iconst (v := (-1)) hF dX12_nextBy_6 rfl ?_
  refine jr_icmp_ne (tgt := 19) hF dX12_nextBy_7 rfl hf (fun hf => ?_) (fun hf => ?_)
  · refine jr_aload_n hF dX12_nextBy_19 0 rfl rfl ?_
    refine jr_iload_n hF dX12_nextBy_20 1 rfl rfl ?_
    refine jr_bipush (v := 10) hF dX12_nextBy_21 rfl ?_
    refine jr_iremc hF dX12_nextBy_23 (by decide) ?_
    obtain ⟨q2, hq2, hf⟩ := Option.bind_eq_some_iff.mp hf
    refine jr_cV11 hF ml_X12_101 (c_X12_gives h0 hq2) h0 ⟨Nat.le_of_ble_eq_true rfl, Nat.le_of_ble_eq_true rfl⟩ (Nat.le_of_ble_eq_true rfl) dX12_nextBy_24 ?_
    obtain rfl := Option.some.inj hf
    exact jr_ireturn hF hE dX12_nextBy_27
  · refine jr_aload_n hF dX12_nextBy_10 0 rfl rfl ?_
    refine jr_bipush (v := 6) hF dX12_nextBy_11 rfl ?_
    obtain ⟨q3, hq3, hf⟩ := Option.bind_eq_some_iff.mp hf
    refine jr_cV11 hF ml_X12_97 (c_X12_refuse h0 hq3) h0 ⟨Nat.le_of_ble_eq_true rfl, Nat.le_of_ble_eq_true rfl⟩ (Nat.le_of_ble_eq_true rfl) dX12_nextBy_13 ?_
    refine jr_goto (tgt := 27) hF dX12_nextBy_16 rfl ?_
    obtain rfl := Option.some.inj hf
    exact jr_ireturn hF hE dX12_nextBy_27
def f_X12_nextBy (σ : lt_S) (o : Nat) (w : lt_W) : Option (Int32 × lt_W) := fb_X12_nextBy_0 σ o w
set_option maxRecDepth 100000 in
theorem c_X12_nextBy {l : Launch} {D : va_G} {gA : Nat → ClassId} {s0 : State} {σ : lt_S} (hT : lt_Wt σ) {o : Nat} (h0 : lt_c σ o = 12) {w : lt_W} {r : Int32 × lt_W} (hf : f_X12_nextBy σ o w = some r) : lt_C l D gA s0 yX12_nextBy cX12_nextBy 2 (some .int) (lt_rm 8) [.ref (s0.heap.size + o)] σ w σ (some (.int r.1)) r.2 := by
  refine lt_enter rfl (Nat.le_of_ble_eq_true rfl) (fun X e1 e2 e3 e4 hF hE => ?_)
  subst e1 e2 e3 e4
  exact jb_X12_nextBy_0 hT h0 hF hE _ hf

set_option maxRecDepth 100000 in
def fb_X12_plain_2 (σ : lt_S) (o : Nat) : Nat → Int32 → Int32 → lt_W → Option lt_W
  | 0, _, _, _ => none
  | n + 1, x1, x2, w => if 428 ≤ x2 then lt_ck (x1 + 1) (lt_len σ (lt_r σ o 0)) (lt_let (lt_si w (lt_r σ o 0) (x1 + 1).toNatClampNeg 4) (fun w2 => lt_ck (x1 + 2) (lt_len σ (lt_r σ o 0)) (lt_let (lt_si w2 (lt_r σ o 0) (x1 + 2).toNatClampNeg 5) (fun w4 => lt_ck (x1 + 3) (lt_len σ (lt_r σ o 0)) (lt_let (lt_si w4 (lt_r σ o 0) (x1 + 3).toNatClampNeg 2) (fun w6 => lt_ck (x1 + 4) (lt_len σ (lt_r σ o 0)) (lt_let (lt_si w6 (lt_r σ o 0) (x1 + 4).toNatClampNeg 8) (fun w8 => lt_ck (x1 + 8) (lt_len σ (lt_r σ o 0)) (lt_let (lt_si w8 (lt_r σ o 0) (x1 + 8).toNatClampNeg (-1)) (fun w10 => some w10)))))))))) else lt_ck (x1 + x2) (lt_len σ (lt_r σ o 0)) (lt_let (lt_si w (lt_r σ o 0) (x1 + x2).toNatClampNeg 0) (fun w12 => fb_X12_plain_2 σ o n x1 (x2 + 1) w12))
set_option maxHeartbeats 4000000 in
set_option maxRecDepth 100000 in
theorem jb_X12_plain_2 {X : lt_X} {σ : lt_S} (hT : lt_Wt σ) {o : Nat} (h0 : lt_c σ o = 12) {r : lt_W} (hF : lt_F X cX12_plain RX12 3 (lt_rm 1)) (hE : lt_E X 0 0 σ none none r) (n : Nat) : ∀ (x1 : Int32) (x2 : Int32) (w : lt_W), fb_X12_plain_2 σ o n x1 x2 w = some r → lt_J X 0 0 σ w 2 [(0, .ref (lt_z X + o)), (1, .int x1), (2, .int x2)] [] := by
  induction n with
  | zero => intro x1 x2 w hf; rw [fb_X12_plain_2] at hf; cases hf
  | succ n ih =>
    intro x1 x2 w hf
    rw [fb_X12_plain_2] at hf
    refine jr_iload_n hF dX12_plain_2 2 rfl rfl ?_
    refine jr_sipush (v := 428) hF dX12_plain_3 rfl ?_
    refine jr_icmp_ge (tgt := 24) hF dX12_plain_6 rfl hf (fun hf => ?_) (fun hf => ?_)
    · refine jr_aload_n hF dX12_plain_24 0 rfl rfl ?_
      refine jr_getRT (cr := 50) hF gf_X12_7 hT h0 rfl rfl dX12_plain_25 (fun th1 => ?_)
      refine jr_iload_n hF dX12_plain_28 1 rfl rfl ?_
      refine jr_iconst (v := 1) hF dX12_plain_29 rfl ?_
      refine jr_iadd hF dX12_plain_30 ?_
      refine jr_iconst (v := 4) hF dX12_plain_31 rfl ?_
      refine jr_iastore hF th1 dX12_plain_32 hf (fun hf => ?_)
      refine jr_letW hf (fun w2 hf => ?_)
      refine jr_aload_n hF dX12_plain_33 0 rfl rfl ?_
      refine jr_getRT (cr := 50) hF gf_X12_7 hT h0 rfl rfl dX12_plain_34 (fun th3 => ?_)
      refine jr_iload_n hF dX12_plain_37 1 rfl rfl ?_
      refine jr_iconst (v := 2) hF dX12_plain_38 rfl ?_
      refine jr_iadd hF dX12_plain_39 ?_
      refine jr_iconst (v := 5) hF dX12_plain_40 rfl ?_
      refine jr_iastore hF th3 dX12_plain_41 hf (fun hf => ?_)
      refine jr_letW hf (fun w4 hf => ?_)
      refine jr_aload_n hF dX12_plain_42 0 rfl rfl ?_
      refine jr_getRT (cr := 50) hF gf_X12_7 hT h0 rfl rfl dX12_plain_43 (fun th5 => ?_)
      refine jr_iload_n hF dX12_plain_46 1 rfl rfl ?_
      refine jr_iconst (v := 3) hF dX12_plain_47 rfl ?_
      refine jr_iadd hF dX12_plain_48 ?_
      refine jr_iconst (v := 2) hF dX12_plain_49 rfl ?_
      refine jr_iastore hF th5 dX12_plain_50 hf (fun hf => ?_)
      refine jr_letW hf (fun w6 hf => ?_)
      refine jr_aload_n hF dX12_plain_51 0 rfl rfl ?_
      refine jr_getRT (cr := 50) hF gf_X12_7 hT h0 rfl rfl dX12_plain_52 (fun th7 => ?_)
      refine jr_iload_n hF dX12_plain_55 1 rfl rfl ?_
      refine jr_iconst (v := 4) hF dX12_plain_56 rfl ?_
      refine jr_iadd hF dX12_plain_57 ?_
      refine jr_bipush (v := 8) hF dX12_plain_58 rfl ?_
      refine jr_iastore hF th7 dX12_plain_60 hf (fun hf => ?_)
      refine jr_letW hf (fun w8 hf => ?_)
      refine jr_aload_n hF dX12_plain_61 0 rfl rfl ?_
      refine jr_getRT (cr := 50) hF gf_X12_7 hT h0 rfl rfl dX12_plain_62 (fun th9 => ?_)
      refine jr_iload_n hF dX12_plain_65 1 rfl rfl ?_
      refine jr_bipush (v := 8) hF dX12_plain_66 rfl ?_
      refine jr_iadd hF dX12_plain_68 ?_
      refine jr_iconst (v := (-1)) hF dX12_plain_69 rfl ?_
      refine jr_iastore hF th9 dX12_plain_70 hf (fun hf => ?_)
      refine jr_letW hf (fun w10 hf => ?_)
      obtain rfl := Option.some.inj hf
      exact jr_return hF hE dX12_plain_71
    · refine jr_aload_n hF dX12_plain_9 0 rfl rfl ?_
      refine jr_getRT (cr := 50) hF gf_X12_7 hT h0 rfl rfl dX12_plain_10 (fun th11 => ?_)
      refine jr_iload_n hF dX12_plain_13 1 rfl rfl ?_
      refine jr_iload_n hF dX12_plain_14 2 rfl rfl ?_
      refine jr_iadd hF dX12_plain_15 ?_
      refine jr_iconst (v := 0) hF dX12_plain_16 rfl ?_
      refine jr_iastore hF th11 dX12_plain_17 hf (fun hf => ?_)
      refine jr_letW hf (fun w12 hf => ?_)
      refine jr_iinc (v := x2 + 1) (lv' := [(0, .ref (lt_z X + o)), (1, .int x1), (2, .int (x2 + 1))]) hF dX12_plain_18 2 rfl rfl (by decide) [1, 2, 0] rfl ?_
      refine jr_goto (tgt := 2) hF dX12_plain_21 rfl ?_
      exact ih _ _ _ hf
set_option maxRecDepth 100000 in
def fb_X12_plain_0 (σ : lt_S) (o : Nat) (x1 : Int32) (w : lt_W) : Option lt_W := fb_X12_plain_2 σ o lt_fu x1 0 w
set_option maxHeartbeats 4000000 in
set_option maxRecDepth 100000 in
theorem jb_X12_plain_0 {X : lt_X} {σ : lt_S} (hT : lt_Wt σ) {o : Nat} (h0 : lt_c σ o = 12) {r : lt_W} (hF : lt_F X cX12_plain RX12 3 (lt_rm 1)) (hE : lt_E X 0 0 σ none none r) : ∀ (x1 : Int32) (w : lt_W), fb_X12_plain_0 σ o x1 w = some r → lt_J X 0 0 σ w 0 [(0, .ref (lt_z X + o)), (1, .int x1)] [] := by
  intro x1 w hf
  unfold fb_X12_plain_0 at hf
  refine jr_iconst (v := 0) hF dX12_plain_0 rfl ?_
  refine jr_istore_n (lv' := [(0, .ref (lt_z X + o)), (1, .int x1), (2, .int 0)]) hF dX12_plain_1 rfl (by decide) [1, 2, 0] rfl ?_
  exact jb_X12_plain_2 hT h0 hF hE lt_fu _ _ _ hf
def f_X12_plain (σ : lt_S) (o : Nat) (x1 : Int32) (w : lt_W) : Option lt_W := fb_X12_plain_0 σ o x1 w
set_option maxRecDepth 100000 in
theorem c_X12_plain {l : Launch} {D : va_G} {gA : Nat → ClassId} {s0 : State} {σ : lt_S} (hT : lt_Wt σ) {o : Nat} (h0 : lt_c σ o = 12) {x1 : Int32} {w : lt_W} {r : lt_W} (hf : f_X12_plain σ o x1 w = some r) : lt_C l D gA s0 yX12_plain cX12_plain 3 none (lt_rm 1) [.ref (s0.heap.size + o), .int x1] σ w σ none r := by
  refine lt_enter rfl (Nat.le_of_ble_eq_true rfl) (fun X e1 e2 e3 e4 hF hE => ?_)
  subst e1 e2 e3 e4
  exact jb_X12_plain_0 hT h0 hF hE _ _ hf

set_option maxRecDepth 100000 in
def fb_X12_plan_0 (σ : lt_S) (o : Nat) (x1 : Int32) (w : lt_W) : Option (Int32 × lt_W) := Option.bind (f_X12_isFrom x1.toInt64 1 5) (fun q1 => if q1 = 0 then Option.bind (f_X12_refuse σ o 1 w) (fun q4 => some (q4.1, q4.2)) else Option.bind (f_X12_laysPlan σ o x1 w) (fun q2 => Option.bind (f_X12_orNone σ o q2.1 q2.2) (fun q3 => some (q3.1, q3.2))))
set_option maxHeartbeats 4000000 in
set_option maxRecDepth 100000 in
theorem jb_X12_plan_0 {X : lt_X} {σ : lt_S} (hT : lt_Wt σ) {o : Nat} (h0 : lt_c σ o = 12) {r : Int32 × lt_W} (hF : lt_F X cX12_plan RX12 2 (lt_rm 7)) (hE : lt_E X 0 0 σ (some .int) (some (.int r.1)) r.2) : ∀ (x1 : Int32) (w : lt_W), fb_X12_plan_0 σ o x1 w = some r → lt_J X 0 0 σ w 0 [(0, .ref (lt_z X + o)), (1, .int x1)] [] := by
  intro x1 w hf
  unfold fb_X12_plan_0 at hf
  refine jr_iload_n hF dX12_plan_0 1 rfl rfl ?_
  refine jr_i2l hF dX12_plan_1 ?_
  refine jr_lconst (v := 1) hF dX12_plan_2 rfl ?_
  refine jr_ldc2 (v := 5) hF dX12_plan_3 kc_X12_346 ?_
  obtain ⟨q1, hq1, hf⟩ := Option.bind_eq_some_iff.mp hf
  refine jr_cS31 hF ml_X12_307 (c_X12_isFrom hq1) ⟨Nat.le_of_ble_eq_true rfl, Nat.le_of_ble_eq_true rfl⟩ (Nat.le_of_ble_eq_true rfl) dX12_plan_6 ?_
  refine jr_if_ne (tgt := 18) hF dX12_plan_9 rfl hf (fun hf => ?_) (fun hf => ?_)
  · refine jr_aload_n hF dX12_plan_18 0 rfl rfl ?_
    refine jr_aload_n hF dX12_plan_19 0 rfl rfl ?_
    refine jr_iload_n hF dX12_plan_20 1 rfl rfl ?_
    obtain ⟨q2, hq2, hf⟩ := Option.bind_eq_some_iff.mp hf
    refine jr_cV11 hF ml_X12_348 (c_X12_laysPlan hT h0 hq2) h0 ⟨Nat.le_of_ble_eq_true rfl, Nat.le_of_ble_eq_true rfl⟩ (Nat.le_of_ble_eq_true rfl) dX12_plan_21 ?_
    obtain ⟨q3, hq3, hf⟩ := Option.bind_eq_some_iff.mp hf
    refine jr_cV11 hF ml_X12_284 (c_X12_orNone h0 hq3) h0 ⟨Nat.le_of_ble_eq_true rfl, Nat.le_of_ble_eq_true rfl⟩ (Nat.le_of_ble_eq_true rfl) dX12_plan_24 ?_
    obtain rfl := Option.some.inj hf
    exact jr_ireturn hF hE dX12_plan_27
  · refine jr_aload_n hF dX12_plan_12 0 rfl rfl ?_
    refine jr_iconst (v := 1) hF dX12_plan_13 rfl ?_
    obtain ⟨q4, hq4, hf⟩ := Option.bind_eq_some_iff.mp hf
    refine jr_cV11 hF ml_X12_97 (c_X12_refuse h0 hq4) h0 ⟨Nat.le_of_ble_eq_true rfl, Nat.le_of_ble_eq_true rfl⟩ (Nat.le_of_ble_eq_true rfl) dX12_plan_14 ?_
    obtain rfl := Option.some.inj hf
    exact jr_ireturn hF hE dX12_plan_17
def f_X12_plan (σ : lt_S) (o : Nat) (x1 : Int32) (w : lt_W) : Option (Int32 × lt_W) := fb_X12_plan_0 σ o x1 w
set_option maxRecDepth 100000 in
theorem c_X12_plan {l : Launch} {D : va_G} {gA : Nat → ClassId} {s0 : State} {σ : lt_S} (hT : lt_Wt σ) {o : Nat} (h0 : lt_c σ o = 12) {x1 : Int32} {w : lt_W} {r : Int32 × lt_W} (hf : f_X12_plan σ o x1 w = some r) : lt_C l D gA s0 yX12_plan cX12_plan 2 (some .int) (lt_rm 7) [.ref (s0.heap.size + o), .int x1] σ w σ (some (.int r.1)) r.2 := by
  refine lt_enter rfl (Nat.le_of_ble_eq_true rfl) (fun X e1 e2 e3 e4 hF hE => ?_)
  subst e1 e2 e3 e4
  exact jb_X12_plan_0 hT h0 hF hE _ _ hf

set_option maxRecDepth 100000 in
def fb_X12_planAt_21 (σ : lt_S) (o : Nat) (w : lt_W) : Option (Int32 × lt_W) := Option.bind (f_X12_refuse σ o 1 w) (fun q1 => some (q1.1, q1.2))
set_option maxHeartbeats 4000000 in
set_option maxRecDepth 100000 in
theorem jb_X12_planAt_21 {X : lt_X} {σ : lt_S} (hT : lt_Wt σ) {o : Nat} (h0 : lt_c σ o = 12) {r : Int32 × lt_W} (hF : lt_F X cX12_planAt RX12 3 (lt_rm 7)) (hE : lt_E X 0 0 σ (some .int) (some (.int r.1)) r.2) : ∀ (w : lt_W), fb_X12_planAt_21 σ o w = some r → lt_J X 0 0 σ w 21 [(0, .ref (lt_z X + o))] [] := by
  intro w hf
  unfold fb_X12_planAt_21 at hf
  refine jr_aload_n hF dX12_planAt_21 0 rfl rfl ?_
  refine jr_iconst (v := 1) hF dX12_planAt_22 rfl ?_
  obtain ⟨q1, hq1, hf⟩ := Option.bind_eq_some_iff.mp hf
  refine jr_cV11 hF ml_X12_97 (c_X12_refuse h0 hq1) h0 ⟨Nat.le_of_ble_eq_true rfl, Nat.le_of_ble_eq_true rfl⟩ (Nat.le_of_ble_eq_true rfl) dX12_planAt_23 ?_
  obtain rfl := Option.some.inj hf
  exact jr_ireturn hF hE dX12_planAt_26
set_option maxRecDepth 100000 in
def fb_X12_planAt_69 (σ : lt_S) (o : Nat) (y1 : Int32) (w : lt_W) : Option (Int32 × lt_W) := Option.bind (f_X12_gives σ o y1 w) (fun q1 => some (q1.1, q1.2))
set_option maxHeartbeats 4000000 in
set_option maxRecDepth 100000 in
theorem jb_X12_planAt_69 {X : lt_X} {σ : lt_S} (hT : lt_Wt σ) {o : Nat} (h0 : lt_c σ o = 12) {r : Int32 × lt_W} (hF : lt_F X cX12_planAt RX12 3 (lt_rm 7)) (hE : lt_E X 0 0 σ (some .int) (some (.int r.1)) r.2) : ∀ (y1 : Int32) (w : lt_W), fb_X12_planAt_69 σ o y1 w = some r → lt_J X 0 0 σ w 69 [(0, .ref (lt_z X + o))] [.int y1, .ref (lt_z X + o)] := by
  intro y1 w hf
  unfold fb_X12_planAt_69 at hf
  obtain ⟨q1, hq1, hf⟩ := Option.bind_eq_some_iff.mp hf
  refine jr_cV11 hF ml_X12_101 (c_X12_gives h0 hq1) h0 ⟨Nat.le_of_ble_eq_true rfl, Nat.le_of_ble_eq_true rfl⟩ (Nat.le_of_ble_eq_true rfl) dX12_planAt_69 ?_
  obtain rfl := Option.some.inj hf
  exact jr_ireturn hF hE dX12_planAt_72
set_option maxRecDepth 100000 in
def fb_X12_planAt_0 (σ : lt_S) (o : Nat) (x1 : Int32) (x2 : Int32) (w : lt_W) : Option (Int32 × lt_W) := Option.bind (f_X12_isFrom x1.toInt64 1 5) (fun q1 => if q1 = 0 then fb_X12_planAt_21 σ o w else if x2 < 0 then fb_X12_planAt_21 σ o w else if x2 < x1 then Option.bind (f_X12_laysPlan σ o x1 w) (fun q2 => if q2.1 = (-1) then Option.bind (f_X12_refuse σ o 6 q2.2) (fun q6 => some (q6.1, q6.2)) else lt_ck x2 (lt_len σ (lt_r σ o 26)) (if (lt_gi q2.2 (lt_r σ o 26) x2.toNatClampNeg) = (-1) then lt_ck 0 (lt_len σ (lt_r σ o 0)) (fb_X12_planAt_69 σ o (lt_gi q2.2 (lt_r σ o 0) (0 : Int32).toNatClampNeg) q2.2) else lt_ck x2 (lt_len σ (lt_r σ o 26)) (fb_X12_planAt_69 σ o (lt_gi q2.2 (lt_r σ o 26) x2.toNatClampNeg) q2.2))) else fb_X12_planAt_21 σ o w)
set_option maxHeartbeats 4000000 in
set_option maxRecDepth 100000 in
theorem jb_X12_planAt_0 {X : lt_X} {σ : lt_S} (hT : lt_Wt σ) {o : Nat} (h0 : lt_c σ o = 12) {r : Int32 × lt_W} (hF : lt_F X cX12_planAt RX12 3 (lt_rm 7)) (hE : lt_E X 0 0 σ (some .int) (some (.int r.1)) r.2) : ∀ (x1 : Int32) (x2 : Int32) (w : lt_W), fb_X12_planAt_0 σ o x1 x2 w = some r → lt_J X 0 0 σ w 0 [(0, .ref (lt_z X + o)), (1, .int x1), (2, .int x2)] [] := by
  intro x1 x2 w hf
  unfold fb_X12_planAt_0 at hf
  refine jr_iload_n hF dX12_planAt_0 1 rfl rfl ?_
  refine jr_i2l hF dX12_planAt_1 ?_
  refine jr_lconst (v := 1) hF dX12_planAt_2 rfl ?_
  refine jr_ldc2 (v := 5) hF dX12_planAt_3 kc_X12_346 ?_
  obtain ⟨q1, hq1, hf⟩ := Option.bind_eq_some_iff.mp hf
  refine jr_cS31 hF ml_X12_307 (c_X12_isFrom hq1) ⟨Nat.le_of_ble_eq_true rfl, Nat.le_of_ble_eq_true rfl⟩ (Nat.le_of_ble_eq_true rfl) dX12_planAt_6 ?_
  refine jr_if_eq (tgt := 21) hF dX12_planAt_9 rfl hf (fun hf => ?_) (fun hf => ?_)
  · refine jr_sub [0] rfl ?_
    exact jb_X12_planAt_21 hT h0 hF hE _ hf
  · refine jr_iload_n hF dX12_planAt_12 2 rfl rfl ?_
    refine jr_if_lt (tgt := 21) hF dX12_planAt_13 rfl hf (fun hf => ?_) (fun hf => ?_)
    · refine jr_sub [0] rfl ?_
      exact jb_X12_planAt_21 hT h0 hF hE _ hf
    · refine jr_iload_n hF dX12_planAt_16 2 rfl rfl ?_
      refine jr_iload_n hF dX12_planAt_17 1 rfl rfl ?_
      refine jr_icmp_lt (tgt := 27) hF dX12_planAt_18 rfl hf (fun hf => ?_) (fun hf => ?_)
      · refine jr_aload_n hF dX12_planAt_27 0 rfl rfl ?_
        refine jr_iload_n hF dX12_planAt_28 1 rfl rfl ?_
        obtain ⟨q2, hq2, hf⟩ := Option.bind_eq_some_iff.mp hf
        refine jr_cV11 hF ml_X12_348 (c_X12_laysPlan hT h0 hq2) h0 ⟨Nat.le_of_ble_eq_true rfl, Nat.le_of_ble_eq_true rfl⟩ (Nat.le_of_ble_eq_true rfl) dX12_planAt_29 ?_
        refine jr_iconst (v := (-1)) hF dX12_planAt_32 rfl ?_
        refine jr_icmp_ne (tgt := 43) hF dX12_planAt_33 rfl hf (fun hf => ?_) (fun hf => ?_)
        · refine jr_aload_n hF dX12_planAt_43 0 rfl rfl ?_
          refine jr_aload_n hF dX12_planAt_44 0 rfl rfl ?_
          refine jr_getRT (cr := 50) hF gf_X12_53 hT h0 rfl rfl dX12_planAt_45 (fun th3 => ?_)
          refine jr_iload_n hF dX12_planAt_48 2 rfl rfl ?_
          refine jr_iaload hF th3 dX12_planAt_49 hf (fun hf => ?_)
          refine jr_iconst (v := (-1)) hF dX12_planAt_50 rfl ?_
          refine jr_icmp_ne (tgt := 63) hF dX12_planAt_51 rfl hf (fun hf => ?_) (fun hf => ?_)
          · refine jr_aload_n hF dX12_planAt_63 0 rfl rfl ?_
            refine jr_getRT (cr := 50) hF gf_X12_53 hT h0 rfl rfl dX12_planAt_64 (fun th4 => ?_)
            refine jr_iload_n hF dX12_planAt_67 2 rfl rfl ?_
            refine jr_iaload hF th4 dX12_planAt_68 hf (fun hf => ?_)
            refine jr_sub [0] rfl ?_
            exact jb_X12_planAt_69 hT h0 hF hE _ _ hf
          · refine jr_aload_n hF dX12_planAt_54 0 rfl rfl ?_
            refine jr_getRT (cr := 50) hF gf_X12_7 hT h0 rfl rfl dX12_planAt_55 (fun th5 => ?_)
            refine jr_iconst (v := 0) hF dX12_planAt_58 rfl ?_
            refine jr_iaload hF th5 dX12_planAt_59 hf (fun hf => ?_)
            refine jr_goto (tgt := 69) hF dX12_planAt_60 rfl ?_
            refine jr_sub [0] rfl ?_
            exact jb_X12_planAt_69 hT h0 hF hE _ _ hf
        · refine jr_aload_n hF dX12_planAt_36 0 rfl rfl ?_
          refine jr_bipush (v := 6) hF dX12_planAt_37 rfl ?_
          obtain ⟨q6, hq6, hf⟩ := Option.bind_eq_some_iff.mp hf
          refine jr_cV11 hF ml_X12_97 (c_X12_refuse h0 hq6) h0 ⟨Nat.le_of_ble_eq_true rfl, Nat.le_of_ble_eq_true rfl⟩ (Nat.le_of_ble_eq_true rfl) dX12_planAt_39 ?_
          obtain rfl := Option.some.inj hf
          exact jr_ireturn hF hE dX12_planAt_42
      · refine jr_sub [0] rfl ?_
        exact jb_X12_planAt_21 hT h0 hF hE _ hf
def f_X12_planAt (σ : lt_S) (o : Nat) (x1 : Int32) (x2 : Int32) (w : lt_W) : Option (Int32 × lt_W) := fb_X12_planAt_0 σ o x1 x2 w
set_option maxRecDepth 100000 in
theorem c_X12_planAt {l : Launch} {D : va_G} {gA : Nat → ClassId} {s0 : State} {σ : lt_S} (hT : lt_Wt σ) {o : Nat} (h0 : lt_c σ o = 12) {x1 : Int32} {x2 : Int32} {w : lt_W} {r : Int32 × lt_W} (hf : f_X12_planAt σ o x1 x2 w = some r) : lt_C l D gA s0 yX12_planAt cX12_planAt 3 (some .int) (lt_rm 7) [.ref (s0.heap.size + o), .int x1, .int x2] σ w σ (some (.int r.1)) r.2 := by
  refine lt_enter rfl (Nat.le_of_ble_eq_true rfl) (fun X e1 e2 e3 e4 hF hE => ?_)
  subst e1 e2 e3 e4
  exact jb_X12_planAt_0 hT h0 hF hE _ _ _ hf

set_option maxRecDepth 100000 in
def fb_X12_pour_28 (σ : lt_S) (o : Nat) (w : lt_W) : Option (Int32 × lt_W) := Option.bind (f_X12_is σ o 1 w) (fun q1 => lt_bz q1.1 (some (q1.1, q1.2)))
set_option maxHeartbeats 4000000 in
set_option maxRecDepth 100000 in
theorem jb_X12_pour_28 {X : lt_X} {σ : lt_S} (hT : lt_Wt σ) {o : Nat} (h0 : lt_c σ o = 12) {r : Int32 × lt_W} (hF : lt_F X cX12_pour RX12 8 (lt_rm 2)) (hE : lt_E X 0 0 σ (some .boolean) (some (.int r.1)) r.2) : ∀ (w : lt_W), fb_X12_pour_28 σ o w = some r → lt_J X 0 0 σ w 28 [(0, .ref (lt_z X + o))] [] := by
  intro w hf
  unfold fb_X12_pour_28 at hf
  refine jr_aload_n hF dX12_pour_28 0 rfl rfl ?_
  refine jr_iconst (v := 1) hF dX12_pour_29 rfl ?_
  obtain ⟨q1, hq1, hf⟩ := Option.bind_eq_some_iff.mp hf
  refine jr_cV11 hF ml_X12_104 (c_X12_is h0 hq1) h0 ⟨Nat.le_of_ble_eq_true rfl, Nat.le_of_ble_eq_true rfl⟩ (Nat.le_of_ble_eq_true rfl) dX12_pour_30 ?_
  obtain ⟨b2, hf⟩ := lt_bzE hf
  obtain rfl := Option.some.inj hf
  exact jr_zreturn hF hE b2 dX12_pour_33
set_option maxRecDepth 100000 in
def fb_X12_pour_54 (σ : lt_S) (o : Nat) (w : lt_W) : Option (Int32 × lt_W) := Option.bind (f_X12_is σ o 2 w) (fun q1 => lt_bz q1.1 (some (q1.1, q1.2)))
set_option maxHeartbeats 4000000 in
set_option maxRecDepth 100000 in
theorem jb_X12_pour_54 {X : lt_X} {σ : lt_S} (hT : lt_Wt σ) {o : Nat} (h0 : lt_c σ o = 12) {r : Int32 × lt_W} (hF : lt_F X cX12_pour RX12 8 (lt_rm 2)) (hE : lt_E X 0 0 σ (some .boolean) (some (.int r.1)) r.2) : ∀ (w : lt_W), fb_X12_pour_54 σ o w = some r → lt_J X 0 0 σ w 54 [(0, .ref (lt_z X + o))] [] := by
  intro w hf
  unfold fb_X12_pour_54 at hf
  refine jr_aload_n hF dX12_pour_54 0 rfl rfl ?_
  refine jr_iconst (v := 2) hF dX12_pour_55 rfl ?_
  obtain ⟨q1, hq1, hf⟩ := Option.bind_eq_some_iff.mp hf
  refine jr_cV11 hF ml_X12_104 (c_X12_is h0 hq1) h0 ⟨Nat.le_of_ble_eq_true rfl, Nat.le_of_ble_eq_true rfl⟩ (Nat.le_of_ble_eq_true rfl) dX12_pour_56 ?_
  obtain ⟨b2, hf⟩ := lt_bzE hf
  obtain rfl := Option.some.inj hf
  exact jr_zreturn hF hE b2 dX12_pour_59
set_option maxRecDepth 100000 in
def fb_X12_pour_109 (σ : lt_S) (o : Nat) (w : lt_W) : Option (Int32 × lt_W) := Option.bind (f_X12_is σ o 3 w) (fun q1 => lt_bz q1.1 (some (q1.1, q1.2)))
set_option maxHeartbeats 4000000 in
set_option maxRecDepth 100000 in
theorem jb_X12_pour_109 {X : lt_X} {σ : lt_S} (hT : lt_Wt σ) {o : Nat} (h0 : lt_c σ o = 12) {r : Int32 × lt_W} (hF : lt_F X cX12_pour RX12 8 (lt_rm 2)) (hE : lt_E X 0 0 σ (some .boolean) (some (.int r.1)) r.2) : ∀ (w : lt_W), fb_X12_pour_109 σ o w = some r → lt_J X 0 0 σ w 109 [(0, .ref (lt_z X + o))] [] := by
  intro w hf
  unfold fb_X12_pour_109 at hf
  refine jr_aload_n hF dX12_pour_109 0 rfl rfl ?_
  refine jr_iconst (v := 3) hF dX12_pour_110 rfl ?_
  obtain ⟨q1, hq1, hf⟩ := Option.bind_eq_some_iff.mp hf
  refine jr_cV11 hF ml_X12_104 (c_X12_is h0 hq1) h0 ⟨Nat.le_of_ble_eq_true rfl, Nat.le_of_ble_eq_true rfl⟩ (Nat.le_of_ble_eq_true rfl) dX12_pour_111 ?_
  obtain ⟨b2, hf⟩ := lt_bzE hf
  obtain rfl := Option.some.inj hf
  exact jr_zreturn hF hE b2 dX12_pour_114
set_option maxRecDepth 100000 in
def fb_X12_pour_143 (σ : lt_S) (o : Nat) (k118 : Int32 → Int32 → Int32 → Int32 → Int32 → Int32 → lt_W → Option (Int32 × lt_W)) (x1 : Int32) (x2 : Int32) (x3 : Int32) (x4 : Int32) (x5 : Int32) (x6 : Int32) (y0 : Int32) (w : lt_W) : Option (Int32 × lt_W) := lt_ck (((60 * x1) + x2) + y0) (lt_len σ (lt_r σ o 7)) (lt_ck (((60 * x3) + x4) + y0) (lt_len σ (lt_r σ o 7)) (lt_let (lt_sl w (lt_r σ o 7) (((60 * x3) + x4) + y0).toNatClampNeg (lt_gl w (lt_r σ o 7) (((60 * x1) + x2) + y0).toNatClampNeg)) (fun w3 => k118 x1 x2 x3 x4 x5 (x6 + 1) w3)))
set_option maxHeartbeats 4000000 in
set_option maxRecDepth 100000 in
theorem jb_X12_pour_143 {X : lt_X} {σ : lt_S} (hT : lt_Wt σ) {o : Nat} (h0 : lt_c σ o = 12) {r : Int32 × lt_W} {k118 : Int32 → Int32 → Int32 → Int32 → Int32 → Int32 → lt_W → Option (Int32 × lt_W)} (hF : lt_F X cX12_pour RX12 8 (lt_rm 2)) (hE : lt_E X 0 0 σ (some .boolean) (some (.int r.1)) r.2) (hk118 : ∀ (x1 : Int32) (x2 : Int32) (x3 : Int32) (x4 : Int32) (x5 : Int32) (x6 : Int32) (w : lt_W), k118 x1 x2 x3 x4 x5 x6 w = some r → lt_J X 0 0 σ w 118 [(0, .ref (lt_z X + o)), (1, .int x1), (2, .int x2), (3, .int x3), (4, .int x4), (5, .int x5), (6, .int x6)] []) : ∀ (x1 : Int32) (x2 : Int32) (x3 : Int32) (x4 : Int32) (x5 : Int32) (x6 : Int32) (y0 : Int32) (w : lt_W), fb_X12_pour_143 σ o k118 x1 x2 x3 x4 x5 x6 y0 w = some r → lt_J X 0 0 σ w 143 [(0, .ref (lt_z X + o)), (1, .int x1), (2, .int x2), (3, .int x3), (4, .int x4), (5, .int x5), (6, .int x6)] [.int y0] := by
  intro x1 x2 x3 x4 x5 x6 y0 w hf
  unfold fb_X12_pour_143 at hf
  refine jr_istore (lv' := [(0, .ref (lt_z X + o)), (1, .int x1), (2, .int x2), (3, .int x3), (4, .int x4), (5, .int x5), (6, .int x6), (7, .int y0)]) hF dX12_pour_143 (by decide) [1, 2, 3, 4, 5, 6, 7, 0] rfl ?_
  refine jr_aload_n hF dX12_pour_145 0 rfl rfl ?_
  refine jr_getRT (cr := 51) hF gf_X12_27 hT h0 rfl rfl dX12_pour_146 (fun th1 => ?_)
  refine jr_bipush (v := 60) hF dX12_pour_149 rfl ?_
  refine jr_iload_n hF dX12_pour_151 3 rfl rfl ?_
  refine jr_imul hF dX12_pour_152 ?_
  refine jr_iload hF dX12_pour_153 4 rfl ?_
  refine jr_iadd hF dX12_pour_155 ?_
  refine jr_iload hF dX12_pour_156 7 rfl ?_
  refine jr_iadd hF dX12_pour_158 ?_
  refine jr_aload_n hF dX12_pour_159 0 rfl rfl ?_
  refine jr_getRT (cr := 51) hF gf_X12_27 hT h0 rfl rfl dX12_pour_160 (fun th2 => ?_)
  refine jr_bipush (v := 60) hF dX12_pour_163 rfl ?_
  refine jr_iload_n hF dX12_pour_165 1 rfl rfl ?_
  refine jr_imul hF dX12_pour_166 ?_
  refine jr_iload_n hF dX12_pour_167 2 rfl rfl ?_
  refine jr_iadd hF dX12_pour_168 ?_
  refine jr_iload hF dX12_pour_169 7 rfl ?_
  refine jr_iadd hF dX12_pour_171 ?_
  refine jr_laload hF th2 dX12_pour_172 hf (fun hf => ?_)
  refine jr_lastore hF th1 dX12_pour_173 hf (fun hf => ?_)
  refine jr_letW hf (fun w3 hf => ?_)
  refine jr_iinc (v := x6 + 1) (lv' := [(0, .ref (lt_z X + o)), (1, .int x1), (2, .int x2), (3, .int x3), (4, .int x4), (5, .int x5), (6, .int (x6 + 1)), (7, .int y0)]) hF dX12_pour_174 6 rfl rfl (by decide) [1, 2, 3, 4, 5, 6, 0, 7] rfl ?_
  refine jr_goto (tgt := 118) hF dX12_pour_177 rfl ?_
  refine jr_sub [0, 1, 2, 3, 4, 5, 6] rfl ?_
  exact hk118 _ _ _ _ _ _ _ hf
set_option maxRecDepth 100000 in
def fb_X12_pour_118 (σ : lt_S) (o : Nat) : Nat → Int32 → Int32 → Int32 → Int32 → Int32 → Int32 → lt_W → Option (Int32 × lt_W)
  | 0, _, _, _, _, _, _, _ => none
  | n + 1, x1, x2, x3, x4, x5, x6, w => if x5 ≤ x6 then Option.bind (f_X12_is σ o 0 w) (fun q1 => lt_bz q1.1 (some (q1.1, q1.2))) else if x4 ≤ x2 then fb_X12_pour_143 σ o (fun x1 x2 x3 x4 x5 x6 w => fb_X12_pour_118 σ o n x1 x2 x3 x4 x5 x6 w) x1 x2 x3 x4 x5 x6 x6 w else fb_X12_pour_143 σ o (fun x1 x2 x3 x4 x5 x6 w => fb_X12_pour_118 σ o n x1 x2 x3 x4 x5 x6 w) x1 x2 x3 x4 x5 x6 ((x5 - 1) - x6) w
set_option maxHeartbeats 4000000 in
set_option maxRecDepth 100000 in
theorem jb_X12_pour_118 {X : lt_X} {σ : lt_S} (hT : lt_Wt σ) {o : Nat} (h0 : lt_c σ o = 12) {r : Int32 × lt_W} (hF : lt_F X cX12_pour RX12 8 (lt_rm 2)) (hE : lt_E X 0 0 σ (some .boolean) (some (.int r.1)) r.2) (n : Nat) : ∀ (x1 : Int32) (x2 : Int32) (x3 : Int32) (x4 : Int32) (x5 : Int32) (x6 : Int32) (w : lt_W), fb_X12_pour_118 σ o n x1 x2 x3 x4 x5 x6 w = some r → lt_J X 0 0 σ w 118 [(0, .ref (lt_z X + o)), (1, .int x1), (2, .int x2), (3, .int x3), (4, .int x4), (5, .int x5), (6, .int x6)] [] := by
  induction n with
  | zero => intro x1 x2 x3 x4 x5 x6 w hf; rw [fb_X12_pour_118] at hf; cases hf
  | succ n ih =>
    intro x1 x2 x3 x4 x5 x6 w hf
    rw [fb_X12_pour_118] at hf
    refine jr_iload hF dX12_pour_118 6 rfl ?_
    refine jr_iload hF dX12_pour_120 5 rfl ?_
    refine jr_icmp_ge (tgt := 180) hF dX12_pour_122 rfl hf (fun hf => ?_) (fun hf => ?_)
    · refine jr_aload_n hF dX12_pour_180 0 rfl rfl ?_
      refine jr_iconst (v := 0) hF dX12_pour_181 rfl ?_
      obtain ⟨q1, hq1, hf⟩ := Option.bind_eq_some_iff.mp hf
      refine jr_cV11 hF ml_X12_104 (c_X12_is h0 hq1) h0 ⟨Nat.le_of_ble_eq_true rfl, Nat.le_of_ble_eq_true rfl⟩ (Nat.le_of_ble_eq_true rfl) dX12_pour_182 ?_
      obtain ⟨b2, hf⟩ := lt_bzE hf
      obtain rfl := Option.some.inj hf
      exact jr_zreturn hF hE b2 dX12_pour_185
    · refine jr_iload_n hF dX12_pour_125 2 rfl rfl ?_
      refine jr_iload hF dX12_pour_126 4 rfl ?_
      refine jr_icmp_ge (tgt := 141) hF dX12_pour_128 rfl hf (fun hf => ?_) (fun hf => ?_)
      · refine jr_iload hF dX12_pour_141 6 rfl ?_
        exact jb_X12_pour_143 hT h0 hF hE ih _ _ _ _ _ _ _ _ hf
      · refine jr_iload hF dX12_pour_131 5 rfl ?_
        refine jr_iconst (v := 1) hF dX12_pour_133 rfl ?_
        refine jr_isub hF dX12_pour_134 ?_
        refine jr_iload hF dX12_pour_135 6 rfl ?_
        refine jr_isub hF dX12_pour_137 ?_
        refine jr_goto (tgt := 143) hF dX12_pour_138 rfl ?_
        exact jb_X12_pour_143 hT h0 hF hE ih _ _ _ _ _ _ _ _ hf
set_option maxRecDepth 100000 in
def fb_X12_pour_0 (σ : lt_S) (o : Nat) (x1 : Int32) (x2 : Int32) (x3 : Int32) (x4 : Int32) (x5 : Int32) (w : lt_W) : Option (Int32 × lt_W) := Option.bind (f_X12_isTray x1) (fun q1 => if q1 = 0 then fb_X12_pour_28 σ o w else Option.bind (f_X12_isTray x3) (fun q2 => if q2 = 0 then fb_X12_pour_28 σ o w else if x2 < 0 then fb_X12_pour_28 σ o w else if x4 < 0 then fb_X12_pour_28 σ o w else if 0 ≤ x5 then lt_ck x1 (lt_len σ (lt_r σ o 6)) (if (lt_gi w (lt_r σ o 6) x1.toNatClampNeg) = (-1) then fb_X12_pour_54 σ o w else lt_ck x3 (lt_len σ (lt_r σ o 6)) (if (lt_gi w (lt_r σ o 6) x3.toNatClampNeg) = (-1) then fb_X12_pour_54 σ o w else lt_ck x1 (lt_len σ (lt_r σ o 5)) (lt_ck x3 (lt_len σ (lt_r σ o 5)) (if (lt_gi w (lt_r σ o 5) x1.toNatClampNeg) = (lt_gi w (lt_r σ o 5) x3.toNatClampNeg) then lt_ck x1 (lt_len σ (lt_r σ o 6)) (if ((lt_gi w (lt_r σ o 6) x1.toNatClampNeg) - x2) < x5 then fb_X12_pour_109 σ o w else lt_ck x3 (lt_len σ (lt_r σ o 6)) (if x5 ≤ ((lt_gi w (lt_r σ o 6) x3.toNatClampNeg) - x4) then fb_X12_pour_118 σ o lt_fu x1 x2 x3 x4 x5 0 w else fb_X12_pour_109 σ o w)) else Option.bind (f_X12_is σ o 8 w) (fun q9 => lt_bz q9.1 (some (q9.1, q9.2))))))) else fb_X12_pour_28 σ o w))
set_option maxHeartbeats 4000000 in
set_option maxRecDepth 100000 in
theorem jb_X12_pour_0 {X : lt_X} {σ : lt_S} (hT : lt_Wt σ) {o : Nat} (h0 : lt_c σ o = 12) {r : Int32 × lt_W} (hF : lt_F X cX12_pour RX12 8 (lt_rm 2)) (hE : lt_E X 0 0 σ (some .boolean) (some (.int r.1)) r.2) : ∀ (x1 : Int32) (x2 : Int32) (x3 : Int32) (x4 : Int32) (x5 : Int32) (w : lt_W), fb_X12_pour_0 σ o x1 x2 x3 x4 x5 w = some r → lt_J X 0 0 σ w 0 [(0, .ref (lt_z X + o)), (1, .int x1), (2, .int x2), (3, .int x3), (4, .int x4), (5, .int x5)] [] := by
  intro x1 x2 x3 x4 x5 w hf
  unfold fb_X12_pour_0 at hf
  refine jr_iload_n hF dX12_pour_0 1 rfl rfl ?_
  obtain ⟨q1, hq1, hf⟩ := Option.bind_eq_some_iff.mp hf
  refine jr_cS11 hF ml_X12_108 (c_X12_isTray hq1) ⟨Nat.le_of_ble_eq_true rfl, Nat.le_of_ble_eq_true rfl⟩ (Nat.le_of_ble_eq_true rfl) dX12_pour_1 ?_
  refine jr_if_eq (tgt := 28) hF dX12_pour_4 rfl hf (fun hf => ?_) (fun hf => ?_)
  · refine jr_sub [0] rfl ?_
    exact jb_X12_pour_28 hT h0 hF hE _ hf
  · refine jr_iload_n hF dX12_pour_7 3 rfl rfl ?_
    obtain ⟨q2, hq2, hf⟩ := Option.bind_eq_some_iff.mp hf
    refine jr_cS11 hF ml_X12_108 (c_X12_isTray hq2) ⟨Nat.le_of_ble_eq_true rfl, Nat.le_of_ble_eq_true rfl⟩ (Nat.le_of_ble_eq_true rfl) dX12_pour_8 ?_
    refine jr_if_eq (tgt := 28) hF dX12_pour_11 rfl hf (fun hf => ?_) (fun hf => ?_)
    · refine jr_sub [0] rfl ?_
      exact jb_X12_pour_28 hT h0 hF hE _ hf
    · refine jr_iload_n hF dX12_pour_14 2 rfl rfl ?_
      refine jr_if_lt (tgt := 28) hF dX12_pour_15 rfl hf (fun hf => ?_) (fun hf => ?_)
      · refine jr_sub [0] rfl ?_
        exact jb_X12_pour_28 hT h0 hF hE _ hf
      · refine jr_iload hF dX12_pour_18 4 rfl ?_
        refine jr_if_lt (tgt := 28) hF dX12_pour_20 rfl hf (fun hf => ?_) (fun hf => ?_)
        · refine jr_sub [0] rfl ?_
          exact jb_X12_pour_28 hT h0 hF hE _ hf
        · refine jr_iload hF dX12_pour_23 5 rfl ?_
          refine jr_if_ge (tgt := 34) hF dX12_pour_25 rfl hf (fun hf => ?_) (fun hf => ?_)
          · refine jr_aload_n hF dX12_pour_34 0 rfl rfl ?_
            refine jr_getRT (cr := 50) hF gf_X12_24 hT h0 rfl rfl dX12_pour_35 (fun th3 => ?_)
            refine jr_iload_n hF dX12_pour_38 1 rfl rfl ?_
            refine jr_iaload hF th3 dX12_pour_39 hf (fun hf => ?_)
            refine jr_iconst (v := (-1)) hF dX12_pour_40 rfl ?_
            refine jr_icmp_eq (tgt := 54) hF dX12_pour_41 rfl hf (fun hf => ?_) (fun hf => ?_)
            · refine jr_sub [0] rfl ?_
              exact jb_X12_pour_54 hT h0 hF hE _ hf
            · refine jr_aload_n hF dX12_pour_44 0 rfl rfl ?_
              refine jr_getRT (cr := 50) hF gf_X12_24 hT h0 rfl rfl dX12_pour_45 (fun th4 => ?_)
              refine jr_iload_n hF dX12_pour_48 3 rfl rfl ?_
              refine jr_iaload hF th4 dX12_pour_49 hf (fun hf => ?_)
              refine jr_iconst (v := (-1)) hF dX12_pour_50 rfl ?_
              refine jr_icmp_ne (tgt := 60) hF dX12_pour_51 rfl hf (fun hf => ?_) (fun hf => ?_)
              · refine jr_aload_n hF dX12_pour_60 0 rfl rfl ?_
                refine jr_getRT (cr := 50) hF gf_X12_21 hT h0 rfl rfl dX12_pour_61 (fun th5 => ?_)
                refine jr_iload_n hF dX12_pour_64 1 rfl rfl ?_
                refine jr_iaload hF th5 dX12_pour_65 hf (fun hf => ?_)
                refine jr_aload_n hF dX12_pour_66 0 rfl rfl ?_
                refine jr_getRT (cr := 50) hF gf_X12_21 hT h0 rfl rfl dX12_pour_67 (fun th6 => ?_)
                refine jr_iload_n hF dX12_pour_70 3 rfl rfl ?_
                refine jr_iaload hF th6 dX12_pour_71 hf (fun hf => ?_)
                refine jr_icmp_eq (tgt := 82) hF dX12_pour_72 rfl hf (fun hf => ?_) (fun hf => ?_)
                · refine jr_iload hF dX12_pour_82 5 rfl ?_
                  refine jr_aload_n hF dX12_pour_84 0 rfl rfl ?_
                  refine jr_getRT (cr := 50) hF gf_X12_24 hT h0 rfl rfl dX12_pour_85 (fun th7 => ?_)
                  refine jr_iload_n hF dX12_pour_88 1 rfl rfl ?_
                  refine jr_iaload hF th7 dX12_pour_89 hf (fun hf => ?_)
                  refine jr_iload_n hF dX12_pour_90 2 rfl rfl ?_
                  refine jr_isub hF dX12_pour_91 ?_
                  refine jr_icmp_gt (tgt := 109) hF dX12_pour_92 rfl hf (fun hf => ?_) (fun hf => ?_)
                  · refine jr_sub [0] rfl ?_
                    exact jb_X12_pour_109 hT h0 hF hE _ hf
                  · refine jr_iload hF dX12_pour_95 5 rfl ?_
                    refine jr_aload_n hF dX12_pour_97 0 rfl rfl ?_
                    refine jr_getRT (cr := 50) hF gf_X12_24 hT h0 rfl rfl dX12_pour_98 (fun th8 => ?_)
                    refine jr_iload_n hF dX12_pour_101 3 rfl rfl ?_
                    refine jr_iaload hF th8 dX12_pour_102 hf (fun hf => ?_)
                    refine jr_iload hF dX12_pour_103 4 rfl ?_
                    refine jr_isub hF dX12_pour_105 ?_
                    refine jr_icmp_le (tgt := 115) hF dX12_pour_106 rfl hf (fun hf => ?_) (fun hf => ?_)
                    · refine jr_iconst (v := 0) hF dX12_pour_115 rfl ?_
                      refine jr_istore (lv' := [(0, .ref (lt_z X + o)), (1, .int x1), (2, .int x2), (3, .int x3), (4, .int x4), (5, .int x5), (6, .int 0)]) hF dX12_pour_116 (by decide) [1, 2, 3, 4, 5, 6, 0] rfl ?_
                      exact jb_X12_pour_118 hT h0 hF hE lt_fu _ _ _ _ _ _ _ hf
                    · refine jr_sub [0] rfl ?_
                      exact jb_X12_pour_109 hT h0 hF hE _ hf
                · refine jr_aload_n hF dX12_pour_75 0 rfl rfl ?_
                  refine jr_bipush (v := 8) hF dX12_pour_76 rfl ?_
                  obtain ⟨q9, hq9, hf⟩ := Option.bind_eq_some_iff.mp hf
                  refine jr_cV11 hF ml_X12_104 (c_X12_is h0 hq9) h0 ⟨Nat.le_of_ble_eq_true rfl, Nat.le_of_ble_eq_true rfl⟩ (Nat.le_of_ble_eq_true rfl) dX12_pour_78 ?_
                  obtain ⟨b10, hf⟩ := lt_bzE hf
                  obtain rfl := Option.some.inj hf
                  exact jr_zreturn hF hE b10 dX12_pour_81
              · refine jr_sub [0] rfl ?_
                exact jb_X12_pour_54 hT h0 hF hE _ hf
          · refine jr_sub [0] rfl ?_
            exact jb_X12_pour_28 hT h0 hF hE _ hf
def f_X12_pour (σ : lt_S) (o : Nat) (x1 : Int32) (x2 : Int32) (x3 : Int32) (x4 : Int32) (x5 : Int32) (w : lt_W) : Option (Int32 × lt_W) := fb_X12_pour_0 σ o x1 x2 x3 x4 x5 w
set_option maxRecDepth 100000 in
theorem c_X12_pour {l : Launch} {D : va_G} {gA : Nat → ClassId} {s0 : State} {σ : lt_S} (hT : lt_Wt σ) {o : Nat} (h0 : lt_c σ o = 12) {x1 : Int32} {x2 : Int32} {x3 : Int32} {x4 : Int32} {x5 : Int32} {w : lt_W} {r : Int32 × lt_W} (hf : f_X12_pour σ o x1 x2 x3 x4 x5 w = some r) : lt_C l D gA s0 yX12_pour cX12_pour 8 (some .boolean) (lt_rm 2) [.ref (s0.heap.size + o), .int x1, .int x2, .int x3, .int x4, .int x5] σ w σ (some (.int r.1)) r.2 := by
  refine lt_enter rfl (Nat.le_of_ble_eq_true rfl) (fun X e1 e2 e3 e4 hF hE => ?_)
  subst e1 e2 e3 e4
  exact jb_X12_pour_0 hT h0 hF hE _ _ _ _ _ _ hf

set_option maxRecDepth 100000 in
def fb_X12_wrongPlace_0 (σ : lt_S) (o : Nat) (w : lt_W) (x1 : Int32) (x2 : Int32) : Option Int32 := Option.bind (f_X12_isTray x1) (fun q1 => if q1 = 0 then some 1 else lt_ck x1 (lt_len σ (lt_r σ o 6)) (if (lt_gi w (lt_r σ o 6) x1.toNatClampNeg) = (-1) then some 2 else if x2 < 0 then some 3 else lt_ck x1 (lt_len σ (lt_r σ o 6)) (if x2 < (lt_gi w (lt_r σ o 6) x1.toNatClampNeg) then some 0 else some 3)))
set_option maxHeartbeats 4000000 in
set_option maxRecDepth 100000 in
theorem jb_X12_wrongPlace_0 {X : lt_X} {σ : lt_S} (hT : lt_Wt σ) {o : Nat} (h0 : lt_c σ o = 12) {r : Int32} {w : lt_W} (hF : lt_F X cX12_wrongPlace RX12 3 (lt_rm 2)) (hE : lt_E X 0 0 σ (some .int) (some (.int r)) w) : ∀ (x1 : Int32) (x2 : Int32), fb_X12_wrongPlace_0 σ o w x1 x2 = some r → lt_J X 0 0 σ w 0 [(0, .ref (lt_z X + o)), (1, .int x1), (2, .int x2)] [] := by
  intro x1 x2 hf
  unfold fb_X12_wrongPlace_0 at hf
  refine jr_iload_n hF dX12_wrongPlace_0 1 rfl rfl ?_
  obtain ⟨q1, hq1, hf⟩ := Option.bind_eq_some_iff.mp hf
  refine jr_cS11 hF ml_X12_108 (c_X12_isTray hq1) ⟨Nat.le_of_ble_eq_true rfl, Nat.le_of_ble_eq_true rfl⟩ (Nat.le_of_ble_eq_true rfl) dX12_wrongPlace_1 ?_
  refine jr_if_ne (tgt := 11) hF dX12_wrongPlace_4 rfl hf (fun hf => ?_) (fun hf => ?_)
  · refine jr_aload_n hF dX12_wrongPlace_11 0 rfl rfl ?_
    refine jr_getRT (cr := 50) hF gf_X12_24 hT h0 rfl rfl dX12_wrongPlace_12 (fun th2 => ?_)
    refine jr_iload_n hF dX12_wrongPlace_15 1 rfl rfl ?_
    refine jr_iaload hF th2 dX12_wrongPlace_16 hf (fun hf => ?_)
    refine jr_iconst (v := (-1)) hF dX12_wrongPlace_17 rfl ?_
    refine jr_icmp_ne (tgt := 25) hF dX12_wrongPlace_18 rfl hf (fun hf => ?_) (fun hf => ?_)
    · refine jr_iload_n hF dX12_wrongPlace_25 2 rfl rfl ?_
      refine jr_if_lt (tgt := 39) hF dX12_wrongPlace_26 rfl hf (fun hf => ?_) (fun hf => ?_)
      · refine jr_iconst (v := 3) hF dX12_wrongPlace_39 rfl ?_
        refine jr_goto (tgt := 44) hF dX12_wrongPlace_40 rfl ?_
        obtain rfl := Option.some.inj hf
        exact jr_ireturn hF hE dX12_wrongPlace_44
      · refine jr_iload_n hF dX12_wrongPlace_29 2 rfl rfl ?_
        refine jr_aload_n hF dX12_wrongPlace_30 0 rfl rfl ?_
        refine jr_getRT (cr := 50) hF gf_X12_24 hT h0 rfl rfl dX12_wrongPlace_31 (fun th3 => ?_)
        refine jr_iload_n hF dX12_wrongPlace_34 1 rfl rfl ?_
        refine jr_iaload hF th3 dX12_wrongPlace_35 hf (fun hf => ?_)
        refine jr_icmp_lt (tgt := 43) hF dX12_wrongPlace_36 rfl hf (fun hf => ?_) (fun hf => ?_)
        · refine jr_iconst (v := 0) hF dX12_wrongPlace_43 rfl ?_
          obtain rfl := Option.some.inj hf
          exact jr_ireturn hF hE dX12_wrongPlace_44
        · refine jr_iconst (v := 3) hF dX12_wrongPlace_39 rfl ?_
          refine jr_goto (tgt := 44) hF dX12_wrongPlace_40 rfl ?_
          obtain rfl := Option.some.inj hf
          exact jr_ireturn hF hE dX12_wrongPlace_44
    · refine jr_iconst (v := 2) hF dX12_wrongPlace_21 rfl ?_
      refine jr_goto (tgt := 44) hF dX12_wrongPlace_22 rfl ?_
      obtain rfl := Option.some.inj hf
      exact jr_ireturn hF hE dX12_wrongPlace_44
  · refine jr_iconst (v := 1) hF dX12_wrongPlace_7 rfl ?_
    refine jr_goto (tgt := 44) hF dX12_wrongPlace_8 rfl ?_
    obtain rfl := Option.some.inj hf
    exact jr_ireturn hF hE dX12_wrongPlace_44
def f_X12_wrongPlace (σ : lt_S) (o : Nat) (x1 : Int32) (x2 : Int32) (w : lt_W) : Option Int32 := fb_X12_wrongPlace_0 σ o w x1 x2
set_option maxRecDepth 100000 in
theorem c_X12_wrongPlace {l : Launch} {D : va_G} {gA : Nat → ClassId} {s0 : State} {σ : lt_S} (hT : lt_Wt σ) {o : Nat} (h0 : lt_c σ o = 12) {x1 : Int32} {x2 : Int32} {w : lt_W} {r : Int32} (hf : f_X12_wrongPlace σ o x1 x2 w = some r) : lt_C l D gA s0 yX12_wrongPlace cX12_wrongPlace 3 (some .int) (lt_rm 2) [.ref (s0.heap.size + o), .int x1, .int x2] σ w σ (some (.int r)) w := by
  refine lt_enter rfl (Nat.le_of_ble_eq_true rfl) (fun X e1 e2 e3 e4 hF hE => ?_)
  subst e1 e2 e3 e4
  exact jb_X12_wrongPlace_0 hT h0 hF hE _ _ hf

set_option maxRecDepth 100000 in
def fb_X12_read_0 (σ : lt_S) (o : Nat) (x1 : Int32) (x2 : Int32) (w : lt_W) : Option (Int64 × lt_W) := Option.bind (f_X12_wrongPlace σ o x1 x2 w) (fun q1 => lt_let (lt_si w o 2 q1) (fun w2 => if (lt_gi w2 o 2) ≤ 0 then lt_ck ((60 * x1) + x2) (lt_len σ (lt_r σ o 7)) (some (lt_gl w2 (lt_r σ o 7) ((60 * x1) + x2).toNatClampNeg, w2)) else some ((-1), w2)))
set_option maxHeartbeats 4000000 in
set_option maxRecDepth 100000 in
theorem jb_X12_read_0 {X : lt_X} {σ : lt_S} (hT : lt_Wt σ) {o : Nat} (h0 : lt_c σ o = 12) {r : Int64 × lt_W} (hF : lt_F X cX12_read RX12 3 (lt_rm 3)) (hE : lt_E X 0 0 σ (some .long) (some (.long r.1)) r.2) : ∀ (x1 : Int32) (x2 : Int32) (w : lt_W), fb_X12_read_0 σ o x1 x2 w = some r → lt_J X 0 0 σ w 0 [(0, .ref (lt_z X + o)), (1, .int x1), (2, .int x2)] [] := by
  intro x1 x2 w hf
  unfold fb_X12_read_0 at hf
  refine jr_aload_n hF dX12_read_0 0 rfl rfl ?_
  refine jr_aload_n hF dX12_read_1 0 rfl rfl ?_
  refine jr_iload_n hF dX12_read_2 1 rfl rfl ?_
  refine jr_iload_n hF dX12_read_3 2 rfl rfl ?_
  obtain ⟨q1, hq1, hf⟩ := Option.bind_eq_some_iff.mp hf
  refine jr_cV21 hF ml_X12_111 (c_X12_wrongPlace hT h0 hq1) h0 ⟨Nat.le_of_ble_eq_true rfl, Nat.le_of_ble_eq_true rfl⟩ (Nat.le_of_ble_eq_true rfl) dX12_read_4 ?_
  refine jr_putI hF pf_X12_91 h0 dX12_read_7 ?_
  refine jr_letW hf (fun w2 hf => ?_)
  refine jr_aload_n hF dX12_read_10 0 rfl rfl ?_
  refine jr_getI hF gf_X12_91 h0 dX12_read_11 ?_
  refine jr_if_le (tgt := 23) hF dX12_read_14 rfl hf (fun hf => ?_) (fun hf => ?_)
  · refine jr_aload_n hF dX12_read_23 0 rfl rfl ?_
    refine jr_getRT (cr := 51) hF gf_X12_27 hT h0 rfl rfl dX12_read_24 (fun th3 => ?_)
    refine jr_bipush (v := 60) hF dX12_read_27 rfl ?_
    refine jr_iload_n hF dX12_read_29 1 rfl rfl ?_
    refine jr_imul hF dX12_read_30 ?_
    refine jr_iload_n hF dX12_read_31 2 rfl rfl ?_
    refine jr_iadd hF dX12_read_32 ?_
    refine jr_laload hF th3 dX12_read_33 hf (fun hf => ?_)
    obtain rfl := Option.some.inj hf
    exact jr_lreturn hF hE dX12_read_34
  · refine jr_ldc2 (v := (-1)) hF dX12_read_17 kc_X12_119 ?_
    refine jr_goto (tgt := 34) hF dX12_read_20 rfl ?_
    obtain rfl := Option.some.inj hf
    exact jr_lreturn hF hE dX12_read_34
def f_X12_read (σ : lt_S) (o : Nat) (x1 : Int32) (x2 : Int32) (w : lt_W) : Option (Int64 × lt_W) := fb_X12_read_0 σ o x1 x2 w
set_option maxRecDepth 100000 in
theorem c_X12_read {l : Launch} {D : va_G} {gA : Nat → ClassId} {s0 : State} {σ : lt_S} (hT : lt_Wt σ) {o : Nat} (h0 : lt_c σ o = 12) {x1 : Int32} {x2 : Int32} {w : lt_W} {r : Int64 × lt_W} (hf : f_X12_read σ o x1 x2 w = some r) : lt_C l D gA s0 yX12_read cX12_read 3 (some .long) (lt_rm 3) [.ref (s0.heap.size + o), .int x1, .int x2] σ w σ (some (.long r.1)) r.2 := by
  refine lt_enter rfl (Nat.le_of_ble_eq_true rfl) (fun X e1 e2 e3 e4 hF hE => ?_)
  subst e1 e2 e3 e4
  exact jb_X12_read_0 hT h0 hF hE _ _ _ hf

set_option maxRecDepth 100000 in
def fb_X12_rule_28 (σ : lt_S) (o : Nat) (w : lt_W) : Option (Int32 × lt_W) := Option.bind (f_X12_is σ o 1 w) (fun q1 => lt_bz q1.1 (some (q1.1, q1.2)))
set_option maxHeartbeats 4000000 in
set_option maxRecDepth 100000 in
theorem jb_X12_rule_28 {X : lt_X} {σ : lt_S} (hT : lt_Wt σ) {o : Nat} (h0 : lt_c σ o = 12) {r : Int32 × lt_W} (hF : lt_F X cX12_rule RX12 3 (lt_rm 2)) (hE : lt_E X 0 0 σ (some .boolean) (some (.int r.1)) r.2) : ∀ (w : lt_W), fb_X12_rule_28 σ o w = some r → lt_J X 0 0 σ w 28 [(0, .ref (lt_z X + o))] [] := by
  intro w hf
  unfold fb_X12_rule_28 at hf
  refine jr_aload_n hF dX12_rule_28 0 rfl rfl ?_
  refine jr_iconst (v := 1) hF dX12_rule_29 rfl ?_
  obtain ⟨q1, hq1, hf⟩ := Option.bind_eq_some_iff.mp hf
  refine jr_cV11 hF ml_X12_104 (c_X12_is h0 hq1) h0 ⟨Nat.le_of_ble_eq_true rfl, Nat.le_of_ble_eq_true rfl⟩ (Nat.le_of_ble_eq_true rfl) dX12_rule_30 ?_
  obtain ⟨b2, hf⟩ := lt_bzE hf
  obtain rfl := Option.some.inj hf
  exact jr_zreturn hF hE b2 dX12_rule_33
set_option maxRecDepth 100000 in
def fb_X12_rule_0 (σ : lt_S) (o : Nat) (x1 : Int32) (x2 : Int32) (w : lt_W) : Option (Int32 × lt_W) := if x1 < 1 then fb_X12_rule_28 σ o w else if 3 < x1 then fb_X12_rule_28 σ o w else Option.bind (f_X12_leastOf x1) (fun q1 => Option.bind (f_X12_mostOf x1) (fun q2 => Option.bind (f_X12_isFrom x2.toInt64 q1.toInt64 q2.toInt64) (fun q3 => if q3 = 0 then fb_X12_rule_28 σ o w else lt_ck x1 (lt_len σ (lt_r σ o 0)) (lt_let (lt_si w (lt_r σ o 0) x1.toNatClampNeg x2) (fun w5 => Option.bind (f_X12_is σ o 0 w5) (fun q6 => lt_bz q6.1 (some (q6.1, q6.2))))))))
set_option maxHeartbeats 4000000 in
set_option maxRecDepth 100000 in
theorem jb_X12_rule_0 {X : lt_X} {σ : lt_S} (hT : lt_Wt σ) {o : Nat} (h0 : lt_c σ o = 12) {r : Int32 × lt_W} (hF : lt_F X cX12_rule RX12 3 (lt_rm 2)) (hE : lt_E X 0 0 σ (some .boolean) (some (.int r.1)) r.2) : ∀ (x1 : Int32) (x2 : Int32) (w : lt_W), fb_X12_rule_0 σ o x1 x2 w = some r → lt_J X 0 0 σ w 0 [(0, .ref (lt_z X + o)), (1, .int x1), (2, .int x2)] [] := by
  intro x1 x2 w hf
  unfold fb_X12_rule_0 at hf
  refine jr_iload_n hF dX12_rule_0 1 rfl rfl ?_
  refine jr_iconst (v := 1) hF dX12_rule_1 rfl ?_
  refine jr_icmp_lt (tgt := 28) hF dX12_rule_2 rfl hf (fun hf => ?_) (fun hf => ?_)
  · refine jr_sub [0] rfl ?_
    exact jb_X12_rule_28 hT h0 hF hE _ hf
  · refine jr_iload_n hF dX12_rule_5 1 rfl rfl ?_
    refine jr_iconst (v := 3) hF dX12_rule_6 rfl ?_
    refine jr_icmp_gt (tgt := 28) hF dX12_rule_7 rfl hf (fun hf => ?_) (fun hf => ?_)
    · refine jr_sub [0] rfl ?_
      exact jb_X12_rule_28 hT h0 hF hE _ hf
    · refine jr_iload_n hF dX12_rule_10 2 rfl rfl ?_
      refine jr_i2l hF dX12_rule_11 ?_
      refine jr_iload_n hF dX12_rule_12 1 rfl rfl ?_
      obtain ⟨q1, hq1, hf⟩ := Option.bind_eq_some_iff.mp hf
      refine jr_cS11 hF ml_X12_236 (c_X12_leastOf hq1) ⟨Nat.le_of_ble_eq_true rfl, Nat.le_of_ble_eq_true rfl⟩ (Nat.le_of_ble_eq_true rfl) dX12_rule_13 ?_
      refine jr_i2l hF dX12_rule_16 ?_
      refine jr_iload_n hF dX12_rule_17 1 rfl rfl ?_
      obtain ⟨q2, hq2, hf⟩ := Option.bind_eq_some_iff.mp hf
      refine jr_cS11 hF ml_X12_239 (c_X12_mostOf hq2) ⟨Nat.le_of_ble_eq_true rfl, Nat.le_of_ble_eq_true rfl⟩ (Nat.le_of_ble_eq_true rfl) dX12_rule_18 ?_
      refine jr_i2l hF dX12_rule_21 ?_
      obtain ⟨q3, hq3, hf⟩ := Option.bind_eq_some_iff.mp hf
      refine jr_cS31 hF ml_X12_307 (c_X12_isFrom hq3) ⟨Nat.le_of_ble_eq_true rfl, Nat.le_of_ble_eq_true rfl⟩ (Nat.le_of_ble_eq_true rfl) dX12_rule_22 ?_
      refine jr_if_ne (tgt := 34) hF dX12_rule_25 rfl hf (fun hf => ?_) (fun hf => ?_)
      · refine jr_aload_n hF dX12_rule_34 0 rfl rfl ?_
        refine jr_getRT (cr := 50) hF gf_X12_7 hT h0 rfl rfl dX12_rule_35 (fun th4 => ?_)
        refine jr_iload_n hF dX12_rule_38 1 rfl rfl ?_
        refine jr_iload_n hF dX12_rule_39 2 rfl rfl ?_
        refine jr_iastore hF th4 dX12_rule_40 hf (fun hf => ?_)
        refine jr_letW hf (fun w5 hf => ?_)
        refine jr_aload_n hF dX12_rule_41 0 rfl rfl ?_
        refine jr_iconst (v := 0) hF dX12_rule_42 rfl ?_
        obtain ⟨q6, hq6, hf⟩ := Option.bind_eq_some_iff.mp hf
        refine jr_cV11 hF ml_X12_104 (c_X12_is h0 hq6) h0 ⟨Nat.le_of_ble_eq_true rfl, Nat.le_of_ble_eq_true rfl⟩ (Nat.le_of_ble_eq_true rfl) dX12_rule_43 ?_
        obtain ⟨b7, hf⟩ := lt_bzE hf
        obtain rfl := Option.some.inj hf
        exact jr_zreturn hF hE b7 dX12_rule_46
      · refine jr_sub [0] rfl ?_
        exact jb_X12_rule_28 hT h0 hF hE _ hf
def f_X12_rule (σ : lt_S) (o : Nat) (x1 : Int32) (x2 : Int32) (w : lt_W) : Option (Int32 × lt_W) := fb_X12_rule_0 σ o x1 x2 w
set_option maxRecDepth 100000 in
theorem c_X12_rule {l : Launch} {D : va_G} {gA : Nat → ClassId} {s0 : State} {σ : lt_S} (hT : lt_Wt σ) {o : Nat} (h0 : lt_c σ o = 12) {x1 : Int32} {x2 : Int32} {w : lt_W} {r : Int32 × lt_W} (hf : f_X12_rule σ o x1 x2 w = some r) : lt_C l D gA s0 yX12_rule cX12_rule 3 (some .boolean) (lt_rm 2) [.ref (s0.heap.size + o), .int x1, .int x2] σ w σ (some (.int r.1)) r.2 := by
  refine lt_enter rfl (Nat.le_of_ble_eq_true rfl) (fun X e1 e2 e3 e4 hF hE => ?_)
  subst e1 e2 e3 e4
  exact jb_X12_rule_0 hT h0 hF hE _ _ _ hf

set_option maxRecDepth 100000 in
def fb_X12_seen_0 (σ : lt_S) (o : Nat) (x1 : Int32) (x2 : Int32) (x3 : Int32) (w : lt_W) : Option (Int32 × lt_W) := Option.bind (f_X12_wrongCall σ o x1 x2 x3 w) (fun q1 => if q1 ≤ 0 then Option.bind (f_X12_laysSeen σ o x1 x2 x3 w) (fun q2 => Option.bind (f_X12_gives σ o q2.1 q2.2) (fun q3 => some (q3.1, q3.2))) else Option.bind (f_X12_refuse σ o q1 w) (fun q4 => some (q4.1, q4.2)))
set_option maxHeartbeats 4000000 in
set_option maxRecDepth 100000 in
theorem jb_X12_seen_0 {X : lt_X} {σ : lt_S} (hT : lt_Wt σ) {o : Nat} (h0 : lt_c σ o = 12) {r : Int32 × lt_W} (hF : lt_F X cX12_seen RX12 5 (lt_rm 9)) (hE : lt_E X 0 0 σ (some .int) (some (.int r.1)) r.2) : ∀ (x1 : Int32) (x2 : Int32) (x3 : Int32) (w : lt_W), fb_X12_seen_0 σ o x1 x2 x3 w = some r → lt_J X 0 0 σ w 0 [(0, .ref (lt_z X + o)), (1, .int x1), (2, .int x2), (3, .int x3)] [] := by
  intro x1 x2 x3 w hf
  unfold fb_X12_seen_0 at hf
  refine jr_aload_n hF dX12_seen_0 0 rfl rfl ?_
  refine jr_iload_n hF dX12_seen_1 1 rfl rfl ?_
  refine jr_iload_n hF dX12_seen_2 2 rfl rfl ?_
  refine jr_iload_n hF dX12_seen_3 3 rfl rfl ?_
  obtain ⟨q1, hq1, hf⟩ := Option.bind_eq_some_iff.mp hf
  refine jr_cV31 hF ml_X12_360 (c_X12_wrongCall hT h0 hq1) h0 ⟨Nat.le_of_ble_eq_true rfl, Nat.le_of_ble_eq_true rfl⟩ (Nat.le_of_ble_eq_true rfl) dX12_seen_4 ?_
  refine jr_istore (lv' := [(0, .ref (lt_z X + o)), (1, .int x1), (2, .int x2), (3, .int x3), (4, .int q1)]) hF dX12_seen_7 (by decide) [1, 2, 3, 4, 0] rfl ?_
  refine jr_iload hF dX12_seen_9 4 rfl ?_
  refine jr_if_le (tgt := 23) hF dX12_seen_11 rfl hf (fun hf => ?_) (fun hf => ?_)
  · refine jr_aload_n hF dX12_seen_23 0 rfl rfl ?_
    refine jr_aload_n hF dX12_seen_24 0 rfl rfl ?_
    refine jr_iload_n hF dX12_seen_25 1 rfl rfl ?_
    refine jr_iload_n hF dX12_seen_26 2 rfl rfl ?_
    refine jr_iload_n hF dX12_seen_27 3 rfl rfl ?_
    obtain ⟨q2, hq2, hf⟩ := Option.bind_eq_some_iff.mp hf
    refine jr_cV31 hF ml_X12_364 (c_X12_laysSeen hT h0 hq2) h0 ⟨Nat.le_of_ble_eq_true rfl, Nat.le_of_ble_eq_true rfl⟩ (Nat.le_of_ble_eq_true rfl) dX12_seen_28 ?_
    obtain ⟨q3, hq3, hf⟩ := Option.bind_eq_some_iff.mp hf
    refine jr_cV11 hF ml_X12_101 (c_X12_gives h0 hq3) h0 ⟨Nat.le_of_ble_eq_true rfl, Nat.le_of_ble_eq_true rfl⟩ (Nat.le_of_ble_eq_true rfl) dX12_seen_31 ?_
    obtain rfl := Option.some.inj hf
    exact jr_ireturn hF hE dX12_seen_34
  · refine jr_aload_n hF dX12_seen_14 0 rfl rfl ?_
    refine jr_iload hF dX12_seen_15 4 rfl ?_
    obtain ⟨q4, hq4, hf⟩ := Option.bind_eq_some_iff.mp hf
    refine jr_cV11 hF ml_X12_97 (c_X12_refuse h0 hq4) h0 ⟨Nat.le_of_ble_eq_true rfl, Nat.le_of_ble_eq_true rfl⟩ (Nat.le_of_ble_eq_true rfl) dX12_seen_17 ?_
    refine jr_goto (tgt := 34) hF dX12_seen_20 rfl ?_
    obtain rfl := Option.some.inj hf
    exact jr_ireturn hF hE dX12_seen_34
def f_X12_seen (σ : lt_S) (o : Nat) (x1 : Int32) (x2 : Int32) (x3 : Int32) (w : lt_W) : Option (Int32 × lt_W) := fb_X12_seen_0 σ o x1 x2 x3 w
set_option maxRecDepth 100000 in
theorem c_X12_seen {l : Launch} {D : va_G} {gA : Nat → ClassId} {s0 : State} {σ : lt_S} (hT : lt_Wt σ) {o : Nat} (h0 : lt_c σ o = 12) {x1 : Int32} {x2 : Int32} {x3 : Int32} {w : lt_W} {r : Int32 × lt_W} (hf : f_X12_seen σ o x1 x2 x3 w = some r) : lt_C l D gA s0 yX12_seen cX12_seen 5 (some .int) (lt_rm 9) [.ref (s0.heap.size + o), .int x1, .int x2, .int x3] σ w σ (some (.int r.1)) r.2 := by
  refine lt_enter rfl (Nat.le_of_ble_eq_true rfl) (fun X e1 e2 e3 e4 hF hE => ?_)
  subst e1 e2 e3 e4
  exact jb_X12_seen_0 hT h0 hF hE _ _ _ _ hf

set_option maxRecDepth 100000 in
def fb_X12_seenAs_84 (σ : lt_S) (o : Nat) (y1 : Int32) (w : lt_W) : Option (Int32 × lt_W) := Option.bind (f_X12_gives σ o y1 w) (fun q1 => some (q1.1, q1.2))
set_option maxHeartbeats 4000000 in
set_option maxRecDepth 100000 in
theorem jb_X12_seenAs_84 {X : lt_X} {σ : lt_S} (hT : lt_Wt σ) {o : Nat} (h0 : lt_c σ o = 12) {r : Int32 × lt_W} (hF : lt_F X cX12_seenAs RX12 7 (lt_rm 9)) (hE : lt_E X 0 0 σ (some .int) (some (.int r.1)) r.2) : ∀ (y1 : Int32) (w : lt_W), fb_X12_seenAs_84 σ o y1 w = some r → lt_J X 0 0 σ w 84 [(0, .ref (lt_z X + o))] [.int y1, .ref (lt_z X + o)] := by
  intro y1 w hf
  unfold fb_X12_seenAs_84 at hf
  obtain ⟨q1, hq1, hf⟩ := Option.bind_eq_some_iff.mp hf
  refine jr_cV11 hF ml_X12_101 (c_X12_gives h0 hq1) h0 ⟨Nat.le_of_ble_eq_true rfl, Nat.le_of_ble_eq_true rfl⟩ (Nat.le_of_ble_eq_true rfl) dX12_seenAs_84 ?_
  obtain rfl := Option.some.inj hf
  exact jr_ireturn hF hE dX12_seenAs_87
set_option maxRecDepth 100000 in
def fb_X12_seenAs_48 (σ : lt_S) (o : Nat) : Nat → Int32 → Int32 → lt_W → Option (Int32 × lt_W)
  | 0, _, _, _ => none
  | n + 1, x4, x6, w => if 100 ≤ x6 then Option.bind (f_X12_refuse σ o 6 w) (fun q1 => some (q1.1, q1.2)) else lt_ck x6 (lt_len σ (lt_r σ o 29)) (if (lt_gi w (lt_r σ o 29) x6.toNatClampNeg) = 0 then fb_X12_seenAs_48 σ o n x4 (x6 + 1) w else if x4 = 0 then fb_X12_seenAs_84 σ o (x6 / 10) w else fb_X12_seenAs_84 σ o (x6 - x6 / 10 * 10) w)
set_option maxHeartbeats 4000000 in
set_option maxRecDepth 100000 in
theorem jb_X12_seenAs_48 {X : lt_X} {σ : lt_S} (hT : lt_Wt σ) {o : Nat} (h0 : lt_c σ o = 12) {r : Int32 × lt_W} (hF : lt_F X cX12_seenAs RX12 7 (lt_rm 9)) (hE : lt_E X 0 0 σ (some .int) (some (.int r.1)) r.2) (n : Nat) : ∀ (x4 : Int32) (x6 : Int32) (w : lt_W), fb_X12_seenAs_48 σ o n x4 x6 w = some r → lt_J X 0 0 σ w 48 [(0, .ref (lt_z X + o)), (4, .int x4), (6, .int x6)] [] := by
  induction n with
  | zero => intro x4 x6 w hf; rw [fb_X12_seenAs_48] at hf; cases hf
  | succ n ih =>
    intro x4 x6 w hf
    rw [fb_X12_seenAs_48] at hf
    refine jr_iload hF dX12_seenAs_48 2 rfl ?_
    refine jr_bipush (v := 100) hF dX12_seenAs_50 rfl ?_
    refine jr_icmp_ge (tgt := 94) hF dX12_seenAs_52 rfl hf (fun hf => ?_) (fun hf => ?_)
    · refine jr_aload_n hF dX12_seenAs_94 0 rfl rfl ?_
      refine jr_bipush (v := 6) hF dX12_seenAs_95 rfl ?_
      obtain ⟨q1, hq1, hf⟩ := Option.bind_eq_some_iff.mp hf
      refine jr_cV11 hF ml_X12_97 (c_X12_refuse h0 hq1) h0 ⟨Nat.le_of_ble_eq_true rfl, Nat.le_of_ble_eq_true rfl⟩ (Nat.le_of_ble_eq_true rfl) dX12_seenAs_97 ?_
      obtain rfl := Option.some.inj hf
      exact jr_ireturn hF hE dX12_seenAs_100
    · refine jr_aload_n hF dX12_seenAs_55 0 rfl rfl ?_
      refine jr_getRT (cr := 53) hF gf_X12_62 hT h0 rfl rfl dX12_seenAs_56 (fun th2 => ?_)
      refine jr_iload hF dX12_seenAs_59 2 rfl ?_
      refine jr_baloadZ hF th2 dX12_seenAs_61 hf (fun hf => ?_)
      refine jr_if_eq (tgt := 88) hF dX12_seenAs_62 rfl hf (fun hf => ?_) (fun hf => ?_)
      · refine jr_iinc (v := x6 + 1) (lv' := [(0, .ref (lt_z X + o)), (4, .int x4), (6, .int (x6 + 1))]) hF dX12_seenAs_88 2 rfl rfl (by decide) [1, 2, 0] rfl ?_
        refine jr_goto (tgt := 48) hF dX12_seenAs_91 rfl ?_
        exact ih _ _ _ hf
      · refine jr_aload_n hF dX12_seenAs_65 0 rfl rfl ?_
        refine jr_iload hF dX12_seenAs_66 1 rfl ?_
        refine jr_if_ne (tgt := 79) hF dX12_seenAs_68 rfl hf (fun hf => ?_) (fun hf => ?_)
        · refine jr_iload hF dX12_seenAs_79 2 rfl ?_
          refine jr_bipush (v := 10) hF dX12_seenAs_81 rfl ?_
          refine jr_iremc hF dX12_seenAs_83 (by decide) ?_
          refine jr_sub [0] rfl ?_
          exact jb_X12_seenAs_84 hT h0 hF hE _ _ hf
        · refine jr_iload hF dX12_seenAs_71 2 rfl ?_
          refine jr_bipush (v := 10) hF dX12_seenAs_73 rfl ?_
          refine jr_idivc hF dX12_seenAs_75 (by decide) ?_
          refine jr_goto (tgt := 84) hF dX12_seenAs_76 rfl ?_
          refine jr_sub [0] rfl ?_
          exact jb_X12_seenAs_84 hT h0 hF hE _ _ hf
set_option maxRecDepth 100000 in
def fb_X12_seenAs_22 (σ : lt_S) (o : Nat) (x1 : Int32) (x2 : Int32) (x3 : Int32) (x4 : Int32) (y0 : Int32) (w : lt_W) : Option (Int32 × lt_W) := if y0 ≤ 0 then Option.bind (f_X12_laysSeen σ o x1 x2 x3 w) (fun q1 => fb_X12_seenAs_48 σ o lt_fu x4 10 q1.2) else Option.bind (f_X12_refuse σ o y0 w) (fun q2 => some (q2.1, q2.2))
set_option maxHeartbeats 4000000 in
set_option maxRecDepth 100000 in
theorem jb_X12_seenAs_22 {X : lt_X} {σ : lt_S} (hT : lt_Wt σ) {o : Nat} (h0 : lt_c σ o = 12) {r : Int32 × lt_W} (hF : lt_F X cX12_seenAs RX12 7 (lt_rm 9)) (hE : lt_E X 0 0 σ (some .int) (some (.int r.1)) r.2) : ∀ (x1 : Int32) (x2 : Int32) (x3 : Int32) (x4 : Int32) (y0 : Int32) (w : lt_W), fb_X12_seenAs_22 σ o x1 x2 x3 x4 y0 w = some r → lt_J X 0 0 σ w 22 [(0, .ref (lt_z X + o)), (1, .int x1), (2, .int x2), (3, .int x3), (4, .int x4)] [.int y0] := by
  intro x1 x2 x3 x4 y0 w hf
  unfold fb_X12_seenAs_22 at hf
  refine jr_istore (lv' := [(0, .ref (lt_z X + o)), (1, .int x1), (2, .int x2), (3, .int x3), (4, .int x4), (5, .int y0)]) hF dX12_seenAs_22 (by decide) [1, 2, 3, 4, 5, 0] rfl ?_
  refine jr_iload hF dX12_seenAs_24 5 rfl ?_
  refine jr_if_le (tgt := 36) hF dX12_seenAs_26 rfl hf (fun hf => ?_) (fun hf => ?_)
  · refine jr_aload_n hF dX12_seenAs_36 0 rfl rfl ?_
    refine jr_iload_n hF dX12_seenAs_37 1 rfl rfl ?_
    refine jr_iload_n hF dX12_seenAs_38 2 rfl rfl ?_
    refine jr_iload_n hF dX12_seenAs_39 3 rfl rfl ?_
    obtain ⟨q1, hq1, hf⟩ := Option.bind_eq_some_iff.mp hf
    refine jr_cV31 hF ml_X12_364 (c_X12_laysSeen hT h0 hq1) h0 ⟨Nat.le_of_ble_eq_true rfl, Nat.le_of_ble_eq_true rfl⟩ (Nat.le_of_ble_eq_true rfl) dX12_seenAs_40 ?_
    refine jr_pop hF dX12_seenAs_43 rfl ?_
    refine jr_bipush (v := 10) hF dX12_seenAs_44 rfl ?_
    refine jr_istore (lv' := [(0, .ref (lt_z X + o)), (4, .int x4), (6, .int 10)]) hF dX12_seenAs_46 (by decide) [1, 5, 0] rfl ?_
    exact jb_X12_seenAs_48 hT h0 hF hE lt_fu _ _ _ hf
  · refine jr_aload_n hF dX12_seenAs_29 0 rfl rfl ?_
    refine jr_iload hF dX12_seenAs_30 5 rfl ?_
    obtain ⟨q2, hq2, hf⟩ := Option.bind_eq_some_iff.mp hf
    refine jr_cV11 hF ml_X12_97 (c_X12_refuse h0 hq2) h0 ⟨Nat.le_of_ble_eq_true rfl, Nat.le_of_ble_eq_true rfl⟩ (Nat.le_of_ble_eq_true rfl) dX12_seenAs_32 ?_
    obtain rfl := Option.some.inj hf
    exact jr_ireturn hF hE dX12_seenAs_35
set_option maxRecDepth 100000 in
def fb_X12_seenAs_0 (σ : lt_S) (o : Nat) (x1 : Int32) (x2 : Int32) (x3 : Int32) (x4 : Int32) (w : lt_W) : Option (Int32 × lt_W) := if x4 < 0 then fb_X12_seenAs_22 σ o x1 x2 x3 x4 1 w else if x4 ≤ 1 then Option.bind (f_X12_wrongCall σ o x1 x2 x3 w) (fun q1 => fb_X12_seenAs_22 σ o x1 x2 x3 x4 q1 w) else fb_X12_seenAs_22 σ o x1 x2 x3 x4 1 w
set_option maxHeartbeats 4000000 in
set_option maxRecDepth 100000 in
theorem jb_X12_seenAs_0 {X : lt_X} {σ : lt_S} (hT : lt_Wt σ) {o : Nat} (h0 : lt_c σ o = 12) {r : Int32 × lt_W} (hF : lt_F X cX12_seenAs RX12 7 (lt_rm 9)) (hE : lt_E X 0 0 σ (some .int) (some (.int r.1)) r.2) : ∀ (x1 : Int32) (x2 : Int32) (x3 : Int32) (x4 : Int32) (w : lt_W), fb_X12_seenAs_0 σ o x1 x2 x3 x4 w = some r → lt_J X 0 0 σ w 0 [(0, .ref (lt_z X + o)), (1, .int x1), (2, .int x2), (3, .int x3), (4, .int x4)] [] := by
  intro x1 x2 x3 x4 w hf
  unfold fb_X12_seenAs_0 at hf
  refine jr_iload hF dX12_seenAs_0 4 rfl ?_
  refine jr_if_lt (tgt := 11) hF dX12_seenAs_2 rfl hf (fun hf => ?_) (fun hf => ?_)
  · refine jr_iconst (v := 1) hF dX12_seenAs_11 rfl ?_
    refine jr_goto (tgt := 22) hF dX12_seenAs_12 rfl ?_
    exact jb_X12_seenAs_22 hT h0 hF hE _ _ _ _ _ _ hf
  · refine jr_iload hF dX12_seenAs_5 4 rfl ?_
    refine jr_iconst (v := 1) hF dX12_seenAs_7 rfl ?_
    refine jr_icmp_le (tgt := 15) hF dX12_seenAs_8 rfl hf (fun hf => ?_) (fun hf => ?_)
    · refine jr_aload_n hF dX12_seenAs_15 0 rfl rfl ?_
      refine jr_iload_n hF dX12_seenAs_16 1 rfl rfl ?_
      refine jr_iload_n hF dX12_seenAs_17 2 rfl rfl ?_
      refine jr_iload_n hF dX12_seenAs_18 3 rfl rfl ?_
      obtain ⟨q1, hq1, hf⟩ := Option.bind_eq_some_iff.mp hf
      refine jr_cV31 hF ml_X12_360 (c_X12_wrongCall hT h0 hq1) h0 ⟨Nat.le_of_ble_eq_true rfl, Nat.le_of_ble_eq_true rfl⟩ (Nat.le_of_ble_eq_true rfl) dX12_seenAs_19 ?_
      exact jb_X12_seenAs_22 hT h0 hF hE _ _ _ _ _ _ hf
    · refine jr_iconst (v := 1) hF dX12_seenAs_11 rfl ?_
      refine jr_goto (tgt := 22) hF dX12_seenAs_12 rfl ?_
      exact jb_X12_seenAs_22 hT h0 hF hE _ _ _ _ _ _ hf
def f_X12_seenAs (σ : lt_S) (o : Nat) (x1 : Int32) (x2 : Int32) (x3 : Int32) (x4 : Int32) (w : lt_W) : Option (Int32 × lt_W) := fb_X12_seenAs_0 σ o x1 x2 x3 x4 w
set_option maxRecDepth 100000 in
theorem c_X12_seenAs {l : Launch} {D : va_G} {gA : Nat → ClassId} {s0 : State} {σ : lt_S} (hT : lt_Wt σ) {o : Nat} (h0 : lt_c σ o = 12) {x1 : Int32} {x2 : Int32} {x3 : Int32} {x4 : Int32} {w : lt_W} {r : Int32 × lt_W} (hf : f_X12_seenAs σ o x1 x2 x3 x4 w = some r) : lt_C l D gA s0 yX12_seenAs cX12_seenAs 7 (some .int) (lt_rm 9) [.ref (s0.heap.size + o), .int x1, .int x2, .int x3, .int x4] σ w σ (some (.int r.1)) r.2 := by
  refine lt_enter rfl (Nat.le_of_ble_eq_true rfl) (fun X e1 e2 e3 e4 hF hE => ?_)
  subst e1 e2 e3 e4
  exact jb_X12_seenAs_0 hT h0 hF hE _ _ _ _ _ hf

set_option maxRecDepth 100000 in
def fb_X12_share_18 (σ : lt_S) (o : Nat) : Nat → Int32 → Int32 → Int32 → lt_W → Option (Int32 × lt_W)
  | 0, _, _, _, _ => none
  | n + 1, x1, x2, x3, w => lt_ck 0 (lt_len σ (lt_r σ o 0)) (if (lt_gi w (lt_r σ o 0) (0 : Int32).toNatClampNeg) ≤ x3 then if x2 = 0 then Option.bind (f_X12_is σ o 6 w) (fun q8 => lt_bz q8.1 (some (q8.1, q8.2))) else Option.bind (f_X12_isHere σ o x1 w) (fun q2 => if q2 = 0 then Option.bind (f_X12_is σ o 7 w) (fun q3 => lt_bz q3.1 (some (q3.1, q3.2))) else Option.bind (f_X12_guestOf σ o x1 2 w) (fun q5 => Option.bind (f_X12_tellsBy σ o q5.toInt64 x2.toInt64 w) (fun q6 => lt_bz q6.1 (some (q6.1, q6.2))))) else Option.bind (f_X12_isHere σ o x3 w) (fun q10 => if q10 = 0 then fb_X12_share_18 σ o n x1 (x2 + 0) (x3 + 1) w else Option.bind (f_X12_guestOf σ o x3 2 w) (fun q11 => fb_X12_share_18 σ o n x1 (x2 + q11) (x3 + 1) w)))
set_option maxHeartbeats 4000000 in
set_option maxRecDepth 100000 in
theorem jb_X12_share_18 {X : lt_X} {σ : lt_S} (hT : lt_Wt σ) {o : Nat} (h0 : lt_c σ o = 12) {r : Int32 × lt_W} (hF : lt_F X cX12_share RX12 4 (lt_rm 4)) (hE : lt_E X 0 0 σ (some .boolean) (some (.int r.1)) r.2) (n : Nat) : ∀ (x1 : Int32) (x2 : Int32) (x3 : Int32) (w : lt_W), fb_X12_share_18 σ o n x1 x2 x3 w = some r → lt_J X 0 0 σ w 18 [(0, .ref (lt_z X + o)), (1, .int x1), (2, .int x2), (3, .int x3)] [] := by
  induction n with
  | zero => intro x1 x2 x3 w hf; rw [fb_X12_share_18] at hf; cases hf
  | succ n ih =>
    intro x1 x2 x3 w hf
    rw [fb_X12_share_18] at hf
    refine jr_iload_n hF dX12_share_18 3 rfl rfl ?_
    refine jr_aload_n hF dX12_share_19 0 rfl rfl ?_
    refine jr_getRT (cr := 50) hF gf_X12_7 hT h0 rfl rfl dX12_share_20 (fun th1 => ?_)
    refine jr_iconst (v := 0) hF dX12_share_23 rfl ?_
    refine jr_iaload hF th1 dX12_share_24 hf (fun hf => ?_)
    refine jr_icmp_ge (tgt := 55) hF dX12_share_25 rfl hf (fun hf => ?_) (fun hf => ?_)
    · refine jr_iload_n hF dX12_share_55 2 rfl rfl ?_
      refine jr_if_ne (tgt := 66) hF dX12_share_56 rfl hf (fun hf => ?_) (fun hf => ?_)
      · refine jr_aload_n hF dX12_share_66 0 rfl rfl ?_
        refine jr_iload_n hF dX12_share_67 1 rfl rfl ?_
        obtain ⟨q2, hq2, hf⟩ := Option.bind_eq_some_iff.mp hf
        refine jr_cV11 hF ml_X12_272 (c_X12_isHere hT h0 hq2) h0 ⟨Nat.le_of_ble_eq_true rfl, Nat.le_of_ble_eq_true rfl⟩ (Nat.le_of_ble_eq_true rfl) dX12_share_68 ?_
        refine jr_if_eq (tgt := 90) hF dX12_share_71 rfl hf (fun hf => ?_) (fun hf => ?_)
        · refine jr_aload_n hF dX12_share_90 0 rfl rfl ?_
          refine jr_bipush (v := 7) hF dX12_share_91 rfl ?_
          obtain ⟨q3, hq3, hf⟩ := Option.bind_eq_some_iff.mp hf
          refine jr_cV11 hF ml_X12_104 (c_X12_is h0 hq3) h0 ⟨Nat.le_of_ble_eq_true rfl, Nat.le_of_ble_eq_true rfl⟩ (Nat.le_of_ble_eq_true rfl) dX12_share_93 ?_
          obtain ⟨b4, hf⟩ := lt_bzE hf
          obtain rfl := Option.some.inj hf
          exact jr_zreturn hF hE b4 dX12_share_96
        · refine jr_aload_n hF dX12_share_74 0 rfl rfl ?_
          refine jr_aload_n hF dX12_share_75 0 rfl rfl ?_
          refine jr_iload_n hF dX12_share_76 1 rfl rfl ?_
          refine jr_iconst (v := 2) hF dX12_share_77 rfl ?_
          obtain ⟨q5, hq5, hf⟩ := Option.bind_eq_some_iff.mp hf
          refine jr_cV21 hF ml_X12_269 (c_X12_guestOf hT h0 hq5) h0 ⟨Nat.le_of_ble_eq_true rfl, Nat.le_of_ble_eq_true rfl⟩ (Nat.le_of_ble_eq_true rfl) dX12_share_78 ?_
          refine jr_i2l hF dX12_share_81 ?_
          refine jr_iload_n hF dX12_share_82 2 rfl rfl ?_
          refine jr_i2l hF dX12_share_83 ?_
          obtain ⟨q6, hq6, hf⟩ := Option.bind_eq_some_iff.mp hf
          refine jr_cV21 hF ml_X12_373 (c_X12_tellsBy h0 hq6) h0 ⟨Nat.le_of_ble_eq_true rfl, Nat.le_of_ble_eq_true rfl⟩ (Nat.le_of_ble_eq_true rfl) dX12_share_84 ?_
          refine jr_goto (tgt := 96) hF dX12_share_87 rfl ?_
          obtain ⟨b7, hf⟩ := lt_bzE hf
          obtain rfl := Option.some.inj hf
          exact jr_zreturn hF hE b7 dX12_share_96
      · refine jr_aload_n hF dX12_share_59 0 rfl rfl ?_
        refine jr_bipush (v := 6) hF dX12_share_60 rfl ?_
        obtain ⟨q8, hq8, hf⟩ := Option.bind_eq_some_iff.mp hf
        refine jr_cV11 hF ml_X12_104 (c_X12_is h0 hq8) h0 ⟨Nat.le_of_ble_eq_true rfl, Nat.le_of_ble_eq_true rfl⟩ (Nat.le_of_ble_eq_true rfl) dX12_share_62 ?_
        obtain ⟨b9, hf⟩ := lt_bzE hf
        obtain rfl := Option.some.inj hf
        exact jr_zreturn hF hE b9 dX12_share_65
    · refine jr_iload_n hF dX12_share_28 2 rfl rfl ?_
      refine jr_aload_n hF dX12_share_29 0 rfl rfl ?_
      refine jr_iload_n hF dX12_share_30 3 rfl rfl ?_
      obtain ⟨q10, hq10, hf⟩ := Option.bind_eq_some_iff.mp hf
      refine jr_cV11 hF ml_X12_272 (c_X12_isHere hT h0 hq10) h0 ⟨Nat.le_of_ble_eq_true rfl, Nat.le_of_ble_eq_true rfl⟩ (Nat.le_of_ble_eq_true rfl) dX12_share_31 ?_
      refine jr_if_eq (tgt := 46) hF dX12_share_34 rfl hf (fun hf => ?_) (fun hf => ?_)
      · refine jr_iconst (v := 0) hF dX12_share_46 rfl ?_
        refine jr_iadd hF dX12_share_47 ?_
        refine jr_istore_n (lv' := [(0, .ref (lt_z X + o)), (1, .int x1), (2, .int (x2 + 0)), (3, .int x3)]) hF dX12_share_48 rfl (by decide) [1, 2, 0, 3] rfl ?_
        refine jr_iinc (v := x3 + 1) (lv' := [(0, .ref (lt_z X + o)), (1, .int x1), (2, .int (x2 + 0)), (3, .int (x3 + 1))]) hF dX12_share_49 3 rfl rfl (by decide) [1, 2, 3, 0] rfl ?_
        refine jr_goto (tgt := 18) hF dX12_share_52 rfl ?_
        exact ih _ _ _ _ hf
      · refine jr_aload_n hF dX12_share_37 0 rfl rfl ?_
        refine jr_iload_n hF dX12_share_38 3 rfl rfl ?_
        refine jr_iconst (v := 2) hF dX12_share_39 rfl ?_
        obtain ⟨q11, hq11, hf⟩ := Option.bind_eq_some_iff.mp hf
        refine jr_cV21 hF ml_X12_269 (c_X12_guestOf hT h0 hq11) h0 ⟨Nat.le_of_ble_eq_true rfl, Nat.le_of_ble_eq_true rfl⟩ (Nat.le_of_ble_eq_true rfl) dX12_share_40 ?_
        refine jr_goto (tgt := 47) hF dX12_share_43 rfl ?_
        refine jr_iadd hF dX12_share_47 ?_
        refine jr_istore_n (lv' := [(0, .ref (lt_z X + o)), (1, .int x1), (2, .int (x2 + q11)), (3, .int x3)]) hF dX12_share_48 rfl (by decide) [1, 2, 0, 3] rfl ?_
        refine jr_iinc (v := x3 + 1) (lv' := [(0, .ref (lt_z X + o)), (1, .int x1), (2, .int (x2 + q11)), (3, .int (x3 + 1))]) hF dX12_share_49 3 rfl rfl (by decide) [1, 2, 3, 0] rfl ?_
        refine jr_goto (tgt := 18) hF dX12_share_52 rfl ?_
        exact ih _ _ _ _ hf
set_option maxRecDepth 100000 in
def fb_X12_share_0 (σ : lt_S) (o : Nat) (x1 : Int32) (w : lt_W) : Option (Int32 × lt_W) := Option.bind (f_X12_isGuest σ o x1 w) (fun q1 => if q1 = 0 then Option.bind (f_X12_is σ o 1 w) (fun q2 => lt_bz q2.1 (some (q2.1, q2.2))) else fb_X12_share_18 σ o lt_fu x1 0 0 w)
set_option maxHeartbeats 4000000 in
set_option maxRecDepth 100000 in
theorem jb_X12_share_0 {X : lt_X} {σ : lt_S} (hT : lt_Wt σ) {o : Nat} (h0 : lt_c σ o = 12) {r : Int32 × lt_W} (hF : lt_F X cX12_share RX12 4 (lt_rm 4)) (hE : lt_E X 0 0 σ (some .boolean) (some (.int r.1)) r.2) : ∀ (x1 : Int32) (w : lt_W), fb_X12_share_0 σ o x1 w = some r → lt_J X 0 0 σ w 0 [(0, .ref (lt_z X + o)), (1, .int x1)] [] := by
  intro x1 w hf
  unfold fb_X12_share_0 at hf
  refine jr_aload_n hF dX12_share_0 0 rfl rfl ?_
  refine jr_iload_n hF dX12_share_1 1 rfl rfl ?_
  obtain ⟨q1, hq1, hf⟩ := Option.bind_eq_some_iff.mp hf
  refine jr_cV11 hF ml_X12_266 (c_X12_isGuest hT h0 hq1) h0 ⟨Nat.le_of_ble_eq_true rfl, Nat.le_of_ble_eq_true rfl⟩ (Nat.le_of_ble_eq_true rfl) dX12_share_2 ?_
  refine jr_if_ne (tgt := 14) hF dX12_share_5 rfl hf (fun hf => ?_) (fun hf => ?_)
  · refine jr_iconst (v := 0) hF dX12_share_14 rfl ?_
    refine jr_istore_n (lv' := [(0, .ref (lt_z X + o)), (1, .int x1), (2, .int 0)]) hF dX12_share_15 rfl (by decide) [1, 2, 0] rfl ?_
    refine jr_iconst (v := 0) hF dX12_share_16 rfl ?_
    refine jr_istore_n (lv' := [(0, .ref (lt_z X + o)), (1, .int x1), (2, .int 0), (3, .int 0)]) hF dX12_share_17 rfl (by decide) [1, 2, 3, 0] rfl ?_
    exact jb_X12_share_18 hT h0 hF hE lt_fu _ _ _ _ hf
  · refine jr_aload_n hF dX12_share_8 0 rfl rfl ?_
    refine jr_iconst (v := 1) hF dX12_share_9 rfl ?_
    obtain ⟨q2, hq2, hf⟩ := Option.bind_eq_some_iff.mp hf
    refine jr_cV11 hF ml_X12_104 (c_X12_is h0 hq2) h0 ⟨Nat.le_of_ble_eq_true rfl, Nat.le_of_ble_eq_true rfl⟩ (Nat.le_of_ble_eq_true rfl) dX12_share_10 ?_
    obtain ⟨b3, hf⟩ := lt_bzE hf
    obtain rfl := Option.some.inj hf
    exact jr_zreturn hF hE b3 dX12_share_13
def f_X12_share (σ : lt_S) (o : Nat) (x1 : Int32) (w : lt_W) : Option (Int32 × lt_W) := fb_X12_share_0 σ o x1 w
set_option maxRecDepth 100000 in
theorem c_X12_share {l : Launch} {D : va_G} {gA : Nat → ClassId} {s0 : State} {σ : lt_S} (hT : lt_Wt σ) {o : Nat} (h0 : lt_c σ o = 12) {x1 : Int32} {w : lt_W} {r : Int32 × lt_W} (hf : f_X12_share σ o x1 w = some r) : lt_C l D gA s0 yX12_share cX12_share 4 (some .boolean) (lt_rm 4) [.ref (s0.heap.size + o), .int x1] σ w σ (some (.int r.1)) r.2 := by
  refine lt_enter rfl (Nat.le_of_ble_eq_true rfl) (fun X e1 e2 e3 e4 hF hE => ?_)
  subst e1 e2 e3 e4
  exact jb_X12_share_0 hT h0 hF hE _ _ hf

set_option maxRecDepth 100000 in
def fb_X12_sit_49 (σ : lt_S) (o : Nat) (w : lt_W) : Option (Int32 × lt_W) := Option.bind (f_X12_refuse σ o 1 w) (fun q1 => some (q1.1, q1.2))
set_option maxHeartbeats 4000000 in
set_option maxRecDepth 100000 in
theorem jb_X12_sit_49 {X : lt_X} {σ : lt_S} (hT : lt_Wt σ) {o : Nat} (h0 : lt_c σ o = 12) {r : Int32 × lt_W} (hF : lt_F X cX12_sit RX12 7 (lt_rm 2)) (hE : lt_E X 0 0 σ (some .int) (some (.int r.1)) r.2) : ∀ (w : lt_W), fb_X12_sit_49 σ o w = some r → lt_J X 0 0 σ w 49 [(0, .ref (lt_z X + o))] [] := by
  intro w hf
  unfold fb_X12_sit_49 at hf
  refine jr_aload_n hF dX12_sit_49 0 rfl rfl ?_
  refine jr_iconst (v := 1) hF dX12_sit_50 rfl ?_
  obtain ⟨q1, hq1, hf⟩ := Option.bind_eq_some_iff.mp hf
  refine jr_cV11 hF ml_X12_97 (c_X12_refuse h0 hq1) h0 ⟨Nat.le_of_ble_eq_true rfl, Nat.le_of_ble_eq_true rfl⟩ (Nat.le_of_ble_eq_true rfl) dX12_sit_51 ?_
  obtain rfl := Option.some.inj hf
  exact jr_ireturn hF hE dX12_sit_54
set_option maxRecDepth 100000 in
def fb_X12_sit_0 (σ : lt_S) (o : Nat) (x1 : Int32) (x2 : Int32) (x3 : Int32) (x4 : Int32) (w : lt_W) : Option (Int32 × lt_W) := Option.bind (f_X12_isFrom x1.toInt64 0 20) (fun q1 => if q1 = 0 then fb_X12_sit_49 σ o w else Option.bind (f_X12_isFrom x2.toInt64 0 20) (fun q2 => if q2 = 0 then fb_X12_sit_49 σ o w else Option.bind (f_X12_isFrom x3.toInt64 0 20) (fun q3 => if q3 = 0 then fb_X12_sit_49 σ o w else Option.bind (f_X12_isFrom x4.toInt64 0 2) (fun q4 => if q4 = 0 then fb_X12_sit_49 σ o w else lt_ck 0 (lt_len σ (lt_r σ o 0)) (lt_let (lt_gi w (lt_r σ o 0) (0 : Int32).toNatClampNeg) (fun z6 => if z6 = 7 then Option.bind (f_X12_refuse σ o 4 w) (fun q27 => some (q27.1, q27.2)) else Option.bind (f_X12_guestRow z6) (fun q7 => lt_ck 0 (lt_len σ (lt_r σ o 0)) (lt_ck 0 (lt_len σ (lt_r σ o 0)) (lt_let (lt_si w (lt_r σ o 0) (0 : Int32).toNatClampNeg ((lt_gi w (lt_r σ o 0) (0 : Int32).toNatClampNeg) + 1)) (fun w9 => lt_ck q7 (lt_len σ (lt_r σ o 0)) (lt_let (lt_si w9 (lt_r σ o 0) q7.toNatClampNeg x1) (fun w11 => lt_ck (q7 + 1) (lt_len σ (lt_r σ o 0)) (lt_let (lt_si w11 (lt_r σ o 0) (q7 + 1).toNatClampNeg x2) (fun w13 => lt_ck (q7 + 2) (lt_len σ (lt_r σ o 0)) (lt_let (lt_si w13 (lt_r σ o 0) (q7 + 2).toNatClampNeg x3) (fun w15 => lt_ck (q7 + 3) (lt_len σ (lt_r σ o 0)) (lt_let (lt_si w15 (lt_r σ o 0) (q7 + 3).toNatClampNeg x4) (fun w17 => lt_ck (q7 + 4) (lt_len σ (lt_r σ o 0)) (lt_let (lt_si w17 (lt_r σ o 0) (q7 + 4).toNatClampNeg 0) (fun w19 => lt_ck (q7 + 5) (lt_len σ (lt_r σ o 0)) (lt_let (lt_si w19 (lt_r σ o 0) (q7 + 5).toNatClampNeg 1) (fun w21 => lt_ck (q7 + 6) (lt_len σ (lt_r σ o 0)) (lt_let (lt_si w21 (lt_r σ o 0) (q7 + 6).toNatClampNeg (-1)) (fun w23 => lt_ck z6 (lt_len σ (lt_r σ o 1)) (lt_let (lt_sl w23 (lt_r σ o 1) z6.toNatClampNeg 0) (fun w25 => Option.bind (f_X12_gives σ o z6 w25) (fun q26 => some (q26.1, q26.2))))))))))))))))))))))))))))
set_option maxHeartbeats 4000000 in
set_option maxRecDepth 100000 in
theorem jb_X12_sit_0 {X : lt_X} {σ : lt_S} (hT : lt_Wt σ) {o : Nat} (h0 : lt_c σ o = 12) {r : Int32 × lt_W} (hF : lt_F X cX12_sit RX12 7 (lt_rm 2)) (hE : lt_E X 0 0 σ (some .int) (some (.int r.1)) r.2) : ∀ (x1 : Int32) (x2 : Int32) (x3 : Int32) (x4 : Int32) (w : lt_W), fb_X12_sit_0 σ o x1 x2 x3 x4 w = some r → lt_J X 0 0 σ w 0 [(0, .ref (lt_z X + o)), (1, .int x1), (2, .int x2), (3, .int x3), (4, .int x4)] [] := by
  intro x1 x2 x3 x4 w hf
  unfold fb_X12_sit_0 at hf
  refine jr_iload_n hF dX12_sit_0 1 rfl rfl ?_
  refine jr_i2l hF dX12_sit_1 ?_
  refine jr_lconst (v := 0) hF dX12_sit_2 rfl ?_
  refine jr_ldc2 (v := 20) hF dX12_sit_3 kc_X12_328 ?_
  obtain ⟨q1, hq1, hf⟩ := Option.bind_eq_some_iff.mp hf
  refine jr_cS31 hF ml_X12_307 (c_X12_isFrom hq1) ⟨Nat.le_of_ble_eq_true rfl, Nat.le_of_ble_eq_true rfl⟩ (Nat.le_of_ble_eq_true rfl) dX12_sit_6 ?_
  refine jr_if_eq (tgt := 49) hF dX12_sit_9 rfl hf (fun hf => ?_) (fun hf => ?_)
  · refine jr_sub [0] rfl ?_
    exact jb_X12_sit_49 hT h0 hF hE _ hf
  · refine jr_iload_n hF dX12_sit_12 2 rfl rfl ?_
    refine jr_i2l hF dX12_sit_13 ?_
    refine jr_lconst (v := 0) hF dX12_sit_14 rfl ?_
    refine jr_ldc2 (v := 20) hF dX12_sit_15 kc_X12_328 ?_
    obtain ⟨q2, hq2, hf⟩ := Option.bind_eq_some_iff.mp hf
    refine jr_cS31 hF ml_X12_307 (c_X12_isFrom hq2) ⟨Nat.le_of_ble_eq_true rfl, Nat.le_of_ble_eq_true rfl⟩ (Nat.le_of_ble_eq_true rfl) dX12_sit_18 ?_
    refine jr_if_eq (tgt := 49) hF dX12_sit_21 rfl hf (fun hf => ?_) (fun hf => ?_)
    · refine jr_sub [0] rfl ?_
      exact jb_X12_sit_49 hT h0 hF hE _ hf
    · refine jr_iload_n hF dX12_sit_24 3 rfl rfl ?_
      refine jr_i2l hF dX12_sit_25 ?_
      refine jr_lconst (v := 0) hF dX12_sit_26 rfl ?_
      refine jr_ldc2 (v := 20) hF dX12_sit_27 kc_X12_328 ?_
      obtain ⟨q3, hq3, hf⟩ := Option.bind_eq_some_iff.mp hf
      refine jr_cS31 hF ml_X12_307 (c_X12_isFrom hq3) ⟨Nat.le_of_ble_eq_true rfl, Nat.le_of_ble_eq_true rfl⟩ (Nat.le_of_ble_eq_true rfl) dX12_sit_30 ?_
      refine jr_if_eq (tgt := 49) hF dX12_sit_33 rfl hf (fun hf => ?_) (fun hf => ?_)
      · refine jr_sub [0] rfl ?_
        exact jb_X12_sit_49 hT h0 hF hE _ hf
      · refine jr_iload hF dX12_sit_36 4 rfl ?_
        refine jr_i2l hF dX12_sit_38 ?_
        refine jr_lconst (v := 0) hF dX12_sit_39 rfl ?_
        refine jr_ldc2 (v := 2) hF dX12_sit_40 kc_X12_330 ?_
        obtain ⟨q4, hq4, hf⟩ := Option.bind_eq_some_iff.mp hf
        refine jr_cS31 hF ml_X12_307 (c_X12_isFrom hq4) ⟨Nat.le_of_ble_eq_true rfl, Nat.le_of_ble_eq_true rfl⟩ (Nat.le_of_ble_eq_true rfl) dX12_sit_43 ?_
        refine jr_if_ne (tgt := 55) hF dX12_sit_46 rfl hf (fun hf => ?_) (fun hf => ?_)
        · refine jr_aload_n hF dX12_sit_55 0 rfl rfl ?_
          refine jr_getRT (cr := 50) hF gf_X12_7 hT h0 rfl rfl dX12_sit_56 (fun th5 => ?_)
          refine jr_iconst (v := 0) hF dX12_sit_59 rfl ?_
          refine jr_iaload hF th5 dX12_sit_60 hf (fun hf => ?_)
          refine jr_letI hf (fun z6 hf => ?_)
          refine jr_istore (lv' := [(0, .ref (lt_z X + o)), (1, .int x1), (2, .int x2), (3, .int x3), (4, .int x4), (5, .int z6)]) hF dX12_sit_61 (by decide) [1, 2, 3, 4, 5, 0] rfl ?_
          refine jr_iload hF dX12_sit_63 5 rfl ?_
          refine jr_bipush (v := 7) hF dX12_sit_65 rfl ?_
          refine jr_icmp_ne (tgt := 76) hF dX12_sit_67 rfl hf (fun hf => ?_) (fun hf => ?_)
          · refine jr_iload hF dX12_sit_76 5 rfl ?_
            obtain ⟨q7, hq7, hf⟩ := Option.bind_eq_some_iff.mp hf
            refine jr_cS11 hF ml_X12_192 (c_X12_guestRow hq7) ⟨Nat.le_of_ble_eq_true rfl, Nat.le_of_ble_eq_true rfl⟩ (Nat.le_of_ble_eq_true rfl) dX12_sit_78 ?_
            refine jr_istore (lv' := [(0, .ref (lt_z X + o)), (1, .int x1), (2, .int x2), (3, .int x3), (4, .int x4), (5, .int z6), (6, .int q7)]) hF dX12_sit_81 (by decide) [1, 2, 3, 4, 5, 6, 0] rfl ?_
            refine jr_aload_n hF dX12_sit_83 0 rfl rfl ?_
            refine jr_getRT (cr := 50) hF gf_X12_7 hT h0 rfl rfl dX12_sit_84 (fun th8 => ?_)
            refine jr_iconst (v := 0) hF dX12_sit_87 rfl ?_
            refine jr_dup2 hF dX12_sit_88 rfl rfl ?_
            refine jr_iaload hF th8 dX12_sit_89 hf (fun hf => ?_)
            refine jr_iconst (v := 1) hF dX12_sit_90 rfl ?_
            refine jr_iadd hF dX12_sit_91 ?_
            refine jr_iastore hF th8 dX12_sit_92 hf (fun hf => ?_)
            refine jr_letW hf (fun w9 hf => ?_)
            refine jr_aload_n hF dX12_sit_93 0 rfl rfl ?_
            refine jr_getRT (cr := 50) hF gf_X12_7 hT h0 rfl rfl dX12_sit_94 (fun th10 => ?_)
            refine jr_iload hF dX12_sit_97 6 rfl ?_
            refine jr_iload_n hF dX12_sit_99 1 rfl rfl ?_
            refine jr_iastore hF th10 dX12_sit_100 hf (fun hf => ?_)
            refine jr_letW hf (fun w11 hf => ?_)
            refine jr_aload_n hF dX12_sit_101 0 rfl rfl ?_
            refine jr_getRT (cr := 50) hF gf_X12_7 hT h0 rfl rfl dX12_sit_102 (fun th12 => ?_)
            refine jr_iload hF dX12_sit_105 6 rfl ?_
            refine jr_iconst (v := 1) hF dX12_sit_107 rfl ?_
            refine jr_iadd hF dX12_sit_108 ?_
            refine jr_iload_n hF dX12_sit_109 2 rfl rfl ?_
            refine jr_iastore hF th12 dX12_sit_110 hf (fun hf => ?_)
            refine jr_letW hf (fun w13 hf => ?_)
            refine jr_aload_n hF dX12_sit_111 0 rfl rfl ?_
            refine jr_getRT (cr := 50) hF gf_X12_7 hT h0 rfl rfl dX12_sit_112 (fun th14 => ?_)
            refine jr_iload hF dX12_sit_115 6 rfl ?_
            refine jr_iconst (v := 2) hF dX12_sit_117 rfl ?_
            refine jr_iadd hF dX12_sit_118 ?_
            refine jr_iload_n hF dX12_sit_119 3 rfl rfl ?_
            refine jr_iastore hF th14 dX12_sit_120 hf (fun hf => ?_)
            refine jr_letW hf (fun w15 hf => ?_)
            refine jr_aload_n hF dX12_sit_121 0 rfl rfl ?_
            refine jr_getRT (cr := 50) hF gf_X12_7 hT h0 rfl rfl dX12_sit_122 (fun th16 => ?_)
            refine jr_iload hF dX12_sit_125 6 rfl ?_
            refine jr_iconst (v := 3) hF dX12_sit_127 rfl ?_
            refine jr_iadd hF dX12_sit_128 ?_
            refine jr_iload hF dX12_sit_129 4 rfl ?_
            refine jr_iastore hF th16 dX12_sit_131 hf (fun hf => ?_)
            refine jr_letW hf (fun w17 hf => ?_)
            refine jr_aload_n hF dX12_sit_132 0 rfl rfl ?_
            refine jr_getRT (cr := 50) hF gf_X12_7 hT h0 rfl rfl dX12_sit_133 (fun th18 => ?_)
            refine jr_iload hF dX12_sit_136 6 rfl ?_
            refine jr_iconst (v := 4) hF dX12_sit_138 rfl ?_
            refine jr_iadd hF dX12_sit_139 ?_
            refine jr_iconst (v := 0) hF dX12_sit_140 rfl ?_
            refine jr_iastore hF th18 dX12_sit_141 hf (fun hf => ?_)
            refine jr_letW hf (fun w19 hf => ?_)
            refine jr_aload_n hF dX12_sit_142 0 rfl rfl ?_
            refine jr_getRT (cr := 50) hF gf_X12_7 hT h0 rfl rfl dX12_sit_143 (fun th20 => ?_)
            refine jr_iload hF dX12_sit_146 6 rfl ?_
            refine jr_iconst (v := 5) hF dX12_sit_148 rfl ?_
            refine jr_iadd hF dX12_sit_149 ?_
            refine jr_iconst (v := 1) hF dX12_sit_150 rfl ?_
            refine jr_iastore hF th20 dX12_sit_151 hf (fun hf => ?_)
            refine jr_letW hf (fun w21 hf => ?_)
            refine jr_aload_n hF dX12_sit_152 0 rfl rfl ?_
            refine jr_getRT (cr := 50) hF gf_X12_7 hT h0 rfl rfl dX12_sit_153 (fun th22 => ?_)
            refine jr_iload hF dX12_sit_156 6 rfl ?_
            refine jr_bipush (v := 6) hF dX12_sit_158 rfl ?_
            refine jr_iadd hF dX12_sit_160 ?_
            refine jr_iconst (v := (-1)) hF dX12_sit_161 rfl ?_
            refine jr_iastore hF th22 dX12_sit_162 hf (fun hf => ?_)
            refine jr_letW hf (fun w23 hf => ?_)
            refine jr_aload_n hF dX12_sit_163 0 rfl rfl ?_
            refine jr_getRT (cr := 51) hF gf_X12_13 hT h0 rfl rfl dX12_sit_164 (fun th24 => ?_)
            refine jr_iload hF dX12_sit_167 5 rfl ?_
            refine jr_lconst (v := 0) hF dX12_sit_169 rfl ?_
            refine jr_lastore hF th24 dX12_sit_170 hf (fun hf => ?_)
            refine jr_letW hf (fun w25 hf => ?_)
            refine jr_aload_n hF dX12_sit_171 0 rfl rfl ?_
            refine jr_iload hF dX12_sit_172 5 rfl ?_
            obtain ⟨q26, hq26, hf⟩ := Option.bind_eq_some_iff.mp hf
            refine jr_cV11 hF ml_X12_101 (c_X12_gives h0 hq26) h0 ⟨Nat.le_of_ble_eq_true rfl, Nat.le_of_ble_eq_true rfl⟩ (Nat.le_of_ble_eq_true rfl) dX12_sit_174 ?_
            obtain rfl := Option.some.inj hf
            exact jr_ireturn hF hE dX12_sit_177
          · refine jr_aload_n hF dX12_sit_70 0 rfl rfl ?_
            refine jr_iconst (v := 4) hF dX12_sit_71 rfl ?_
            obtain ⟨q27, hq27, hf⟩ := Option.bind_eq_some_iff.mp hf
            refine jr_cV11 hF ml_X12_97 (c_X12_refuse h0 hq27) h0 ⟨Nat.le_of_ble_eq_true rfl, Nat.le_of_ble_eq_true rfl⟩ (Nat.le_of_ble_eq_true rfl) dX12_sit_72 ?_
            obtain rfl := Option.some.inj hf
            exact jr_ireturn hF hE dX12_sit_75
        · refine jr_sub [0] rfl ?_
          exact jb_X12_sit_49 hT h0 hF hE _ hf
def f_X12_sit (σ : lt_S) (o : Nat) (x1 : Int32) (x2 : Int32) (x3 : Int32) (x4 : Int32) (w : lt_W) : Option (Int32 × lt_W) := fb_X12_sit_0 σ o x1 x2 x3 x4 w
set_option maxRecDepth 100000 in
theorem c_X12_sit {l : Launch} {D : va_G} {gA : Nat → ClassId} {s0 : State} {σ : lt_S} (hT : lt_Wt σ) {o : Nat} (h0 : lt_c σ o = 12) {x1 : Int32} {x2 : Int32} {x3 : Int32} {x4 : Int32} {w : lt_W} {r : Int32 × lt_W} (hf : f_X12_sit σ o x1 x2 x3 x4 w = some r) : lt_C l D gA s0 yX12_sit cX12_sit 7 (some .int) (lt_rm 2) [.ref (s0.heap.size + o), .int x1, .int x2, .int x3, .int x4] σ w σ (some (.int r.1)) r.2 := by
  refine lt_enter rfl (Nat.le_of_ble_eq_true rfl) (fun X e1 e2 e3 e4 hF hE => ?_)
  subst e1 e2 e3 e4
  exact jb_X12_sit_0 hT h0 hF hE _ _ _ _ _ hf

set_option maxRecDepth 100000 in
def fb_X12_slicesIn_0 (σ : lt_S) (o : Nat) (x1 : Int32) (w : lt_W) : Option (Int32 × lt_W) := Option.bind (f_X12_isFrom x1.toInt64 0 99) (fun q1 => if q1 = 0 then Option.bind (f_X12_refuse σ o 1 w) (fun q8 => some (q8.1, q8.2)) else Option.bind (f_X12_keeps σ o 2140 w) (fun q2 => Option.bind (f_X12_daysGo σ o x1 q2) (fun q3 => lt_ck 5 (lt_len σ (lt_r σ o 0)) (lt_let (lt_gi q3 (lt_r σ o 0) (5 : Int32).toNatClampNeg) (fun z5 => Option.bind (f_X12_brings σ o 2140 q3) (fun q6 => Option.bind (f_X12_gives σ o z5 q6) (fun q7 => some (q7.1, q7.2))))))))
set_option maxHeartbeats 4000000 in
set_option maxRecDepth 100000 in
theorem jb_X12_slicesIn_0 {X : lt_X} {σ : lt_S} (hT : lt_Wt σ) {o : Nat} (h0 : lt_c σ o = 12) {r : Int32 × lt_W} (hF : lt_F X cX12_slicesIn RX12 3 (lt_rm 8)) (hE : lt_E X 0 0 σ (some .int) (some (.int r.1)) r.2) : ∀ (x1 : Int32) (w : lt_W), fb_X12_slicesIn_0 σ o x1 w = some r → lt_J X 0 0 σ w 0 [(0, .ref (lt_z X + o)), (1, .int x1)] [] := by
  intro x1 w hf
  unfold fb_X12_slicesIn_0 at hf
  refine jr_iload_n hF dX12_slicesIn_0 1 rfl rfl ?_
  refine jr_i2l hF dX12_slicesIn_1 ?_
  refine jr_lconst (v := 0) hF dX12_slicesIn_2 rfl ?_
  refine jr_ldc2 (v := 99) hF dX12_slicesIn_3 kc_X12_332 ?_
  obtain ⟨q1, hq1, hf⟩ := Option.bind_eq_some_iff.mp hf
  refine jr_cS31 hF ml_X12_307 (c_X12_isFrom hq1) ⟨Nat.le_of_ble_eq_true rfl, Nat.le_of_ble_eq_true rfl⟩ (Nat.le_of_ble_eq_true rfl) dX12_slicesIn_6 ?_
  refine jr_if_ne (tgt := 18) hF dX12_slicesIn_9 rfl hf (fun hf => ?_) (fun hf => ?_)
  · refine jr_aload_n hF dX12_slicesIn_18 0 rfl rfl ?_
    refine jr_sipush (v := 2140) hF dX12_slicesIn_19 rfl ?_
    obtain ⟨q2, hq2, hf⟩ := Option.bind_eq_some_iff.mp hf
    refine jr_cV1v hF ml_X12_334 (c_X12_keeps hT h0 hq2) h0 ⟨Nat.le_of_ble_eq_true rfl, Nat.le_of_ble_eq_true rfl⟩ (Nat.le_of_ble_eq_true rfl) dX12_slicesIn_22 ?_
    refine jr_aload_n hF dX12_slicesIn_25 0 rfl rfl ?_
    refine jr_iload_n hF dX12_slicesIn_26 1 rfl rfl ?_
    obtain ⟨q3, hq3, hf⟩ := Option.bind_eq_some_iff.mp hf
    refine jr_cV1v hF ml_X12_311 (c_X12_daysGo hT h0 hq3) h0 ⟨Nat.le_of_ble_eq_true rfl, Nat.le_of_ble_eq_true rfl⟩ (Nat.le_of_ble_eq_true rfl) dX12_slicesIn_27 ?_
    refine jr_aload_n hF dX12_slicesIn_30 0 rfl rfl ?_
    refine jr_getRT (cr := 50) hF gf_X12_7 hT h0 rfl rfl dX12_slicesIn_31 (fun th4 => ?_)
    refine jr_iconst (v := 5) hF dX12_slicesIn_34 rfl ?_
    refine jr_iaload hF th4 dX12_slicesIn_35 hf (fun hf => ?_)
    refine jr_letI hf (fun z5 hf => ?_)
    refine jr_istore_n (lv' := [(0, .ref (lt_z X + o)), (2, .int z5)]) hF dX12_slicesIn_36 rfl (by decide) [1, 0] rfl ?_
    refine jr_aload_n hF dX12_slicesIn_37 0 rfl rfl ?_
    refine jr_sipush (v := 2140) hF dX12_slicesIn_38 rfl ?_
    obtain ⟨q6, hq6, hf⟩ := Option.bind_eq_some_iff.mp hf
    refine jr_cV1v hF ml_X12_337 (c_X12_brings hT h0 hq6) h0 ⟨Nat.le_of_ble_eq_true rfl, Nat.le_of_ble_eq_true rfl⟩ (Nat.le_of_ble_eq_true rfl) dX12_slicesIn_41 ?_
    refine jr_aload_n hF dX12_slicesIn_44 0 rfl rfl ?_
    refine jr_iload_n hF dX12_slicesIn_45 1 rfl rfl ?_
    obtain ⟨q7, hq7, hf⟩ := Option.bind_eq_some_iff.mp hf
    refine jr_cV11 hF ml_X12_101 (c_X12_gives h0 hq7) h0 ⟨Nat.le_of_ble_eq_true rfl, Nat.le_of_ble_eq_true rfl⟩ (Nat.le_of_ble_eq_true rfl) dX12_slicesIn_46 ?_
    obtain rfl := Option.some.inj hf
    exact jr_ireturn hF hE dX12_slicesIn_49
  · refine jr_aload_n hF dX12_slicesIn_12 0 rfl rfl ?_
    refine jr_iconst (v := 1) hF dX12_slicesIn_13 rfl ?_
    obtain ⟨q8, hq8, hf⟩ := Option.bind_eq_some_iff.mp hf
    refine jr_cV11 hF ml_X12_97 (c_X12_refuse h0 hq8) h0 ⟨Nat.le_of_ble_eq_true rfl, Nat.le_of_ble_eq_true rfl⟩ (Nat.le_of_ble_eq_true rfl) dX12_slicesIn_14 ?_
    obtain rfl := Option.some.inj hf
    exact jr_ireturn hF hE dX12_slicesIn_17
def f_X12_slicesIn (σ : lt_S) (o : Nat) (x1 : Int32) (w : lt_W) : Option (Int32 × lt_W) := fb_X12_slicesIn_0 σ o x1 w
set_option maxRecDepth 100000 in
theorem c_X12_slicesIn {l : Launch} {D : va_G} {gA : Nat → ClassId} {s0 : State} {σ : lt_S} (hT : lt_Wt σ) {o : Nat} (h0 : lt_c σ o = 12) {x1 : Int32} {w : lt_W} {r : Int32 × lt_W} (hf : f_X12_slicesIn σ o x1 w = some r) : lt_C l D gA s0 yX12_slicesIn cX12_slicesIn 3 (some .int) (lt_rm 8) [.ref (s0.heap.size + o), .int x1] σ w σ (some (.int r.1)) r.2 := by
  refine lt_enter rfl (Nat.le_of_ble_eq_true rfl) (fun X e1 e2 e3 e4 hF hE => ?_)
  subst e1 e2 e3 e4
  exact jb_X12_slicesIn_0 hT h0 hF hE _ _ hf
