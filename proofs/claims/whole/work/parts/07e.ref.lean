set_option maxRecDepth 100000 in
def fb_X12_soup_0 (σ : lt_S) (o : Nat) (x1 : Int32) (w : lt_W) : Option (Int32 × lt_W) := Option.bind (f_X12_isGuest σ o x1 w) (fun q1 => if q1 = 0 then Option.bind (f_X12_refuse σ o 1 w) (fun q6 => some (q6.1, q6.2)) else Option.bind (f_X12_guestOf σ o x1 4 w) (fun q2 => Option.bind (f_X12_fedBy σ o x1 w) (fun q3 => if q3.1 = 0 then Option.bind (f_X12_refuse σ o 7 q3.2) (fun q4 => some (q4.1, q4.2)) else Option.bind (f_X12_gives σ o q2 q3.2) (fun q5 => some (q5.1, q5.2)))))
set_option maxHeartbeats 4000000 in
set_option maxRecDepth 100000 in
theorem jb_X12_soup_0 {X : lt_X} {σ : lt_S} (hT : lt_Wt σ) {o : Nat} (h0 : lt_c σ o = 12) {r : Int32 × lt_W} (hF : lt_F X cX12_soup RX12 3 (lt_rm 5)) (hE : lt_E X 0 0 σ (some .int) (some (.int r.1)) r.2) : ∀ (x1 : Int32) (w : lt_W), fb_X12_soup_0 σ o x1 w = some r → lt_J X 0 0 σ w 0 [(0, .ref (lt_z X + o)), (1, .int x1)] [] := by
  intro x1 w hf
  unfold fb_X12_soup_0 at hf
  refine jr_aload_n hF dX12_soup_0 0 rfl rfl ?_
  refine jr_iload_n hF dX12_soup_1 1 rfl rfl ?_
  obtain ⟨q1, hq1, hf⟩ := Option.bind_eq_some_iff.mp hf
  refine jr_cV11 hF ml_X12_266 (c_X12_isGuest hT h0 hq1) h0 ⟨Nat.le_of_ble_eq_true rfl, Nat.le_of_ble_eq_true rfl⟩ (Nat.le_of_ble_eq_true rfl) dX12_soup_2 ?_
  refine jr_if_ne (tgt := 14) hF dX12_soup_5 rfl hf (fun hf => ?_) (fun hf => ?_)
  · refine jr_aload_n hF dX12_soup_14 0 rfl rfl ?_
    refine jr_iload_n hF dX12_soup_15 1 rfl rfl ?_
    refine jr_iconst (v := 4) hF dX12_soup_16 rfl ?_
    obtain ⟨q2, hq2, hf⟩ := Option.bind_eq_some_iff.mp hf
    refine jr_cV21 hF ml_X12_269 (c_X12_guestOf hT h0 hq2) h0 ⟨Nat.le_of_ble_eq_true rfl, Nat.le_of_ble_eq_true rfl⟩ (Nat.le_of_ble_eq_true rfl) dX12_soup_17 ?_
    refine jr_istore_n (lv' := [(0, .ref (lt_z X + o)), (1, .int x1), (2, .int q2)]) hF dX12_soup_20 rfl (by decide) [1, 2, 0] rfl ?_
    refine jr_aload_n hF dX12_soup_21 0 rfl rfl ?_
    refine jr_iload_n hF dX12_soup_22 1 rfl rfl ?_
    obtain ⟨q3, hq3, hf⟩ := Option.bind_eq_some_iff.mp hf
    refine jr_cV11 hF ml_X12_323 (c_X12_fedBy hT h0 hq3) h0 ⟨Nat.le_of_ble_eq_true rfl, Nat.le_of_ble_eq_true rfl⟩ (Nat.le_of_ble_eq_true rfl) dX12_soup_23 ?_
    refine jr_if_eq (tgt := 37) hF dX12_soup_26 rfl hf (fun hf => ?_) (fun hf => ?_)
    · refine jr_aload_n hF dX12_soup_37 0 rfl rfl ?_
      refine jr_bipush (v := 7) hF dX12_soup_38 rfl ?_
      obtain ⟨q4, hq4, hf⟩ := Option.bind_eq_some_iff.mp hf
      refine jr_cV11 hF ml_X12_97 (c_X12_refuse h0 hq4) h0 ⟨Nat.le_of_ble_eq_true rfl, Nat.le_of_ble_eq_true rfl⟩ (Nat.le_of_ble_eq_true rfl) dX12_soup_40 ?_
      obtain rfl := Option.some.inj hf
      exact jr_ireturn hF hE dX12_soup_43
    · refine jr_aload_n hF dX12_soup_29 0 rfl rfl ?_
      refine jr_iload_n hF dX12_soup_30 2 rfl rfl ?_
      obtain ⟨q5, hq5, hf⟩ := Option.bind_eq_some_iff.mp hf
      refine jr_cV11 hF ml_X12_101 (c_X12_gives h0 hq5) h0 ⟨Nat.le_of_ble_eq_true rfl, Nat.le_of_ble_eq_true rfl⟩ (Nat.le_of_ble_eq_true rfl) dX12_soup_31 ?_
      refine jr_goto (tgt := 43) hF dX12_soup_34 rfl ?_
      obtain rfl := Option.some.inj hf
      exact jr_ireturn hF hE dX12_soup_43
  · refine jr_aload_n hF dX12_soup_8 0 rfl rfl ?_
    refine jr_iconst (v := 1) hF dX12_soup_9 rfl ?_
    obtain ⟨q6, hq6, hf⟩ := Option.bind_eq_some_iff.mp hf
    refine jr_cV11 hF ml_X12_97 (c_X12_refuse h0 hq6) h0 ⟨Nat.le_of_ble_eq_true rfl, Nat.le_of_ble_eq_true rfl⟩ (Nat.le_of_ble_eq_true rfl) dX12_soup_10 ?_
    obtain rfl := Option.some.inj hf
    exact jr_ireturn hF hE dX12_soup_13
def f_X12_soup (σ : lt_S) (o : Nat) (x1 : Int32) (w : lt_W) : Option (Int32 × lt_W) := fb_X12_soup_0 σ o x1 w
set_option maxRecDepth 100000 in
theorem c_X12_soup {l : Launch} {D : va_G} {gA : Nat → ClassId} {s0 : State} {σ : lt_S} (hT : lt_Wt σ) {o : Nat} (h0 : lt_c σ o = 12) {x1 : Int32} {w : lt_W} {r : Int32 × lt_W} (hf : f_X12_soup σ o x1 w = some r) : lt_C l D gA s0 yX12_soup cX12_soup 3 (some .int) (lt_rm 5) [.ref (s0.heap.size + o), .int x1] σ w σ (some (.int r.1)) r.2 := by
  refine lt_enter rfl (Nat.le_of_ble_eq_true rfl) (fun X e1 e2 e3 e4 hF hE => ?_)
  subst e1 e2 e3 e4
  exact jb_X12_soup_0 hT h0 hF hE _ _ hf

set_option maxRecDepth 100000 in
def fb_X12_stale_26 (σ : lt_S) (o : Nat) : Nat → Int32 → Int64 → Int64 → Int32 → lt_W → Option (Int32 × lt_W)
  | 0, _, _, _, _, _ => none
  | n + 1, x1, x2, x4, x6, w => if x1 ≤ x6 then Option.bind (f_X12_tellsBy σ o x2 x4 w) (fun q1 => lt_bz q1.1 (some (q1.1, q1.2))) else lt_ck 1 (lt_len σ (lt_r σ o 0)) (lt_let (x2 * ((16 - (lt_gi w (lt_r σ o 0) (1 : Int32).toNatClampNeg)).toInt64)) (fun z4 => fb_X12_stale_26 σ o n x1 z4 (x4 * 16) (x6 + 1) w))
set_option maxHeartbeats 4000000 in
set_option maxRecDepth 100000 in
theorem jb_X12_stale_26 {X : lt_X} {σ : lt_S} (hT : lt_Wt σ) {o : Nat} (h0 : lt_c σ o = 12) {r : Int32 × lt_W} (hF : lt_F X cX12_stale RX12 7 (lt_rm 3)) (hE : lt_E X 0 0 σ (some .boolean) (some (.int r.1)) r.2) (n : Nat) : ∀ (x1 : Int32) (x2 : Int64) (x4 : Int64) (x6 : Int32) (w : lt_W), fb_X12_stale_26 σ o n x1 x2 x4 x6 w = some r → lt_J X 0 0 σ w 26 [(0, .ref (lt_z X + o)), (1, .int x1), (2, .long x2), (4, .long x4), (6, .int x6)] [] := by
  induction n with
  | zero => intro x1 x2 x4 x6 w hf; rw [fb_X12_stale_26] at hf; cases hf
  | succ n ih =>
    intro x1 x2 x4 x6 w hf
    rw [fb_X12_stale_26] at hf
    refine jr_iload hF dX12_stale_26 4 rfl ?_
    refine jr_iload_n hF dX12_stale_28 1 rfl rfl ?_
    refine jr_icmp_ge (tgt := 59) hF dX12_stale_29 rfl hf (fun hf => ?_) (fun hf => ?_)
    · refine jr_aload_n hF dX12_stale_59 0 rfl rfl ?_
      refine jr_lload_n hF dX12_stale_60 2 rfl rfl ?_
      refine jr_lload hF dX12_stale_61 3 rfl ?_
      obtain ⟨q1, hq1, hf⟩ := Option.bind_eq_some_iff.mp hf
      refine jr_cV21 hF ml_X12_373 (c_X12_tellsBy h0 hq1) h0 ⟨Nat.le_of_ble_eq_true rfl, Nat.le_of_ble_eq_true rfl⟩ (Nat.le_of_ble_eq_true rfl) dX12_stale_63 ?_
      obtain ⟨b2, hf⟩ := lt_bzE hf
      obtain rfl := Option.some.inj hf
      exact jr_zreturn hF hE b2 dX12_stale_66
    · refine jr_lload_n hF dX12_stale_32 2 rfl rfl ?_
      refine jr_bipush (v := 16) hF dX12_stale_33 rfl ?_
      refine jr_aload_n hF dX12_stale_35 0 rfl rfl ?_
      refine jr_getRT (cr := 50) hF gf_X12_7 hT h0 rfl rfl dX12_stale_36 (fun th3 => ?_)
      refine jr_iconst (v := 1) hF dX12_stale_39 rfl ?_
      refine jr_iaload hF th3 dX12_stale_40 hf (fun hf => ?_)
      refine jr_isub hF dX12_stale_41 ?_
      refine jr_i2l hF dX12_stale_42 ?_
      refine jr_lmul hF dX12_stale_43 ?_
      refine jr_letL hf (fun z4 hf => ?_)
      refine jr_lstore_n (lv' := [(0, .ref (lt_z X + o)), (1, .int x1), (2, .long z4), (4, .long x4), (6, .int x6)]) hF dX12_stale_44 rfl (by decide) [1, 2, 0, 3, 4] rfl ?_
      refine jr_lload hF dX12_stale_45 3 rfl ?_
      refine jr_ldc2 (v := 16) hF dX12_stale_47 kc_X12_381 ?_
      refine jr_lmul hF dX12_stale_50 ?_
      refine jr_lstore (lv' := [(0, .ref (lt_z X + o)), (1, .int x1), (2, .long z4), (4, .long (x4 * 16)), (6, .int x6)]) hF dX12_stale_51 (by decide) [1, 2, 3, 0, 4] rfl ?_
      refine jr_iinc (v := x6 + 1) (lv' := [(0, .ref (lt_z X + o)), (1, .int x1), (2, .long z4), (4, .long (x4 * 16)), (6, .int (x6 + 1))]) hF dX12_stale_53 4 rfl rfl (by decide) [1, 2, 3, 4, 0] rfl ?_
      refine jr_goto (tgt := 26) hF dX12_stale_56 rfl ?_
      exact ih _ _ _ _ _ hf
set_option maxRecDepth 100000 in
def fb_X12_stale_0 (σ : lt_S) (o : Nat) (x1 : Int32) (w : lt_W) : Option (Int32 × lt_W) := Option.bind (f_X12_isFrom x1.toInt64 0 12) (fun q1 => if q1 = 0 then Option.bind (f_X12_is σ o 1 w) (fun q2 => lt_bz q2.1 (some (q2.1, q2.2))) else fb_X12_stale_26 σ o lt_fu x1 1 1 0 w)
set_option maxHeartbeats 4000000 in
set_option maxRecDepth 100000 in
theorem jb_X12_stale_0 {X : lt_X} {σ : lt_S} (hT : lt_Wt σ) {o : Nat} (h0 : lt_c σ o = 12) {r : Int32 × lt_W} (hF : lt_F X cX12_stale RX12 7 (lt_rm 3)) (hE : lt_E X 0 0 σ (some .boolean) (some (.int r.1)) r.2) : ∀ (x1 : Int32) (w : lt_W), fb_X12_stale_0 σ o x1 w = some r → lt_J X 0 0 σ w 0 [(0, .ref (lt_z X + o)), (1, .int x1)] [] := by
  intro x1 w hf
  unfold fb_X12_stale_0 at hf
  refine jr_iload_n hF dX12_stale_0 1 rfl rfl ?_
  refine jr_i2l hF dX12_stale_1 ?_
  refine jr_lconst (v := 0) hF dX12_stale_2 rfl ?_
  refine jr_ldc2 (v := 12) hF dX12_stale_3 kc_X12_379 ?_
  obtain ⟨q1, hq1, hf⟩ := Option.bind_eq_some_iff.mp hf
  refine jr_cS31 hF ml_X12_307 (c_X12_isFrom hq1) ⟨Nat.le_of_ble_eq_true rfl, Nat.le_of_ble_eq_true rfl⟩ (Nat.le_of_ble_eq_true rfl) dX12_stale_6 ?_
  refine jr_if_ne (tgt := 18) hF dX12_stale_9 rfl hf (fun hf => ?_) (fun hf => ?_)
  · refine jr_lconst (v := 1) hF dX12_stale_18 rfl ?_
    refine jr_lstore_n (lv' := [(0, .ref (lt_z X + o)), (1, .int x1), (2, .long 1)]) hF dX12_stale_19 rfl (by decide) [1, 2, 0] rfl ?_
    refine jr_lconst (v := 1) hF dX12_stale_20 rfl ?_
    refine jr_lstore (lv' := [(0, .ref (lt_z X + o)), (1, .int x1), (2, .long 1), (4, .long 1)]) hF dX12_stale_21 (by decide) [1, 2, 3, 0] rfl ?_
    refine jr_iconst (v := 0) hF dX12_stale_23 rfl ?_
    refine jr_istore (lv' := [(0, .ref (lt_z X + o)), (1, .int x1), (2, .long 1), (4, .long 1), (6, .int 0)]) hF dX12_stale_24 (by decide) [1, 2, 3, 4, 0] rfl ?_
    exact jb_X12_stale_26 hT h0 hF hE lt_fu _ _ _ _ _ hf
  · refine jr_aload_n hF dX12_stale_12 0 rfl rfl ?_
    refine jr_iconst (v := 1) hF dX12_stale_13 rfl ?_
    obtain ⟨q2, hq2, hf⟩ := Option.bind_eq_some_iff.mp hf
    refine jr_cV11 hF ml_X12_104 (c_X12_is h0 hq2) h0 ⟨Nat.le_of_ble_eq_true rfl, Nat.le_of_ble_eq_true rfl⟩ (Nat.le_of_ble_eq_true rfl) dX12_stale_14 ?_
    obtain ⟨b3, hf⟩ := lt_bzE hf
    obtain rfl := Option.some.inj hf
    exact jr_zreturn hF hE b3 dX12_stale_17
def f_X12_stale (σ : lt_S) (o : Nat) (x1 : Int32) (w : lt_W) : Option (Int32 × lt_W) := fb_X12_stale_0 σ o x1 w
set_option maxRecDepth 100000 in
theorem c_X12_stale {l : Launch} {D : va_G} {gA : Nat → ClassId} {s0 : State} {σ : lt_S} (hT : lt_Wt σ) {o : Nat} (h0 : lt_c σ o = 12) {x1 : Int32} {w : lt_W} {r : Int32 × lt_W} (hf : f_X12_stale σ o x1 w = some r) : lt_C l D gA s0 yX12_stale cX12_stale 7 (some .boolean) (lt_rm 3) [.ref (s0.heap.size + o), .int x1] σ w σ (some (.int r.1)) r.2 := by
  refine lt_enter rfl (Nat.le_of_ble_eq_true rfl) (fun X e1 e2 e3 e4 hF hE => ?_)
  subst e1 e2 e3 e4
  exact jb_X12_stale_0 hT h0 hF hE _ _ hf

set_option maxRecDepth 100000 in
def fb_X12_starving_31 (σ : lt_S) (o : Nat) (k11 : Int32 → Int32 → lt_W → Option (Int32 × lt_W)) (x1 : Int32) (x2 : Int32) (w : lt_W) : Option (Int32 × lt_W) := Option.bind (f_X12_dayGoes σ o w) (fun q1 => k11 x1 (x2 + 1) q1.2)
set_option maxHeartbeats 4000000 in
set_option maxRecDepth 100000 in
theorem jb_X12_starving_31 {X : lt_X} {σ : lt_S} (hT : lt_Wt σ) {o : Nat} (h0 : lt_c σ o = 12) {r : Int32 × lt_W} {k11 : Int32 → Int32 → lt_W → Option (Int32 × lt_W)} (hF : lt_F X cX12_starving RX12 3 (lt_rm 7)) (hE : lt_E X 0 0 σ (some .int) (some (.int r.1)) r.2) (hk11 : ∀ (x1 : Int32) (x2 : Int32) (w : lt_W), k11 x1 x2 w = some r → lt_J X 0 0 σ w 11 [(0, .ref (lt_z X + o)), (1, .int x1), (2, .int x2)] []) : ∀ (x1 : Int32) (x2 : Int32) (w : lt_W), fb_X12_starving_31 σ o k11 x1 x2 w = some r → lt_J X 0 0 σ w 31 [(0, .ref (lt_z X + o)), (1, .int x1), (2, .int x2)] [] := by
  intro x1 x2 w hf
  unfold fb_X12_starving_31 at hf
  refine jr_aload_n hF dX12_starving_31 0 rfl rfl ?_
  obtain ⟨q1, hq1, hf⟩ := Option.bind_eq_some_iff.mp hf
  refine jr_cV01 hF ml_X12_302 (c_X12_dayGoes hT h0 hq1) h0 ⟨Nat.le_of_ble_eq_true rfl, Nat.le_of_ble_eq_true rfl⟩ (Nat.le_of_ble_eq_true rfl) dX12_starving_32 ?_
  refine jr_pop hF dX12_starving_35 rfl ?_
  refine jr_iinc (v := x2 + 1) (lv' := [(0, .ref (lt_z X + o)), (1, .int x1), (2, .int (x2 + 1))]) hF dX12_starving_36 2 rfl rfl (by decide) [1, 2, 0] rfl ?_
  refine jr_goto (tgt := 11) hF dX12_starving_39 rfl ?_
  exact hk11 _ _ _ hf
set_option maxRecDepth 100000 in
def fb_X12_starving_42 (σ : lt_S) (o : Nat) (x1 : Int32) (w : lt_W) : Option (Int32 × lt_W) := Option.bind (f_X12_brings σ o 2140 w) (fun q1 => Option.bind (f_X12_orNone σ o x1 q1) (fun q2 => some (q2.1, q2.2)))
set_option maxHeartbeats 4000000 in
set_option maxRecDepth 100000 in
theorem jb_X12_starving_42 {X : lt_X} {σ : lt_S} (hT : lt_Wt σ) {o : Nat} (h0 : lt_c σ o = 12) {r : Int32 × lt_W} (hF : lt_F X cX12_starving RX12 3 (lt_rm 7)) (hE : lt_E X 0 0 σ (some .int) (some (.int r.1)) r.2) : ∀ (x1 : Int32) (w : lt_W), fb_X12_starving_42 σ o x1 w = some r → lt_J X 0 0 σ w 42 [(0, .ref (lt_z X + o)), (1, .int x1)] [] := by
  intro x1 w hf
  unfold fb_X12_starving_42 at hf
  refine jr_aload_n hF dX12_starving_42 0 rfl rfl ?_
  refine jr_sipush (v := 2140) hF dX12_starving_43 rfl ?_
  obtain ⟨q1, hq1, hf⟩ := Option.bind_eq_some_iff.mp hf
  refine jr_cV1v hF ml_X12_337 (c_X12_brings hT h0 hq1) h0 ⟨Nat.le_of_ble_eq_true rfl, Nat.le_of_ble_eq_true rfl⟩ (Nat.le_of_ble_eq_true rfl) dX12_starving_46 ?_
  refine jr_aload_n hF dX12_starving_49 0 rfl rfl ?_
  refine jr_iload_n hF dX12_starving_50 1 rfl rfl ?_
  obtain ⟨q2, hq2, hf⟩ := Option.bind_eq_some_iff.mp hf
  refine jr_cV11 hF ml_X12_284 (c_X12_orNone h0 hq2) h0 ⟨Nat.le_of_ble_eq_true rfl, Nat.le_of_ble_eq_true rfl⟩ (Nat.le_of_ble_eq_true rfl) dX12_starving_51 ?_
  obtain rfl := Option.some.inj hf
  exact jr_ireturn hF hE dX12_starving_54
set_option maxRecDepth 100000 in
def fb_X12_starving_11 (σ : lt_S) (o : Nat) : Nat → Int32 → Int32 → lt_W → Option (Int32 × lt_W)
  | 0, _, _, _ => none
  | n + 1, x1, x2, w => if 99 < x2 then fb_X12_starving_42 σ o x1 w else if x1 = (-1) then Option.bind (f_X12_areStarved σ o w) (fun q1 => if q1 = 0 then fb_X12_starving_31 σ o (fun x1 x2 w => fb_X12_starving_11 σ o n x1 x2 w) x1 x2 w else fb_X12_starving_31 σ o (fun x1 x2 w => fb_X12_starving_11 σ o n x1 x2 w) x2 x2 w) else fb_X12_starving_42 σ o x1 w
set_option maxHeartbeats 4000000 in
set_option maxRecDepth 100000 in
theorem jb_X12_starving_11 {X : lt_X} {σ : lt_S} (hT : lt_Wt σ) {o : Nat} (h0 : lt_c σ o = 12) {r : Int32 × lt_W} (hF : lt_F X cX12_starving RX12 3 (lt_rm 7)) (hE : lt_E X 0 0 σ (some .int) (some (.int r.1)) r.2) (n : Nat) : ∀ (x1 : Int32) (x2 : Int32) (w : lt_W), fb_X12_starving_11 σ o n x1 x2 w = some r → lt_J X 0 0 σ w 11 [(0, .ref (lt_z X + o)), (1, .int x1), (2, .int x2)] [] := by
  induction n with
  | zero => intro x1 x2 w hf; rw [fb_X12_starving_11] at hf; cases hf
  | succ n ih =>
    intro x1 x2 w hf
    rw [fb_X12_starving_11] at hf
    refine jr_iload_n hF dX12_starving_11 2 rfl rfl ?_
    refine jr_bipush (v := 99) hF dX12_starving_12 rfl ?_
    refine jr_icmp_gt (tgt := 42) hF dX12_starving_14 rfl hf (fun hf => ?_) (fun hf => ?_)
    · refine jr_sub [0, 1] rfl ?_
      exact jb_X12_starving_42 hT h0 hF hE _ _ hf
    · refine jr_iload_n hF dX12_starving_17 1 rfl rfl ?_
      refine jr_iconst (v := (-1)) hF dX12_starving_18 rfl ?_
      refine jr_icmp_ne (tgt := 42) hF dX12_starving_19 rfl hf (fun hf => ?_) (fun hf => ?_)
      · refine jr_sub [0, 1] rfl ?_
        exact jb_X12_starving_42 hT h0 hF hE _ _ hf
      · refine jr_aload_n hF dX12_starving_22 0 rfl rfl ?_
        obtain ⟨q1, hq1, hf⟩ := Option.bind_eq_some_iff.mp hf
        refine jr_cV01 hF ml_X12_281 (c_X12_areStarved hT h0 hq1) h0 ⟨Nat.le_of_ble_eq_true rfl, Nat.le_of_ble_eq_true rfl⟩ (Nat.le_of_ble_eq_true rfl) dX12_starving_23 ?_
        refine jr_if_eq (tgt := 31) hF dX12_starving_26 rfl hf (fun hf => ?_) (fun hf => ?_)
        · exact jb_X12_starving_31 hT h0 hF hE ih _ _ _ hf
        · refine jr_iload_n hF dX12_starving_29 2 rfl rfl ?_
          refine jr_istore_n (lv' := [(0, .ref (lt_z X + o)), (1, .int x2), (2, .int x2)]) hF dX12_starving_30 rfl (by decide) [1, 0, 2] rfl ?_
          exact jb_X12_starving_31 hT h0 hF hE ih _ _ _ hf
set_option maxRecDepth 100000 in
def fb_X12_starving_0 (σ : lt_S) (o : Nat) (w : lt_W) : Option (Int32 × lt_W) := Option.bind (f_X12_keeps σ o 2140 w) (fun q1 => fb_X12_starving_11 σ o lt_fu (-1) 0 q1)
set_option maxHeartbeats 4000000 in
set_option maxRecDepth 100000 in
theorem jb_X12_starving_0 {X : lt_X} {σ : lt_S} (hT : lt_Wt σ) {o : Nat} (h0 : lt_c σ o = 12) {r : Int32 × lt_W} (hF : lt_F X cX12_starving RX12 3 (lt_rm 7)) (hE : lt_E X 0 0 σ (some .int) (some (.int r.1)) r.2) : ∀ (w : lt_W), fb_X12_starving_0 σ o w = some r → lt_J X 0 0 σ w 0 [(0, .ref (lt_z X + o))] [] := by
  intro w hf
  unfold fb_X12_starving_0 at hf
  refine jr_iconst (v := (-1)) hF dX12_starving_0 rfl ?_
  refine jr_istore_n (lv' := [(0, .ref (lt_z X + o)), (1, .int (-1))]) hF dX12_starving_1 rfl (by decide) [1, 0] rfl ?_
  refine jr_aload_n hF dX12_starving_2 0 rfl rfl ?_
  refine jr_sipush (v := 2140) hF dX12_starving_3 rfl ?_
  obtain ⟨q1, hq1, hf⟩ := Option.bind_eq_some_iff.mp hf
  refine jr_cV1v hF ml_X12_334 (c_X12_keeps hT h0 hq1) h0 ⟨Nat.le_of_ble_eq_true rfl, Nat.le_of_ble_eq_true rfl⟩ (Nat.le_of_ble_eq_true rfl) dX12_starving_6 ?_
  refine jr_iconst (v := 0) hF dX12_starving_9 rfl ?_
  refine jr_istore_n (lv' := [(0, .ref (lt_z X + o)), (1, .int (-1)), (2, .int 0)]) hF dX12_starving_10 rfl (by decide) [1, 2, 0] rfl ?_
  exact jb_X12_starving_11 hT h0 hF hE lt_fu _ _ _ hf
def f_X12_starving (σ : lt_S) (o : Nat) (w : lt_W) : Option (Int32 × lt_W) := fb_X12_starving_0 σ o w
set_option maxRecDepth 100000 in
theorem c_X12_starving {l : Launch} {D : va_G} {gA : Nat → ClassId} {s0 : State} {σ : lt_S} (hT : lt_Wt σ) {o : Nat} (h0 : lt_c σ o = 12) {w : lt_W} {r : Int32 × lt_W} (hf : f_X12_starving σ o w = some r) : lt_C l D gA s0 yX12_starving cX12_starving 3 (some .int) (lt_rm 7) [.ref (s0.heap.size + o)] σ w σ (some (.int r.1)) r.2 := by
  refine lt_enter rfl (Nat.le_of_ble_eq_true rfl) (fun X e1 e2 e3 e4 hF hE => ?_)
  subst e1 e2 e3 e4
  exact jb_X12_starving_0 hT h0 hF hE _ hf

set_option maxRecDepth 100000 in
def fb_X12_status_0 (σ : lt_S) (o : Nat) (w : lt_W) : Option Int32 := some (lt_gi w o 2)
set_option maxHeartbeats 4000000 in
set_option maxRecDepth 100000 in
theorem jb_X12_status_0 {X : lt_X} {σ : lt_S} {o : Nat} (h0 : lt_c σ o = 12) {r : Int32} {w : lt_W} (hF : lt_F X cX12_status RX12 1 (lt_rm 1)) (hE : lt_E X 0 0 σ (some .int) (some (.int r)) w) : fb_X12_status_0 σ o w = some r → lt_J X 0 0 σ w 0 [(0, .ref (lt_z X + o))] [] := by
  intro  hf
  unfold fb_X12_status_0 at hf
  refine jr_aload_n hF dX12_status_0 0 rfl rfl ?_
  refine jr_getI hF gf_X12_91 h0 dX12_status_1 ?_
  obtain rfl := Option.some.inj hf
  exact jr_ireturn hF hE dX12_status_4
def f_X12_status (σ : lt_S) (o : Nat) (w : lt_W) : Option Int32 := fb_X12_status_0 σ o w
set_option maxRecDepth 100000 in
theorem c_X12_status {l : Launch} {D : va_G} {gA : Nat → ClassId} {s0 : State} {σ : lt_S} {o : Nat} (h0 : lt_c σ o = 12) {w : lt_W} {r : Int32} (hf : f_X12_status σ o w = some r) : lt_C l D gA s0 yX12_status cX12_status 1 (some .int) (lt_rm 1) [.ref (s0.heap.size + o)] σ w σ (some (.int r)) w := by
  refine lt_enter rfl (Nat.le_of_ble_eq_true rfl) (fun X e1 e2 e3 e4 hF hE => ?_)
  subst e1 e2 e3 e4
  exact jb_X12_status_0 h0 hF hE hf

set_option maxRecDepth 100000 in
def fb_X12_sway_20 (σ : lt_S) (o : Nat) (w : lt_W) : Option (Int32 × lt_W) := Option.bind (f_X12_refuse σ o 1 w) (fun q1 => some (q1.1, q1.2))
set_option maxHeartbeats 4000000 in
set_option maxRecDepth 100000 in
theorem jb_X12_sway_20 {X : lt_X} {σ : lt_S} (hT : lt_Wt σ) {o : Nat} (h0 : lt_c σ o = 12) {r : Int32 × lt_W} (hF : lt_F X cX12_sway RX12 4 (lt_rm 4)) (hE : lt_E X 0 0 σ (some .int) (some (.int r.1)) r.2) : ∀ (w : lt_W), fb_X12_sway_20 σ o w = some r → lt_J X 0 0 σ w 20 [(0, .ref (lt_z X + o))] [] := by
  intro w hf
  unfold fb_X12_sway_20 at hf
  refine jr_aload_n hF dX12_sway_20 0 rfl rfl ?_
  refine jr_iconst (v := 1) hF dX12_sway_21 rfl ?_
  obtain ⟨q1, hq1, hf⟩ := Option.bind_eq_some_iff.mp hf
  refine jr_cV11 hF ml_X12_97 (c_X12_refuse h0 hq1) h0 ⟨Nat.le_of_ble_eq_true rfl, Nat.le_of_ble_eq_true rfl⟩ (Nat.le_of_ble_eq_true rfl) dX12_sway_22 ?_
  obtain rfl := Option.some.inj hf
  exact jr_ireturn hF hE dX12_sway_25
set_option maxRecDepth 100000 in
def fb_X12_sway_0 (σ : lt_S) (o : Nat) (x1 : Int32) (x2 : Int32) (w : lt_W) : Option (Int32 × lt_W) := Option.bind (f_X12_isGuest σ o x1 w) (fun q1 => if q1 = 0 then fb_X12_sway_20 σ o w else Option.bind (f_X12_isFrom x2.toInt64 0 20) (fun q2 => if q2 = 0 then fb_X12_sway_20 σ o w else Option.bind (f_X12_isHere σ o x1 w) (fun q3 => if q3 = 0 then Option.bind (f_X12_refuse σ o 7 w) (fun q9 => some (q9.1, q9.2)) else Option.bind (f_X12_guestOf σ o x1 0 w) (fun q4 => Option.bind (f_X12_guestRow x1) (fun q6 => lt_ck q6 (lt_len σ (lt_r σ o 0)) (lt_let (lt_si w (lt_r σ o 0) q6.toNatClampNeg x2) (fun w7 => Option.bind (f_X12_gives σ o q4 w7) (fun q8 => some (q8.1, q8.2)))))))))
set_option maxHeartbeats 4000000 in
set_option maxRecDepth 100000 in
theorem jb_X12_sway_0 {X : lt_X} {σ : lt_S} (hT : lt_Wt σ) {o : Nat} (h0 : lt_c σ o = 12) {r : Int32 × lt_W} (hF : lt_F X cX12_sway RX12 4 (lt_rm 4)) (hE : lt_E X 0 0 σ (some .int) (some (.int r.1)) r.2) : ∀ (x1 : Int32) (x2 : Int32) (w : lt_W), fb_X12_sway_0 σ o x1 x2 w = some r → lt_J X 0 0 σ w 0 [(0, .ref (lt_z X + o)), (1, .int x1), (2, .int x2)] [] := by
  intro x1 x2 w hf
  unfold fb_X12_sway_0 at hf
  refine jr_aload_n hF dX12_sway_0 0 rfl rfl ?_
  refine jr_iload_n hF dX12_sway_1 1 rfl rfl ?_
  obtain ⟨q1, hq1, hf⟩ := Option.bind_eq_some_iff.mp hf
  refine jr_cV11 hF ml_X12_266 (c_X12_isGuest hT h0 hq1) h0 ⟨Nat.le_of_ble_eq_true rfl, Nat.le_of_ble_eq_true rfl⟩ (Nat.le_of_ble_eq_true rfl) dX12_sway_2 ?_
  refine jr_if_eq (tgt := 20) hF dX12_sway_5 rfl hf (fun hf => ?_) (fun hf => ?_)
  · refine jr_sub [0] rfl ?_
    exact jb_X12_sway_20 hT h0 hF hE _ hf
  · refine jr_iload_n hF dX12_sway_8 2 rfl rfl ?_
    refine jr_i2l hF dX12_sway_9 ?_
    refine jr_lconst (v := 0) hF dX12_sway_10 rfl ?_
    refine jr_ldc2 (v := 20) hF dX12_sway_11 kc_X12_328 ?_
    obtain ⟨q2, hq2, hf⟩ := Option.bind_eq_some_iff.mp hf
    refine jr_cS31 hF ml_X12_307 (c_X12_isFrom hq2) ⟨Nat.le_of_ble_eq_true rfl, Nat.le_of_ble_eq_true rfl⟩ (Nat.le_of_ble_eq_true rfl) dX12_sway_14 ?_
    refine jr_if_ne (tgt := 26) hF dX12_sway_17 rfl hf (fun hf => ?_) (fun hf => ?_)
    · refine jr_aload_n hF dX12_sway_26 0 rfl rfl ?_
      refine jr_iload_n hF dX12_sway_27 1 rfl rfl ?_
      obtain ⟨q3, hq3, hf⟩ := Option.bind_eq_some_iff.mp hf
      refine jr_cV11 hF ml_X12_272 (c_X12_isHere hT h0 hq3) h0 ⟨Nat.le_of_ble_eq_true rfl, Nat.le_of_ble_eq_true rfl⟩ (Nat.le_of_ble_eq_true rfl) dX12_sway_28 ?_
      refine jr_if_ne (tgt := 41) hF dX12_sway_31 rfl hf (fun hf => ?_) (fun hf => ?_)
      · refine jr_aload_n hF dX12_sway_41 0 rfl rfl ?_
        refine jr_iload_n hF dX12_sway_42 1 rfl rfl ?_
        refine jr_iconst (v := 0) hF dX12_sway_43 rfl ?_
        obtain ⟨q4, hq4, hf⟩ := Option.bind_eq_some_iff.mp hf
        refine jr_cV21 hF ml_X12_269 (c_X12_guestOf hT h0 hq4) h0 ⟨Nat.le_of_ble_eq_true rfl, Nat.le_of_ble_eq_true rfl⟩ (Nat.le_of_ble_eq_true rfl) dX12_sway_44 ?_
        refine jr_istore_n (lv' := [(0, .ref (lt_z X + o)), (1, .int x1), (2, .int x2), (3, .int q4)]) hF dX12_sway_47 rfl (by decide) [1, 2, 3, 0] rfl ?_
        refine jr_aload_n hF dX12_sway_48 0 rfl rfl ?_
        refine jr_getRT (cr := 50) hF gf_X12_7 hT h0 rfl rfl dX12_sway_49 (fun th5 => ?_)
        refine jr_iload_n hF dX12_sway_52 1 rfl rfl ?_
        obtain ⟨q6, hq6, hf⟩ := Option.bind_eq_some_iff.mp hf
        refine jr_cS11 hF ml_X12_192 (c_X12_guestRow hq6) ⟨Nat.le_of_ble_eq_true rfl, Nat.le_of_ble_eq_true rfl⟩ (Nat.le_of_ble_eq_true rfl) dX12_sway_53 ?_
        refine jr_iload_n hF dX12_sway_56 2 rfl rfl ?_
        refine jr_iastore hF th5 dX12_sway_57 hf (fun hf => ?_)
        refine jr_letW hf (fun w7 hf => ?_)
        refine jr_aload_n hF dX12_sway_58 0 rfl rfl ?_
        refine jr_iload_n hF dX12_sway_59 3 rfl rfl ?_
        obtain ⟨q8, hq8, hf⟩ := Option.bind_eq_some_iff.mp hf
        refine jr_cV11 hF ml_X12_101 (c_X12_gives h0 hq8) h0 ⟨Nat.le_of_ble_eq_true rfl, Nat.le_of_ble_eq_true rfl⟩ (Nat.le_of_ble_eq_true rfl) dX12_sway_60 ?_
        obtain rfl := Option.some.inj hf
        exact jr_ireturn hF hE dX12_sway_63
      · refine jr_aload_n hF dX12_sway_34 0 rfl rfl ?_
        refine jr_bipush (v := 7) hF dX12_sway_35 rfl ?_
        obtain ⟨q9, hq9, hf⟩ := Option.bind_eq_some_iff.mp hf
        refine jr_cV11 hF ml_X12_97 (c_X12_refuse h0 hq9) h0 ⟨Nat.le_of_ble_eq_true rfl, Nat.le_of_ble_eq_true rfl⟩ (Nat.le_of_ble_eq_true rfl) dX12_sway_37 ?_
        obtain rfl := Option.some.inj hf
        exact jr_ireturn hF hE dX12_sway_40
    · refine jr_sub [0] rfl ?_
      exact jb_X12_sway_20 hT h0 hF hE _ hf
def f_X12_sway (σ : lt_S) (o : Nat) (x1 : Int32) (x2 : Int32) (w : lt_W) : Option (Int32 × lt_W) := fb_X12_sway_0 σ o x1 x2 w
set_option maxRecDepth 100000 in
theorem c_X12_sway {l : Launch} {D : va_G} {gA : Nat → ClassId} {s0 : State} {σ : lt_S} (hT : lt_Wt σ) {o : Nat} (h0 : lt_c σ o = 12) {x1 : Int32} {x2 : Int32} {w : lt_W} {r : Int32 × lt_W} (hf : f_X12_sway σ o x1 x2 w = some r) : lt_C l D gA s0 yX12_sway cX12_sway 4 (some .int) (lt_rm 4) [.ref (s0.heap.size + o), .int x1, .int x2] σ w σ (some (.int r.1)) r.2 := by
  refine lt_enter rfl (Nat.le_of_ble_eq_true rfl) (fun X e1 e2 e3 e4 hF hE => ?_)
  subst e1 e2 e3 e4
  exact jb_X12_sway_0 hT h0 hF hE _ _ _ hf

set_option maxRecDepth 100000 in
def fb_X12_wantSign_0 (σ : lt_S) (o : Nat) (x1 : Int32) (w : lt_W) : Option (Int32 × lt_W) := Option.bind (f_X12_isSign σ o x1 w) (fun q1 => if q1 = 0 then Option.bind (f_X12_fails σ o 2 w) (fun q3 => lt_bz q3.1 (some (q3.1, q3.2))) else Option.bind (f_X12_ahead σ o w) (fun q2 => some (1, q2)))
set_option maxHeartbeats 4000000 in
set_option maxRecDepth 100000 in
theorem jb_X12_wantSign_0 {X : lt_X} {σ : lt_S} (hT : lt_Wt σ) {o : Nat} (h0 : lt_c σ o = 12) {r : Int32 × lt_W} (hF : lt_F X cX12_wantSign RX12 2 (lt_rm 3)) (hE : lt_E X 0 0 σ (some .boolean) (some (.int r.1)) r.2) : ∀ (x1 : Int32) (w : lt_W), fb_X12_wantSign_0 σ o x1 w = some r → lt_J X 0 0 σ w 0 [(0, .ref (lt_z X + o)), (1, .int x1)] [] := by
  intro x1 w hf
  unfold fb_X12_wantSign_0 at hf
  refine jr_aload_n hF dX12_wantSign_0 0 rfl rfl ?_
  refine jr_iload_n hF dX12_wantSign_1 1 rfl rfl ?_
  obtain ⟨q1, hq1, hf⟩ := Option.bind_eq_some_iff.mp hf
  refine jr_cV11 hF ml_X12_176 (c_X12_isSign h0 hq1) h0 ⟨Nat.le_of_ble_eq_true rfl, Nat.le_of_ble_eq_true rfl⟩ (Nat.le_of_ble_eq_true rfl) dX12_wantSign_2 ?_
  refine jr_if_ne (tgt := 14) hF dX12_wantSign_5 rfl hf (fun hf => ?_) (fun hf => ?_)
  · refine jr_aload_n hF dX12_wantSign_14 0 rfl rfl ?_
    obtain ⟨q2, hq2, hf⟩ := Option.bind_eq_some_iff.mp hf
    refine jr_cV0v hF ml_X12_173 (c_X12_ahead hT h0 hq2) h0 ⟨Nat.le_of_ble_eq_true rfl, Nat.le_of_ble_eq_true rfl⟩ (Nat.le_of_ble_eq_true rfl) dX12_wantSign_15 ?_
    refine jr_iconst (v := 1) hF dX12_wantSign_18 rfl ?_
    obtain rfl := Option.some.inj hf
    exact jr_zreturn hF hE (Or.inr rfl) dX12_wantSign_19
  · refine jr_aload_n hF dX12_wantSign_8 0 rfl rfl ?_
    refine jr_iconst (v := 2) hF dX12_wantSign_9 rfl ?_
    obtain ⟨q3, hq3, hf⟩ := Option.bind_eq_some_iff.mp hf
    refine jr_cV11 hF ml_X12_179 (c_X12_fails h0 hq3) h0 ⟨Nat.le_of_ble_eq_true rfl, Nat.le_of_ble_eq_true rfl⟩ (Nat.le_of_ble_eq_true rfl) dX12_wantSign_10 ?_
    obtain ⟨b4, hf⟩ := lt_bzE hf
    obtain rfl := Option.some.inj hf
    exact jr_zreturn hF hE b4 dX12_wantSign_13
def f_X12_wantSign (σ : lt_S) (o : Nat) (x1 : Int32) (w : lt_W) : Option (Int32 × lt_W) := fb_X12_wantSign_0 σ o x1 w
set_option maxRecDepth 100000 in
theorem c_X12_wantSign {l : Launch} {D : va_G} {gA : Nat → ClassId} {s0 : State} {σ : lt_S} (hT : lt_Wt σ) {o : Nat} (h0 : lt_c σ o = 12) {x1 : Int32} {w : lt_W} {r : Int32 × lt_W} (hf : f_X12_wantSign σ o x1 w = some r) : lt_C l D gA s0 yX12_wantSign cX12_wantSign 2 (some .boolean) (lt_rm 3) [.ref (s0.heap.size + o), .int x1] σ w σ (some (.int r.1)) r.2 := by
  refine lt_enter rfl (Nat.le_of_ble_eq_true rfl) (fun X e1 e2 e3 e4 hF hE => ?_)
  subst e1 e2 e3 e4
  exact jb_X12_wantSign_0 hT h0 hF hE _ _ hf

set_option maxRecDepth 100000 in
def fb_X12_taken_0 (σ : lt_S) (o : Nat) (x1 : Int32) (w : lt_W) : Option (Int32 × lt_W) := lt_let (lt_si w o 16 (lt_gi w o 18)) (fun w1 => if (lt_gi w1 o 18) ≤ 0 then Option.bind (f_X12_gives σ o x1 w1) (fun q2 => some (q2.1, q2.2)) else Option.bind (f_X12_refuse σ o 9 w1) (fun q3 => some (q3.1, q3.2)))
set_option maxHeartbeats 4000000 in
set_option maxRecDepth 100000 in
theorem jb_X12_taken_0 {X : lt_X} {σ : lt_S} {o : Nat} (h0 : lt_c σ o = 12) {r : Int32 × lt_W} (hF : lt_F X cX12_taken RX12 2 (lt_rm 2)) (hE : lt_E X 0 0 σ (some .int) (some (.int r.1)) r.2) : ∀ (x1 : Int32) (w : lt_W), fb_X12_taken_0 σ o x1 w = some r → lt_J X 0 0 σ w 0 [(0, .ref (lt_z X + o)), (1, .int x1)] [] := by
  intro x1 w hf
  unfold fb_X12_taken_0 at hf
  refine jr_aload_n hF dX12_taken_0 0 rfl rfl ?_
  refine jr_aload_n hF dX12_taken_1 0 rfl rfl ?_
  refine jr_getI hF gf_X12_167 h0 dX12_taken_2 ?_
  refine jr_putI hF pf_X12_37 h0 dX12_taken_5 ?_
  refine jr_letW hf (fun w1 hf => ?_)
  refine jr_aload_n hF dX12_taken_8 0 rfl rfl ?_
  refine jr_getI hF gf_X12_167 h0 dX12_taken_9 ?_
  refine jr_if_le (tgt := 24) hF dX12_taken_12 rfl hf (fun hf => ?_) (fun hf => ?_)
  · refine jr_aload_n hF dX12_taken_24 0 rfl rfl ?_
    refine jr_iload_n hF dX12_taken_25 1 rfl rfl ?_
    obtain ⟨q2, hq2, hf⟩ := Option.bind_eq_some_iff.mp hf
    refine jr_cV11 hF ml_X12_101 (c_X12_gives h0 hq2) h0 ⟨Nat.le_of_ble_eq_true rfl, Nat.le_of_ble_eq_true rfl⟩ (Nat.le_of_ble_eq_true rfl) dX12_taken_26 ?_
    obtain rfl := Option.some.inj hf
    exact jr_ireturn hF hE dX12_taken_29
  · refine jr_aload_n hF dX12_taken_15 0 rfl rfl ?_
    refine jr_bipush (v := 9) hF dX12_taken_16 rfl ?_
    obtain ⟨q3, hq3, hf⟩ := Option.bind_eq_some_iff.mp hf
    refine jr_cV11 hF ml_X12_97 (c_X12_refuse h0 hq3) h0 ⟨Nat.le_of_ble_eq_true rfl, Nat.le_of_ble_eq_true rfl⟩ (Nat.le_of_ble_eq_true rfl) dX12_taken_18 ?_
    refine jr_goto (tgt := 29) hF dX12_taken_21 rfl ?_
    obtain rfl := Option.some.inj hf
    exact jr_ireturn hF hE dX12_taken_29
def f_X12_taken (σ : lt_S) (o : Nat) (x1 : Int32) (w : lt_W) : Option (Int32 × lt_W) := fb_X12_taken_0 σ o x1 w
set_option maxRecDepth 100000 in
theorem c_X12_taken {l : Launch} {D : va_G} {gA : Nat → ClassId} {s0 : State} {σ : lt_S} {o : Nat} (h0 : lt_c σ o = 12) {x1 : Int32} {w : lt_W} {r : Int32 × lt_W} (hf : f_X12_taken σ o x1 w = some r) : lt_C l D gA s0 yX12_taken cX12_taken 2 (some .int) (lt_rm 2) [.ref (s0.heap.size + o), .int x1] σ w σ (some (.int r.1)) r.2 := by
  refine lt_enter rfl (Nat.le_of_ble_eq_true rfl) (fun X e1 e2 e3 e4 hF hE => ?_)
  subst e1 e2 e3 e4
  exact jb_X12_taken_0 h0 hF hE _ _ hf

set_option maxRecDepth 100000 in
def fb_X12_thereIn_0 (σ : lt_S) (o : Nat) (x1 : Int32) (w : lt_W) : Option (Int32 × lt_W) := Option.bind (f_X12_isFrom x1.toInt64 0 99) (fun q1 => if q1 = 0 then Option.bind (f_X12_refuse σ o 1 w) (fun q7 => some (q7.1, q7.2)) else Option.bind (f_X12_keeps σ o 2140 w) (fun q2 => Option.bind (f_X12_daysGo σ o x1 q2) (fun q3 => Option.bind (f_X12_areHere σ o q3) (fun q4 => Option.bind (f_X12_brings σ o 2140 q3) (fun q5 => Option.bind (f_X12_gives σ o q4 q5) (fun q6 => some (q6.1, q6.2)))))))
set_option maxHeartbeats 4000000 in
set_option maxRecDepth 100000 in
theorem jb_X12_thereIn_0 {X : lt_X} {σ : lt_S} (hT : lt_Wt σ) {o : Nat} (h0 : lt_c σ o = 12) {r : Int32 × lt_W} (hF : lt_F X cX12_thereIn RX12 3 (lt_rm 8)) (hE : lt_E X 0 0 σ (some .int) (some (.int r.1)) r.2) : ∀ (x1 : Int32) (w : lt_W), fb_X12_thereIn_0 σ o x1 w = some r → lt_J X 0 0 σ w 0 [(0, .ref (lt_z X + o)), (1, .int x1)] [] := by
  intro x1 w hf
  unfold fb_X12_thereIn_0 at hf
  refine jr_iload_n hF dX12_thereIn_0 1 rfl rfl ?_
  refine jr_i2l hF dX12_thereIn_1 ?_
  refine jr_lconst (v := 0) hF dX12_thereIn_2 rfl ?_
  refine jr_ldc2 (v := 99) hF dX12_thereIn_3 kc_X12_332 ?_
  obtain ⟨q1, hq1, hf⟩ := Option.bind_eq_some_iff.mp hf
  refine jr_cS31 hF ml_X12_307 (c_X12_isFrom hq1) ⟨Nat.le_of_ble_eq_true rfl, Nat.le_of_ble_eq_true rfl⟩ (Nat.le_of_ble_eq_true rfl) dX12_thereIn_6 ?_
  refine jr_if_ne (tgt := 18) hF dX12_thereIn_9 rfl hf (fun hf => ?_) (fun hf => ?_)
  · refine jr_aload_n hF dX12_thereIn_18 0 rfl rfl ?_
    refine jr_sipush (v := 2140) hF dX12_thereIn_19 rfl ?_
    obtain ⟨q2, hq2, hf⟩ := Option.bind_eq_some_iff.mp hf
    refine jr_cV1v hF ml_X12_334 (c_X12_keeps hT h0 hq2) h0 ⟨Nat.le_of_ble_eq_true rfl, Nat.le_of_ble_eq_true rfl⟩ (Nat.le_of_ble_eq_true rfl) dX12_thereIn_22 ?_
    refine jr_aload_n hF dX12_thereIn_25 0 rfl rfl ?_
    refine jr_iload_n hF dX12_thereIn_26 1 rfl rfl ?_
    obtain ⟨q3, hq3, hf⟩ := Option.bind_eq_some_iff.mp hf
    refine jr_cV1v hF ml_X12_311 (c_X12_daysGo hT h0 hq3) h0 ⟨Nat.le_of_ble_eq_true rfl, Nat.le_of_ble_eq_true rfl⟩ (Nat.le_of_ble_eq_true rfl) dX12_thereIn_27 ?_
    refine jr_aload_n hF dX12_thereIn_30 0 rfl rfl ?_
    obtain ⟨q4, hq4, hf⟩ := Option.bind_eq_some_iff.mp hf
    refine jr_cV01 hF ml_X12_275 (c_X12_areHere hT h0 hq4) h0 ⟨Nat.le_of_ble_eq_true rfl, Nat.le_of_ble_eq_true rfl⟩ (Nat.le_of_ble_eq_true rfl) dX12_thereIn_31 ?_
    refine jr_istore_n (lv' := [(0, .ref (lt_z X + o)), (2, .int q4)]) hF dX12_thereIn_34 rfl (by decide) [1, 0] rfl ?_
    refine jr_aload_n hF dX12_thereIn_35 0 rfl rfl ?_
    refine jr_sipush (v := 2140) hF dX12_thereIn_36 rfl ?_
    obtain ⟨q5, hq5, hf⟩ := Option.bind_eq_some_iff.mp hf
    refine jr_cV1v hF ml_X12_337 (c_X12_brings hT h0 hq5) h0 ⟨Nat.le_of_ble_eq_true rfl, Nat.le_of_ble_eq_true rfl⟩ (Nat.le_of_ble_eq_true rfl) dX12_thereIn_39 ?_
    refine jr_aload_n hF dX12_thereIn_42 0 rfl rfl ?_
    refine jr_iload_n hF dX12_thereIn_43 1 rfl rfl ?_
    obtain ⟨q6, hq6, hf⟩ := Option.bind_eq_some_iff.mp hf
    refine jr_cV11 hF ml_X12_101 (c_X12_gives h0 hq6) h0 ⟨Nat.le_of_ble_eq_true rfl, Nat.le_of_ble_eq_true rfl⟩ (Nat.le_of_ble_eq_true rfl) dX12_thereIn_44 ?_
    obtain rfl := Option.some.inj hf
    exact jr_ireturn hF hE dX12_thereIn_47
  · refine jr_aload_n hF dX12_thereIn_12 0 rfl rfl ?_
    refine jr_iconst (v := 1) hF dX12_thereIn_13 rfl ?_
    obtain ⟨q7, hq7, hf⟩ := Option.bind_eq_some_iff.mp hf
    refine jr_cV11 hF ml_X12_97 (c_X12_refuse h0 hq7) h0 ⟨Nat.le_of_ble_eq_true rfl, Nat.le_of_ble_eq_true rfl⟩ (Nat.le_of_ble_eq_true rfl) dX12_thereIn_14 ?_
    obtain rfl := Option.some.inj hf
    exact jr_ireturn hF hE dX12_thereIn_17
def f_X12_thereIn (σ : lt_S) (o : Nat) (x1 : Int32) (w : lt_W) : Option (Int32 × lt_W) := fb_X12_thereIn_0 σ o x1 w
set_option maxRecDepth 100000 in
theorem c_X12_thereIn {l : Launch} {D : va_G} {gA : Nat → ClassId} {s0 : State} {σ : lt_S} (hT : lt_Wt σ) {o : Nat} (h0 : lt_c σ o = 12) {x1 : Int32} {w : lt_W} {r : Int32 × lt_W} (hf : f_X12_thereIn σ o x1 w = some r) : lt_C l D gA s0 yX12_thereIn cX12_thereIn 3 (some .int) (lt_rm 8) [.ref (s0.heap.size + o), .int x1] σ w σ (some (.int r.1)) r.2 := by
  refine lt_enter rfl (Nat.le_of_ble_eq_true rfl) (fun X e1 e2 e3 e4 hF hE => ?_)
  subst e1 e2 e3 e4
  exact jb_X12_thereIn_0 hT h0 hF hE _ _ hf

set_option maxRecDepth 100000 in
def fb_X12_told_21 (σ : lt_S) (o : Nat) (x1 : Int32) (w : lt_W) : Option (Int32 × lt_W) := if x1 = 8 then Option.bind (f_X12_areHere σ o w) (fun q1 => Option.bind (f_X12_gives σ o q1 w) (fun q2 => some (q2.1, q2.2))) else if x1 = 9 then Option.bind (f_X12_areHungry σ o w) (fun q4 => Option.bind (f_X12_gives σ o q4 w) (fun q5 => some (q5.1, q5.2))) else if x1 = 10 then Option.bind (f_X12_areStarved σ o w) (fun q7 => Option.bind (f_X12_gives σ o q7 w) (fun q8 => some (q8.1, q8.2))) else Option.bind (f_X12_refuse σ o 1 w) (fun q10 => some (q10.1, q10.2))
set_option maxHeartbeats 4000000 in
set_option maxRecDepth 100000 in
theorem jb_X12_told_21 {X : lt_X} {σ : lt_S} (hT : lt_Wt σ) {o : Nat} (h0 : lt_c σ o = 12) {r : Int32 × lt_W} (hF : lt_F X cX12_told RX12 2 (lt_rm 5)) (hE : lt_E X 0 0 σ (some .int) (some (.int r.1)) r.2) : ∀ (x1 : Int32) (w : lt_W), fb_X12_told_21 σ o x1 w = some r → lt_J X 0 0 σ w 21 [(0, .ref (lt_z X + o)), (1, .int x1)] [] := by
  intro x1 w hf
  unfold fb_X12_told_21 at hf
  refine jr_iload_n hF dX12_told_21 1 rfl rfl ?_
  by_cases c3 : x1 = 8
  · rw [if_pos c3] at hf
    refine jr_tableIn (off := 26) (tgt := 48) hF dX12_told_22 (by rw [c3]; decide) (by rw [c3]; decide) (by rw [c3]; rfl) rfl ?_
    refine jr_aload_n hF dX12_told_48 0 rfl rfl ?_
    refine jr_aload_n hF dX12_told_49 0 rfl rfl ?_
    obtain ⟨q1, hq1, hf⟩ := Option.bind_eq_some_iff.mp hf
    refine jr_cV01 hF ml_X12_275 (c_X12_areHere hT h0 hq1) h0 ⟨Nat.le_of_ble_eq_true rfl, Nat.le_of_ble_eq_true rfl⟩ (Nat.le_of_ble_eq_true rfl) dX12_told_50 ?_
    obtain ⟨q2, hq2, hf⟩ := Option.bind_eq_some_iff.mp hf
    refine jr_cV11 hF ml_X12_101 (c_X12_gives h0 hq2) h0 ⟨Nat.le_of_ble_eq_true rfl, Nat.le_of_ble_eq_true rfl⟩ (Nat.le_of_ble_eq_true rfl) dX12_told_53 ?_
    obtain rfl := Option.some.inj hf
    exact jr_ireturn hF hE dX12_told_56
  rw [if_neg c3] at hf
  by_cases c6 : x1 = 9
  · rw [if_pos c6] at hf
    refine jr_tableIn (off := 35) (tgt := 57) hF dX12_told_22 (by rw [c6]; decide) (by rw [c6]; decide) (by rw [c6]; rfl) rfl ?_
    refine jr_aload_n hF dX12_told_57 0 rfl rfl ?_
    refine jr_aload_n hF dX12_told_58 0 rfl rfl ?_
    obtain ⟨q4, hq4, hf⟩ := Option.bind_eq_some_iff.mp hf
    refine jr_cV01 hF ml_X12_278 (c_X12_areHungry hT h0 hq4) h0 ⟨Nat.le_of_ble_eq_true rfl, Nat.le_of_ble_eq_true rfl⟩ (Nat.le_of_ble_eq_true rfl) dX12_told_59 ?_
    obtain ⟨q5, hq5, hf⟩ := Option.bind_eq_some_iff.mp hf
    refine jr_cV11 hF ml_X12_101 (c_X12_gives h0 hq5) h0 ⟨Nat.le_of_ble_eq_true rfl, Nat.le_of_ble_eq_true rfl⟩ (Nat.le_of_ble_eq_true rfl) dX12_told_62 ?_
    obtain rfl := Option.some.inj hf
    exact jr_ireturn hF hE dX12_told_65
  rw [if_neg c6] at hf
  by_cases c9 : x1 = 10
  · rw [if_pos c9] at hf
    refine jr_tableIn (off := 44) (tgt := 66) hF dX12_told_22 (by rw [c9]; decide) (by rw [c9]; decide) (by rw [c9]; rfl) rfl ?_
    refine jr_aload_n hF dX12_told_66 0 rfl rfl ?_
    refine jr_aload_n hF dX12_told_67 0 rfl rfl ?_
    obtain ⟨q7, hq7, hf⟩ := Option.bind_eq_some_iff.mp hf
    refine jr_cV01 hF ml_X12_281 (c_X12_areStarved hT h0 hq7) h0 ⟨Nat.le_of_ble_eq_true rfl, Nat.le_of_ble_eq_true rfl⟩ (Nat.le_of_ble_eq_true rfl) dX12_told_68 ?_
    obtain ⟨q8, hq8, hf⟩ := Option.bind_eq_some_iff.mp hf
    refine jr_cV11 hF ml_X12_101 (c_X12_gives h0 hq8) h0 ⟨Nat.le_of_ble_eq_true rfl, Nat.le_of_ble_eq_true rfl⟩ (Nat.le_of_ble_eq_true rfl) dX12_told_71 ?_
    obtain rfl := Option.some.inj hf
    exact jr_ireturn hF hE dX12_told_74
  rw [if_neg c9] at hf
  refine jr_tableOut (tgt := 75) hF dX12_told_22 (lt_swd fun kk h1 h2 => by rcases (show kk = 8 ∨ kk = 9 ∨ kk = 10 by omega) with rfl | rfl | rfl <;> first | exact c3 | exact c6 | exact c9) rfl ?_
  refine jr_aload_n hF dX12_told_75 0 rfl rfl ?_
  refine jr_iconst (v := 1) hF dX12_told_76 rfl ?_
  obtain ⟨q10, hq10, hf⟩ := Option.bind_eq_some_iff.mp hf
  refine jr_cV11 hF ml_X12_97 (c_X12_refuse h0 hq10) h0 ⟨Nat.le_of_ble_eq_true rfl, Nat.le_of_ble_eq_true rfl⟩ (Nat.le_of_ble_eq_true rfl) dX12_told_77 ?_
  obtain rfl := Option.some.inj hf
  exact jr_ireturn hF hE dX12_told_80
set_option maxRecDepth 100000 in
def fb_X12_told_0 (σ : lt_S) (o : Nat) (x1 : Int32) (w : lt_W) : Option (Int32 × lt_W) := if x1 < 0 then fb_X12_told_21 σ o x1 w else if 8 ≤ x1 then fb_X12_told_21 σ o x1 w else lt_ck x1 (lt_len σ (lt_r σ o 0)) (Option.bind (f_X12_gives σ o (lt_gi w (lt_r σ o 0) x1.toNatClampNeg) w) (fun q2 => some (q2.1, q2.2)))
set_option maxHeartbeats 4000000 in
set_option maxRecDepth 100000 in
theorem jb_X12_told_0 {X : lt_X} {σ : lt_S} (hT : lt_Wt σ) {o : Nat} (h0 : lt_c σ o = 12) {r : Int32 × lt_W} (hF : lt_F X cX12_told RX12 2 (lt_rm 5)) (hE : lt_E X 0 0 σ (some .int) (some (.int r.1)) r.2) : ∀ (x1 : Int32) (w : lt_W), fb_X12_told_0 σ o x1 w = some r → lt_J X 0 0 σ w 0 [(0, .ref (lt_z X + o)), (1, .int x1)] [] := by
  intro x1 w hf
  unfold fb_X12_told_0 at hf
  refine jr_iload_n hF dX12_told_0 1 rfl rfl ?_
  refine jr_if_lt (tgt := 21) hF dX12_told_1 rfl hf (fun hf => ?_) (fun hf => ?_)
  · exact jb_X12_told_21 hT h0 hF hE _ _ hf
  · refine jr_iload_n hF dX12_told_4 1 rfl rfl ?_
    refine jr_bipush (v := 8) hF dX12_told_5 rfl ?_
    refine jr_icmp_ge (tgt := 21) hF dX12_told_7 rfl hf (fun hf => ?_) (fun hf => ?_)
    · exact jb_X12_told_21 hT h0 hF hE _ _ hf
    · refine jr_aload_n hF dX12_told_10 0 rfl rfl ?_
      refine jr_aload_n hF dX12_told_11 0 rfl rfl ?_
      refine jr_getRT (cr := 50) hF gf_X12_7 hT h0 rfl rfl dX12_told_12 (fun th1 => ?_)
      refine jr_iload_n hF dX12_told_15 1 rfl rfl ?_
      refine jr_iaload hF th1 dX12_told_16 hf (fun hf => ?_)
      obtain ⟨q2, hq2, hf⟩ := Option.bind_eq_some_iff.mp hf
      refine jr_cV11 hF ml_X12_101 (c_X12_gives h0 hq2) h0 ⟨Nat.le_of_ble_eq_true rfl, Nat.le_of_ble_eq_true rfl⟩ (Nat.le_of_ble_eq_true rfl) dX12_told_17 ?_
      obtain rfl := Option.some.inj hf
      exact jr_ireturn hF hE dX12_told_20
def f_X12_told (σ : lt_S) (o : Nat) (x1 : Int32) (w : lt_W) : Option (Int32 × lt_W) := fb_X12_told_0 σ o x1 w
set_option maxRecDepth 100000 in
theorem c_X12_told {l : Launch} {D : va_G} {gA : Nat → ClassId} {s0 : State} {σ : lt_S} (hT : lt_Wt σ) {o : Nat} (h0 : lt_c σ o = 12) {x1 : Int32} {w : lt_W} {r : Int32 × lt_W} (hf : f_X12_told σ o x1 w = some r) : lt_C l D gA s0 yX12_told cX12_told 2 (some .int) (lt_rm 5) [.ref (s0.heap.size + o), .int x1] σ w σ (some (.int r.1)) r.2 := by
  refine lt_enter rfl (Nat.le_of_ble_eq_true rfl) (fun X e1 e2 e3 e4 hF hE => ?_)
  subst e1 e2 e3 e4
  exact jb_X12_told_0 hT h0 hF hE _ _ hf

set_option maxRecDepth 100000 in
def fb_X12_top_0 (σ : lt_S) (o : Nat) (w : lt_W) : Option Int64 := some (lt_gl w o 3)
set_option maxHeartbeats 4000000 in
set_option maxRecDepth 100000 in
theorem jb_X12_top_0 {X : lt_X} {σ : lt_S} {o : Nat} (h0 : lt_c σ o = 12) {r : Int64} {w : lt_W} (hF : lt_F X cX12_top RX12 1 (lt_rm 1)) (hE : lt_E X 0 0 σ (some .long) (some (.long r)) w) : fb_X12_top_0 σ o w = some r → lt_J X 0 0 σ w 0 [(0, .ref (lt_z X + o))] [] := by
  intro  hf
  unfold fb_X12_top_0 at hf
  refine jr_aload_n hF dX12_top_0 0 rfl rfl ?_
  refine jr_getL hF gf_X12_94 h0 dX12_top_1 ?_
  obtain rfl := Option.some.inj hf
  exact jr_lreturn hF hE dX12_top_4
def f_X12_top (σ : lt_S) (o : Nat) (w : lt_W) : Option Int64 := fb_X12_top_0 σ o w
set_option maxRecDepth 100000 in
theorem c_X12_top {l : Launch} {D : va_G} {gA : Nat → ClassId} {s0 : State} {σ : lt_S} {o : Nat} (h0 : lt_c σ o = 12) {w : lt_W} {r : Int64} (hf : f_X12_top σ o w = some r) : lt_C l D gA s0 yX12_top cX12_top 1 (some .long) (lt_rm 1) [.ref (s0.heap.size + o)] σ w σ (some (.long r)) w := by
  refine lt_enter rfl (Nat.le_of_ble_eq_true rfl) (fun X e1 e2 e3 e4 hF hE => ?_)
  subst e1 e2 e3 e4
  exact jb_X12_top_0 h0 hF hE hf

set_option maxRecDepth 100000 in
def fb_X12_tray_26 (σ : lt_S) (o : Nat) (w : lt_W) : Option (Int32 × lt_W) := Option.bind (f_X12_is σ o 1 w) (fun q1 => lt_bz q1.1 (some (q1.1, q1.2)))
set_option maxHeartbeats 4000000 in
set_option maxRecDepth 100000 in
theorem jb_X12_tray_26 {X : lt_X} {σ : lt_S} (hT : lt_Wt σ) {o : Nat} (h0 : lt_c σ o = 12) {r : Int32 × lt_W} (hF : lt_F X cX12_tray RX12 5 (lt_rm 2)) (hE : lt_E X 0 0 σ (some .boolean) (some (.int r.1)) r.2) : ∀ (w : lt_W), fb_X12_tray_26 σ o w = some r → lt_J X 0 0 σ w 26 [(0, .ref (lt_z X + o))] [] := by
  intro w hf
  unfold fb_X12_tray_26 at hf
  refine jr_aload_n hF dX12_tray_26 0 rfl rfl ?_
  refine jr_iconst (v := 1) hF dX12_tray_27 rfl ?_
  obtain ⟨q1, hq1, hf⟩ := Option.bind_eq_some_iff.mp hf
  refine jr_cV11 hF ml_X12_104 (c_X12_is h0 hq1) h0 ⟨Nat.le_of_ble_eq_true rfl, Nat.le_of_ble_eq_true rfl⟩ (Nat.le_of_ble_eq_true rfl) dX12_tray_28 ?_
  obtain ⟨b2, hf⟩ := lt_bzE hf
  obtain rfl := Option.some.inj hf
  exact jr_zreturn hF hE b2 dX12_tray_31
set_option maxRecDepth 100000 in
def fb_X12_tray_49 (σ : lt_S) (o : Nat) : Nat → Int32 → Int32 → Int32 → lt_W → Option (Int32 × lt_W)
  | 0, _, _, _, _ => none
  | n + 1, x1, x3, x4, w => if x3 ≤ x4 then Option.bind (f_X12_is σ o 0 w) (fun q1 => lt_bz q1.1 (some (q1.1, q1.2))) else lt_ck ((60 * x1) + x4) (lt_len σ (lt_r σ o 7)) (lt_let (lt_sl w (lt_r σ o 7) ((60 * x1) + x4).toNatClampNeg 0) (fun w4 => fb_X12_tray_49 σ o n x1 x3 (x4 + 1) w4))
set_option maxHeartbeats 4000000 in
set_option maxRecDepth 100000 in
theorem jb_X12_tray_49 {X : lt_X} {σ : lt_S} (hT : lt_Wt σ) {o : Nat} (h0 : lt_c σ o = 12) {r : Int32 × lt_W} (hF : lt_F X cX12_tray RX12 5 (lt_rm 2)) (hE : lt_E X 0 0 σ (some .boolean) (some (.int r.1)) r.2) (n : Nat) : ∀ (x1 : Int32) (x3 : Int32) (x4 : Int32) (w : lt_W), fb_X12_tray_49 σ o n x1 x3 x4 w = some r → lt_J X 0 0 σ w 49 [(0, .ref (lt_z X + o)), (1, .int x1), (3, .int x3), (4, .int x4)] [] := by
  induction n with
  | zero => intro x1 x3 x4 w hf; rw [fb_X12_tray_49] at hf; cases hf
  | succ n ih =>
    intro x1 x3 x4 w hf
    rw [fb_X12_tray_49] at hf
    refine jr_iload hF dX12_tray_49 3 rfl ?_
    refine jr_iload_n hF dX12_tray_51 2 rfl rfl ?_
    refine jr_icmp_ge (tgt := 74) hF dX12_tray_52 rfl hf (fun hf => ?_) (fun hf => ?_)
    · refine jr_aload_n hF dX12_tray_74 0 rfl rfl ?_
      refine jr_iconst (v := 0) hF dX12_tray_75 rfl ?_
      obtain ⟨q1, hq1, hf⟩ := Option.bind_eq_some_iff.mp hf
      refine jr_cV11 hF ml_X12_104 (c_X12_is h0 hq1) h0 ⟨Nat.le_of_ble_eq_true rfl, Nat.le_of_ble_eq_true rfl⟩ (Nat.le_of_ble_eq_true rfl) dX12_tray_76 ?_
      obtain ⟨b2, hf⟩ := lt_bzE hf
      obtain rfl := Option.some.inj hf
      exact jr_zreturn hF hE b2 dX12_tray_79
    · refine jr_aload_n hF dX12_tray_55 0 rfl rfl ?_
      refine jr_getRT (cr := 51) hF gf_X12_27 hT h0 rfl rfl dX12_tray_56 (fun th3 => ?_)
      refine jr_bipush (v := 60) hF dX12_tray_59 rfl ?_
      refine jr_iload_n hF dX12_tray_61 1 rfl rfl ?_
      refine jr_imul hF dX12_tray_62 ?_
      refine jr_iload hF dX12_tray_63 3 rfl ?_
      refine jr_iadd hF dX12_tray_65 ?_
      refine jr_lconst (v := 0) hF dX12_tray_66 rfl ?_
      refine jr_lastore hF th3 dX12_tray_67 hf (fun hf => ?_)
      refine jr_letW hf (fun w4 hf => ?_)
      refine jr_iinc (v := x4 + 1) (lv' := [(0, .ref (lt_z X + o)), (1, .int x1), (3, .int x3), (4, .int (x4 + 1))]) hF dX12_tray_68 3 rfl rfl (by decide) [1, 2, 3, 0] rfl ?_
      refine jr_goto (tgt := 49) hF dX12_tray_71 rfl ?_
      exact ih _ _ _ _ hf
set_option maxRecDepth 100000 in
def fb_X12_tray_0 (σ : lt_S) (o : Nat) (x1 : Int32) (x2 : Int32) (x3 : Int32) (w : lt_W) : Option (Int32 × lt_W) := Option.bind (f_X12_isTray x1) (fun q1 => if q1 = 0 then fb_X12_tray_26 σ o w else if x2 < 0 then fb_X12_tray_26 σ o w else if 3 < x2 then fb_X12_tray_26 σ o w else if x3 < 0 then fb_X12_tray_26 σ o w else if x3 ≤ 60 then lt_ck x1 (lt_len σ (lt_r σ o 5)) (lt_let (lt_si w (lt_r σ o 5) x1.toNatClampNeg x2) (fun w3 => lt_ck x1 (lt_len σ (lt_r σ o 6)) (lt_let (lt_si w3 (lt_r σ o 6) x1.toNatClampNeg x3) (fun w5 => fb_X12_tray_49 σ o lt_fu x1 x3 0 w5)))) else fb_X12_tray_26 σ o w)
set_option maxHeartbeats 4000000 in
set_option maxRecDepth 100000 in
theorem jb_X12_tray_0 {X : lt_X} {σ : lt_S} (hT : lt_Wt σ) {o : Nat} (h0 : lt_c σ o = 12) {r : Int32 × lt_W} (hF : lt_F X cX12_tray RX12 5 (lt_rm 2)) (hE : lt_E X 0 0 σ (some .boolean) (some (.int r.1)) r.2) : ∀ (x1 : Int32) (x2 : Int32) (x3 : Int32) (w : lt_W), fb_X12_tray_0 σ o x1 x2 x3 w = some r → lt_J X 0 0 σ w 0 [(0, .ref (lt_z X + o)), (1, .int x1), (2, .int x2), (3, .int x3)] [] := by
  intro x1 x2 x3 w hf
  unfold fb_X12_tray_0 at hf
  refine jr_iload_n hF dX12_tray_0 1 rfl rfl ?_
  obtain ⟨q1, hq1, hf⟩ := Option.bind_eq_some_iff.mp hf
  refine jr_cS11 hF ml_X12_108 (c_X12_isTray hq1) ⟨Nat.le_of_ble_eq_true rfl, Nat.le_of_ble_eq_true rfl⟩ (Nat.le_of_ble_eq_true rfl) dX12_tray_1 ?_
  refine jr_if_eq (tgt := 26) hF dX12_tray_4 rfl hf (fun hf => ?_) (fun hf => ?_)
  · refine jr_sub [0] rfl ?_
    exact jb_X12_tray_26 hT h0 hF hE _ hf
  · refine jr_iload_n hF dX12_tray_7 2 rfl rfl ?_
    refine jr_if_lt (tgt := 26) hF dX12_tray_8 rfl hf (fun hf => ?_) (fun hf => ?_)
    · refine jr_sub [0] rfl ?_
      exact jb_X12_tray_26 hT h0 hF hE _ hf
    · refine jr_iload_n hF dX12_tray_11 2 rfl rfl ?_
      refine jr_iconst (v := 3) hF dX12_tray_12 rfl ?_
      refine jr_icmp_gt (tgt := 26) hF dX12_tray_13 rfl hf (fun hf => ?_) (fun hf => ?_)
      · refine jr_sub [0] rfl ?_
        exact jb_X12_tray_26 hT h0 hF hE _ hf
      · refine jr_iload_n hF dX12_tray_16 3 rfl rfl ?_
        refine jr_if_lt (tgt := 26) hF dX12_tray_17 rfl hf (fun hf => ?_) (fun hf => ?_)
        · refine jr_sub [0] rfl ?_
          exact jb_X12_tray_26 hT h0 hF hE _ hf
        · refine jr_iload_n hF dX12_tray_20 3 rfl rfl ?_
          refine jr_bipush (v := 60) hF dX12_tray_21 rfl ?_
          refine jr_icmp_le (tgt := 32) hF dX12_tray_23 rfl hf (fun hf => ?_) (fun hf => ?_)
          · refine jr_aload_n hF dX12_tray_32 0 rfl rfl ?_
            refine jr_getRT (cr := 50) hF gf_X12_21 hT h0 rfl rfl dX12_tray_33 (fun th2 => ?_)
            refine jr_iload_n hF dX12_tray_36 1 rfl rfl ?_
            refine jr_iload_n hF dX12_tray_37 2 rfl rfl ?_
            refine jr_iastore hF th2 dX12_tray_38 hf (fun hf => ?_)
            refine jr_letW hf (fun w3 hf => ?_)
            refine jr_aload_n hF dX12_tray_39 0 rfl rfl ?_
            refine jr_getRT (cr := 50) hF gf_X12_24 hT h0 rfl rfl dX12_tray_40 (fun th4 => ?_)
            refine jr_iload_n hF dX12_tray_43 1 rfl rfl ?_
            refine jr_iload_n hF dX12_tray_44 3 rfl rfl ?_
            refine jr_iastore hF th4 dX12_tray_45 hf (fun hf => ?_)
            refine jr_letW hf (fun w5 hf => ?_)
            refine jr_iconst (v := 0) hF dX12_tray_46 rfl ?_
            refine jr_istore (lv' := [(0, .ref (lt_z X + o)), (1, .int x1), (3, .int x3), (4, .int 0)]) hF dX12_tray_47 (by decide) [1, 2, 4, 0] rfl ?_
            exact jb_X12_tray_49 hT h0 hF hE lt_fu _ _ _ _ hf
          · refine jr_sub [0] rfl ?_
            exact jb_X12_tray_26 hT h0 hF hE _ hf
def f_X12_tray (σ : lt_S) (o : Nat) (x1 : Int32) (x2 : Int32) (x3 : Int32) (w : lt_W) : Option (Int32 × lt_W) := fb_X12_tray_0 σ o x1 x2 x3 w
set_option maxRecDepth 100000 in
theorem c_X12_tray {l : Launch} {D : va_G} {gA : Nat → ClassId} {s0 : State} {σ : lt_S} (hT : lt_Wt σ) {o : Nat} (h0 : lt_c σ o = 12) {x1 : Int32} {x2 : Int32} {x3 : Int32} {w : lt_W} {r : Int32 × lt_W} (hf : f_X12_tray σ o x1 x2 x3 w = some r) : lt_C l D gA s0 yX12_tray cX12_tray 5 (some .boolean) (lt_rm 2) [.ref (s0.heap.size + o), .int x1, .int x2, .int x3] σ w σ (some (.int r.1)) r.2 := by
  refine lt_enter rfl (Nat.le_of_ble_eq_true rfl) (fun X e1 e2 e3 e4 hF hE => ?_)
  subst e1 e2 e3 e4
  exact jb_X12_tray_0 hT h0 hF hE _ _ _ _ hf

set_option maxRecDepth 100000 in
def fb_X12_undo_0 (σ : lt_S) (o : Nat) (w : lt_W) : Option (Int32 × lt_W) := if (lt_gi w o 40) = 0 then Option.bind (f_X12_refuse σ o 6 w) (fun q4 => some (q4.1, q4.2)) else Option.bind (f_X12_copies σ o (lt_gi w o 40) 0 w) (fun q1 => lt_let (lt_si q1 o 40 ((lt_gi q1 o 40) - 1)) (fun w2 => Option.bind (f_X12_gives σ o (lt_gi w2 o 40) w2) (fun q3 => some (q3.1, q3.2))))
set_option maxHeartbeats 4000000 in
set_option maxRecDepth 100000 in
theorem jb_X12_undo_0 {X : lt_X} {σ : lt_S} (hT : lt_Wt σ) {o : Nat} (h0 : lt_c σ o = 12) {r : Int32 × lt_W} (hF : lt_F X cX12_undo RX12 1 (lt_rm 2)) (hE : lt_E X 0 0 σ (some .int) (some (.int r.1)) r.2) : ∀ (w : lt_W), fb_X12_undo_0 σ o w = some r → lt_J X 0 0 σ w 0 [(0, .ref (lt_z X + o))] [] := by
  intro w hf
  unfold fb_X12_undo_0 at hf
  refine jr_aload_n hF dX12_undo_0 0 rfl rfl ?_
  refine jr_getI hF gf_X12_437 h0 dX12_undo_1 ?_
  refine jr_if_ne (tgt := 14) hF dX12_undo_4 rfl hf (fun hf => ?_) (fun hf => ?_)
  · refine jr_aload_n hF dX12_undo_14 0 rfl rfl ?_
    refine jr_aload_n hF dX12_undo_15 0 rfl rfl ?_
    refine jr_getI hF gf_X12_437 h0 dX12_undo_16 ?_
    refine jr_iconst (v := 0) hF dX12_undo_19 rfl ?_
    obtain ⟨q1, hq1, hf⟩ := Option.bind_eq_some_iff.mp hf
    refine jr_cV2v hF ml_X12_440 (c_X12_copies hT h0 hq1) h0 ⟨Nat.le_of_ble_eq_true rfl, Nat.le_of_ble_eq_true rfl⟩ (Nat.le_of_ble_eq_true rfl) dX12_undo_20 ?_
    refine jr_aload_n hF dX12_undo_23 0 rfl rfl ?_
    refine jr_dup hF dX12_undo_24 rfl ?_
    refine jr_getI hF gf_X12_437 h0 dX12_undo_25 ?_
    refine jr_iconst (v := 1) hF dX12_undo_28 rfl ?_
    refine jr_isub hF dX12_undo_29 ?_
    refine jr_putI hF pf_X12_437 h0 dX12_undo_30 ?_
    refine jr_letW hf (fun w2 hf => ?_)
    refine jr_aload_n hF dX12_undo_33 0 rfl rfl ?_
    refine jr_aload_n hF dX12_undo_34 0 rfl rfl ?_
    refine jr_getI hF gf_X12_437 h0 dX12_undo_35 ?_
    obtain ⟨q3, hq3, hf⟩ := Option.bind_eq_some_iff.mp hf
    refine jr_cV11 hF ml_X12_101 (c_X12_gives h0 hq3) h0 ⟨Nat.le_of_ble_eq_true rfl, Nat.le_of_ble_eq_true rfl⟩ (Nat.le_of_ble_eq_true rfl) dX12_undo_38 ?_
    obtain rfl := Option.some.inj hf
    exact jr_ireturn hF hE dX12_undo_41
  · refine jr_aload_n hF dX12_undo_7 0 rfl rfl ?_
    refine jr_bipush (v := 6) hF dX12_undo_8 rfl ?_
    obtain ⟨q4, hq4, hf⟩ := Option.bind_eq_some_iff.mp hf
    refine jr_cV11 hF ml_X12_97 (c_X12_refuse h0 hq4) h0 ⟨Nat.le_of_ble_eq_true rfl, Nat.le_of_ble_eq_true rfl⟩ (Nat.le_of_ble_eq_true rfl) dX12_undo_10 ?_
    obtain rfl := Option.some.inj hf
    exact jr_ireturn hF hE dX12_undo_13
def f_X12_undo (σ : lt_S) (o : Nat) (w : lt_W) : Option (Int32 × lt_W) := fb_X12_undo_0 σ o w
set_option maxRecDepth 100000 in
theorem c_X12_undo {l : Launch} {D : va_G} {gA : Nat → ClassId} {s0 : State} {σ : lt_S} (hT : lt_Wt σ) {o : Nat} (h0 : lt_c σ o = 12) {w : lt_W} {r : Int32 × lt_W} (hf : f_X12_undo σ o w = some r) : lt_C l D gA s0 yX12_undo cX12_undo 1 (some .int) (lt_rm 2) [.ref (s0.heap.size + o)] σ w σ (some (.int r.1)) r.2 := by
  refine lt_enter rfl (Nat.le_of_ble_eq_true rfl) (fun X e1 e2 e3 e4 hF hE => ?_)
  subst e1 e2 e3 e4
  exact jb_X12_undo_0 hT h0 hF hE _ hf

set_option maxRecDepth 100000 in
def fb_X12_waits_0 (σ : lt_S) (o : Nat) (x1 : Int32) (x2 : Int32) (w : lt_W) : Option (Int32 × lt_W) := Option.bind (f_X12_areTwo σ o x1 x2 w) (fun q1 => if q1 = 0 then Option.bind (f_X12_is σ o 1 w) (fun q5 => lt_bz q5.1 (some (q5.1, q5.2))) else Option.bind (f_X12_guestOf σ o x2 2 w) (fun q2 => Option.bind (f_X12_tellsBy σ o 1 (1 + q2.toInt64) w) (fun q3 => lt_bz q3.1 (some (q3.1, q3.2)))))
set_option maxHeartbeats 4000000 in
set_option maxRecDepth 100000 in
theorem jb_X12_waits_0 {X : lt_X} {σ : lt_S} (hT : lt_Wt σ) {o : Nat} (h0 : lt_c σ o = 12) {r : Int32 × lt_W} (hF : lt_F X cX12_waits RX12 3 (lt_rm 3)) (hE : lt_E X 0 0 σ (some .boolean) (some (.int r.1)) r.2) : ∀ (x1 : Int32) (x2 : Int32) (w : lt_W), fb_X12_waits_0 σ o x1 x2 w = some r → lt_J X 0 0 σ w 0 [(0, .ref (lt_z X + o)), (1, .int x1), (2, .int x2)] [] := by
  intro x1 x2 w hf
  unfold fb_X12_waits_0 at hf
  refine jr_aload_n hF dX12_waits_0 0 rfl rfl ?_
  refine jr_iload_n hF dX12_waits_1 1 rfl rfl ?_
  refine jr_iload_n hF dX12_waits_2 2 rfl rfl ?_
  obtain ⟨q1, hq1, hf⟩ := Option.bind_eq_some_iff.mp hf
  refine jr_cV21 hF ml_X12_317 (c_X12_areTwo hT h0 hq1) h0 ⟨Nat.le_of_ble_eq_true rfl, Nat.le_of_ble_eq_true rfl⟩ (Nat.le_of_ble_eq_true rfl) dX12_waits_3 ?_
  refine jr_if_ne (tgt := 15) hF dX12_waits_6 rfl hf (fun hf => ?_) (fun hf => ?_)
  · refine jr_aload_n hF dX12_waits_15 0 rfl rfl ?_
    refine jr_lconst (v := 1) hF dX12_waits_16 rfl ?_
    refine jr_lconst (v := 1) hF dX12_waits_17 rfl ?_
    refine jr_aload_n hF dX12_waits_18 0 rfl rfl ?_
    refine jr_iload_n hF dX12_waits_19 2 rfl rfl ?_
    refine jr_iconst (v := 2) hF dX12_waits_20 rfl ?_
    obtain ⟨q2, hq2, hf⟩ := Option.bind_eq_some_iff.mp hf
    refine jr_cV21 hF ml_X12_269 (c_X12_guestOf hT h0 hq2) h0 ⟨Nat.le_of_ble_eq_true rfl, Nat.le_of_ble_eq_true rfl⟩ (Nat.le_of_ble_eq_true rfl) dX12_waits_21 ?_
    refine jr_i2l hF dX12_waits_24 ?_
    refine jr_ladd hF dX12_waits_25 ?_
    obtain ⟨q3, hq3, hf⟩ := Option.bind_eq_some_iff.mp hf
    refine jr_cV21 hF ml_X12_373 (c_X12_tellsBy h0 hq3) h0 ⟨Nat.le_of_ble_eq_true rfl, Nat.le_of_ble_eq_true rfl⟩ (Nat.le_of_ble_eq_true rfl) dX12_waits_26 ?_
    obtain ⟨b4, hf⟩ := lt_bzE hf
    obtain rfl := Option.some.inj hf
    exact jr_zreturn hF hE b4 dX12_waits_29
  · refine jr_aload_n hF dX12_waits_9 0 rfl rfl ?_
    refine jr_iconst (v := 1) hF dX12_waits_10 rfl ?_
    obtain ⟨q5, hq5, hf⟩ := Option.bind_eq_some_iff.mp hf
    refine jr_cV11 hF ml_X12_104 (c_X12_is h0 hq5) h0 ⟨Nat.le_of_ble_eq_true rfl, Nat.le_of_ble_eq_true rfl⟩ (Nat.le_of_ble_eq_true rfl) dX12_waits_11 ?_
    obtain ⟨b6, hf⟩ := lt_bzE hf
    obtain rfl := Option.some.inj hf
    exact jr_zreturn hF hE b6 dX12_waits_14
def f_X12_waits (σ : lt_S) (o : Nat) (x1 : Int32) (x2 : Int32) (w : lt_W) : Option (Int32 × lt_W) := fb_X12_waits_0 σ o x1 x2 w
set_option maxRecDepth 100000 in
theorem c_X12_waits {l : Launch} {D : va_G} {gA : Nat → ClassId} {s0 : State} {σ : lt_S} (hT : lt_Wt σ) {o : Nat} (h0 : lt_c σ o = 12) {x1 : Int32} {x2 : Int32} {w : lt_W} {r : Int32 × lt_W} (hf : f_X12_waits σ o x1 x2 w = some r) : lt_C l D gA s0 yX12_waits cX12_waits 3 (some .boolean) (lt_rm 3) [.ref (s0.heap.size + o), .int x1, .int x2] σ w σ (some (.int r.1)) r.2 := by
  refine lt_enter rfl (Nat.le_of_ble_eq_true rfl) (fun X e1 e2 e3 e4 hF hE => ?_)
  subst e1 e2 e3 e4
  exact jb_X12_waits_0 hT h0 hF hE _ _ _ hf

set_option maxRecDepth 100000 in
def fb_X12_wanted_36 (σ : lt_S) (o : Nat) (k6 : Int32 → Int32 → Int32 → lt_W → Option (Int32 × lt_W)) (x1 : Int32) (x2 : Int32) (x3 : Int32) (y0 : Int32) (w : lt_W) : Option (Int32 × lt_W) := if x2 < y0 then k6 x3 y0 (x3 + 1) w else k6 x1 x2 (x3 + 1) w
set_option maxHeartbeats 4000000 in
set_option maxRecDepth 100000 in
theorem jb_X12_wanted_36 {X : lt_X} {σ : lt_S} (hT : lt_Wt σ) {o : Nat} (h0 : lt_c σ o = 12) {r : Int32 × lt_W} {k6 : Int32 → Int32 → Int32 → lt_W → Option (Int32 × lt_W)} (hF : lt_F X cX12_wanted RX12 5 (lt_rm 5)) (hE : lt_E X 0 0 σ (some .int) (some (.int r.1)) r.2) (hk6 : ∀ (x1 : Int32) (x2 : Int32) (x3 : Int32) (w : lt_W), k6 x1 x2 x3 w = some r → lt_J X 0 0 σ w 6 [(0, .ref (lt_z X + o)), (1, .int x1), (2, .int x2), (3, .int x3)] []) : ∀ (x1 : Int32) (x2 : Int32) (x3 : Int32) (y0 : Int32) (w : lt_W), fb_X12_wanted_36 σ o k6 x1 x2 x3 y0 w = some r → lt_J X 0 0 σ w 36 [(0, .ref (lt_z X + o)), (1, .int x1), (2, .int x2), (3, .int x3)] [.int y0] := by
  intro x1 x2 x3 y0 w hf
  unfold fb_X12_wanted_36 at hf
  refine jr_istore (lv' := [(0, .ref (lt_z X + o)), (1, .int x1), (2, .int x2), (3, .int x3), (4, .int y0)]) hF dX12_wanted_36 (by decide) [1, 2, 3, 4, 0] rfl ?_
  refine jr_iload hF dX12_wanted_38 4 rfl ?_
  refine jr_iload_n hF dX12_wanted_40 2 rfl rfl ?_
  refine jr_icmp_gt (tgt := 47) hF dX12_wanted_41 rfl hf (fun hf => ?_) (fun hf => ?_)
  · refine jr_iload_n hF dX12_wanted_47 3 rfl rfl ?_
    refine jr_istore_n (lv' := [(0, .ref (lt_z X + o)), (1, .int x3), (3, .int x3), (4, .int y0)]) hF dX12_wanted_48 rfl (by decide) [1, 0, 3, 4] rfl ?_
    refine jr_iload hF dX12_wanted_49 3 rfl ?_
    refine jr_istore_n (lv' := [(0, .ref (lt_z X + o)), (1, .int x3), (2, .int y0), (3, .int x3)]) hF dX12_wanted_51 rfl (by decide) [1, 2, 0, 3] rfl ?_
    refine jr_iinc (v := x3 + 1) (lv' := [(0, .ref (lt_z X + o)), (1, .int x3), (2, .int y0), (3, .int (x3 + 1))]) hF dX12_wanted_52 3 rfl rfl (by decide) [1, 2, 3, 0] rfl ?_
    refine jr_goto (tgt := 6) hF dX12_wanted_55 rfl ?_
    exact hk6 _ _ _ _ hf
  · refine jr_goto (tgt := 52) hF dX12_wanted_44 rfl ?_
    refine jr_iinc (v := x3 + 1) (lv' := [(0, .ref (lt_z X + o)), (1, .int x1), (2, .int x2), (3, .int (x3 + 1)), (4, .int y0)]) hF dX12_wanted_52 3 rfl rfl (by decide) [1, 2, 3, 0, 4] rfl ?_
    refine jr_goto (tgt := 6) hF dX12_wanted_55 rfl ?_
    refine jr_sub [0, 1, 2, 3] rfl ?_
    exact hk6 _ _ _ _ hf
set_option maxRecDepth 100000 in
def fb_X12_wanted_6 (σ : lt_S) (o : Nat) : Nat → Int32 → Int32 → Int32 → lt_W → Option (Int32 × lt_W)
  | 0, _, _, _, _ => none
  | n + 1, x1, x2, x3, w => lt_ck 0 (lt_len σ (lt_r σ o 0)) (if (lt_gi w (lt_r σ o 0) (0 : Int32).toNatClampNeg) ≤ x3 then Option.bind (f_X12_orNone σ o x1 w) (fun q2 => some (q2.1, q2.2)) else Option.bind (f_X12_isHere σ o x3 w) (fun q3 => if q3 = 0 then fb_X12_wanted_36 σ o (fun x1 x2 x3 w => fb_X12_wanted_6 σ o n x1 x2 x3 w) x1 x2 x3 0 w else Option.bind (f_X12_passTo σ o x3 w) (fun q4 => Option.bind (f_X12_bits q4) (fun q5 => fb_X12_wanted_36 σ o (fun x1 x2 x3 w => fb_X12_wanted_6 σ o n x1 x2 x3 w) x1 x2 x3 q5 w))))
set_option maxHeartbeats 4000000 in
set_option maxRecDepth 100000 in
theorem jb_X12_wanted_6 {X : lt_X} {σ : lt_S} (hT : lt_Wt σ) {o : Nat} (h0 : lt_c σ o = 12) {r : Int32 × lt_W} (hF : lt_F X cX12_wanted RX12 5 (lt_rm 5)) (hE : lt_E X 0 0 σ (some .int) (some (.int r.1)) r.2) (n : Nat) : ∀ (x1 : Int32) (x2 : Int32) (x3 : Int32) (w : lt_W), fb_X12_wanted_6 σ o n x1 x2 x3 w = some r → lt_J X 0 0 σ w 6 [(0, .ref (lt_z X + o)), (1, .int x1), (2, .int x2), (3, .int x3)] [] := by
  induction n with
  | zero => intro x1 x2 x3 w hf; rw [fb_X12_wanted_6] at hf; cases hf
  | succ n ih =>
    intro x1 x2 x3 w hf
    rw [fb_X12_wanted_6] at hf
    refine jr_iload_n hF dX12_wanted_6 3 rfl rfl ?_
    refine jr_aload_n hF dX12_wanted_7 0 rfl rfl ?_
    refine jr_getRT (cr := 50) hF gf_X12_7 hT h0 rfl rfl dX12_wanted_8 (fun th1 => ?_)
    refine jr_iconst (v := 0) hF dX12_wanted_11 rfl ?_
    refine jr_iaload hF th1 dX12_wanted_12 hf (fun hf => ?_)
    refine jr_icmp_ge (tgt := 58) hF dX12_wanted_13 rfl hf (fun hf => ?_) (fun hf => ?_)
    · refine jr_aload_n hF dX12_wanted_58 0 rfl rfl ?_
      refine jr_iload_n hF dX12_wanted_59 1 rfl rfl ?_
      obtain ⟨q2, hq2, hf⟩ := Option.bind_eq_some_iff.mp hf
      refine jr_cV11 hF ml_X12_284 (c_X12_orNone h0 hq2) h0 ⟨Nat.le_of_ble_eq_true rfl, Nat.le_of_ble_eq_true rfl⟩ (Nat.le_of_ble_eq_true rfl) dX12_wanted_60 ?_
      obtain rfl := Option.some.inj hf
      exact jr_ireturn hF hE dX12_wanted_63
    · refine jr_aload_n hF dX12_wanted_16 0 rfl rfl ?_
      refine jr_iload_n hF dX12_wanted_17 3 rfl rfl ?_
      obtain ⟨q3, hq3, hf⟩ := Option.bind_eq_some_iff.mp hf
      refine jr_cV11 hF ml_X12_272 (c_X12_isHere hT h0 hq3) h0 ⟨Nat.le_of_ble_eq_true rfl, Nat.le_of_ble_eq_true rfl⟩ (Nat.le_of_ble_eq_true rfl) dX12_wanted_18 ?_
      refine jr_if_eq (tgt := 35) hF dX12_wanted_21 rfl hf (fun hf => ?_) (fun hf => ?_)
      · refine jr_iconst (v := 0) hF dX12_wanted_35 rfl ?_
        exact jb_X12_wanted_36 hT h0 hF hE ih _ _ _ _ _ hf
      · refine jr_aload_n hF dX12_wanted_24 0 rfl rfl ?_
        refine jr_iload_n hF dX12_wanted_25 3 rfl rfl ?_
        obtain ⟨q4, hq4, hf⟩ := Option.bind_eq_some_iff.mp hf
        refine jr_cV11 hF ml_X12_287 (c_X12_passTo hT h0 hq4) h0 ⟨Nat.le_of_ble_eq_true rfl, Nat.le_of_ble_eq_true rfl⟩ (Nat.le_of_ble_eq_true rfl) dX12_wanted_26 ?_
        obtain ⟨q5, hq5, hf⟩ := Option.bind_eq_some_iff.mp hf
        refine jr_cS11 hF ml_X12_293 (c_X12_bits hq5) ⟨Nat.le_of_ble_eq_true rfl, Nat.le_of_ble_eq_true rfl⟩ (Nat.le_of_ble_eq_true rfl) dX12_wanted_29 ?_
        refine jr_goto (tgt := 36) hF dX12_wanted_32 rfl ?_
        exact jb_X12_wanted_36 hT h0 hF hE ih _ _ _ _ _ hf
set_option maxRecDepth 100000 in
def fb_X12_wanted_0 (σ : lt_S) (o : Nat) (w : lt_W) : Option (Int32 × lt_W) := fb_X12_wanted_6 σ o lt_fu (-1) 0 0 w
set_option maxHeartbeats 4000000 in
set_option maxRecDepth 100000 in
theorem jb_X12_wanted_0 {X : lt_X} {σ : lt_S} (hT : lt_Wt σ) {o : Nat} (h0 : lt_c σ o = 12) {r : Int32 × lt_W} (hF : lt_F X cX12_wanted RX12 5 (lt_rm 5)) (hE : lt_E X 0 0 σ (some .int) (some (.int r.1)) r.2) : ∀ (w : lt_W), fb_X12_wanted_0 σ o w = some r → lt_J X 0 0 σ w 0 [(0, .ref (lt_z X + o))] [] := by
  intro w hf
  unfold fb_X12_wanted_0 at hf
  refine jr_iconst (v := (-1)) hF dX12_wanted_0 rfl ?_
  refine jr_istore_n (lv' := [(0, .ref (lt_z X + o)), (1, .int (-1))]) hF dX12_wanted_1 rfl (by decide) [1, 0] rfl ?_
  refine jr_iconst (v := 0) hF dX12_wanted_2 rfl ?_
  refine jr_istore_n (lv' := [(0, .ref (lt_z X + o)), (1, .int (-1)), (2, .int 0)]) hF dX12_wanted_3 rfl (by decide) [1, 2, 0] rfl ?_
  refine jr_iconst (v := 0) hF dX12_wanted_4 rfl ?_
  refine jr_istore_n (lv' := [(0, .ref (lt_z X + o)), (1, .int (-1)), (2, .int 0), (3, .int 0)]) hF dX12_wanted_5 rfl (by decide) [1, 2, 3, 0] rfl ?_
  exact jb_X12_wanted_6 hT h0 hF hE lt_fu _ _ _ _ hf
def f_X12_wanted (σ : lt_S) (o : Nat) (w : lt_W) : Option (Int32 × lt_W) := fb_X12_wanted_0 σ o w
set_option maxRecDepth 100000 in
theorem c_X12_wanted {l : Launch} {D : va_G} {gA : Nat → ClassId} {s0 : State} {σ : lt_S} (hT : lt_Wt σ) {o : Nat} (h0 : lt_c σ o = 12) {w : lt_W} {r : Int32 × lt_W} (hf : f_X12_wanted σ o w = some r) : lt_C l D gA s0 yX12_wanted cX12_wanted 5 (some .int) (lt_rm 5) [.ref (s0.heap.size + o)] σ w σ (some (.int r.1)) r.2 := by
  refine lt_enter rfl (Nat.le_of_ble_eq_true rfl) (fun X e1 e2 e3 e4 hF hE => ?_)
  subst e1 e2 e3 e4
  exact jb_X12_wanted_0 hT h0 hF hE _ hf

set_option maxRecDepth 100000 in
def fb_X12_write_34 (σ : lt_S) (o : Nat) (x5 : Int32) (w : lt_W) : Option (Int32 × lt_W) := Option.bind (f_X12_is σ o x5 w) (fun q1 => lt_bz q1.1 (some (q1.1, q1.2)))
set_option maxHeartbeats 4000000 in
set_option maxRecDepth 100000 in
theorem jb_X12_write_34 {X : lt_X} {σ : lt_S} (hT : lt_Wt σ) {o : Nat} (h0 : lt_c σ o = 12) {r : Int32 × lt_W} (hF : lt_F X cX12_write RX12 6 (lt_rm 3)) (hE : lt_E X 0 0 σ (some .boolean) (some (.int r.1)) r.2) : ∀ (x5 : Int32) (w : lt_W), fb_X12_write_34 σ o x5 w = some r → lt_J X 0 0 σ w 34 [(0, .ref (lt_z X + o)), (5, .int x5)] [] := by
  intro x5 w hf
  unfold fb_X12_write_34 at hf
  refine jr_aload_n hF dX12_write_34 0 rfl rfl ?_
  refine jr_iload hF dX12_write_35 1 rfl ?_
  obtain ⟨q1, hq1, hf⟩ := Option.bind_eq_some_iff.mp hf
  refine jr_cV11 hF ml_X12_104 (c_X12_is h0 hq1) h0 ⟨Nat.le_of_ble_eq_true rfl, Nat.le_of_ble_eq_true rfl⟩ (Nat.le_of_ble_eq_true rfl) dX12_write_37 ?_
  obtain ⟨b2, hf⟩ := lt_bzE hf
  obtain rfl := Option.some.inj hf
  exact jr_zreturn hF hE b2 dX12_write_40
set_option maxRecDepth 100000 in
def fb_X12_write_0 (σ : lt_S) (o : Nat) (x1 : Int32) (x2 : Int32) (x3 : Int64) (w : lt_W) : Option (Int32 × lt_W) := Option.bind (f_X12_wrongPlace σ o x1 x2 w) (fun q1 => if q1 = 0 then lt_ck x1 (lt_len σ (lt_r σ o 5)) (Option.bind (f_X12_shrunk x3 (lt_gi w (lt_r σ o 5) x1.toNatClampNeg)) (fun q4 => lt_ck ((60 * x1) + x2) (lt_len σ (lt_r σ o 7)) (lt_let (lt_sl w (lt_r σ o 7) ((60 * x1) + x2).toNatClampNeg q4) (fun w5 => fb_X12_write_34 σ o q1 w5)))) else fb_X12_write_34 σ o q1 w)
set_option maxHeartbeats 4000000 in
set_option maxRecDepth 100000 in
theorem jb_X12_write_0 {X : lt_X} {σ : lt_S} (hT : lt_Wt σ) {o : Nat} (h0 : lt_c σ o = 12) {r : Int32 × lt_W} (hF : lt_F X cX12_write RX12 6 (lt_rm 3)) (hE : lt_E X 0 0 σ (some .boolean) (some (.int r.1)) r.2) : ∀ (x1 : Int32) (x2 : Int32) (x3 : Int64) (w : lt_W), fb_X12_write_0 σ o x1 x2 x3 w = some r → lt_J X 0 0 σ w 0 [(0, .ref (lt_z X + o)), (1, .int x1), (2, .int x2), (3, .long x3)] [] := by
  intro x1 x2 x3 w hf
  unfold fb_X12_write_0 at hf
  refine jr_aload_n hF dX12_write_0 0 rfl rfl ?_
  refine jr_iload_n hF dX12_write_1 1 rfl rfl ?_
  refine jr_iload_n hF dX12_write_2 2 rfl rfl ?_
  obtain ⟨q1, hq1, hf⟩ := Option.bind_eq_some_iff.mp hf
  refine jr_cV21 hF ml_X12_111 (c_X12_wrongPlace hT h0 hq1) h0 ⟨Nat.le_of_ble_eq_true rfl, Nat.le_of_ble_eq_true rfl⟩ (Nat.le_of_ble_eq_true rfl) dX12_write_3 ?_
  refine jr_istore (lv' := [(0, .ref (lt_z X + o)), (1, .int x1), (2, .int x2), (3, .long x3), (5, .int q1)]) hF dX12_write_6 (by decide) [1, 2, 3, 4, 0] rfl ?_
  refine jr_iload hF dX12_write_8 4 rfl ?_
  refine jr_if_ne (tgt := 34) hF dX12_write_10 rfl hf (fun hf => ?_) (fun hf => ?_)
  · refine jr_sub [0, 4] rfl ?_
    exact jb_X12_write_34 hT h0 hF hE _ _ hf
  · refine jr_aload_n hF dX12_write_13 0 rfl rfl ?_
    refine jr_getRT (cr := 51) hF gf_X12_27 hT h0 rfl rfl dX12_write_14 (fun th2 => ?_)
    refine jr_bipush (v := 60) hF dX12_write_17 rfl ?_
    refine jr_iload_n hF dX12_write_19 1 rfl rfl ?_
    refine jr_imul hF dX12_write_20 ?_
    refine jr_iload_n hF dX12_write_21 2 rfl rfl ?_
    refine jr_iadd hF dX12_write_22 ?_
    refine jr_lload_n hF dX12_write_23 3 rfl rfl ?_
    refine jr_aload_n hF dX12_write_24 0 rfl rfl ?_
    refine jr_getRT (cr := 50) hF gf_X12_21 hT h0 rfl rfl dX12_write_25 (fun th3 => ?_)
    refine jr_iload_n hF dX12_write_28 1 rfl rfl ?_
    refine jr_iaload hF th3 dX12_write_29 hf (fun hf => ?_)
    obtain ⟨q4, hq4, hf⟩ := Option.bind_eq_some_iff.mp hf
    refine jr_cS21 hF ml_X12_115 (c_X12_shrunk hq4) ⟨Nat.le_of_ble_eq_true rfl, Nat.le_of_ble_eq_true rfl⟩ (Nat.le_of_ble_eq_true rfl) dX12_write_30 ?_
    refine jr_lastore hF th2 dX12_write_33 hf (fun hf => ?_)
    refine jr_letW hf (fun w5 hf => ?_)
    refine jr_sub [0, 4] rfl ?_
    exact jb_X12_write_34 hT h0 hF hE _ _ hf
def f_X12_write (σ : lt_S) (o : Nat) (x1 : Int32) (x2 : Int32) (x3 : Int64) (w : lt_W) : Option (Int32 × lt_W) := fb_X12_write_0 σ o x1 x2 x3 w
set_option maxRecDepth 100000 in
theorem c_X12_write {l : Launch} {D : va_G} {gA : Nat → ClassId} {s0 : State} {σ : lt_S} (hT : lt_Wt σ) {o : Nat} (h0 : lt_c σ o = 12) {x1 : Int32} {x2 : Int32} {x3 : Int64} {w : lt_W} {r : Int32 × lt_W} (hf : f_X12_write σ o x1 x2 x3 w = some r) : lt_C l D gA s0 yX12_write cX12_write 6 (some .boolean) (lt_rm 3) [.ref (s0.heap.size + o), .int x1, .int x2, .long x3] σ w σ (some (.int r.1)) r.2 := by
  refine lt_enter rfl (Nat.le_of_ble_eq_true rfl) (fun X e1 e2 e3 e4 hF hE => ?_)
  subst e1 e2 e3 e4
  exact jb_X12_write_0 hT h0 hF hE _ _ _ _ hf
