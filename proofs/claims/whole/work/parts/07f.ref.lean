set_option maxRecDepth 100000 in
def fb_X12_weekOrder_75 (σ : lt_S) (o : Nat) (x2 : Int32) (w : lt_W) : Option (Int32 × lt_W) := Option.bind (f_X12_guestTo σ o 0 (x2 + 1) w) (fun q1 => lt_bz q1.1 (some (q1.1, q1.2)))
set_option maxHeartbeats 4000000 in
set_option maxRecDepth 100000 in
theorem jb_X12_weekOrder_75 {X : lt_X} {σ : lt_S} (hT : lt_Wt σ) {o : Nat} (h0 : lt_c σ o = 12) {r : Int32 × lt_W} (hF : lt_F X cX12_weekOrder RX12 3 (lt_rm 11)) (hE : lt_E X 0 0 σ (some .boolean) (some (.int r.1)) r.2) : ∀ (x2 : Int32) (w : lt_W), fb_X12_weekOrder_75 σ o x2 w = some r → lt_J X 0 0 σ w 75 [(0, .ref (lt_z X + o)), (2, .int x2)] [] := by
  intro x2 w hf
  unfold fb_X12_weekOrder_75 at hf
  refine jr_aload_n hF dX12_weekOrder_75 0 rfl rfl ?_
  refine jr_iconst (v := 0) hF dX12_weekOrder_76 rfl ?_
  refine jr_iload_n hF dX12_weekOrder_77 1 rfl rfl ?_
  refine jr_iconst (v := 1) hF dX12_weekOrder_78 rfl ?_
  refine jr_iadd hF dX12_weekOrder_79 ?_
  obtain ⟨q1, hq1, hf⟩ := Option.bind_eq_some_iff.mp hf
  refine jr_cV21 hF ml_X12_213 (c_X12_guestTo hT h0 hq1) h0 ⟨Nat.le_of_ble_eq_true rfl, Nat.le_of_ble_eq_true rfl⟩ (Nat.le_of_ble_eq_true rfl) dX12_weekOrder_80 ?_
  obtain ⟨b2, hf⟩ := lt_bzE hf
  obtain rfl := Option.some.inj hf
  exact jr_zreturn hF hE b2 dX12_weekOrder_83
set_option maxRecDepth 100000 in
def fb_X12_weekOrder_0 (σ : lt_S) (o : Nat) (x1 : Int32) (x2 : Int32) (w : lt_W) : Option (Int32 × lt_W) := if x1 = 6 then Option.bind (f_X12_guestTo σ o 0 (x2 + 1) w) (fun q1 => if q1.1 = 0 then some (0, q1.2) else Option.bind (f_X12_otherTo σ o 0 (x2 + 1) q1.2) (fun q2 => if q2.1 = 0 then some (0, q2.2) else some (1, q2.2))) else if x1 = 11 then Option.bind (f_X12_number σ o (x2 + 1) 1 20 w) (fun q4 => lt_bz q4.1 (some (q4.1, q4.2))) else if x1 = 12 then fb_X12_weekOrder_75 σ o x2 w else if x1 = 13 then fb_X12_weekOrder_75 σ o x2 w else if x1 = 14 then Option.bind (f_X12_number σ o (x2 + 1) 1 60 w) (fun q9 => lt_bz q9.1 (some (q9.1, q9.2))) else if x1 = 16 then Option.bind (f_X12_test σ o x2 w) (fun q12 => lt_bz q12.1 (some (q12.1, q12.2))) else if x1 = 17 then Option.bind (f_X12_number σ o (x2 + 1) 1 99 w) (fun q15 => lt_bz q15.1 (some (q15.1, q15.2))) else some (1, w)
set_option maxHeartbeats 4000000 in
set_option maxRecDepth 100000 in
theorem jb_X12_weekOrder_0 {X : lt_X} {σ : lt_S} (hT : lt_Wt σ) {o : Nat} (h0 : lt_c σ o = 12) {r : Int32 × lt_W} (hF : lt_F X cX12_weekOrder RX12 3 (lt_rm 11)) (hE : lt_E X 0 0 σ (some .boolean) (some (.int r.1)) r.2) : ∀ (x1 : Int32) (x2 : Int32) (w : lt_W), fb_X12_weekOrder_0 σ o x1 x2 w = some r → lt_J X 0 0 σ w 0 [(0, .ref (lt_z X + o)), (1, .int x1), (2, .int x2)] [] := by
  intro x1 x2 w hf
  unfold fb_X12_weekOrder_0 at hf
  refine jr_iload_n hF dX12_weekOrder_0 1 rfl rfl ?_
  by_cases c3 : x1 = 6
  · rw [if_pos c3] at hf
    refine jr_tableIn (off := 83) (tgt := 84) hF dX12_weekOrder_1 (by rw [c3]; decide) (by rw [c3]; decide) (by rw [c3]; rfl) rfl ?_
    refine jr_aload_n hF dX12_weekOrder_84 0 rfl rfl ?_
    refine jr_iconst (v := 0) hF dX12_weekOrder_85 rfl ?_
    refine jr_iload_n hF dX12_weekOrder_86 2 rfl rfl ?_
    refine jr_iconst (v := 1) hF dX12_weekOrder_87 rfl ?_
    refine jr_iadd hF dX12_weekOrder_88 ?_
    obtain ⟨q1, hq1, hf⟩ := Option.bind_eq_some_iff.mp hf
    refine jr_cV21 hF ml_X12_213 (c_X12_guestTo hT h0 hq1) h0 ⟨Nat.le_of_ble_eq_true rfl, Nat.le_of_ble_eq_true rfl⟩ (Nat.le_of_ble_eq_true rfl) dX12_weekOrder_89 ?_
    refine jr_if_eq (tgt := 110) hF dX12_weekOrder_92 rfl hf (fun hf => ?_) (fun hf => ?_)
    · refine jr_iconst (v := 0) hF dX12_weekOrder_110 rfl ?_
      obtain rfl := Option.some.inj hf
      exact jr_zreturn hF hE (Or.inl rfl) dX12_weekOrder_111
    · refine jr_aload_n hF dX12_weekOrder_95 0 rfl rfl ?_
      refine jr_iconst (v := 0) hF dX12_weekOrder_96 rfl ?_
      refine jr_iload_n hF dX12_weekOrder_97 2 rfl rfl ?_
      refine jr_iconst (v := 1) hF dX12_weekOrder_98 rfl ?_
      refine jr_iadd hF dX12_weekOrder_99 ?_
      obtain ⟨q2, hq2, hf⟩ := Option.bind_eq_some_iff.mp hf
      refine jr_cV21 hF ml_X12_217 (c_X12_otherTo hT h0 hq2) h0 ⟨Nat.le_of_ble_eq_true rfl, Nat.le_of_ble_eq_true rfl⟩ (Nat.le_of_ble_eq_true rfl) dX12_weekOrder_100 ?_
      refine jr_if_eq (tgt := 110) hF dX12_weekOrder_103 rfl hf (fun hf => ?_) (fun hf => ?_)
      · refine jr_iconst (v := 0) hF dX12_weekOrder_110 rfl ?_
        obtain rfl := Option.some.inj hf
        exact jr_zreturn hF hE (Or.inl rfl) dX12_weekOrder_111
      · refine jr_iconst (v := 1) hF dX12_weekOrder_106 rfl ?_
        refine jr_goto (tgt := 111) hF dX12_weekOrder_107 rfl ?_
        obtain rfl := Option.some.inj hf
        exact jr_zreturn hF hE (Or.inr rfl) dX12_weekOrder_111
  rw [if_neg c3] at hf
  by_cases c6 : x1 = 11
  · rw [if_pos c6] at hf
    refine jr_tableIn (off := 63) (tgt := 64) hF dX12_weekOrder_1 (by rw [c6]; decide) (by rw [c6]; decide) (by rw [c6]; rfl) rfl ?_
    refine jr_aload_n hF dX12_weekOrder_64 0 rfl rfl ?_
    refine jr_iload_n hF dX12_weekOrder_65 2 rfl rfl ?_
    refine jr_iconst (v := 1) hF dX12_weekOrder_66 rfl ?_
    refine jr_iadd hF dX12_weekOrder_67 ?_
    refine jr_iconst (v := 1) hF dX12_weekOrder_68 rfl ?_
    refine jr_bipush (v := 20) hF dX12_weekOrder_69 rfl ?_
    obtain ⟨q4, hq4, hf⟩ := Option.bind_eq_some_iff.mp hf
    refine jr_cV31 hF ml_X12_206 (c_X12_number hT h0 hq4) h0 ⟨Nat.le_of_ble_eq_true rfl, Nat.le_of_ble_eq_true rfl⟩ (Nat.le_of_ble_eq_true rfl) dX12_weekOrder_71 ?_
    obtain ⟨b5, hf⟩ := lt_bzE hf
    obtain rfl := Option.some.inj hf
    exact jr_zreturn hF hE b5 dX12_weekOrder_74
  rw [if_neg c6] at hf
  by_cases c7 : x1 = 12
  · rw [if_pos c7] at hf
    refine jr_tableIn (off := 74) (tgt := 75) hF dX12_weekOrder_1 (by rw [c7]; decide) (by rw [c7]; decide) (by rw [c7]; rfl) rfl ?_
    refine jr_sub [0, 2] rfl ?_
    exact jb_X12_weekOrder_75 hT h0 hF hE _ _ hf
  rw [if_neg c7] at hf
  by_cases c8 : x1 = 13
  · rw [if_pos c8] at hf
    refine jr_tableIn (off := 74) (tgt := 75) hF dX12_weekOrder_1 (by rw [c8]; decide) (by rw [c8]; decide) (by rw [c8]; rfl) rfl ?_
    refine jr_sub [0, 2] rfl ?_
    exact jb_X12_weekOrder_75 hT h0 hF hE _ _ hf
  rw [if_neg c8] at hf
  by_cases c11 : x1 = 14
  · rw [if_pos c11] at hf
    refine jr_tableIn (off := 111) (tgt := 112) hF dX12_weekOrder_1 (by rw [c11]; decide) (by rw [c11]; decide) (by rw [c11]; rfl) rfl ?_
    refine jr_aload_n hF dX12_weekOrder_112 0 rfl rfl ?_
    refine jr_iload_n hF dX12_weekOrder_113 2 rfl rfl ?_
    refine jr_iconst (v := 1) hF dX12_weekOrder_114 rfl ?_
    refine jr_iadd hF dX12_weekOrder_115 ?_
    refine jr_iconst (v := 1) hF dX12_weekOrder_116 rfl ?_
    refine jr_bipush (v := 60) hF dX12_weekOrder_117 rfl ?_
    obtain ⟨q9, hq9, hf⟩ := Option.bind_eq_some_iff.mp hf
    refine jr_cV31 hF ml_X12_206 (c_X12_number hT h0 hq9) h0 ⟨Nat.le_of_ble_eq_true rfl, Nat.le_of_ble_eq_true rfl⟩ (Nat.le_of_ble_eq_true rfl) dX12_weekOrder_119 ?_
    obtain ⟨b10, hf⟩ := lt_bzE hf
    obtain rfl := Option.some.inj hf
    exact jr_zreturn hF hE b10 dX12_weekOrder_122
  rw [if_neg c11] at hf
  by_cases c14 : x1 = 16
  · rw [if_pos c14] at hf
    refine jr_tableIn (off := 133) (tgt := 134) hF dX12_weekOrder_1 (by rw [c14]; decide) (by rw [c14]; decide) (by rw [c14]; rfl) rfl ?_
    refine jr_aload_n hF dX12_weekOrder_134 0 rfl rfl ?_
    refine jr_iload_n hF dX12_weekOrder_135 2 rfl rfl ?_
    obtain ⟨q12, hq12, hf⟩ := Option.bind_eq_some_iff.mp hf
    refine jr_cV11 hF ml_X12_251 (c_X12_test hT h0 hq12) h0 ⟨Nat.le_of_ble_eq_true rfl, Nat.le_of_ble_eq_true rfl⟩ (Nat.le_of_ble_eq_true rfl) dX12_weekOrder_136 ?_
    obtain ⟨b13, hf⟩ := lt_bzE hf
    obtain rfl := Option.some.inj hf
    exact jr_zreturn hF hE b13 dX12_weekOrder_139
  rw [if_neg c14] at hf
  by_cases c17 : x1 = 17
  · rw [if_pos c17] at hf
    refine jr_tableIn (off := 122) (tgt := 123) hF dX12_weekOrder_1 (by rw [c17]; decide) (by rw [c17]; decide) (by rw [c17]; rfl) rfl ?_
    refine jr_aload_n hF dX12_weekOrder_123 0 rfl rfl ?_
    refine jr_iload_n hF dX12_weekOrder_124 2 rfl rfl ?_
    refine jr_iconst (v := 1) hF dX12_weekOrder_125 rfl ?_
    refine jr_iadd hF dX12_weekOrder_126 ?_
    refine jr_iconst (v := 1) hF dX12_weekOrder_127 rfl ?_
    refine jr_bipush (v := 99) hF dX12_weekOrder_128 rfl ?_
    obtain ⟨q15, hq15, hf⟩ := Option.bind_eq_some_iff.mp hf
    refine jr_cV31 hF ml_X12_206 (c_X12_number hT h0 hq15) h0 ⟨Nat.le_of_ble_eq_true rfl, Nat.le_of_ble_eq_true rfl⟩ (Nat.le_of_ble_eq_true rfl) dX12_weekOrder_130 ?_
    obtain ⟨b16, hf⟩ := lt_bzE hf
    obtain rfl := Option.some.inj hf
    exact jr_zreturn hF hE b16 dX12_weekOrder_133
  rw [if_neg c17] at hf
  by_cases c18 : x1 = 7
  · refine jr_tableIn (off := 139) (tgt := 140) hF dX12_weekOrder_1 (by rw [c18]; decide) (by rw [c18]; decide) (by rw [c18]; rfl) rfl ?_
    refine jr_iconst (v := 1) hF dX12_weekOrder_140 rfl ?_
    obtain rfl := Option.some.inj hf
    exact jr_zreturn hF hE (Or.inr rfl) dX12_weekOrder_141
  by_cases c19 : x1 = 8
  · refine jr_tableIn (off := 139) (tgt := 140) hF dX12_weekOrder_1 (by rw [c19]; decide) (by rw [c19]; decide) (by rw [c19]; rfl) rfl ?_
    refine jr_iconst (v := 1) hF dX12_weekOrder_140 rfl ?_
    obtain rfl := Option.some.inj hf
    exact jr_zreturn hF hE (Or.inr rfl) dX12_weekOrder_141
  by_cases c20 : x1 = 9
  · refine jr_tableIn (off := 139) (tgt := 140) hF dX12_weekOrder_1 (by rw [c20]; decide) (by rw [c20]; decide) (by rw [c20]; rfl) rfl ?_
    refine jr_iconst (v := 1) hF dX12_weekOrder_140 rfl ?_
    obtain rfl := Option.some.inj hf
    exact jr_zreturn hF hE (Or.inr rfl) dX12_weekOrder_141
  by_cases c21 : x1 = 10
  · refine jr_tableIn (off := 139) (tgt := 140) hF dX12_weekOrder_1 (by rw [c21]; decide) (by rw [c21]; decide) (by rw [c21]; rfl) rfl ?_
    refine jr_iconst (v := 1) hF dX12_weekOrder_140 rfl ?_
    obtain rfl := Option.some.inj hf
    exact jr_zreturn hF hE (Or.inr rfl) dX12_weekOrder_141
  by_cases c22 : x1 = 15
  · refine jr_tableIn (off := 139) (tgt := 140) hF dX12_weekOrder_1 (by rw [c22]; decide) (by rw [c22]; decide) (by rw [c22]; rfl) rfl ?_
    refine jr_iconst (v := 1) hF dX12_weekOrder_140 rfl ?_
    obtain rfl := Option.some.inj hf
    exact jr_zreturn hF hE (Or.inr rfl) dX12_weekOrder_141
  refine jr_tableOut (tgt := 140) hF dX12_weekOrder_1 (lt_swd fun kk h1 h2 => by rcases (show kk = 6 ∨ kk = 11 ∨ kk = 12 ∨ kk = 13 ∨ kk = 14 ∨ kk = 16 ∨ kk = 17 ∨ kk = 7 ∨ kk = 8 ∨ kk = 9 ∨ kk = 10 ∨ kk = 15 by omega) with rfl | rfl | rfl | rfl | rfl | rfl | rfl | rfl | rfl | rfl | rfl | rfl <;> first | exact c3 | exact c6 | exact c7 | exact c8 | exact c11 | exact c14 | exact c17 | exact c18 | exact c19 | exact c20 | exact c21 | exact c22) rfl ?_
  refine jr_iconst (v := 1) hF dX12_weekOrder_140 rfl ?_
  obtain rfl := Option.some.inj hf
  exact jr_zreturn hF hE (Or.inr rfl) dX12_weekOrder_141
def f_X12_weekOrder (σ : lt_S) (o : Nat) (x1 : Int32) (x2 : Int32) (w : lt_W) : Option (Int32 × lt_W) := fb_X12_weekOrder_0 σ o x1 x2 w
set_option maxRecDepth 100000 in
theorem c_X12_weekOrder {l : Launch} {D : va_G} {gA : Nat → ClassId} {s0 : State} {σ : lt_S} (hT : lt_Wt σ) {o : Nat} (h0 : lt_c σ o = 12) {x1 : Int32} {x2 : Int32} {w : lt_W} {r : Int32 × lt_W} (hf : f_X12_weekOrder σ o x1 x2 w = some r) : lt_C l D gA s0 yX12_weekOrder cX12_weekOrder 3 (some .boolean) (lt_rm 11) [.ref (s0.heap.size + o), .int x1, .int x2] σ w σ (some (.int r.1)) r.2 := by
  refine lt_enter rfl (Nat.le_of_ble_eq_true rfl) (fun X e1 e2 e3 e4 hF hE => ?_)
  subst e1 e2 e3 e4
  exact jb_X12_weekOrder_0 hT h0 hF hE _ _ _ hf

set_option maxRecDepth 100000 in
def fb_X12_weekStep_87 (σ : lt_S) (o : Nat) (w : lt_W) : Option (Int32 × lt_W) := Option.bind (f_X12_fails σ o 2 w) (fun q1 => lt_bz q1.1 (some (q1.1, q1.2)))
set_option maxHeartbeats 4000000 in
set_option maxRecDepth 100000 in
theorem jb_X12_weekStep_87 {X : lt_X} {σ : lt_S} (hT : lt_Wt σ) {o : Nat} (h0 : lt_c σ o = 12) {r : Int32 × lt_W} (hF : lt_F X cX12_weekStep RX12 7 (lt_rm 12)) (hE : lt_E X 0 0 σ (some .boolean) (some (.int r.1)) r.2) : ∀ (w : lt_W), fb_X12_weekStep_87 σ o w = some r → lt_J X 0 0 σ w 87 [(0, .ref (lt_z X + o))] [] := by
  intro w hf
  unfold fb_X12_weekStep_87 at hf
  refine jr_aload_n hF dX12_weekStep_87 0 rfl rfl ?_
  refine jr_iconst (v := 2) hF dX12_weekStep_88 rfl ?_
  obtain ⟨q1, hq1, hf⟩ := Option.bind_eq_some_iff.mp hf
  refine jr_cV11 hF ml_X12_179 (c_X12_fails h0 hq1) h0 ⟨Nat.le_of_ble_eq_true rfl, Nat.le_of_ble_eq_true rfl⟩ (Nat.le_of_ble_eq_true rfl) dX12_weekStep_89 ?_
  obtain ⟨b2, hf⟩ := lt_bzE hf
  obtain rfl := Option.some.inj hf
  exact jr_zreturn hF hE b2 dX12_weekStep_92
set_option maxRecDepth 100000 in
def fb_X12_weekStep_297 (σ : lt_S) (o : Nat) (w : lt_W) : Option (Int32 × lt_W) := Option.bind (f_X12_wantSign σ o 59 w) (fun q1 => lt_bz q1.1 (some (q1.1, q1.2)))
set_option maxHeartbeats 4000000 in
set_option maxRecDepth 100000 in
theorem jb_X12_weekStep_297 {X : lt_X} {σ : lt_S} (hT : lt_Wt σ) {o : Nat} (h0 : lt_c σ o = 12) {r : Int32 × lt_W} (hF : lt_F X cX12_weekStep RX12 7 (lt_rm 12)) (hE : lt_E X 0 0 σ (some .boolean) (some (.int r.1)) r.2) : ∀ (w : lt_W), fb_X12_weekStep_297 σ o w = some r → lt_J X 0 0 σ w 297 [(0, .ref (lt_z X + o))] [] := by
  intro w hf
  unfold fb_X12_weekStep_297 at hf
  refine jr_aload_n hF dX12_weekStep_297 0 rfl rfl ?_
  refine jr_bipush (v := 59) hF dX12_weekStep_298 rfl ?_
  obtain ⟨q1, hq1, hf⟩ := Option.bind_eq_some_iff.mp hf
  refine jr_cV11 hF ml_X12_224 (c_X12_wantSign hT h0 hq1) h0 ⟨Nat.le_of_ble_eq_true rfl, Nat.le_of_ble_eq_true rfl⟩ (Nat.le_of_ble_eq_true rfl) dX12_weekStep_300 ?_
  obtain ⟨b2, hf⟩ := lt_bzE hf
  obtain rfl := Option.some.inj hf
  exact jr_zreturn hF hE b2 dX12_weekStep_303
set_option maxRecDepth 100000 in
def fb_X12_weekStep_240 (σ : lt_S) (o : Nat) (x1 : Int32) (x2 : Int32) (x3 : Int32) (w : lt_W) : Option (Int32 × lt_W) := if x1 = 18 then lt_let (lt_si w o 22 ((lt_gi w o 22) - 1)) (fun w1 => lt_ck (lt_gi w1 o 22) (lt_len σ (lt_r σ o 21)) (lt_ck (x3 + 4) (lt_len σ (lt_r σ o 0)) (lt_let (lt_si w1 (lt_r σ o 0) (x3 + 4).toNatClampNeg (lt_gi w1 (lt_r σ o 21) (lt_gi w1 o 22).toNatClampNeg)) (fun w4 => lt_ck (lt_gi w4 o 22) (lt_len σ (lt_r σ o 21)) (lt_ck ((1772 + (6 * (lt_gi w4 (lt_r σ o 21) (lt_gi w4 o 22).toNatClampNeg))) + 4) (lt_len σ (lt_r σ o 0)) (lt_let (lt_si w4 (lt_r σ o 0) ((1772 + (6 * (lt_gi w4 (lt_r σ o 21) (lt_gi w4 o 22).toNatClampNeg))) + 4).toNatClampNeg x2) (fun w7 => fb_X12_weekStep_297 σ o w7))))))) else fb_X12_weekStep_297 σ o w
set_option maxHeartbeats 4000000 in
set_option maxRecDepth 100000 in
theorem jb_X12_weekStep_240 {X : lt_X} {σ : lt_S} (hT : lt_Wt σ) {o : Nat} (h0 : lt_c σ o = 12) {r : Int32 × lt_W} (hF : lt_F X cX12_weekStep RX12 7 (lt_rm 12)) (hE : lt_E X 0 0 σ (some .boolean) (some (.int r.1)) r.2) : ∀ (x1 : Int32) (x2 : Int32) (x3 : Int32) (w : lt_W), fb_X12_weekStep_240 σ o x1 x2 x3 w = some r → lt_J X 0 0 σ w 240 [(0, .ref (lt_z X + o)), (1, .int x1), (2, .int x2), (3, .int x3)] [] := by
  intro x1 x2 x3 w hf
  unfold fb_X12_weekStep_240 at hf
  refine jr_iload_n hF dX12_weekStep_240 1 rfl rfl ?_
  refine jr_bipush (v := 18) hF dX12_weekStep_241 rfl ?_
  refine jr_icmp_ne (tgt := 297) hF dX12_weekStep_243 rfl hf (fun hf => ?_) (fun hf => ?_)
  · refine jr_sub [0] rfl ?_
    exact jb_X12_weekStep_297 hT h0 hF hE _ hf
  · refine jr_aload_n hF dX12_weekStep_246 0 rfl rfl ?_
    refine jr_dup hF dX12_weekStep_247 rfl ?_
    refine jr_getI hF gf_X12_254 h0 dX12_weekStep_248 ?_
    refine jr_iconst (v := 1) hF dX12_weekStep_251 rfl ?_
    refine jr_isub hF dX12_weekStep_252 ?_
    refine jr_putI hF pf_X12_254 h0 dX12_weekStep_253 ?_
    refine jr_letW hf (fun w1 hf => ?_)
    refine jr_aload_n hF dX12_weekStep_256 0 rfl rfl ?_
    refine jr_getRT (cr := 50) hF gf_X12_7 hT h0 rfl rfl dX12_weekStep_257 (fun th2 => ?_)
    refine jr_iload_n hF dX12_weekStep_260 3 rfl rfl ?_
    refine jr_iconst (v := 4) hF dX12_weekStep_261 rfl ?_
    refine jr_iadd hF dX12_weekStep_262 ?_
    refine jr_aload_n hF dX12_weekStep_263 0 rfl rfl ?_
    refine jr_getRT (cr := 50) hF gf_X12_44 hT h0 rfl rfl dX12_weekStep_264 (fun th3 => ?_)
    refine jr_aload_n hF dX12_weekStep_267 0 rfl rfl ?_
    refine jr_getI hF gf_X12_254 h0 dX12_weekStep_268 ?_
    refine jr_iaload hF th3 dX12_weekStep_271 hf (fun hf => ?_)
    refine jr_iastore hF th2 dX12_weekStep_272 hf (fun hf => ?_)
    refine jr_letW hf (fun w4 hf => ?_)
    refine jr_aload_n hF dX12_weekStep_273 0 rfl rfl ?_
    refine jr_getRT (cr := 50) hF gf_X12_7 hT h0 rfl rfl dX12_weekStep_274 (fun th5 => ?_)
    refine jr_sipush (v := 1772) hF dX12_weekStep_277 rfl ?_
    refine jr_bipush (v := 6) hF dX12_weekStep_280 rfl ?_
    refine jr_aload_n hF dX12_weekStep_282 0 rfl rfl ?_
    refine jr_getRT (cr := 50) hF gf_X12_44 hT h0 rfl rfl dX12_weekStep_283 (fun th6 => ?_)
    refine jr_aload_n hF dX12_weekStep_286 0 rfl rfl ?_
    refine jr_getI hF gf_X12_254 h0 dX12_weekStep_287 ?_
    refine jr_iaload hF th6 dX12_weekStep_290 hf (fun hf => ?_)
    refine jr_imul hF dX12_weekStep_291 ?_
    refine jr_iadd hF dX12_weekStep_292 ?_
    refine jr_iconst (v := 4) hF dX12_weekStep_293 rfl ?_
    refine jr_iadd hF dX12_weekStep_294 ?_
    refine jr_iload_n hF dX12_weekStep_295 2 rfl rfl ?_
    refine jr_iastore hF th5 dX12_weekStep_296 hf (fun hf => ?_)
    refine jr_letW hf (fun w7 hf => ?_)
    refine jr_sub [0] rfl ?_
    exact jb_X12_weekStep_297 hT h0 hF hE _ hf
set_option maxRecDepth 100000 in
def fb_X12_weekStep_165 (σ : lt_S) (o : Nat) : Nat → Int32 → Int32 → Int32 → Int32 → Int32 → lt_W → Option (Int32 × lt_W)
  | 0, _, _, _, _, _, _ => none
  | n + 1, x1, x2, x3, x4, x6, w => if 6 ≤ x6 then lt_ck 1720 (lt_len σ (lt_r σ o 0)) (lt_ck 1720 (lt_len σ (lt_r σ o 0)) (lt_let (lt_si w (lt_r σ o 0) (1720 : Int32).toNatClampNeg ((lt_gi w (lt_r σ o 0) (1720 : Int32).toNatClampNeg) + 1)) (fun w2 => Option.bind (f_X12_ahead σ o w2) (fun q3 => Option.bind (f_X12_weekOrder σ o x1 x3 q3) (fun q4 => if q4.1 = 0 then some (0, q4.2) else if x4 = 0 then fb_X12_weekStep_240 σ o x1 x2 x3 q4.2 else lt_ck (lt_gi q4.2 o 22) (lt_len σ (lt_r σ o 21)) (lt_let (lt_si q4.2 (lt_r σ o 21) (lt_gi q4.2 o 22).toNatClampNeg x2) (fun w6 => lt_let (lt_si w6 o 22 ((lt_gi w6 o 22) + 1)) (fun w7 => fb_X12_weekStep_240 σ o x1 x2 x3 w7)))))))) else lt_ck (x3 + x6) (lt_len σ (lt_r σ o 0)) (lt_let (lt_si w (lt_r σ o 0) (x3 + x6).toNatClampNeg 0) (fun w9 => fb_X12_weekStep_165 σ o n x1 x2 x3 x4 (x6 + 1) w9))
set_option maxHeartbeats 4000000 in
set_option maxRecDepth 100000 in
theorem jb_X12_weekStep_165 {X : lt_X} {σ : lt_S} (hT : lt_Wt σ) {o : Nat} (h0 : lt_c σ o = 12) {r : Int32 × lt_W} (hF : lt_F X cX12_weekStep RX12 7 (lt_rm 12)) (hE : lt_E X 0 0 σ (some .boolean) (some (.int r.1)) r.2) (n : Nat) : ∀ (x1 : Int32) (x2 : Int32) (x3 : Int32) (x4 : Int32) (x6 : Int32) (w : lt_W), fb_X12_weekStep_165 σ o n x1 x2 x3 x4 x6 w = some r → lt_J X 0 0 σ w 165 [(0, .ref (lt_z X + o)), (1, .int x1), (2, .int x2), (3, .int x3), (4, .int x4), (6, .int x6)] [] := by
  induction n with
  | zero => intro x1 x2 x3 x4 x6 w hf; rw [fb_X12_weekStep_165] at hf; cases hf
  | succ n ih =>
    intro x1 x2 x3 x4 x6 w hf
    rw [fb_X12_weekStep_165] at hf
    refine jr_iload hF dX12_weekStep_165 5 rfl ?_
    refine jr_bipush (v := 6) hF dX12_weekStep_167 rfl ?_
    refine jr_icmp_ge (tgt := 188) hF dX12_weekStep_169 rfl hf (fun hf => ?_) (fun hf => ?_)
    · refine jr_aload_n hF dX12_weekStep_188 0 rfl rfl ?_
      refine jr_getRT (cr := 50) hF gf_X12_7 hT h0 rfl rfl dX12_weekStep_189 (fun th1 => ?_)
      refine jr_sipush (v := 1720) hF dX12_weekStep_192 rfl ?_
      refine jr_dup2 hF dX12_weekStep_195 rfl rfl ?_
      refine jr_iaload hF th1 dX12_weekStep_196 hf (fun hf => ?_)
      refine jr_iconst (v := 1) hF dX12_weekStep_197 rfl ?_
      refine jr_iadd hF dX12_weekStep_198 ?_
      refine jr_iastore hF th1 dX12_weekStep_199 hf (fun hf => ?_)
      refine jr_letW hf (fun w2 hf => ?_)
      refine jr_aload_n hF dX12_weekStep_200 0 rfl rfl ?_
      obtain ⟨q3, hq3, hf⟩ := Option.bind_eq_some_iff.mp hf
      refine jr_cV0v hF ml_X12_173 (c_X12_ahead hT h0 hq3) h0 ⟨Nat.le_of_ble_eq_true rfl, Nat.le_of_ble_eq_true rfl⟩ (Nat.le_of_ble_eq_true rfl) dX12_weekStep_201 ?_
      refine jr_aload_n hF dX12_weekStep_204 0 rfl rfl ?_
      refine jr_iload_n hF dX12_weekStep_205 1 rfl rfl ?_
      refine jr_iload_n hF dX12_weekStep_206 3 rfl rfl ?_
      obtain ⟨q4, hq4, hf⟩ := Option.bind_eq_some_iff.mp hf
      refine jr_cV21 hF ml_X12_260 (c_X12_weekOrder hT h0 hq4) h0 ⟨Nat.le_of_ble_eq_true rfl, Nat.le_of_ble_eq_true rfl⟩ (Nat.le_of_ble_eq_true rfl) dX12_weekStep_207 ?_
      refine jr_if_ne (tgt := 215) hF dX12_weekStep_210 rfl hf (fun hf => ?_) (fun hf => ?_)
      · refine jr_iload hF dX12_weekStep_215 4 rfl ?_
        refine jr_if_eq (tgt := 240) hF dX12_weekStep_217 rfl hf (fun hf => ?_) (fun hf => ?_)
        · refine jr_sub [0, 1, 2, 3] rfl ?_
          exact jb_X12_weekStep_240 hT h0 hF hE _ _ _ _ hf
        · refine jr_aload_n hF dX12_weekStep_220 0 rfl rfl ?_
          refine jr_getRT (cr := 50) hF gf_X12_44 hT h0 rfl rfl dX12_weekStep_221 (fun th5 => ?_)
          refine jr_aload_n hF dX12_weekStep_224 0 rfl rfl ?_
          refine jr_getI hF gf_X12_254 h0 dX12_weekStep_225 ?_
          refine jr_iload_n hF dX12_weekStep_228 2 rfl rfl ?_
          refine jr_iastore hF th5 dX12_weekStep_229 hf (fun hf => ?_)
          refine jr_letW hf (fun w6 hf => ?_)
          refine jr_aload_n hF dX12_weekStep_230 0 rfl rfl ?_
          refine jr_dup hF dX12_weekStep_231 rfl ?_
          refine jr_getI hF gf_X12_254 h0 dX12_weekStep_232 ?_
          refine jr_iconst (v := 1) hF dX12_weekStep_235 rfl ?_
          refine jr_iadd hF dX12_weekStep_236 ?_
          refine jr_putI hF pf_X12_254 h0 dX12_weekStep_237 ?_
          refine jr_letW hf (fun w7 hf => ?_)
          refine jr_sub [0, 1, 2, 3] rfl ?_
          exact jb_X12_weekStep_240 hT h0 hF hE _ _ _ _ hf
      · refine jr_iconst (v := 0) hF dX12_weekStep_213 rfl ?_
        obtain rfl := Option.some.inj hf
        exact jr_zreturn hF hE (Or.inl rfl) dX12_weekStep_214
    · refine jr_aload_n hF dX12_weekStep_172 0 rfl rfl ?_
      refine jr_getRT (cr := 50) hF gf_X12_7 hT h0 rfl rfl dX12_weekStep_173 (fun th8 => ?_)
      refine jr_iload_n hF dX12_weekStep_176 3 rfl rfl ?_
      refine jr_iload hF dX12_weekStep_177 5 rfl ?_
      refine jr_iadd hF dX12_weekStep_179 ?_
      refine jr_iconst (v := 0) hF dX12_weekStep_180 rfl ?_
      refine jr_iastore hF th8 dX12_weekStep_181 hf (fun hf => ?_)
      refine jr_letW hf (fun w9 hf => ?_)
      refine jr_iinc (v := x6 + 1) (lv' := [(0, .ref (lt_z X + o)), (1, .int x1), (2, .int x2), (3, .int x3), (4, .int x4), (6, .int (x6 + 1))]) hF dX12_weekStep_182 5 rfl rfl (by decide) [1, 2, 3, 4, 5, 0] rfl ?_
      refine jr_goto (tgt := 165) hF dX12_weekStep_185 rfl ?_
      exact ih _ _ _ _ _ _ hf
set_option maxRecDepth 100000 in
def fb_X12_weekStep_151 (σ : lt_S) (o : Nat) (x1 : Int32) (x2 : Int32) (x3 : Int32) (x4 : Int32) (y1 : Int32) (y2 : Int32) (w : lt_W) : Option (Int32 × lt_W) := lt_let (lt_si w o 23 (y1 + y2)) (fun w1 => lt_ck x3 (lt_len σ (lt_r σ o 0)) (lt_let (lt_si w1 (lt_r σ o 0) x3.toNatClampNeg x1) (fun w3 => fb_X12_weekStep_165 σ o lt_fu x1 x2 x3 x4 1 w3)))
set_option maxHeartbeats 4000000 in
set_option maxRecDepth 100000 in
theorem jb_X12_weekStep_151 {X : lt_X} {σ : lt_S} (hT : lt_Wt σ) {o : Nat} (h0 : lt_c σ o = 12) {r : Int32 × lt_W} (hF : lt_F X cX12_weekStep RX12 7 (lt_rm 12)) (hE : lt_E X 0 0 σ (some .boolean) (some (.int r.1)) r.2) : ∀ (x1 : Int32) (x2 : Int32) (x3 : Int32) (x4 : Int32) (y1 : Int32) (y2 : Int32) (w : lt_W), fb_X12_weekStep_151 σ o x1 x2 x3 x4 y1 y2 w = some r → lt_J X 0 0 σ w 151 [(0, .ref (lt_z X + o)), (1, .int x1), (2, .int x2), (3, .int x3), (4, .int x4)] [.int y2, .int y1, .ref (lt_z X + o)] := by
  intro x1 x2 x3 x4 y1 y2 w hf
  unfold fb_X12_weekStep_151 at hf
  refine jr_iadd hF dX12_weekStep_151 ?_
  refine jr_putI hF pf_X12_257 h0 dX12_weekStep_152 ?_
  refine jr_letW hf (fun w1 hf => ?_)
  refine jr_aload_n hF dX12_weekStep_155 0 rfl rfl ?_
  refine jr_getRT (cr := 50) hF gf_X12_7 hT h0 rfl rfl dX12_weekStep_156 (fun th2 => ?_)
  refine jr_iload_n hF dX12_weekStep_159 3 rfl rfl ?_
  refine jr_iload_n hF dX12_weekStep_160 1 rfl rfl ?_
  refine jr_iastore hF th2 dX12_weekStep_161 hf (fun hf => ?_)
  refine jr_letW hf (fun w3 hf => ?_)
  refine jr_iconst (v := 1) hF dX12_weekStep_162 rfl ?_
  refine jr_istore (lv' := [(0, .ref (lt_z X + o)), (1, .int x1), (2, .int x2), (3, .int x3), (4, .int x4), (6, .int 1)]) hF dX12_weekStep_163 (by decide) [1, 2, 3, 4, 5, 0] rfl ?_
  exact jb_X12_weekStep_165 hT h0 hF hE lt_fu _ _ _ _ _ _ hf
set_option maxRecDepth 100000 in
def fb_X12_weekStep_135 (σ : lt_S) (o : Nat) (x1 : Int32) (x2 : Int32) (x3 : Int32) (x4 : Int32) (w : lt_W) : Option (Int32 × lt_W) := if x1 = 18 then fb_X12_weekStep_151 σ o x1 x2 x3 x4 (lt_gi w o 23) 0 w else fb_X12_weekStep_151 σ o x1 x2 x3 x4 (lt_gi w o 23) 1 w
set_option maxHeartbeats 4000000 in
set_option maxRecDepth 100000 in
theorem jb_X12_weekStep_135 {X : lt_X} {σ : lt_S} (hT : lt_Wt σ) {o : Nat} (h0 : lt_c σ o = 12) {r : Int32 × lt_W} (hF : lt_F X cX12_weekStep RX12 7 (lt_rm 12)) (hE : lt_E X 0 0 σ (some .boolean) (some (.int r.1)) r.2) : ∀ (x1 : Int32) (x2 : Int32) (x3 : Int32) (x4 : Int32) (w : lt_W), fb_X12_weekStep_135 σ o x1 x2 x3 x4 w = some r → lt_J X 0 0 σ w 135 [(0, .ref (lt_z X + o)), (1, .int x1), (2, .int x2), (3, .int x3), (4, .int x4)] [] := by
  intro x1 x2 x3 x4 w hf
  unfold fb_X12_weekStep_135 at hf
  refine jr_aload_n hF dX12_weekStep_135 0 rfl rfl ?_
  refine jr_dup hF dX12_weekStep_136 rfl ?_
  refine jr_getI hF gf_X12_257 h0 dX12_weekStep_137 ?_
  refine jr_iload_n hF dX12_weekStep_140 1 rfl rfl ?_
  refine jr_bipush (v := 18) hF dX12_weekStep_141 rfl ?_
  refine jr_icmp_ne (tgt := 150) hF dX12_weekStep_143 rfl hf (fun hf => ?_) (fun hf => ?_)
  · refine jr_iconst (v := 1) hF dX12_weekStep_150 rfl ?_
    exact jb_X12_weekStep_151 hT h0 hF hE _ _ _ _ _ _ _ hf
  · refine jr_iconst (v := 0) hF dX12_weekStep_146 rfl ?_
    refine jr_goto (tgt := 151) hF dX12_weekStep_147 rfl ?_
    exact jb_X12_weekStep_151 hT h0 hF hE _ _ _ _ _ _ _ hf
set_option maxRecDepth 100000 in
def fb_X12_weekStep_115 (σ : lt_S) (o : Nat) (x1 : Int32) (x2 : Int32) (x3 : Int32) (x4 : Int32) (w : lt_W) : Option (Int32 × lt_W) := if x4 = 0 then fb_X12_weekStep_135 σ o x1 x2 x3 x4 w else if (lt_gi w o 22) = 3 then Option.bind (f_X12_fails σ o 7 w) (fun q1 => lt_bz q1.1 (some (q1.1, q1.2))) else fb_X12_weekStep_135 σ o x1 x2 x3 x4 w
set_option maxHeartbeats 4000000 in
set_option maxRecDepth 100000 in
theorem jb_X12_weekStep_115 {X : lt_X} {σ : lt_S} (hT : lt_Wt σ) {o : Nat} (h0 : lt_c σ o = 12) {r : Int32 × lt_W} (hF : lt_F X cX12_weekStep RX12 7 (lt_rm 12)) (hE : lt_E X 0 0 σ (some .boolean) (some (.int r.1)) r.2) : ∀ (x1 : Int32) (x2 : Int32) (x3 : Int32) (x4 : Int32) (w : lt_W), fb_X12_weekStep_115 σ o x1 x2 x3 x4 w = some r → lt_J X 0 0 σ w 115 [(0, .ref (lt_z X + o)), (1, .int x1), (2, .int x2), (3, .int x3), (4, .int x4)] [] := by
  intro x1 x2 x3 x4 w hf
  unfold fb_X12_weekStep_115 at hf
  refine jr_iload hF dX12_weekStep_115 4 rfl ?_
  refine jr_if_eq (tgt := 135) hF dX12_weekStep_117 rfl hf (fun hf => ?_) (fun hf => ?_)
  · exact jb_X12_weekStep_135 hT h0 hF hE _ _ _ _ _ hf
  · refine jr_aload_n hF dX12_weekStep_120 0 rfl rfl ?_
    refine jr_getI hF gf_X12_254 h0 dX12_weekStep_121 ?_
    refine jr_iconst (v := 3) hF dX12_weekStep_124 rfl ?_
    refine jr_icmp_ne (tgt := 135) hF dX12_weekStep_125 rfl hf (fun hf => ?_) (fun hf => ?_)
    · exact jb_X12_weekStep_135 hT h0 hF hE _ _ _ _ _ hf
    · refine jr_aload_n hF dX12_weekStep_128 0 rfl rfl ?_
      refine jr_bipush (v := 7) hF dX12_weekStep_129 rfl ?_
      obtain ⟨q1, hq1, hf⟩ := Option.bind_eq_some_iff.mp hf
      refine jr_cV11 hF ml_X12_179 (c_X12_fails h0 hq1) h0 ⟨Nat.le_of_ble_eq_true rfl, Nat.le_of_ble_eq_true rfl⟩ (Nat.le_of_ble_eq_true rfl) dX12_weekStep_131 ?_
      obtain ⟨b2, hf⟩ := lt_bzE hf
      obtain rfl := Option.some.inj hf
      exact jr_zreturn hF hE b2 dX12_weekStep_134
set_option maxRecDepth 100000 in
def fb_X12_weekStep_93 (σ : lt_S) (o : Nat) (x1 : Int32) (x2 : Int32) (x3 : Int32) (x4 : Int32) (w : lt_W) : Option (Int32 × lt_W) := if x1 = 18 then fb_X12_weekStep_115 σ o x1 x2 x3 x4 w else if (lt_gi w o 23) = 30 then Option.bind (f_X12_fails σ o 6 w) (fun q1 => lt_bz q1.1 (some (q1.1, q1.2))) else fb_X12_weekStep_115 σ o x1 x2 x3 x4 w
set_option maxHeartbeats 4000000 in
set_option maxRecDepth 100000 in
theorem jb_X12_weekStep_93 {X : lt_X} {σ : lt_S} (hT : lt_Wt σ) {o : Nat} (h0 : lt_c σ o = 12) {r : Int32 × lt_W} (hF : lt_F X cX12_weekStep RX12 7 (lt_rm 12)) (hE : lt_E X 0 0 σ (some .boolean) (some (.int r.1)) r.2) : ∀ (x1 : Int32) (x2 : Int32) (x3 : Int32) (x4 : Int32) (w : lt_W), fb_X12_weekStep_93 σ o x1 x2 x3 x4 w = some r → lt_J X 0 0 σ w 93 [(0, .ref (lt_z X + o)), (1, .int x1), (2, .int x2), (3, .int x3), (4, .int x4)] [] := by
  intro x1 x2 x3 x4 w hf
  unfold fb_X12_weekStep_93 at hf
  refine jr_iload_n hF dX12_weekStep_93 1 rfl rfl ?_
  refine jr_bipush (v := 18) hF dX12_weekStep_94 rfl ?_
  refine jr_icmp_eq (tgt := 115) hF dX12_weekStep_96 rfl hf (fun hf => ?_) (fun hf => ?_)
  · exact jb_X12_weekStep_115 hT h0 hF hE _ _ _ _ _ hf
  · refine jr_aload_n hF dX12_weekStep_99 0 rfl rfl ?_
    refine jr_getI hF gf_X12_257 h0 dX12_weekStep_100 ?_
    refine jr_bipush (v := 30) hF dX12_weekStep_103 rfl ?_
    refine jr_icmp_ne (tgt := 115) hF dX12_weekStep_105 rfl hf (fun hf => ?_) (fun hf => ?_)
    · exact jb_X12_weekStep_115 hT h0 hF hE _ _ _ _ _ hf
    · refine jr_aload_n hF dX12_weekStep_108 0 rfl rfl ?_
      refine jr_bipush (v := 6) hF dX12_weekStep_109 rfl ?_
      obtain ⟨q1, hq1, hf⟩ := Option.bind_eq_some_iff.mp hf
      refine jr_cV11 hF ml_X12_179 (c_X12_fails h0 hq1) h0 ⟨Nat.le_of_ble_eq_true rfl, Nat.le_of_ble_eq_true rfl⟩ (Nat.le_of_ble_eq_true rfl) dX12_weekStep_111 ?_
      obtain ⟨b2, hf⟩ := lt_bzE hf
      obtain rfl := Option.some.inj hf
      exact jr_zreturn hF hE b2 dX12_weekStep_114
set_option maxRecDepth 100000 in
def fb_X12_weekStep_67 (σ : lt_S) (o : Nat) (x1 : Int32) (x2 : Int32) (x3 : Int32) (x4 : Int32) (y0 : Int32) (w : lt_W) : Option (Int32 × lt_W) := if y0 = 0 then fb_X12_weekStep_87 σ o w else if x1 = 18 then if (lt_gi w o 22) = 0 then fb_X12_weekStep_87 σ o w else fb_X12_weekStep_93 σ o x1 x2 x3 x4 w else fb_X12_weekStep_93 σ o x1 x2 x3 x4 w
set_option maxHeartbeats 4000000 in
set_option maxRecDepth 100000 in
theorem jb_X12_weekStep_67 {X : lt_X} {σ : lt_S} (hT : lt_Wt σ) {o : Nat} (h0 : lt_c σ o = 12) {r : Int32 × lt_W} (hF : lt_F X cX12_weekStep RX12 7 (lt_rm 12)) (hE : lt_E X 0 0 σ (some .boolean) (some (.int r.1)) r.2) : ∀ (x1 : Int32) (x2 : Int32) (x3 : Int32) (x4 : Int32) (y0 : Int32) (w : lt_W), fb_X12_weekStep_67 σ o x1 x2 x3 x4 y0 w = some r → lt_J X 0 0 σ w 67 [(0, .ref (lt_z X + o)), (1, .int x1), (2, .int x2), (3, .int x3), (4, .int x4)] [.int y0] := by
  intro x1 x2 x3 x4 y0 w hf
  unfold fb_X12_weekStep_67 at hf
  refine jr_istore (lv' := [(0, .ref (lt_z X + o)), (1, .int x1), (2, .int x2), (3, .int x3), (4, .int x4), (5, .int y0)]) hF dX12_weekStep_67 (by decide) [1, 2, 3, 4, 5, 0] rfl ?_
  refine jr_iload hF dX12_weekStep_69 5 rfl ?_
  refine jr_if_eq (tgt := 87) hF dX12_weekStep_71 rfl hf (fun hf => ?_) (fun hf => ?_)
  · refine jr_sub [0] rfl ?_
    exact jb_X12_weekStep_87 hT h0 hF hE _ hf
  · refine jr_iload_n hF dX12_weekStep_74 1 rfl rfl ?_
    refine jr_bipush (v := 18) hF dX12_weekStep_75 rfl ?_
    refine jr_icmp_ne (tgt := 93) hF dX12_weekStep_77 rfl hf (fun hf => ?_) (fun hf => ?_)
    · refine jr_sub [0, 1, 2, 3, 4] rfl ?_
      exact jb_X12_weekStep_93 hT h0 hF hE _ _ _ _ _ hf
    · refine jr_aload_n hF dX12_weekStep_80 0 rfl rfl ?_
      refine jr_getI hF gf_X12_254 h0 dX12_weekStep_81 ?_
      refine jr_if_ne (tgt := 93) hF dX12_weekStep_84 rfl hf (fun hf => ?_) (fun hf => ?_)
      · refine jr_sub [0, 1, 2, 3, 4] rfl ?_
        exact jb_X12_weekStep_93 hT h0 hF hE _ _ _ _ _ hf
      · refine jr_sub [0] rfl ?_
        exact jb_X12_weekStep_87 hT h0 hF hE _ hf
set_option maxRecDepth 100000 in
def fb_X12_weekStep_66 (σ : lt_S) (o : Nat) (x1 : Int32) (x2 : Int32) (x3 : Int32) (x4 : Int32) (w : lt_W) : Option (Int32 × lt_W) := fb_X12_weekStep_67 σ o x1 x2 x3 x4 0 w
set_option maxHeartbeats 4000000 in
set_option maxRecDepth 100000 in
theorem jb_X12_weekStep_66 {X : lt_X} {σ : lt_S} (hT : lt_Wt σ) {o : Nat} (h0 : lt_c σ o = 12) {r : Int32 × lt_W} (hF : lt_F X cX12_weekStep RX12 7 (lt_rm 12)) (hE : lt_E X 0 0 σ (some .boolean) (some (.int r.1)) r.2) : ∀ (x1 : Int32) (x2 : Int32) (x3 : Int32) (x4 : Int32) (w : lt_W), fb_X12_weekStep_66 σ o x1 x2 x3 x4 w = some r → lt_J X 0 0 σ w 66 [(0, .ref (lt_z X + o)), (1, .int x1), (2, .int x2), (3, .int x3), (4, .int x4)] [] := by
  intro x1 x2 x3 x4 w hf
  unfold fb_X12_weekStep_66 at hf
  refine jr_iconst (v := 0) hF dX12_weekStep_66 rfl ?_
  exact jb_X12_weekStep_67 hT h0 hF hE _ _ _ _ _ _ hf
set_option maxRecDepth 100000 in
def fb_X12_weekStep_42 (σ : lt_S) (o : Nat) (x1 : Int32) (x2 : Int32) (x3 : Int32) (y0 : Int32) (w : lt_W) : Option (Int32 × lt_W) := if x1 = 6 then fb_X12_weekStep_67 σ o x1 x2 x3 y0 1 w else if x1 < 11 then fb_X12_weekStep_66 σ o x1 x2 x3 y0 w else if 19 < x1 then fb_X12_weekStep_66 σ o x1 x2 x3 y0 w else fb_X12_weekStep_67 σ o x1 x2 x3 y0 1 w
set_option maxHeartbeats 4000000 in
set_option maxRecDepth 100000 in
theorem jb_X12_weekStep_42 {X : lt_X} {σ : lt_S} (hT : lt_Wt σ) {o : Nat} (h0 : lt_c σ o = 12) {r : Int32 × lt_W} (hF : lt_F X cX12_weekStep RX12 7 (lt_rm 12)) (hE : lt_E X 0 0 σ (some .boolean) (some (.int r.1)) r.2) : ∀ (x1 : Int32) (x2 : Int32) (x3 : Int32) (y0 : Int32) (w : lt_W), fb_X12_weekStep_42 σ o x1 x2 x3 y0 w = some r → lt_J X 0 0 σ w 42 [(0, .ref (lt_z X + o)), (1, .int x1), (2, .int x2), (3, .int x3)] [.int y0] := by
  intro x1 x2 x3 y0 w hf
  unfold fb_X12_weekStep_42 at hf
  refine jr_istore (lv' := [(0, .ref (lt_z X + o)), (1, .int x1), (2, .int x2), (3, .int x3), (4, .int y0)]) hF dX12_weekStep_42 (by decide) [1, 2, 3, 4, 0] rfl ?_
  refine jr_iload_n hF dX12_weekStep_44 1 rfl rfl ?_
  refine jr_bipush (v := 6) hF dX12_weekStep_45 rfl ?_
  refine jr_icmp_eq (tgt := 62) hF dX12_weekStep_47 rfl hf (fun hf => ?_) (fun hf => ?_)
  · refine jr_iconst (v := 1) hF dX12_weekStep_62 rfl ?_
    refine jr_goto (tgt := 67) hF dX12_weekStep_63 rfl ?_
    exact jb_X12_weekStep_67 hT h0 hF hE _ _ _ _ _ _ hf
  · refine jr_iload_n hF dX12_weekStep_50 1 rfl rfl ?_
    refine jr_bipush (v := 11) hF dX12_weekStep_51 rfl ?_
    refine jr_icmp_lt (tgt := 66) hF dX12_weekStep_53 rfl hf (fun hf => ?_) (fun hf => ?_)
    · exact jb_X12_weekStep_66 hT h0 hF hE _ _ _ _ _ hf
    · refine jr_iload_n hF dX12_weekStep_56 1 rfl rfl ?_
      refine jr_bipush (v := 19) hF dX12_weekStep_57 rfl ?_
      refine jr_icmp_gt (tgt := 66) hF dX12_weekStep_59 rfl hf (fun hf => ?_) (fun hf => ?_)
      · exact jb_X12_weekStep_66 hT h0 hF hE _ _ _ _ _ hf
      · refine jr_iconst (v := 1) hF dX12_weekStep_62 rfl ?_
        refine jr_goto (tgt := 67) hF dX12_weekStep_63 rfl ?_
        exact jb_X12_weekStep_67 hT h0 hF hE _ _ _ _ _ _ hf
set_option maxRecDepth 100000 in
def fb_X12_weekStep_0 (σ : lt_S) (o : Nat) (w : lt_W) : Option (Int32 × lt_W) := Option.bind (f_X12_inWords σ o w) (fun q1 => lt_ck 1720 (lt_len σ (lt_r σ o 0)) (lt_let (lt_gi w (lt_r σ o 0) (1720 : Int32).toNatClampNeg) (fun z3 => if q1 = 16 then fb_X12_weekStep_42 σ o q1 z3 (1772 + (6 * z3)) 1 w else if q1 = 17 then fb_X12_weekStep_42 σ o q1 z3 (1772 + (6 * z3)) 1 w else fb_X12_weekStep_42 σ o q1 z3 (1772 + (6 * z3)) 0 w)))
set_option maxHeartbeats 4000000 in
set_option maxRecDepth 100000 in
theorem jb_X12_weekStep_0 {X : lt_X} {σ : lt_S} (hT : lt_Wt σ) {o : Nat} (h0 : lt_c σ o = 12) {r : Int32 × lt_W} (hF : lt_F X cX12_weekStep RX12 7 (lt_rm 12)) (hE : lt_E X 0 0 σ (some .boolean) (some (.int r.1)) r.2) : ∀ (w : lt_W), fb_X12_weekStep_0 σ o w = some r → lt_J X 0 0 σ w 0 [(0, .ref (lt_z X + o))] [] := by
  intro w hf
  unfold fb_X12_weekStep_0 at hf
  refine jr_aload_n hF dX12_weekStep_0 0 rfl rfl ?_
  refine jr_ldcS1 hF dX12_weekStep_1 ?_
  obtain ⟨q1, hq1, hf⟩ := Option.bind_eq_some_iff.mp hf
  refine jr_cV11 hF ml_X12_182 (c_X12_inWords hT h0 hq1) h0 ⟨Nat.le_of_ble_eq_true rfl, Nat.le_of_ble_eq_true rfl⟩ (Nat.le_of_ble_eq_true rfl) dX12_weekStep_3 ?_
  refine jr_istore_n (lv' := [(0, .ref (lt_z X + o)), (1, .int q1)]) hF dX12_weekStep_6 rfl (by decide) [1, 0] rfl ?_
  refine jr_aload_n hF dX12_weekStep_7 0 rfl rfl ?_
  refine jr_getRT (cr := 50) hF gf_X12_7 hT h0 rfl rfl dX12_weekStep_8 (fun th2 => ?_)
  refine jr_sipush (v := 1720) hF dX12_weekStep_11 rfl ?_
  refine jr_iaload hF th2 dX12_weekStep_14 hf (fun hf => ?_)
  refine jr_letI hf (fun z3 hf => ?_)
  refine jr_istore_n (lv' := [(0, .ref (lt_z X + o)), (1, .int q1), (2, .int z3)]) hF dX12_weekStep_15 rfl (by decide) [1, 2, 0] rfl ?_
  refine jr_sipush (v := 1772) hF dX12_weekStep_16 rfl ?_
  refine jr_bipush (v := 6) hF dX12_weekStep_19 rfl ?_
  refine jr_iload_n hF dX12_weekStep_21 2 rfl rfl ?_
  refine jr_imul hF dX12_weekStep_22 ?_
  refine jr_iadd hF dX12_weekStep_23 ?_
  refine jr_istore_n (lv' := [(0, .ref (lt_z X + o)), (1, .int q1), (2, .int z3), (3, .int (1772 + (6 * z3)))]) hF dX12_weekStep_24 rfl (by decide) [1, 2, 3, 0] rfl ?_
  refine jr_iload_n hF dX12_weekStep_25 1 rfl rfl ?_
  refine jr_bipush (v := 16) hF dX12_weekStep_26 rfl ?_
  refine jr_icmp_eq (tgt := 37) hF dX12_weekStep_28 rfl hf (fun hf => ?_) (fun hf => ?_)
  · refine jr_iconst (v := 1) hF dX12_weekStep_37 rfl ?_
    refine jr_goto (tgt := 42) hF dX12_weekStep_38 rfl ?_
    exact jb_X12_weekStep_42 hT h0 hF hE _ _ _ _ _ hf
  · refine jr_iload_n hF dX12_weekStep_31 1 rfl rfl ?_
    refine jr_bipush (v := 17) hF dX12_weekStep_32 rfl ?_
    refine jr_icmp_ne (tgt := 41) hF dX12_weekStep_34 rfl hf (fun hf => ?_) (fun hf => ?_)
    · refine jr_iconst (v := 0) hF dX12_weekStep_41 rfl ?_
      exact jb_X12_weekStep_42 hT h0 hF hE _ _ _ _ _ hf
    · refine jr_iconst (v := 1) hF dX12_weekStep_37 rfl ?_
      refine jr_goto (tgt := 42) hF dX12_weekStep_38 rfl ?_
      exact jb_X12_weekStep_42 hT h0 hF hE _ _ _ _ _ hf
def f_X12_weekStep (σ : lt_S) (o : Nat) (w : lt_W) : Option (Int32 × lt_W) := fb_X12_weekStep_0 σ o w
set_option maxRecDepth 100000 in
theorem c_X12_weekStep {l : Launch} {D : va_G} {gA : Nat → ClassId} {s0 : State} {σ : lt_S} (hT : lt_Wt σ) {o : Nat} (h0 : lt_c σ o = 12) {w : lt_W} {r : Int32 × lt_W} (hf : f_X12_weekStep σ o w = some r) : lt_C l D gA s0 yX12_weekStep cX12_weekStep 7 (some .boolean) (lt_rm 12) [.ref (s0.heap.size + o)] σ w σ (some (.int r.1)) r.2 := by
  refine lt_enter rfl (Nat.le_of_ble_eq_true rfl) (fun X e1 e2 e3 e4 hF hE => ?_)
  subst e1 e2 e3 e4
  exact jb_X12_weekStep_0 hT h0 hF hE _ hf

set_option maxRecDepth 100000 in
def fb_X12_weeks_131 (σ : lt_S) (o : Nat) (w : lt_W) : Option (Int32 × lt_W) := Option.bind (f_X12_taken σ o (lt_gi w o 23) w) (fun q1 => some (q1.1, q1.2))
set_option maxHeartbeats 4000000 in
set_option maxRecDepth 100000 in
theorem jb_X12_weeks_131 {X : lt_X} {σ : lt_S} (hT : lt_Wt σ) {o : Nat} (h0 : lt_c σ o = 12) {r : Int32 × lt_W} (hF : lt_F X cX12_weeks RX12 4 (lt_rm 13)) (hE : lt_E X 0 0 σ (some .int) (some (.int r.1)) r.2) : ∀ (w : lt_W), fb_X12_weeks_131 σ o w = some r → lt_J X 0 0 σ w 131 [(0, .ref (lt_z X + o))] [] := by
  intro w hf
  unfold fb_X12_weeks_131 at hf
  refine jr_aload_n hF dX12_weeks_131 0 rfl rfl ?_
  refine jr_aload_n hF dX12_weeks_132 0 rfl rfl ?_
  refine jr_getI hF gf_X12_257 h0 dX12_weeks_133 ?_
  obtain ⟨q1, hq1, hf⟩ := Option.bind_eq_some_iff.mp hf
  refine jr_cV11 hF ml_X12_248 (c_X12_taken h0 hq1) h0 ⟨Nat.le_of_ble_eq_true rfl, Nat.le_of_ble_eq_true rfl⟩ (Nat.le_of_ble_eq_true rfl) dX12_weeks_136 ?_
  obtain rfl := Option.some.inj hf
  exact jr_ireturn hF hE dX12_weeks_139
set_option maxRecDepth 100000 in
def fb_X12_weeks_102 (σ : lt_S) (o : Nat) : Nat → Int32 → lt_W → Option (Int32 × lt_W)
  | 0, _, _ => none
  | n + 1, x3, w => if 420 ≤ x3 then fb_X12_weeks_131 σ o w else lt_ck (1712 + x3) (lt_len σ (lt_r σ o 0)) (lt_ck x3 (lt_len σ (lt_r σ o 0)) (lt_let (lt_si w (lt_r σ o 0) x3.toNatClampNeg (lt_gi w (lt_r σ o 0) (1712 + x3).toNatClampNeg)) (fun w3 => fb_X12_weeks_102 σ o n (x3 + 1) w3)))
set_option maxHeartbeats 4000000 in
set_option maxRecDepth 100000 in
theorem jb_X12_weeks_102 {X : lt_X} {σ : lt_S} (hT : lt_Wt σ) {o : Nat} (h0 : lt_c σ o = 12) {r : Int32 × lt_W} (hF : lt_F X cX12_weeks RX12 4 (lt_rm 13)) (hE : lt_E X 0 0 σ (some .int) (some (.int r.1)) r.2) (n : Nat) : ∀ (x3 : Int32) (w : lt_W), fb_X12_weeks_102 σ o n x3 w = some r → lt_J X 0 0 σ w 102 [(0, .ref (lt_z X + o)), (3, .int x3)] [] := by
  induction n with
  | zero => intro x3 w hf; rw [fb_X12_weeks_102] at hf; cases hf
  | succ n ih =>
    intro x3 w hf
    rw [fb_X12_weeks_102] at hf
    refine jr_iload_n hF dX12_weeks_102 1 rfl rfl ?_
    refine jr_sipush (v := 420) hF dX12_weeks_103 rfl ?_
    refine jr_icmp_ge (tgt := 131) hF dX12_weeks_106 rfl hf (fun hf => ?_) (fun hf => ?_)
    · refine jr_sub [0] rfl ?_
      exact jb_X12_weeks_131 hT h0 hF hE _ hf
    · refine jr_aload_n hF dX12_weeks_109 0 rfl rfl ?_
      refine jr_getRT (cr := 50) hF gf_X12_7 hT h0 rfl rfl dX12_weeks_110 (fun th1 => ?_)
      refine jr_iload_n hF dX12_weeks_113 1 rfl rfl ?_
      refine jr_aload_n hF dX12_weeks_114 0 rfl rfl ?_
      refine jr_getRT (cr := 50) hF gf_X12_7 hT h0 rfl rfl dX12_weeks_115 (fun th2 => ?_)
      refine jr_sipush (v := 1712) hF dX12_weeks_118 rfl ?_
      refine jr_iload_n hF dX12_weeks_121 1 rfl rfl ?_
      refine jr_iadd hF dX12_weeks_122 ?_
      refine jr_iaload hF th2 dX12_weeks_123 hf (fun hf => ?_)
      refine jr_iastore hF th1 dX12_weeks_124 hf (fun hf => ?_)
      refine jr_letW hf (fun w3 hf => ?_)
      refine jr_iinc (v := x3 + 1) (lv' := [(0, .ref (lt_z X + o)), (3, .int (x3 + 1))]) hF dX12_weeks_125 1 rfl rfl (by decide) [1, 0] rfl ?_
      refine jr_goto (tgt := 102) hF dX12_weeks_128 rfl ?_
      exact ih _ _ hf
set_option maxRecDepth 100000 in
def fb_X12_weeks_77 (σ : lt_S) (o : Nat) (w : lt_W) : Option (Int32 × lt_W) := if (lt_gi w o 18) = 0 then lt_ck 1720 (lt_len σ (lt_r σ o 0)) (lt_ck 8 (lt_len σ (lt_r σ o 0)) (lt_let (lt_si w (lt_r σ o 0) (8 : Int32).toNatClampNeg (lt_gi w (lt_r σ o 0) (1720 : Int32).toNatClampNeg)) (fun w3 => fb_X12_weeks_102 σ o lt_fu 60 w3))) else fb_X12_weeks_131 σ o w
set_option maxHeartbeats 4000000 in
set_option maxRecDepth 100000 in
theorem jb_X12_weeks_77 {X : lt_X} {σ : lt_S} (hT : lt_Wt σ) {o : Nat} (h0 : lt_c σ o = 12) {r : Int32 × lt_W} (hF : lt_F X cX12_weeks RX12 4 (lt_rm 13)) (hE : lt_E X 0 0 σ (some .int) (some (.int r.1)) r.2) : ∀ (w : lt_W), fb_X12_weeks_77 σ o w = some r → lt_J X 0 0 σ w 77 [(0, .ref (lt_z X + o))] [] := by
  intro w hf
  unfold fb_X12_weeks_77 at hf
  refine jr_aload_n hF dX12_weeks_77 0 rfl rfl ?_
  refine jr_getI hF gf_X12_167 h0 dX12_weeks_78 ?_
  refine jr_if_ne (tgt := 131) hF dX12_weeks_81 rfl hf (fun hf => ?_) (fun hf => ?_)
  · exact jb_X12_weeks_131 hT h0 hF hE _ hf
  · refine jr_aload_n hF dX12_weeks_84 0 rfl rfl ?_
    refine jr_getRT (cr := 50) hF gf_X12_7 hT h0 rfl rfl dX12_weeks_85 (fun th1 => ?_)
    refine jr_bipush (v := 8) hF dX12_weeks_88 rfl ?_
    refine jr_aload_n hF dX12_weeks_90 0 rfl rfl ?_
    refine jr_getRT (cr := 50) hF gf_X12_7 hT h0 rfl rfl dX12_weeks_91 (fun th2 => ?_)
    refine jr_sipush (v := 1720) hF dX12_weeks_94 rfl ?_
    refine jr_iaload hF th2 dX12_weeks_97 hf (fun hf => ?_)
    refine jr_iastore hF th1 dX12_weeks_98 hf (fun hf => ?_)
    refine jr_letW hf (fun w3 hf => ?_)
    refine jr_bipush (v := 60) hF dX12_weeks_99 rfl ?_
    refine jr_istore_n (lv' := [(0, .ref (lt_z X + o)), (3, .int 60)]) hF dX12_weeks_101 rfl (by decide) [1, 0] rfl ?_
    exact jb_X12_weeks_102 hT h0 hF hE lt_fu _ _ hf
set_option maxRecDepth 100000 in
def fb_X12_weeks_57 (σ : lt_S) (o : Nat) (w : lt_W) : Option (Int32 × lt_W) := if (lt_gi w o 18) = 0 then if (lt_gi w o 22) ≤ 0 then fb_X12_weeks_77 σ o w else Option.bind (f_X12_fails σ o 2 w) (fun q1 => fb_X12_weeks_77 σ o q1.2) else fb_X12_weeks_77 σ o w
set_option maxHeartbeats 4000000 in
set_option maxRecDepth 100000 in
theorem jb_X12_weeks_57 {X : lt_X} {σ : lt_S} (hT : lt_Wt σ) {o : Nat} (h0 : lt_c σ o = 12) {r : Int32 × lt_W} (hF : lt_F X cX12_weeks RX12 4 (lt_rm 13)) (hE : lt_E X 0 0 σ (some .int) (some (.int r.1)) r.2) : ∀ (w : lt_W), fb_X12_weeks_57 σ o w = some r → lt_J X 0 0 σ w 57 [(0, .ref (lt_z X + o))] [] := by
  intro w hf
  unfold fb_X12_weeks_57 at hf
  refine jr_aload_n hF dX12_weeks_57 0 rfl rfl ?_
  refine jr_getI hF gf_X12_167 h0 dX12_weeks_58 ?_
  refine jr_if_ne (tgt := 77) hF dX12_weeks_61 rfl hf (fun hf => ?_) (fun hf => ?_)
  · exact jb_X12_weeks_77 hT h0 hF hE _ hf
  · refine jr_aload_n hF dX12_weeks_64 0 rfl rfl ?_
    refine jr_getI hF gf_X12_254 h0 dX12_weeks_65 ?_
    refine jr_if_le (tgt := 77) hF dX12_weeks_68 rfl hf (fun hf => ?_) (fun hf => ?_)
    · exact jb_X12_weeks_77 hT h0 hF hE _ hf
    · refine jr_aload_n hF dX12_weeks_71 0 rfl rfl ?_
      refine jr_iconst (v := 2) hF dX12_weeks_72 rfl ?_
      obtain ⟨q1, hq1, hf⟩ := Option.bind_eq_some_iff.mp hf
      refine jr_cV11 hF ml_X12_179 (c_X12_fails h0 hq1) h0 ⟨Nat.le_of_ble_eq_true rfl, Nat.le_of_ble_eq_true rfl⟩ (Nat.le_of_ble_eq_true rfl) dX12_weeks_73 ?_
      refine jr_pop hF dX12_weeks_76 rfl ?_
      exact jb_X12_weeks_77 hT h0 hF hE _ hf
set_option maxRecDepth 100000 in
def fb_X12_weeks_38 (σ : lt_S) (o : Nat) : Nat → Int32 → lt_W → Option (Int32 × lt_W)
  | 0, _, _ => none
  | n + 1, x2, w => if x2 = 0 then fb_X12_weeks_57 σ o w else if (lt_gi w o 12) = 0 then fb_X12_weeks_57 σ o w else Option.bind (f_X12_weekStep σ o w) (fun q1 => fb_X12_weeks_38 σ o n q1.1 q1.2)
set_option maxHeartbeats 4000000 in
set_option maxRecDepth 100000 in
theorem jb_X12_weeks_38 {X : lt_X} {σ : lt_S} (hT : lt_Wt σ) {o : Nat} (h0 : lt_c σ o = 12) {r : Int32 × lt_W} (hF : lt_F X cX12_weeks RX12 4 (lt_rm 13)) (hE : lt_E X 0 0 σ (some .int) (some (.int r.1)) r.2) (n : Nat) : ∀ (x2 : Int32) (w : lt_W), fb_X12_weeks_38 σ o n x2 w = some r → lt_J X 0 0 σ w 38 [(0, .ref (lt_z X + o)), (2, .int x2)] [] := by
  induction n with
  | zero => intro x2 w hf; rw [fb_X12_weeks_38] at hf; cases hf
  | succ n ih =>
    intro x2 w hf
    rw [fb_X12_weeks_38] at hf
    refine jr_iload_n hF dX12_weeks_38 1 rfl rfl ?_
    refine jr_if_eq (tgt := 57) hF dX12_weeks_39 rfl hf (fun hf => ?_) (fun hf => ?_)
    · refine jr_sub [0] rfl ?_
      exact jb_X12_weeks_57 hT h0 hF hE _ hf
    · refine jr_aload_n hF dX12_weeks_42 0 rfl rfl ?_
      refine jr_getI hF gf_X12_142 h0 dX12_weeks_43 ?_
      refine jr_if_eq (tgt := 57) hF dX12_weeks_46 rfl hf (fun hf => ?_) (fun hf => ?_)
      · refine jr_sub [0] rfl ?_
        exact jb_X12_weeks_57 hT h0 hF hE _ hf
      · refine jr_aload_n hF dX12_weeks_49 0 rfl rfl ?_
        obtain ⟨q1, hq1, hf⟩ := Option.bind_eq_some_iff.mp hf
        refine jr_cV01 hF ml_X12_263 (c_X12_weekStep hT h0 hq1) h0 ⟨Nat.le_of_ble_eq_true rfl, Nat.le_of_ble_eq_true rfl⟩ (Nat.le_of_ble_eq_true rfl) dX12_weeks_50 ?_
        refine jr_istore_n (lv' := [(0, .ref (lt_z X + o)), (2, .int q1.1)]) hF dX12_weeks_53 rfl (by decide) [1, 0] rfl ?_
        refine jr_goto (tgt := 38) hF dX12_weeks_54 rfl ?_
        exact ih _ _ hf
set_option maxRecDepth 100000 in
def fb_X12_weeks_0 (σ : lt_S) (o : Nat) (x1 : Int32) (w : lt_W) : Option (Int32 × lt_W) := Option.bind (f_X12_begins σ o x1 300 w) (fun q1 => if q1.1 = 0 then Option.bind (f_X12_refuse σ o 1 q1.2) (fun q6 => some (q6.1, q6.2)) else lt_ck 1720 (lt_len σ (lt_r σ o 0)) (lt_let (lt_si q1.2 (lt_r σ o 0) (1720 : Int32).toNatClampNeg 0) (fun w3 => lt_let (lt_si w3 o 22 0) (fun w4 => lt_let (lt_si w4 o 23 0) (fun w5 => fb_X12_weeks_38 σ o lt_fu 1 w5)))))
set_option maxHeartbeats 4000000 in
set_option maxRecDepth 100000 in
theorem jb_X12_weeks_0 {X : lt_X} {σ : lt_S} (hT : lt_Wt σ) {o : Nat} (h0 : lt_c σ o = 12) {r : Int32 × lt_W} (hF : lt_F X cX12_weeks RX12 4 (lt_rm 13)) (hE : lt_E X 0 0 σ (some .int) (some (.int r.1)) r.2) : ∀ (x1 : Int32) (w : lt_W), fb_X12_weeks_0 σ o x1 w = some r → lt_J X 0 0 σ w 0 [(0, .ref (lt_z X + o)), (1, .int x1)] [] := by
  intro x1 w hf
  unfold fb_X12_weeks_0 at hf
  refine jr_aload_n hF dX12_weeks_0 0 rfl rfl ?_
  refine jr_iload_n hF dX12_weeks_1 1 rfl rfl ?_
  refine jr_sipush (v := 300) hF dX12_weeks_2 rfl ?_
  obtain ⟨q1, hq1, hf⟩ := Option.bind_eq_some_iff.mp hf
  refine jr_cV21 hF ml_X12_242 (c_X12_begins hT h0 hq1) h0 ⟨Nat.le_of_ble_eq_true rfl, Nat.le_of_ble_eq_true rfl⟩ (Nat.le_of_ble_eq_true rfl) dX12_weeks_5 ?_
  refine jr_if_ne (tgt := 17) hF dX12_weeks_8 rfl hf (fun hf => ?_) (fun hf => ?_)
  · refine jr_aload_n hF dX12_weeks_17 0 rfl rfl ?_
    refine jr_getRT (cr := 50) hF gf_X12_7 hT h0 rfl rfl dX12_weeks_18 (fun th2 => ?_)
    refine jr_sipush (v := 1720) hF dX12_weeks_21 rfl ?_
    refine jr_iconst (v := 0) hF dX12_weeks_24 rfl ?_
    refine jr_iastore hF th2 dX12_weeks_25 hf (fun hf => ?_)
    refine jr_letW hf (fun w3 hf => ?_)
    refine jr_aload_n hF dX12_weeks_26 0 rfl rfl ?_
    refine jr_iconst (v := 0) hF dX12_weeks_27 rfl ?_
    refine jr_putI hF pf_X12_254 h0 dX12_weeks_28 ?_
    refine jr_letW hf (fun w4 hf => ?_)
    refine jr_aload_n hF dX12_weeks_31 0 rfl rfl ?_
    refine jr_iconst (v := 0) hF dX12_weeks_32 rfl ?_
    refine jr_putI hF pf_X12_257 h0 dX12_weeks_33 ?_
    refine jr_letW hf (fun w5 hf => ?_)
    refine jr_iconst (v := 1) hF dX12_weeks_36 rfl ?_
    refine jr_istore_n (lv' := [(0, .ref (lt_z X + o)), (2, .int 1)]) hF dX12_weeks_37 rfl (by decide) [1, 0] rfl ?_
    exact jb_X12_weeks_38 hT h0 hF hE lt_fu _ _ hf
  · refine jr_aload_n hF dX12_weeks_11 0 rfl rfl ?_
    refine jr_iconst (v := 1) hF dX12_weeks_12 rfl ?_
    obtain ⟨q6, hq6, hf⟩ := Option.bind_eq_some_iff.mp hf
    refine jr_cV11 hF ml_X12_97 (c_X12_refuse h0 hq6) h0 ⟨Nat.le_of_ble_eq_true rfl, Nat.le_of_ble_eq_true rfl⟩ (Nat.le_of_ble_eq_true rfl) dX12_weeks_13 ?_
    obtain rfl := Option.some.inj hf
    exact jr_ireturn hF hE dX12_weeks_16
def f_X12_weeks (σ : lt_S) (o : Nat) (x1 : Int32) (w : lt_W) : Option (Int32 × lt_W) := fb_X12_weeks_0 σ o x1 w
set_option maxRecDepth 100000 in
theorem c_X12_weeks {l : Launch} {D : va_G} {gA : Nat → ClassId} {s0 : State} {σ : lt_S} (hT : lt_Wt σ) {o : Nat} (h0 : lt_c σ o = 12) {x1 : Int32} {w : lt_W} {r : Int32 × lt_W} (hf : f_X12_weeks σ o x1 w = some r) : lt_C l D gA s0 yX12_weeks cX12_weeks 4 (some .int) (lt_rm 13) [.ref (s0.heap.size + o), .int x1] σ w σ (some (.int r.1)) r.2 := by
  refine lt_enter rfl (Nat.le_of_ble_eq_true rfl) (fun X e1 e2 e3 e4 hF hE => ?_)
  subst e1 e2 e3 e4
  exact jb_X12_weeks_0 hT h0 hF hE _ _ hf

set_option maxRecDepth 100000 in
def fb_X12_write_34 (σ : lt_S) (o : Nat) (x5 : Int32) (w : lt_W) : Option (Int32 × lt_W) := Option.bind (f_X12_is σ o x5 w) (fun q1 => lt_bz q1.1 (some (q1.1, q1.2)))
set_option maxHeartbeats 4000000 in
set_option maxRecDepth 100000 in
theorem jb_X12_write_34 {X : lt_X} {σ : lt_S} (hT : lt_Wt σ) {o : Nat} (h0 : lt_c σ o = 12) {r : Int32 × lt_W} (hF : lt_F X cX12_write RX12 6 (lt_rm 3)) (hE : lt_E X 0 0 σ (some .boolean) (some (.int r.1)) r.2) : ∀ (x5 : Int32) (w : lt_W), fb_X12_write_34 σ o x5 w = some r → lt_J X 0 0 σ w 34 [(0, .ref (lt_z X + o)), (5, .int x5)] [] := by
  intro x5 w hf
  unfold fb_X12_write_34 at hf
  refine jr_aload_n hF dX12_write_34 0 rfl rfl ?_
  refine jr_iload hF dX12_write_35 1 rfl ?_
  obtain ⟨q1, hq1, hf⟩ := Option.bind_eq_some_iff.mp hf
  refine jr_cV11 hF ml_X12_104 (c_X12_is h0 hq1) h0 ⟨Nat.le_of_ble_eq_true rfl, Nat.le_of_ble_eq_true rfl⟩ (Nat.le_of_ble_eq_true rfl) dX12_write_37 ?_
  obtain ⟨b2, hf⟩ := lt_bzE hf
  obtain rfl := Option.some.inj hf
  exact jr_zreturn hF hE b2 dX12_write_40
set_option maxRecDepth 100000 in
def fb_X12_write_0 (σ : lt_S) (o : Nat) (x1 : Int32) (x2 : Int32) (x3 : Int64) (w : lt_W) : Option (Int32 × lt_W) := Option.bind (f_X12_wrongPlace σ o x1 x2 w) (fun q1 => if q1 = 0 then lt_ck x1 (lt_len σ (lt_r σ o 5)) (Option.bind (f_X12_shrunk x3 (lt_gi w (lt_r σ o 5) x1.toNatClampNeg)) (fun q4 => lt_ck ((60 * x1) + x2) (lt_len σ (lt_r σ o 7)) (lt_let (lt_sl w (lt_r σ o 7) ((60 * x1) + x2).toNatClampNeg q4) (fun w5 => fb_X12_write_34 σ o q1 w5)))) else fb_X12_write_34 σ o q1 w)
set_option maxHeartbeats 4000000 in
set_option maxRecDepth 100000 in
theorem jb_X12_write_0 {X : lt_X} {σ : lt_S} (hT : lt_Wt σ) {o : Nat} (h0 : lt_c σ o = 12) {r : Int32 × lt_W} (hF : lt_F X cX12_write RX12 6 (lt_rm 3)) (hE : lt_E X 0 0 σ (some .boolean) (some (.int r.1)) r.2) : ∀ (x1 : Int32) (x2 : Int32) (x3 : Int64) (w : lt_W), fb_X12_write_0 σ o x1 x2 x3 w = some r → lt_J X 0 0 σ w 0 [(0, .ref (lt_z X + o)), (1, .int x1), (2, .int x2), (3, .long x3)] [] := by
  intro x1 x2 x3 w hf
  unfold fb_X12_write_0 at hf
  refine jr_aload_n hF dX12_write_0 0 rfl rfl ?_
  refine jr_iload_n hF dX12_write_1 1 rfl rfl ?_
  refine jr_iload_n hF dX12_write_2 2 rfl rfl ?_
  obtain ⟨q1, hq1, hf⟩ := Option.bind_eq_some_iff.mp hf
  refine jr_cV21 hF ml_X12_111 (c_X12_wrongPlace hT h0 hq1) h0 ⟨Nat.le_of_ble_eq_true rfl, Nat.le_of_ble_eq_true rfl⟩ (Nat.le_of_ble_eq_true rfl) dX12_write_3 ?_
  refine jr_istore (lv' := [(0, .ref (lt_z X + o)), (1, .int x1), (2, .int x2), (3, .long x3), (5, .int q1)]) hF dX12_write_6 (by decide) [1, 2, 3, 4, 0] rfl ?_
  refine jr_iload hF dX12_write_8 4 rfl ?_
  refine jr_if_ne (tgt := 34) hF dX12_write_10 rfl hf (fun hf => ?_) (fun hf => ?_)
  · refine jr_sub [0, 4] rfl ?_
    exact jb_X12_write_34 hT h0 hF hE _ _ hf
  · refine jr_aload_n hF dX12_write_13 0 rfl rfl ?_
    refine jr_getRT (cr := 51) hF gf_X12_27 hT h0 rfl rfl dX12_write_14 (fun th2 => ?_)
    refine jr_bipush (v := 60) hF dX12_write_17 rfl ?_
    refine jr_iload_n hF dX12_write_19 1 rfl rfl ?_
    refine jr_imul hF dX12_write_20 ?_
    refine jr_iload_n hF dX12_write_21 2 rfl rfl ?_
    refine jr_iadd hF dX12_write_22 ?_
    refine jr_lload_n hF dX12_write_23 3 rfl rfl ?_
    refine jr_aload_n hF dX12_write_24 0 rfl rfl ?_
    refine jr_getRT (cr := 50) hF gf_X12_21 hT h0 rfl rfl dX12_write_25 (fun th3 => ?_)
    refine jr_iload_n hF dX12_write_28 1 rfl rfl ?_
    refine jr_iaload hF th3 dX12_write_29 hf (fun hf => ?_)
    obtain ⟨q4, hq4, hf⟩ := Option.bind_eq_some_iff.mp hf
    refine jr_cS21 hF ml_X12_115 (c_X12_shrunk hq4) ⟨Nat.le_of_ble_eq_true rfl, Nat.le_of_ble_eq_true rfl⟩ (Nat.le_of_ble_eq_true rfl) dX12_write_30 ?_
    refine jr_lastore hF th2 dX12_write_33 hf (fun hf => ?_)
    refine jr_letW hf (fun w5 hf => ?_)
    refine jr_sub [0, 4] rfl ?_
    exact jb_X12_write_34 hT h0 hF hE _ _ hf
def f_X12_write (σ : lt_S) (o : Nat) (x1 : Int32) (x2 : Int32) (x3 : Int64) (w : lt_W) : Option (Int32 × lt_W) := fb_X12_write_0 σ o x1 x2 x3 w
set_option maxRecDepth 100000 in
theorem c_X12_write {l : Launch} {D : va_G} {gA : Nat → ClassId} {s0 : State} {σ : lt_S} (hT : lt_Wt σ) {o : Nat} (h0 : lt_c σ o = 12) {x1 : Int32} {x2 : Int32} {x3 : Int64} {w : lt_W} {r : Int32 × lt_W} (hf : f_X12_write σ o x1 x2 x3 w = some r) : lt_C l D gA s0 yX12_write cX12_write 6 (some .boolean) (lt_rm 3) [.ref (s0.heap.size + o), .int x1, .int x2, .long x3] σ w σ (some (.int r.1)) r.2 := by
  refine lt_enter rfl (Nat.le_of_ble_eq_true rfl) (fun X e1 e2 e3 e4 hF hE => ?_)
  subst e1 e2 e3 e4
  exact jb_X12_write_0 hT h0 hF hE _ _ _ _ hf
