set_option maxRecDepth 100000 in
def fb_X0_daysToStarve_13 (σ : lt_S) (o : Nat) : Nat → Int32 → lt_W → Option (Int32 × lt_W)
  | 0, _, _ => none
  | n + 1, x1, w => if 99 < x1 then some ((-1), w) else Option.bind (f_X5_starvedSet σ (lt_r σ o 1) w) (fun q2 => if q2 = 0 then Option.bind (f_X5_passDays σ (lt_r σ o 1) 1 w) (fun q4 => fb_X0_daysToStarve_13 σ o n (x1 + 1) q4) else some (x1, w))
set_option maxHeartbeats 4000000 in
set_option maxRecDepth 100000 in
theorem jb_X0_daysToStarve_13 {X : lt_X} {σ : lt_S} (hT : lt_Wt σ) {o : Nat} (h0 : lt_c σ o = 0) {r : Int32 × lt_W} (hF : lt_F X cX0_daysToStarve RX0 2 (lt_rm 5)) (hE : lt_E X 0 0 σ (some .int) (some (.int r.1)) r.2) (n : Nat) : ∀ (x1 : Int32) (w : lt_W), fb_X0_daysToStarve_13 σ o n x1 w = some r → lt_J X 0 0 σ w 13 [(0, .ref (lt_z X + o)), (1, .int x1)] [] := by
  induction n with
  | zero => intro x1 w hf; rw [fb_X0_daysToStarve_13] at hf; cases hf
  | succ n ih =>
    intro x1 w hf
    rw [fb_X0_daysToStarve_13] at hf
    refine jr_iload_n hF dX0_daysToStarve_13 1 rfl rfl ?_
    refine jr_bipush (v := 99) hF dX0_daysToStarve_14 rfl ?_
    refine jr_icmp_gt (tgt := 45) hF dX0_daysToStarve_16 rfl hf (fun hf => ?_) (fun hf => ?_)
    · refine jr_iconst (v := (-1)) hF dX0_daysToStarve_45 rfl ?_
      obtain rfl := Option.some.inj hf
      exact jr_ireturn hF hE dX0_daysToStarve_46
    · refine jr_aload_n hF dX0_daysToStarve_19 0 rfl rfl ?_
      refine jr_getRT (cr := 5) hF gf_X0_12 hT h0 rfl rfl dX0_daysToStarve_20 (fun th1 => ?_)
      obtain ⟨q2, hq2, hf⟩ := Option.bind_eq_some_iff.mp hf
      refine jr_cV01 hF ml_X0_59 (c_X5_starvedSet hT th1 hq2) th1 ⟨Nat.le_of_ble_eq_true rfl, Nat.le_of_ble_eq_true rfl⟩ (Nat.le_of_ble_eq_true rfl) dX0_daysToStarve_23 ?_
      refine jr_if_eq (tgt := 31) hF dX0_daysToStarve_26 rfl hf (fun hf => ?_) (fun hf => ?_)
      · refine jr_aload_n hF dX0_daysToStarve_31 0 rfl rfl ?_
        refine jr_getRT (cr := 5) hF gf_X0_12 hT h0 rfl rfl dX0_daysToStarve_32 (fun th3 => ?_)
        refine jr_iconst (v := 1) hF dX0_daysToStarve_35 rfl ?_
        obtain ⟨q4, hq4, hf⟩ := Option.bind_eq_some_iff.mp hf
        refine jr_cV1v hF ml_X0_25 (c_X5_passDays hT th3 hq4) th3 ⟨Nat.le_of_ble_eq_true rfl, Nat.le_of_ble_eq_true rfl⟩ (Nat.le_of_ble_eq_true rfl) dX0_daysToStarve_36 ?_
        refine jr_iinc (v := x1 + 1) (lv' := [(0, .ref (lt_z X + o)), (1, .int (x1 + 1))]) hF dX0_daysToStarve_39 1 rfl rfl (by decide) [1, 0] rfl ?_
        refine jr_goto (tgt := 13) hF dX0_daysToStarve_42 rfl ?_
        exact ih _ _ hf
      · refine jr_iload_n hF dX0_daysToStarve_29 1 rfl rfl ?_
        obtain rfl := Option.some.inj hf
        exact jr_ireturn hF hE dX0_daysToStarve_30
set_option maxRecDepth 100000 in
def fb_X0_daysToStarve_0 (σ : lt_S) (o : Nat) (w : lt_W) : Option (Int32 × lt_W) := Option.bind (f_X5_copyFrom σ (lt_r σ o 1) (lt_r σ o 0) w) (fun q3 => fb_X0_daysToStarve_13 σ o lt_fu 0 q3)
set_option maxHeartbeats 4000000 in
set_option maxRecDepth 100000 in
theorem jb_X0_daysToStarve_0 {X : lt_X} {σ : lt_S} (hT : lt_Wt σ) {o : Nat} (h0 : lt_c σ o = 0) {r : Int32 × lt_W} (hF : lt_F X cX0_daysToStarve RX0 2 (lt_rm 5)) (hE : lt_E X 0 0 σ (some .int) (some (.int r.1)) r.2) : ∀ (w : lt_W), fb_X0_daysToStarve_0 σ o w = some r → lt_J X 0 0 σ w 0 [(0, .ref (lt_z X + o))] [] := by
  intro w hf
  unfold fb_X0_daysToStarve_0 at hf
  refine jr_aload_n hF dX0_daysToStarve_0 0 rfl rfl ?_
  refine jr_getRT (cr := 5) hF gf_X0_12 hT h0 rfl rfl dX0_daysToStarve_1 (fun th1 => ?_)
  refine jr_aload_n hF dX0_daysToStarve_4 0 rfl rfl ?_
  refine jr_getRT (cr := 5) hF gf_X0_18 hT h0 rfl rfl dX0_daysToStarve_5 (fun th2 => ?_)
  obtain ⟨q3, hq3, hf⟩ := Option.bind_eq_some_iff.mp hf
  refine jr_cV1v hF ml_X0_21 (c_X5_copyFrom hT th1 th2 hq3) th1 ⟨Nat.le_of_ble_eq_true rfl, Nat.le_of_ble_eq_true rfl⟩ (Nat.le_of_ble_eq_true rfl) dX0_daysToStarve_8 ?_
  refine jr_iconst (v := 0) hF dX0_daysToStarve_11 rfl ?_
  refine jr_istore_n (lv' := [(0, .ref (lt_z X + o)), (1, .int 0)]) hF dX0_daysToStarve_12 rfl (by decide) [1, 0] rfl ?_
  exact jb_X0_daysToStarve_13 hT h0 hF hE lt_fu _ _ hf
def f_X0_daysToStarve (σ : lt_S) (o : Nat) (w : lt_W) : Option (Int32 × lt_W) := fb_X0_daysToStarve_0 σ o w
set_option maxRecDepth 100000 in
theorem c_X0_daysToStarve {l : Launch} {D : va_G} {gA : Nat → ClassId} {s0 : State} {σ : lt_S} (hT : lt_Wt σ) {o : Nat} (h0 : lt_c σ o = 0) {w : lt_W} {r : Int32 × lt_W} (hf : f_X0_daysToStarve σ o w = some r) : lt_C l D gA s0 yX0_daysToStarve cX0_daysToStarve 2 (some .int) (lt_rm 5) [.ref (s0.heap.size + o)] σ w σ (some (.int r.1)) r.2 := by
  refine lt_enter rfl (Nat.le_of_ble_eq_true rfl) (fun X e1 e2 e3 e4 hF hE => ?_)
  subst e1 e2 e3 e4
  exact jb_X0_daysToStarve_0 hT h0 hF hE _ hf

set_option maxRecDepth 100000 in
def fb_X0_findNextOfThen_12 (σ : lt_S) (o : Nat) : Nat → Int32 → lt_W → Option lt_W
  | 0, _, _ => none
  | n + 1, x1, w => if 99 < x1 then some w else if (lt_gi w o 3) = (-1) then Option.bind (f_X5_firstCutter σ (lt_r σ o 1) w) (fun q2 => if q2 = (-1) then Option.bind (f_X5_passDay σ (lt_r σ o 1) (-1) w) (fun q6 => fb_X0_findNextOfThen_12 σ o n (x1 + 1) q6) else lt_let (lt_si w o 2 x1) (fun w3 => lt_let (lt_si w3 o 3 q2) (fun w4 => fb_X0_findNextOfThen_12 σ o n (x1 + 1) w4))) else some w
set_option maxHeartbeats 4000000 in
set_option maxRecDepth 100000 in
theorem jb_X0_findNextOfThen_12 {X : lt_X} {σ : lt_S} (hT : lt_Wt σ) {o : Nat} (h0 : lt_c σ o = 0) {r : lt_W} (hF : lt_F X cX0_findNextOfThen RX0 3 (lt_rm 4)) (hE : lt_E X 0 0 σ none none r) (n : Nat) : ∀ (x1 : Int32) (w : lt_W), fb_X0_findNextOfThen_12 σ o n x1 w = some r → lt_J X 0 0 σ w 12 [(0, .ref (lt_z X + o)), (1, .int x1)] [] := by
  induction n with
  | zero => intro x1 w hf; rw [fb_X0_findNextOfThen_12] at hf; cases hf
  | succ n ih =>
    intro x1 w hf
    rw [fb_X0_findNextOfThen_12] at hf
    refine jr_iload_n hF dX0_findNextOfThen_12 1 rfl rfl ?_
    refine jr_bipush (v := 99) hF dX0_findNextOfThen_13 rfl ?_
    refine jr_icmp_gt (tgt := 66) hF dX0_findNextOfThen_15 rfl hf (fun hf => ?_) (fun hf => ?_)
    · obtain rfl := Option.some.inj hf
      exact jr_return hF hE dX0_findNextOfThen_66
    · refine jr_aload_n hF dX0_findNextOfThen_18 0 rfl rfl ?_
      refine jr_getI hF gf_X0_36 h0 dX0_findNextOfThen_19 ?_
      refine jr_iconst (v := (-1)) hF dX0_findNextOfThen_22 rfl ?_
      refine jr_icmp_ne (tgt := 66) hF dX0_findNextOfThen_23 rfl hf (fun hf => ?_) (fun hf => ?_)
      · obtain rfl := Option.some.inj hf
        exact jr_return hF hE dX0_findNextOfThen_66
      · refine jr_aload_n hF dX0_findNextOfThen_26 0 rfl rfl ?_
        refine jr_getRT (cr := 5) hF gf_X0_12 hT h0 rfl rfl dX0_findNextOfThen_27 (fun th1 => ?_)
        obtain ⟨q2, hq2, hf⟩ := Option.bind_eq_some_iff.mp hf
        refine jr_cV01 hF ml_X0_39 (c_X5_firstCutter hT th1 hq2) th1 ⟨Nat.le_of_ble_eq_true rfl, Nat.le_of_ble_eq_true rfl⟩ (Nat.le_of_ble_eq_true rfl) dX0_findNextOfThen_30 ?_
        refine jr_istore_n (lv' := [(0, .ref (lt_z X + o)), (1, .int x1), (2, .int q2)]) hF dX0_findNextOfThen_33 rfl (by decide) [1, 2, 0] rfl ?_
        refine jr_iload_n hF dX0_findNextOfThen_34 2 rfl rfl ?_
        refine jr_iconst (v := (-1)) hF dX0_findNextOfThen_35 rfl ?_
        refine jr_icmp_ne (tgt := 50) hF dX0_findNextOfThen_36 rfl hf (fun hf => ?_) (fun hf => ?_)
        · refine jr_aload_n hF dX0_findNextOfThen_50 0 rfl rfl ?_
          refine jr_iload_n hF dX0_findNextOfThen_51 1 rfl rfl ?_
          refine jr_putI hF pf_X0_32 h0 dX0_findNextOfThen_52 ?_
          refine jr_letW hf (fun w3 hf => ?_)
          refine jr_aload_n hF dX0_findNextOfThen_55 0 rfl rfl ?_
          refine jr_iload_n hF dX0_findNextOfThen_56 2 rfl rfl ?_
          refine jr_putI hF pf_X0_36 h0 dX0_findNextOfThen_57 ?_
          refine jr_letW hf (fun w4 hf => ?_)
          refine jr_iinc (v := x1 + 1) (lv' := [(0, .ref (lt_z X + o)), (1, .int (x1 + 1)), (2, .int q2)]) hF dX0_findNextOfThen_60 1 rfl rfl (by decide) [1, 0, 2] rfl ?_
          refine jr_goto (tgt := 12) hF dX0_findNextOfThen_63 rfl ?_
          refine jr_sub [0, 1] rfl ?_
          exact ih _ _ hf
        · refine jr_aload_n hF dX0_findNextOfThen_39 0 rfl rfl ?_
          refine jr_getRT (cr := 5) hF gf_X0_12 hT h0 rfl rfl dX0_findNextOfThen_40 (fun th5 => ?_)
          refine jr_iconst (v := (-1)) hF dX0_findNextOfThen_43 rfl ?_
          obtain ⟨q6, hq6, hf⟩ := Option.bind_eq_some_iff.mp hf
          refine jr_cV1v hF ml_X0_43 (c_X5_passDay hT th5 hq6) th5 ⟨Nat.le_of_ble_eq_true rfl, Nat.le_of_ble_eq_true rfl⟩ (Nat.le_of_ble_eq_true rfl) dX0_findNextOfThen_44 ?_
          refine jr_goto (tgt := 60) hF dX0_findNextOfThen_47 rfl ?_
          refine jr_iinc (v := x1 + 1) (lv' := [(0, .ref (lt_z X + o)), (1, .int (x1 + 1)), (2, .int q2)]) hF dX0_findNextOfThen_60 1 rfl rfl (by decide) [1, 0, 2] rfl ?_
          refine jr_goto (tgt := 12) hF dX0_findNextOfThen_63 rfl ?_
          refine jr_sub [0, 1] rfl ?_
          exact ih _ _ hf
set_option maxRecDepth 100000 in
def fb_X0_findNextOfThen_0 (σ : lt_S) (o : Nat) (w : lt_W) : Option lt_W := lt_let (lt_si w o 2 (-1)) (fun w1 => lt_let (lt_si w1 o 3 (-1)) (fun w2 => fb_X0_findNextOfThen_12 σ o lt_fu 1 w2))
set_option maxHeartbeats 4000000 in
set_option maxRecDepth 100000 in
theorem jb_X0_findNextOfThen_0 {X : lt_X} {σ : lt_S} (hT : lt_Wt σ) {o : Nat} (h0 : lt_c σ o = 0) {r : lt_W} (hF : lt_F X cX0_findNextOfThen RX0 3 (lt_rm 4)) (hE : lt_E X 0 0 σ none none r) : ∀ (w : lt_W), fb_X0_findNextOfThen_0 σ o w = some r → lt_J X 0 0 σ w 0 [(0, .ref (lt_z X + o))] [] := by
  intro w hf
  unfold fb_X0_findNextOfThen_0 at hf
  refine jr_aload_n hF dX0_findNextOfThen_0 0 rfl rfl ?_
  refine jr_iconst (v := (-1)) hF dX0_findNextOfThen_1 rfl ?_
  refine jr_putI hF pf_X0_32 h0 dX0_findNextOfThen_2 ?_
  refine jr_letW hf (fun w1 hf => ?_)
  refine jr_aload_n hF dX0_findNextOfThen_5 0 rfl rfl ?_
  refine jr_iconst (v := (-1)) hF dX0_findNextOfThen_6 rfl ?_
  refine jr_putI hF pf_X0_36 h0 dX0_findNextOfThen_7 ?_
  refine jr_letW hf (fun w2 hf => ?_)
  refine jr_iconst (v := 1) hF dX0_findNextOfThen_10 rfl ?_
  refine jr_istore_n (lv' := [(0, .ref (lt_z X + o)), (1, .int 1)]) hF dX0_findNextOfThen_11 rfl (by decide) [1, 0] rfl ?_
  exact jb_X0_findNextOfThen_12 hT h0 hF hE lt_fu _ _ hf
def f_X0_findNextOfThen (σ : lt_S) (o : Nat) (w : lt_W) : Option lt_W := fb_X0_findNextOfThen_0 σ o w
set_option maxRecDepth 100000 in
theorem c_X0_findNextOfThen {l : Launch} {D : va_G} {gA : Nat → ClassId} {s0 : State} {σ : lt_S} (hT : lt_Wt σ) {o : Nat} (h0 : lt_c σ o = 0) {w : lt_W} {r : lt_W} (hf : f_X0_findNextOfThen σ o w = some r) : lt_C l D gA s0 yX0_findNextOfThen cX0_findNextOfThen 3 none (lt_rm 4) [.ref (s0.heap.size + o)] σ w σ none r := by
  refine lt_enter rfl (Nat.le_of_ble_eq_true rfl) (fun X e1 e2 e3 e4 hF hE => ?_)
  subst e1 e2 e3 e4
  exact jb_X0_findNextOfThen_0 hT h0 hF hE _ hf

set_option maxRecDepth 100000 in
def fb_X0_findNext_0 (σ : lt_S) (o : Nat) (w : lt_W) : Option lt_W := Option.bind (f_X5_copyFrom σ (lt_r σ o 1) (lt_r σ o 0) w) (fun q3 => Option.bind (f_X0_findNextOfThen σ o q3) (fun q4 => some q4))
set_option maxHeartbeats 4000000 in
set_option maxRecDepth 100000 in
theorem jb_X0_findNext_0 {X : lt_X} {σ : lt_S} (hT : lt_Wt σ) {o : Nat} (h0 : lt_c σ o = 0) {r : lt_W} (hF : lt_F X cX0_findNext RX0 1 (lt_rm 5)) (hE : lt_E X 0 0 σ none none r) : ∀ (w : lt_W), fb_X0_findNext_0 σ o w = some r → lt_J X 0 0 σ w 0 [(0, .ref (lt_z X + o))] [] := by
  intro w hf
  unfold fb_X0_findNext_0 at hf
  refine jr_aload_n hF dX0_findNext_0 0 rfl rfl ?_
  refine jr_getRT (cr := 5) hF gf_X0_12 hT h0 rfl rfl dX0_findNext_1 (fun th1 => ?_)
  refine jr_aload_n hF dX0_findNext_4 0 rfl rfl ?_
  refine jr_getRT (cr := 5) hF gf_X0_18 hT h0 rfl rfl dX0_findNext_5 (fun th2 => ?_)
  obtain ⟨q3, hq3, hf⟩ := Option.bind_eq_some_iff.mp hf
  refine jr_cV1v hF ml_X0_21 (c_X5_copyFrom hT th1 th2 hq3) th1 ⟨Nat.le_of_ble_eq_true rfl, Nat.le_of_ble_eq_true rfl⟩ (Nat.le_of_ble_eq_true rfl) dX0_findNext_8 ?_
  refine jr_aload_n hF dX0_findNext_11 0 rfl rfl ?_
  obtain ⟨q4, hq4, hf⟩ := Option.bind_eq_some_iff.mp hf
  refine jr_cV0v hF ml_X0_29 (c_X0_findNextOfThen hT h0 hq4) h0 ⟨Nat.le_of_ble_eq_true rfl, Nat.le_of_ble_eq_true rfl⟩ (Nat.le_of_ble_eq_true rfl) dX0_findNext_12 ?_
  obtain rfl := Option.some.inj hf
  exact jr_return hF hE dX0_findNext_15
def f_X0_findNext (σ : lt_S) (o : Nat) (w : lt_W) : Option lt_W := fb_X0_findNext_0 σ o w
set_option maxRecDepth 100000 in
theorem c_X0_findNext {l : Launch} {D : va_G} {gA : Nat → ClassId} {s0 : State} {σ : lt_S} (hT : lt_Wt σ) {o : Nat} (h0 : lt_c σ o = 0) {w : lt_W} {r : lt_W} (hf : f_X0_findNext σ o w = some r) : lt_C l D gA s0 yX0_findNext cX0_findNext 1 none (lt_rm 5) [.ref (s0.heap.size + o)] σ w σ none r := by
  refine lt_enter rfl (Nat.le_of_ble_eq_true rfl) (fun X e1 e2 e3 e4 hF hE => ?_)
  subst e1 e2 e3 e4
  exact jb_X0_findNext_0 hT h0 hF hE _ hf

set_option maxRecDepth 100000 in
def fb_X0_hangingSet_95 (σ : lt_S) (o : Nat) (k19 : Int32 → Int32 → Int32 → Int32 → lt_W → Option (Int32 × lt_W)) (x1 : Int32) (x2 : Int32) (x3 : Int32) (x4 : Int32) (w : lt_W) : Option (Int32 × lt_W) := lt_let (x3 ||| (1 <<< (x4 &&& 31))) (fun z1 => k19 x1 x2 z1 (x4 + 1) w)
set_option maxHeartbeats 4000000 in
set_option maxRecDepth 100000 in
theorem jb_X0_hangingSet_95 {X : lt_X} {σ : lt_S} (hT : lt_Wt σ) {o : Nat} (h0 : lt_c σ o = 0) {r : Int32 × lt_W} {k19 : Int32 → Int32 → Int32 → Int32 → lt_W → Option (Int32 × lt_W)} (hF : lt_F X cX0_hangingSet RX0 5 (lt_rm 6)) (hE : lt_E X 0 0 σ (some .int) (some (.int r.1)) r.2) (hk19 : ∀ (x1 : Int32) (x2 : Int32) (x3 : Int32) (x4 : Int32) (w : lt_W), k19 x1 x2 x3 x4 w = some r → lt_J X 0 0 σ w 19 [(0, .ref (lt_z X + o)), (1, .int x1), (2, .int x2), (3, .int x3), (4, .int x4)] []) : ∀ (x1 : Int32) (x2 : Int32) (x3 : Int32) (x4 : Int32) (w : lt_W), fb_X0_hangingSet_95 σ o k19 x1 x2 x3 x4 w = some r → lt_J X 0 0 σ w 95 [(0, .ref (lt_z X + o)), (1, .int x1), (2, .int x2), (3, .int x3), (4, .int x4)] [] := by
  intro x1 x2 x3 x4 w hf
  unfold fb_X0_hangingSet_95 at hf
  refine jr_iload_n hF dX0_hangingSet_95 3 rfl rfl ?_
  refine jr_iconst (v := 1) hF dX0_hangingSet_96 rfl ?_
  refine jr_iload hF dX0_hangingSet_97 4 rfl ?_
  refine jr_ishl hF dX0_hangingSet_99 ?_
  refine jr_ior hF dX0_hangingSet_100 ?_
  refine jr_letI hf (fun z1 hf => ?_)
  refine jr_istore_n (lv' := [(0, .ref (lt_z X + o)), (1, .int x1), (2, .int x2), (3, .int z1), (4, .int x4)]) hF dX0_hangingSet_101 rfl (by decide) [1, 2, 3, 0, 4] rfl ?_
  refine jr_iinc (v := x4 + 1) (lv' := [(0, .ref (lt_z X + o)), (1, .int x1), (2, .int x2), (3, .int z1), (4, .int (x4 + 1))]) hF dX0_hangingSet_102 4 rfl rfl (by decide) [1, 2, 3, 4, 0] rfl ?_
  refine jr_goto (tgt := 19) hF dX0_hangingSet_105 rfl ?_
  exact hk19 _ _ _ _ _ hf
set_option maxRecDepth 100000 in
def fb_X0_hangingSet_19 (σ : lt_S) (o : Nat) : Nat → Int32 → Int32 → Int32 → Int32 → lt_W → Option (Int32 × lt_W)
  | 0, _, _, _, _, _ => none
  | n + 1, x1, x2, x3, x4, w => if (lt_gi w (lt_r σ o 0) 0) ≤ x4 then some (x3, w) else Option.bind (f_X5_isThere σ (lt_r σ o 0) x4 w) (fun q3 => if q3 = 0 then fb_X0_hangingSet_19 σ o n x1 x2 x3 (x4 + 1) w else Option.bind (f_X5_copyFrom σ (lt_r σ o 1) (lt_r σ o 0) w) (fun q6 => lt_let (lt_si q6 (lt_r σ o 1) 8 ((lt_gi q6 (lt_r σ o 1) 8) &&& ((1 <<< (x4 &&& 31)) ^^^ (-1)))) (fun w8 => Option.bind (f_X0_findNextOfThen σ o w8) (fun q9 => if (lt_gi q9 o 2) = x1 then if (lt_gi q9 o 3) = x2 then fb_X0_hangingSet_19 σ o n x1 x2 x3 (x4 + 1) q9 else fb_X0_hangingSet_95 σ o (fun x1 x2 x3 x4 w => fb_X0_hangingSet_19 σ o n x1 x2 x3 x4 w) x1 x2 x3 x4 q9 else fb_X0_hangingSet_95 σ o (fun x1 x2 x3 x4 w => fb_X0_hangingSet_19 σ o n x1 x2 x3 x4 w) x1 x2 x3 x4 q9))))
set_option maxHeartbeats 4000000 in
set_option maxRecDepth 100000 in
theorem jb_X0_hangingSet_19 {X : lt_X} {σ : lt_S} (hT : lt_Wt σ) {o : Nat} (h0 : lt_c σ o = 0) {r : Int32 × lt_W} (hF : lt_F X cX0_hangingSet RX0 5 (lt_rm 6)) (hE : lt_E X 0 0 σ (some .int) (some (.int r.1)) r.2) (n : Nat) : ∀ (x1 : Int32) (x2 : Int32) (x3 : Int32) (x4 : Int32) (w : lt_W), fb_X0_hangingSet_19 σ o n x1 x2 x3 x4 w = some r → lt_J X 0 0 σ w 19 [(0, .ref (lt_z X + o)), (1, .int x1), (2, .int x2), (3, .int x3), (4, .int x4)] [] := by
  induction n with
  | zero => intro x1 x2 x3 x4 w hf; rw [fb_X0_hangingSet_19] at hf; cases hf
  | succ n ih =>
    intro x1 x2 x3 x4 w hf
    rw [fb_X0_hangingSet_19] at hf
    refine jr_iload hF dX0_hangingSet_19 4 rfl ?_
    refine jr_aload_n hF dX0_hangingSet_21 0 rfl rfl ?_
    refine jr_getRT (cr := 5) hF gf_X0_18 hT h0 rfl rfl dX0_hangingSet_22 (fun th1 => ?_)
    refine jr_getI hF gf_X0_49 th1 dX0_hangingSet_25 ?_
    refine jr_icmp_ge (tgt := 108) hF dX0_hangingSet_28 rfl hf (fun hf => ?_) (fun hf => ?_)
    · refine jr_iload_n hF dX0_hangingSet_108 3 rfl rfl ?_
      obtain rfl := Option.some.inj hf
      exact jr_ireturn hF hE dX0_hangingSet_109
    · refine jr_aload_n hF dX0_hangingSet_31 0 rfl rfl ?_
      refine jr_getRT (cr := 5) hF gf_X0_18 hT h0 rfl rfl dX0_hangingSet_32 (fun th2 => ?_)
      refine jr_iload hF dX0_hangingSet_35 4 rfl ?_
      obtain ⟨q3, hq3, hf⟩ := Option.bind_eq_some_iff.mp hf
      refine jr_cV11 hF ml_X0_52 (c_X5_isThere th2 hq3) th2 ⟨Nat.le_of_ble_eq_true rfl, Nat.le_of_ble_eq_true rfl⟩ (Nat.le_of_ble_eq_true rfl) dX0_hangingSet_37 ?_
      refine jr_if_ne (tgt := 46) hF dX0_hangingSet_40 rfl hf (fun hf => ?_) (fun hf => ?_)
      · refine jr_aload_n hF dX0_hangingSet_46 0 rfl rfl ?_
        refine jr_getRT (cr := 5) hF gf_X0_12 hT h0 rfl rfl dX0_hangingSet_47 (fun th4 => ?_)
        refine jr_aload_n hF dX0_hangingSet_50 0 rfl rfl ?_
        refine jr_getRT (cr := 5) hF gf_X0_18 hT h0 rfl rfl dX0_hangingSet_51 (fun th5 => ?_)
        obtain ⟨q6, hq6, hf⟩ := Option.bind_eq_some_iff.mp hf
        refine jr_cV1v hF ml_X0_21 (c_X5_copyFrom hT th4 th5 hq6) th4 ⟨Nat.le_of_ble_eq_true rfl, Nat.le_of_ble_eq_true rfl⟩ (Nat.le_of_ble_eq_true rfl) dX0_hangingSet_54 ?_
        refine jr_aload_n hF dX0_hangingSet_57 0 rfl rfl ?_
        refine jr_getRT (cr := 5) hF gf_X0_12 hT h0 rfl rfl dX0_hangingSet_58 (fun th7 => ?_)
        refine jr_dup hF dX0_hangingSet_61 rfl ?_
        refine jr_getI hF gf_X0_56 th7 dX0_hangingSet_62 ?_
        refine jr_iconst (v := 1) hF dX0_hangingSet_65 rfl ?_
        refine jr_iload hF dX0_hangingSet_66 4 rfl ?_
        refine jr_ishl hF dX0_hangingSet_68 ?_
        refine jr_iconst (v := (-1)) hF dX0_hangingSet_69 rfl ?_
        refine jr_ixor hF dX0_hangingSet_70 ?_
        refine jr_iand hF dX0_hangingSet_71 ?_
        refine jr_putI hF pf_X0_56 th7 dX0_hangingSet_72 ?_
        refine jr_letW hf (fun w8 hf => ?_)
        refine jr_aload_n hF dX0_hangingSet_75 0 rfl rfl ?_
        obtain ⟨q9, hq9, hf⟩ := Option.bind_eq_some_iff.mp hf
        refine jr_cV0v hF ml_X0_29 (c_X0_findNextOfThen hT h0 hq9) h0 ⟨Nat.le_of_ble_eq_true rfl, Nat.le_of_ble_eq_true rfl⟩ (Nat.le_of_ble_eq_true rfl) dX0_hangingSet_76 ?_
        refine jr_aload_n hF dX0_hangingSet_79 0 rfl rfl ?_
        refine jr_getI hF gf_X0_32 h0 dX0_hangingSet_80 ?_
        refine jr_iload_n hF dX0_hangingSet_83 1 rfl rfl ?_
        refine jr_icmp_ne (tgt := 95) hF dX0_hangingSet_84 rfl hf (fun hf => ?_) (fun hf => ?_)
        · exact jb_X0_hangingSet_95 hT h0 hF hE ih _ _ _ _ _ hf
        · refine jr_aload_n hF dX0_hangingSet_87 0 rfl rfl ?_
          refine jr_getI hF gf_X0_36 h0 dX0_hangingSet_88 ?_
          refine jr_iload_n hF dX0_hangingSet_91 2 rfl rfl ?_
          refine jr_icmp_eq (tgt := 102) hF dX0_hangingSet_92 rfl hf (fun hf => ?_) (fun hf => ?_)
          · refine jr_iinc (v := x4 + 1) (lv' := [(0, .ref (lt_z X + o)), (1, .int x1), (2, .int x2), (3, .int x3), (4, .int (x4 + 1))]) hF dX0_hangingSet_102 4 rfl rfl (by decide) [1, 2, 3, 4, 0] rfl ?_
            refine jr_goto (tgt := 19) hF dX0_hangingSet_105 rfl ?_
            exact ih _ _ _ _ _ hf
          · exact jb_X0_hangingSet_95 hT h0 hF hE ih _ _ _ _ _ hf
      · refine jr_goto (tgt := 102) hF dX0_hangingSet_43 rfl ?_
        refine jr_iinc (v := x4 + 1) (lv' := [(0, .ref (lt_z X + o)), (1, .int x1), (2, .int x2), (3, .int x3), (4, .int (x4 + 1))]) hF dX0_hangingSet_102 4 rfl rfl (by decide) [1, 2, 3, 4, 0] rfl ?_
        refine jr_goto (tgt := 19) hF dX0_hangingSet_105 rfl ?_
        exact ih _ _ _ _ _ hf
set_option maxRecDepth 100000 in
def fb_X0_hangingSet_0 (σ : lt_S) (o : Nat) (w : lt_W) : Option (Int32 × lt_W) := Option.bind (f_X0_findNext σ o w) (fun q1 => fb_X0_hangingSet_19 σ o lt_fu (lt_gi q1 o 2) (lt_gi q1 o 3) 0 0 q1)
set_option maxHeartbeats 4000000 in
set_option maxRecDepth 100000 in
theorem jb_X0_hangingSet_0 {X : lt_X} {σ : lt_S} (hT : lt_Wt σ) {o : Nat} (h0 : lt_c σ o = 0) {r : Int32 × lt_W} (hF : lt_F X cX0_hangingSet RX0 5 (lt_rm 6)) (hE : lt_E X 0 0 σ (some .int) (some (.int r.1)) r.2) : ∀ (w : lt_W), fb_X0_hangingSet_0 σ o w = some r → lt_J X 0 0 σ w 0 [(0, .ref (lt_z X + o))] [] := by
  intro w hf
  unfold fb_X0_hangingSet_0 at hf
  refine jr_aload_n hF dX0_hangingSet_0 0 rfl rfl ?_
  obtain ⟨q1, hq1, hf⟩ := Option.bind_eq_some_iff.mp hf
  refine jr_cV0v hF ml_X0_46 (c_X0_findNext hT h0 hq1) h0 ⟨Nat.le_of_ble_eq_true rfl, Nat.le_of_ble_eq_true rfl⟩ (Nat.le_of_ble_eq_true rfl) dX0_hangingSet_1 ?_
  refine jr_aload_n hF dX0_hangingSet_4 0 rfl rfl ?_
  refine jr_getI hF gf_X0_32 h0 dX0_hangingSet_5 ?_
  refine jr_istore_n (lv' := [(0, .ref (lt_z X + o)), (1, .int (lt_gi q1 o 2))]) hF dX0_hangingSet_8 rfl (by decide) [1, 0] rfl ?_
  refine jr_aload_n hF dX0_hangingSet_9 0 rfl rfl ?_
  refine jr_getI hF gf_X0_36 h0 dX0_hangingSet_10 ?_
  refine jr_istore_n (lv' := [(0, .ref (lt_z X + o)), (1, .int (lt_gi q1 o 2)), (2, .int (lt_gi q1 o 3))]) hF dX0_hangingSet_13 rfl (by decide) [1, 2, 0] rfl ?_
  refine jr_iconst (v := 0) hF dX0_hangingSet_14 rfl ?_
  refine jr_istore_n (lv' := [(0, .ref (lt_z X + o)), (1, .int (lt_gi q1 o 2)), (2, .int (lt_gi q1 o 3)), (3, .int 0)]) hF dX0_hangingSet_15 rfl (by decide) [1, 2, 3, 0] rfl ?_
  refine jr_iconst (v := 0) hF dX0_hangingSet_16 rfl ?_
  refine jr_istore (lv' := [(0, .ref (lt_z X + o)), (1, .int (lt_gi q1 o 2)), (2, .int (lt_gi q1 o 3)), (3, .int 0), (4, .int 0)]) hF dX0_hangingSet_17 (by decide) [1, 2, 3, 4, 0] rfl ?_
  exact jb_X0_hangingSet_19 hT h0 hF hE lt_fu _ _ _ _ _ hf
def f_X0_hangingSet (σ : lt_S) (o : Nat) (w : lt_W) : Option (Int32 × lt_W) := fb_X0_hangingSet_0 σ o w
set_option maxRecDepth 100000 in
theorem c_X0_hangingSet {l : Launch} {D : va_G} {gA : Nat → ClassId} {s0 : State} {σ : lt_S} (hT : lt_Wt σ) {o : Nat} (h0 : lt_c σ o = 0) {w : lt_W} {r : Int32 × lt_W} (hf : f_X0_hangingSet σ o w = some r) : lt_C l D gA s0 yX0_hangingSet cX0_hangingSet 5 (some .int) (lt_rm 6) [.ref (s0.heap.size + o)] σ w σ (some (.int r.1)) r.2 := by
  refine lt_enter rfl (Nat.le_of_ble_eq_true rfl) (fun X e1 e2 e3 e4 hF hE => ?_)
  subst e1 e2 e3 e4
  exact jb_X0_hangingSet_0 hT h0 hF hE _ hf

set_option maxRecDepth 100000 in
def fb_X0_inDays_0 (σ : lt_S) (o : Nat) (x1 : Int32) (w : lt_W) : Option (Nat × lt_W) := Option.bind (f_X5_copyFrom σ (lt_r σ o 1) (lt_r σ o 0) w) (fun q3 => Option.bind (f_X5_passDays σ (lt_r σ o 1) x1 q3) (fun q5 => some (lt_r σ o 1, q5)))
set_option maxHeartbeats 4000000 in
set_option maxRecDepth 100000 in
theorem jb_X0_inDays_0 {X : lt_X} {σ : lt_S} (hT : lt_Wt σ) {o : Nat} (h0 : lt_c σ o = 0) {r : Nat × lt_W} (hF : lt_F X cX0_inDays RX0 2 (lt_rm 5)) (hE : lt_E X 0 0 σ (some (.object "LoafTable$Table")) (some (.ref (lt_z X + r.1))) r.2) : ∀ (x1 : Int32) (w : lt_W), fb_X0_inDays_0 σ o x1 w = some r → lt_J X 0 0 σ w 0 [(0, .ref (lt_z X + o)), (1, .int x1)] [] := by
  intro x1 w hf
  unfold fb_X0_inDays_0 at hf
  refine jr_aload_n hF dX0_inDays_0 0 rfl rfl ?_
  refine jr_getRT (cr := 5) hF gf_X0_12 hT h0 rfl rfl dX0_inDays_1 (fun th1 => ?_)
  refine jr_aload_n hF dX0_inDays_4 0 rfl rfl ?_
  refine jr_getRT (cr := 5) hF gf_X0_18 hT h0 rfl rfl dX0_inDays_5 (fun th2 => ?_)
  obtain ⟨q3, hq3, hf⟩ := Option.bind_eq_some_iff.mp hf
  refine jr_cV1v hF ml_X0_21 (c_X5_copyFrom hT th1 th2 hq3) th1 ⟨Nat.le_of_ble_eq_true rfl, Nat.le_of_ble_eq_true rfl⟩ (Nat.le_of_ble_eq_true rfl) dX0_inDays_8 ?_
  refine jr_aload_n hF dX0_inDays_11 0 rfl rfl ?_
  refine jr_getRT (cr := 5) hF gf_X0_12 hT h0 rfl rfl dX0_inDays_12 (fun th4 => ?_)
  refine jr_iload_n hF dX0_inDays_15 1 rfl rfl ?_
  obtain ⟨q5, hq5, hf⟩ := Option.bind_eq_some_iff.mp hf
  refine jr_cV1v hF ml_X0_25 (c_X5_passDays hT th4 hq5) th4 ⟨Nat.le_of_ble_eq_true rfl, Nat.le_of_ble_eq_true rfl⟩ (Nat.le_of_ble_eq_true rfl) dX0_inDays_16 ?_
  refine jr_aload_n hF dX0_inDays_19 0 rfl rfl ?_
  refine jr_getRT (cr := 5) hF gf_X0_12 hT h0 rfl rfl dX0_inDays_20 (fun th6 => ?_)
  obtain rfl := Option.some.inj hf
  exact jr_areturn hF hE dX0_inDays_23
def f_X0_inDays (σ : lt_S) (o : Nat) (x1 : Int32) (w : lt_W) : Option (Nat × lt_W) := fb_X0_inDays_0 σ o x1 w
set_option maxRecDepth 100000 in
theorem c_X0_inDays {l : Launch} {D : va_G} {gA : Nat → ClassId} {s0 : State} {σ : lt_S} (hT : lt_Wt σ) {o : Nat} (h0 : lt_c σ o = 0) {x1 : Int32} {w : lt_W} {r : Nat × lt_W} (hf : f_X0_inDays σ o x1 w = some r) : lt_C l D gA s0 yX0_inDays cX0_inDays 2 (some (.object "LoafTable$Table")) (lt_rm 5) [.ref (s0.heap.size + o), .int x1] σ w σ (some (.ref (s0.heap.size + r.1))) r.2 := by
  refine lt_enter rfl (Nat.le_of_ble_eq_true rfl) (fun X e1 e2 e3 e4 hF hE => ?_)
  subst e1 e2 e3 e4
  exact jb_X0_inDays_0 hT h0 hF hE _ _ hf
theorem ct_X0_inDays {σ : lt_S} (hT : lt_Wt σ) {o : Nat} (h0 : lt_c σ o = 0) {x1 : Int32} {w : lt_W} {r : Nat × lt_W} (hf : f_X0_inDays σ o x1 w = some r) : lt_c σ r.1 = 5 := by
  have h := (hT.1 o 1 (by rw [h0]; decide)).2
  rw [h0] at h
  unfold f_X0_inDays fb_X0_inDays_0 at hf
  cases e1 : f_X5_copyFrom σ (lt_r σ o 1) (lt_r σ o 0) w with
  | none => rw [e1] at hf; cases hf
  | some q =>
    rw [e1] at hf
    have hf : Option.bind (f_X5_passDays σ (lt_r σ o 1) x1 q) (fun q5 => some (lt_r σ o 1, q5)) = some r := hf
    cases e2 : f_X5_passDays σ (lt_r σ o 1) x1 q with
    | none => rw [e2] at hf; cases hf
    | some q2 =>
      rw [e2] at hf
      have hf : some (lt_r σ o 1, q2) = some r := hf
      obtain rfl := Option.some.inj hf
      exact h

set_option maxRecDepth 100000 in
def fb_X0_isEnough_21 (σ : lt_S) (o : Nat) : Nat → Int32 → Int32 → lt_W → Option (Int32 × lt_W)
  | 0, _, _, _ => none
  | n + 1, x2, x3, w => if x2 ≤ x3 then some (1, w) else Option.bind (f_X5_passDays σ (lt_r σ o 1) 1 w) (fun q2 => Option.bind (f_X5_starvedSet σ (lt_r σ o 1) q2) (fun q4 => if q4 = 0 then fb_X0_isEnough_21 σ o n x2 (x3 + 1) q2 else some (0, q2)))
set_option maxHeartbeats 4000000 in
set_option maxRecDepth 100000 in
theorem jb_X0_isEnough_21 {X : lt_X} {σ : lt_S} (hT : lt_Wt σ) {o : Nat} (h0 : lt_c σ o = 0) {r : Int32 × lt_W} (hF : lt_F X cX0_isEnough RX0 4 (lt_rm 5)) (hE : lt_E X 0 0 σ (some .boolean) (some (.int r.1)) r.2) (n : Nat) : ∀ (x2 : Int32) (x3 : Int32) (w : lt_W), fb_X0_isEnough_21 σ o n x2 x3 w = some r → lt_J X 0 0 σ w 21 [(0, .ref (lt_z X + o)), (2, .int x2), (3, .int x3)] [] := by
  induction n with
  | zero => intro x2 x3 w hf; rw [fb_X0_isEnough_21] at hf; cases hf
  | succ n ih =>
    intro x2 x3 w hf
    rw [fb_X0_isEnough_21] at hf
    refine jr_iload_n hF dX0_isEnough_21 2 rfl rfl ?_
    refine jr_iload_n hF dX0_isEnough_22 1 rfl rfl ?_
    refine jr_icmp_ge (tgt := 52) hF dX0_isEnough_23 rfl hf (fun hf => ?_) (fun hf => ?_)
    · refine jr_iconst (v := 1) hF dX0_isEnough_52 rfl ?_
      obtain rfl := Option.some.inj hf
      exact jr_zreturn hF hE (Or.inr rfl) dX0_isEnough_53
    · refine jr_aload_n hF dX0_isEnough_26 0 rfl rfl ?_
      refine jr_getRT (cr := 5) hF gf_X0_12 hT h0 rfl rfl dX0_isEnough_27 (fun th1 => ?_)
      refine jr_iconst (v := 1) hF dX0_isEnough_30 rfl ?_
      obtain ⟨q2, hq2, hf⟩ := Option.bind_eq_some_iff.mp hf
      refine jr_cV1v hF ml_X0_25 (c_X5_passDays hT th1 hq2) th1 ⟨Nat.le_of_ble_eq_true rfl, Nat.le_of_ble_eq_true rfl⟩ (Nat.le_of_ble_eq_true rfl) dX0_isEnough_31 ?_
      refine jr_aload_n hF dX0_isEnough_34 0 rfl rfl ?_
      refine jr_getRT (cr := 5) hF gf_X0_12 hT h0 rfl rfl dX0_isEnough_35 (fun th3 => ?_)
      obtain ⟨q4, hq4, hf⟩ := Option.bind_eq_some_iff.mp hf
      refine jr_cV01 hF ml_X0_59 (c_X5_starvedSet hT th3 hq4) th3 ⟨Nat.le_of_ble_eq_true rfl, Nat.le_of_ble_eq_true rfl⟩ (Nat.le_of_ble_eq_true rfl) dX0_isEnough_38 ?_
      refine jr_if_eq (tgt := 46) hF dX0_isEnough_41 rfl hf (fun hf => ?_) (fun hf => ?_)
      · refine jr_iinc (v := x3 + 1) (lv' := [(0, .ref (lt_z X + o)), (2, .int x2), (3, .int (x3 + 1))]) hF dX0_isEnough_46 2 rfl rfl (by decide) [1, 2, 0] rfl ?_
        refine jr_goto (tgt := 21) hF dX0_isEnough_49 rfl ?_
        exact ih _ _ _ hf
      · refine jr_iconst (v := 0) hF dX0_isEnough_44 rfl ?_
        obtain rfl := Option.some.inj hf
        exact jr_zreturn hF hE (Or.inl rfl) dX0_isEnough_45
set_option maxRecDepth 100000 in
def fb_X0_isEnough_0 (σ : lt_S) (o : Nat) (x1 : Int32) (x2 : Int32) (w : lt_W) : Option (Int32 × lt_W) := Option.bind (f_X5_copyFrom σ (lt_r σ o 1) (lt_r σ o 0) w) (fun q3 => lt_let (lt_si q3 (lt_r σ o 1) 4 x1) (fun w5 => fb_X0_isEnough_21 σ o lt_fu x2 0 w5))
set_option maxHeartbeats 4000000 in
set_option maxRecDepth 100000 in
theorem jb_X0_isEnough_0 {X : lt_X} {σ : lt_S} (hT : lt_Wt σ) {o : Nat} (h0 : lt_c σ o = 0) {r : Int32 × lt_W} (hF : lt_F X cX0_isEnough RX0 4 (lt_rm 5)) (hE : lt_E X 0 0 σ (some .boolean) (some (.int r.1)) r.2) : ∀ (x1 : Int32) (x2 : Int32) (w : lt_W), fb_X0_isEnough_0 σ o x1 x2 w = some r → lt_J X 0 0 σ w 0 [(0, .ref (lt_z X + o)), (1, .int x1), (2, .int x2)] [] := by
  intro x1 x2 w hf
  unfold fb_X0_isEnough_0 at hf
  refine jr_aload_n hF dX0_isEnough_0 0 rfl rfl ?_
  refine jr_getRT (cr := 5) hF gf_X0_12 hT h0 rfl rfl dX0_isEnough_1 (fun th1 => ?_)
  refine jr_aload_n hF dX0_isEnough_4 0 rfl rfl ?_
  refine jr_getRT (cr := 5) hF gf_X0_18 hT h0 rfl rfl dX0_isEnough_5 (fun th2 => ?_)
  obtain ⟨q3, hq3, hf⟩ := Option.bind_eq_some_iff.mp hf
  refine jr_cV1v hF ml_X0_21 (c_X5_copyFrom hT th1 th2 hq3) th1 ⟨Nat.le_of_ble_eq_true rfl, Nat.le_of_ble_eq_true rfl⟩ (Nat.le_of_ble_eq_true rfl) dX0_isEnough_8 ?_
  refine jr_aload_n hF dX0_isEnough_11 0 rfl rfl ?_
  refine jr_getRT (cr := 5) hF gf_X0_12 hT h0 rfl rfl dX0_isEnough_12 (fun th4 => ?_)
  refine jr_iload_n hF dX0_isEnough_15 1 rfl rfl ?_
  refine jr_putI hF pf_X0_66 th4 dX0_isEnough_16 ?_
  refine jr_letW hf (fun w5 hf => ?_)
  refine jr_iconst (v := 0) hF dX0_isEnough_19 rfl ?_
  refine jr_istore_n (lv' := [(0, .ref (lt_z X + o)), (2, .int x2), (3, .int 0)]) hF dX0_isEnough_20 rfl (by decide) [1, 3, 0] rfl ?_
  exact jb_X0_isEnough_21 hT h0 hF hE lt_fu _ _ _ hf
def f_X0_isEnough (σ : lt_S) (o : Nat) (x1 : Int32) (x2 : Int32) (w : lt_W) : Option (Int32 × lt_W) := fb_X0_isEnough_0 σ o x1 x2 w
set_option maxRecDepth 100000 in
theorem c_X0_isEnough {l : Launch} {D : va_G} {gA : Nat → ClassId} {s0 : State} {σ : lt_S} (hT : lt_Wt σ) {o : Nat} (h0 : lt_c σ o = 0) {x1 : Int32} {x2 : Int32} {w : lt_W} {r : Int32 × lt_W} (hf : f_X0_isEnough σ o x1 x2 w = some r) : lt_C l D gA s0 yX0_isEnough cX0_isEnough 4 (some .boolean) (lt_rm 5) [.ref (s0.heap.size + o), .int x1, .int x2] σ w σ (some (.int r.1)) r.2 := by
  refine lt_enter rfl (Nat.le_of_ble_eq_true rfl) (fun X e1 e2 e3 e4 hF hE => ?_)
  subst e1 e2 e3 e4
  exact jb_X0_isEnough_0 hT h0 hF hE _ _ _ hf

set_option maxRecDepth 100000 in
def fb_X0_leastLoaf_2 (σ : lt_S) (o : Nat) : Nat → Int32 → Int32 → lt_W → Option (Int32 × lt_W)
  | 0, _, _, _ => none
  | n + 1, x1, x2, w => if 60 < x2 then some ((-1), w) else Option.bind (f_X0_isEnough σ o x2 x1 w) (fun q1 => if q1.1 = 0 then fb_X0_leastLoaf_2 σ o n x1 (x2 + 1) q1.2 else some (x2, q1.2))
set_option maxHeartbeats 4000000 in
set_option maxRecDepth 100000 in
theorem jb_X0_leastLoaf_2 {X : lt_X} {σ : lt_S} (hT : lt_Wt σ) {o : Nat} (h0 : lt_c σ o = 0) {r : Int32 × lt_W} (hF : lt_F X cX0_leastLoaf RX0 3 (lt_rm 6)) (hE : lt_E X 0 0 σ (some .int) (some (.int r.1)) r.2) (n : Nat) : ∀ (x1 : Int32) (x2 : Int32) (w : lt_W), fb_X0_leastLoaf_2 σ o n x1 x2 w = some r → lt_J X 0 0 σ w 2 [(0, .ref (lt_z X + o)), (1, .int x1), (2, .int x2)] [] := by
  induction n with
  | zero => intro x1 x2 w hf; rw [fb_X0_leastLoaf_2] at hf; cases hf
  | succ n ih =>
    intro x1 x2 w hf
    rw [fb_X0_leastLoaf_2] at hf
    refine jr_iload_n hF dX0_leastLoaf_2 2 rfl rfl ?_
    refine jr_bipush (v := 60) hF dX0_leastLoaf_3 rfl ?_
    refine jr_icmp_gt (tgt := 25) hF dX0_leastLoaf_5 rfl hf (fun hf => ?_) (fun hf => ?_)
    · refine jr_iconst (v := (-1)) hF dX0_leastLoaf_25 rfl ?_
      obtain rfl := Option.some.inj hf
      exact jr_ireturn hF hE dX0_leastLoaf_26
    · refine jr_aload_n hF dX0_leastLoaf_8 0 rfl rfl ?_
      refine jr_iload_n hF dX0_leastLoaf_9 2 rfl rfl ?_
      refine jr_iload_n hF dX0_leastLoaf_10 1 rfl rfl ?_
      obtain ⟨q1, hq1, hf⟩ := Option.bind_eq_some_iff.mp hf
      refine jr_cV21 hF ml_X0_62 (c_X0_isEnough hT h0 hq1) h0 ⟨Nat.le_of_ble_eq_true rfl, Nat.le_of_ble_eq_true rfl⟩ (Nat.le_of_ble_eq_true rfl) dX0_leastLoaf_11 ?_
      refine jr_if_eq (tgt := 19) hF dX0_leastLoaf_14 rfl hf (fun hf => ?_) (fun hf => ?_)
      · refine jr_iinc (v := x2 + 1) (lv' := [(0, .ref (lt_z X + o)), (1, .int x1), (2, .int (x2 + 1))]) hF dX0_leastLoaf_19 2 rfl rfl (by decide) [1, 2, 0] rfl ?_
        refine jr_goto (tgt := 2) hF dX0_leastLoaf_22 rfl ?_
        exact ih _ _ _ hf
      · refine jr_iload_n hF dX0_leastLoaf_17 2 rfl rfl ?_
        obtain rfl := Option.some.inj hf
        exact jr_ireturn hF hE dX0_leastLoaf_18
set_option maxRecDepth 100000 in
def fb_X0_leastLoaf_0 (σ : lt_S) (o : Nat) (x1 : Int32) (w : lt_W) : Option (Int32 × lt_W) := fb_X0_leastLoaf_2 σ o lt_fu x1 1 w
set_option maxHeartbeats 4000000 in
set_option maxRecDepth 100000 in
theorem jb_X0_leastLoaf_0 {X : lt_X} {σ : lt_S} (hT : lt_Wt σ) {o : Nat} (h0 : lt_c σ o = 0) {r : Int32 × lt_W} (hF : lt_F X cX0_leastLoaf RX0 3 (lt_rm 6)) (hE : lt_E X 0 0 σ (some .int) (some (.int r.1)) r.2) : ∀ (x1 : Int32) (w : lt_W), fb_X0_leastLoaf_0 σ o x1 w = some r → lt_J X 0 0 σ w 0 [(0, .ref (lt_z X + o)), (1, .int x1)] [] := by
  intro x1 w hf
  unfold fb_X0_leastLoaf_0 at hf
  refine jr_iconst (v := 1) hF dX0_leastLoaf_0 rfl ?_
  refine jr_istore_n (lv' := [(0, .ref (lt_z X + o)), (1, .int x1), (2, .int 1)]) hF dX0_leastLoaf_1 rfl (by decide) [1, 2, 0] rfl ?_
  exact jb_X0_leastLoaf_2 hT h0 hF hE lt_fu _ _ _ hf
def f_X0_leastLoaf (σ : lt_S) (o : Nat) (x1 : Int32) (w : lt_W) : Option (Int32 × lt_W) := fb_X0_leastLoaf_0 σ o x1 w
set_option maxRecDepth 100000 in
theorem c_X0_leastLoaf {l : Launch} {D : va_G} {gA : Nat → ClassId} {s0 : State} {σ : lt_S} (hT : lt_Wt σ) {o : Nat} (h0 : lt_c σ o = 0) {x1 : Int32} {w : lt_W} {r : Int32 × lt_W} (hf : f_X0_leastLoaf σ o x1 w = some r) : lt_C l D gA s0 yX0_leastLoaf cX0_leastLoaf 3 (some .int) (lt_rm 6) [.ref (s0.heap.size + o), .int x1] σ w σ (some (.int r.1)) r.2 := by
  refine lt_enter rfl (Nat.le_of_ble_eq_true rfl) (fun X e1 e2 e3 e4 hF hE => ?_)
  subst e1 e2 e3 e4
  exact jb_X0_leastLoaf_0 hT h0 hF hE _ _ hf

set_option maxRecDepth 100000 in
def fb_X9_forget_0 (σ : lt_S) (o : Nat) (w : lt_W) : Option lt_W := lt_let (lt_si w o 0 0) (fun w1 => lt_let (lt_si w1 o 1 0) (fun w2 => some w2))
set_option maxHeartbeats 4000000 in
set_option maxRecDepth 100000 in
theorem jb_X9_forget_0 {X : lt_X} {σ : lt_S} {o : Nat} (h0 : lt_c σ o = 9) {r : lt_W} (hF : lt_F X cX9_forget RX9 1 (lt_rm 1)) (hE : lt_E X 0 0 σ none none r) : ∀ (w : lt_W), fb_X9_forget_0 σ o w = some r → lt_J X 0 0 σ w 0 [(0, .ref (lt_z X + o))] [] := by
  intro w hf
  unfold fb_X9_forget_0 at hf
  refine jr_aload_n hF dX9_forget_0 0 rfl rfl ?_
  refine jr_iconst (v := 0) hF dX9_forget_1 rfl ?_
  refine jr_putZ hF pf_X9_33 h0 (Or.inl rfl) dX9_forget_2 ?_
  refine jr_letW hf (fun w1 hf => ?_)
  refine jr_aload_n hF dX9_forget_5 0 rfl rfl ?_
  refine jr_iconst (v := 0) hF dX9_forget_6 rfl ?_
  refine jr_putI hF pf_X9_37 h0 dX9_forget_7 ?_
  refine jr_letW hf (fun w2 hf => ?_)
  obtain rfl := Option.some.inj hf
  exact jr_return hF hE dX9_forget_10
def f_X9_forget (σ : lt_S) (o : Nat) (w : lt_W) : Option lt_W := fb_X9_forget_0 σ o w
set_option maxRecDepth 100000 in
theorem c_X9_forget {l : Launch} {D : va_G} {gA : Nat → ClassId} {s0 : State} {σ : lt_S} {o : Nat} (h0 : lt_c σ o = 9) {w : lt_W} {r : lt_W} (hf : f_X9_forget σ o w = some r) : lt_C l D gA s0 yX9_forget cX9_forget 1 none (lt_rm 1) [.ref (s0.heap.size + o)] σ w σ none r := by
  refine lt_enter rfl (Nat.le_of_ble_eq_true rfl) (fun X e1 e2 e3 e4 hF hE => ?_)
  subst e1 e2 e3 e4
  exact jb_X9_forget_0 h0 hF hE _ hf

set_option maxRecDepth 100000 in
def fb_X8_has_0 (σ : lt_S) (o : Nat) (w : lt_W) (x1 : Int32) (x2 : Int32) : Option Int32 := if x1 < 0 then some 0 else if x2 < 0 then some 0 else if 0 < (lg_cmp (x1.toInt64 + x2.toInt64) ((lt_gi w o 2).toInt64)) then some 0 else some 1
set_option maxHeartbeats 4000000 in
set_option maxRecDepth 100000 in
theorem jb_X8_has_0 {X : lt_X} {σ : lt_S} {o : Nat} (h0 : lt_c σ o = 8) {r : Int32} {w : lt_W} (hF : lt_F X cX8_has RX8 3 (lt_rm 1)) (hE : lt_E X 0 0 σ (some .boolean) (some (.int r)) w) : ∀ (x1 : Int32) (x2 : Int32), fb_X8_has_0 σ o w x1 x2 = some r → lt_J X 0 0 σ w 0 [(0, .ref (lt_z X + o)), (1, .int x1), (2, .int x2)] [] := by
  intro x1 x2 hf
  unfold fb_X8_has_0 at hf
  refine jr_iload_n hF dX8_has_0 1 rfl rfl ?_
  refine jr_if_lt (tgt := 26) hF dX8_has_1 rfl hf (fun hf => ?_) (fun hf => ?_)
  · refine jr_iconst (v := 0) hF dX8_has_26 rfl ?_
    obtain rfl := Option.some.inj hf
    exact jr_zreturn hF hE (Or.inl rfl) dX8_has_27
  · refine jr_iload_n hF dX8_has_4 2 rfl rfl ?_
    refine jr_if_lt (tgt := 26) hF dX8_has_5 rfl hf (fun hf => ?_) (fun hf => ?_)
    · refine jr_iconst (v := 0) hF dX8_has_26 rfl ?_
      obtain rfl := Option.some.inj hf
      exact jr_zreturn hF hE (Or.inl rfl) dX8_has_27
    · refine jr_iload_n hF dX8_has_8 1 rfl rfl ?_
      refine jr_i2l hF dX8_has_9 ?_
      refine jr_iload_n hF dX8_has_10 2 rfl rfl ?_
      refine jr_i2l hF dX8_has_11 ?_
      refine jr_ladd hF dX8_has_12 ?_
      refine jr_aload_n hF dX8_has_13 0 rfl rfl ?_
      refine jr_getI hF gf_X8_23 h0 dX8_has_14 ?_
      refine jr_i2l hF dX8_has_17 ?_
      refine jr_lcmp hF dX8_has_18 ?_
      refine jr_if_gt (tgt := 26) hF dX8_has_19 rfl hf (fun hf => ?_) (fun hf => ?_)
      · refine jr_iconst (v := 0) hF dX8_has_26 rfl ?_
        obtain rfl := Option.some.inj hf
        exact jr_zreturn hF hE (Or.inl rfl) dX8_has_27
      · refine jr_iconst (v := 1) hF dX8_has_22 rfl ?_
        refine jr_goto (tgt := 27) hF dX8_has_23 rfl ?_
        obtain rfl := Option.some.inj hf
        exact jr_zreturn hF hE (Or.inr rfl) dX8_has_27
def f_X8_has (σ : lt_S) (o : Nat) (x1 : Int32) (x2 : Int32) (w : lt_W) : Option Int32 := fb_X8_has_0 σ o w x1 x2
set_option maxRecDepth 100000 in
theorem c_X8_has {l : Launch} {D : va_G} {gA : Nat → ClassId} {s0 : State} {σ : lt_S} {o : Nat} (h0 : lt_c σ o = 8) {x1 : Int32} {x2 : Int32} {w : lt_W} {r : Int32} (hf : f_X8_has σ o x1 x2 w = some r) : lt_C l D gA s0 yX8_has cX8_has 3 (some .boolean) (lt_rm 1) [.ref (s0.heap.size + o), .int x1, .int x2] σ w σ (some (.int r)) w := by
  refine lt_enter rfl (Nat.le_of_ble_eq_true rfl) (fun X e1 e2 e3 e4 hF hE => ?_)
  subst e1 e2 e3 e4
  exact jb_X8_has_0 h0 hF hE _ _ hf

set_option maxRecDepth 100000 in
def fb_X8_put_0 (σ : lt_S) (o : Nat) (x1 : Int32) (x2 : Int64) (w : lt_W) : Option lt_W := Option.bind (f_X8_has σ o x1 1 w) (fun q1 => if q1 = 0 then some w else if (lt_gi w o 1) = 0 then lt_ck x1 (lt_len σ (lt_r σ o 3)) (lt_let (lt_sl w (lt_r σ o 3) x1.toNatClampNeg x2.toInt32.toInt8.toInt32.toInt64) (fun w3 => some w3)) else if (lt_gi w o 1) = 1 then lt_ck x1 (lt_len σ (lt_r σ o 3)) (lt_let (lt_sl w (lt_r σ o 3) x1.toNatClampNeg x2.toInt32.toInt16.toInt32.toInt64) (fun w6 => some w6)) else if (lt_gi w o 1) = 2 then lt_ck x1 (lt_len σ (lt_r σ o 3)) (lt_let (lt_sl w (lt_r σ o 3) x1.toNatClampNeg x2.toInt32.toInt64) (fun w9 => some w9)) else lt_ck x1 (lt_len σ (lt_r σ o 3)) (lt_let (lt_sl w (lt_r σ o 3) x1.toNatClampNeg x2) (fun w12 => some w12)))
set_option maxHeartbeats 4000000 in
set_option maxRecDepth 100000 in
theorem jb_X8_put_0 {X : lt_X} {σ : lt_S} (hT : lt_Wt σ) {o : Nat} (h0 : lt_c σ o = 8) {r : lt_W} (hF : lt_F X cX8_put RX8 4 (lt_rm 2)) (hE : lt_E X 0 0 σ none none r) : ∀ (x1 : Int32) (x2 : Int64) (w : lt_W), fb_X8_put_0 σ o x1 x2 w = some r → lt_J X 0 0 σ w 0 [(0, .ref (lt_z X + o)), (1, .int x1), (2, .long x2)] [] := by
  intro x1 x2 w hf
  unfold fb_X8_put_0 at hf
  refine jr_aload_n hF dX8_put_0 0 rfl rfl ?_
  refine jr_iload_n hF dX8_put_1 1 rfl rfl ?_
  refine jr_iconst (v := 1) hF dX8_put_2 rfl ?_
  obtain ⟨q1, hq1, hf⟩ := Option.bind_eq_some_iff.mp hf
  refine jr_cV21 hF ml_X8_26 (c_X8_has h0 hq1) h0 ⟨Nat.le_of_ble_eq_true rfl, Nat.le_of_ble_eq_true rfl⟩ (Nat.le_of_ble_eq_true rfl) dX8_put_3 ?_
  refine jr_if_ne (tgt := 10) hF dX8_put_6 rfl hf (fun hf => ?_) (fun hf => ?_)
  · refine jr_aload_n hF dX8_put_10 0 rfl rfl ?_
    refine jr_getI hF gf_X8_19 h0 dX8_put_11 ?_
    by_cases c4 : (lt_gi w o 1) = 0
    · rw [if_pos c4] at hf
      refine jr_tableIn (off := 26) (tgt := 40) hF dX8_put_14 (by rw [c4]; decide) (by rw [c4]; decide) (by rw [c4]; rfl) rfl ?_
      refine jr_aload_n hF dX8_put_40 0 rfl rfl ?_
      refine jr_getRT (cr := 51) hF gf_X8_9 hT h0 rfl rfl dX8_put_41 (fun th2 => ?_)
      refine jr_iload_n hF dX8_put_44 1 rfl rfl ?_
      refine jr_lload_n hF dX8_put_45 2 rfl rfl ?_
      refine jr_l2i hF dX8_put_46 ?_
      refine jr_i2b hF dX8_put_47 ?_
      refine jr_i2l hF dX8_put_48 ?_
      refine jr_lastore hF th2 dX8_put_49 hf (fun hf => ?_)
      refine jr_letW hf (fun w3 hf => ?_)
      refine jr_goto (tgt := 85) hF dX8_put_50 rfl ?_
      obtain rfl := Option.some.inj hf
      exact jr_return hF hE dX8_put_85
    rw [if_neg c4] at hf
    by_cases c7 : (lt_gi w o 1) = 1
    · rw [if_pos c7] at hf
      refine jr_tableIn (off := 39) (tgt := 53) hF dX8_put_14 (by rw [c7]; decide) (by rw [c7]; decide) (by rw [c7]; rfl) rfl ?_
      refine jr_aload_n hF dX8_put_53 0 rfl rfl ?_
      refine jr_getRT (cr := 51) hF gf_X8_9 hT h0 rfl rfl dX8_put_54 (fun th5 => ?_)
      refine jr_iload_n hF dX8_put_57 1 rfl rfl ?_
      refine jr_lload_n hF dX8_put_58 2 rfl rfl ?_
      refine jr_l2i hF dX8_put_59 ?_
      refine jr_i2s hF dX8_put_60 ?_
      refine jr_i2l hF dX8_put_61 ?_
      refine jr_lastore hF th5 dX8_put_62 hf (fun hf => ?_)
      refine jr_letW hf (fun w6 hf => ?_)
      refine jr_goto (tgt := 85) hF dX8_put_63 rfl ?_
      obtain rfl := Option.some.inj hf
      exact jr_return hF hE dX8_put_85
    rw [if_neg c7] at hf
    by_cases c10 : (lt_gi w o 1) = 2
    · rw [if_pos c10] at hf
      refine jr_tableIn (off := 52) (tgt := 66) hF dX8_put_14 (by rw [c10]; decide) (by rw [c10]; decide) (by rw [c10]; rfl) rfl ?_
      refine jr_aload_n hF dX8_put_66 0 rfl rfl ?_
      refine jr_getRT (cr := 51) hF gf_X8_9 hT h0 rfl rfl dX8_put_67 (fun th8 => ?_)
      refine jr_iload_n hF dX8_put_70 1 rfl rfl ?_
      refine jr_lload_n hF dX8_put_71 2 rfl rfl ?_
      refine jr_l2i hF dX8_put_72 ?_
      refine jr_i2l hF dX8_put_73 ?_
      refine jr_lastore hF th8 dX8_put_74 hf (fun hf => ?_)
      refine jr_letW hf (fun w9 hf => ?_)
      refine jr_goto (tgt := 85) hF dX8_put_75 rfl ?_
      obtain rfl := Option.some.inj hf
      exact jr_return hF hE dX8_put_85
    rw [if_neg c10] at hf
    refine jr_tableOut (tgt := 78) hF dX8_put_14 (lt_swd fun kk h1 h2 => by rcases (show kk = 0 ∨ kk = 1 ∨ kk = 2 by omega) with rfl | rfl | rfl <;> first | exact c4 | exact c7 | exact c10) rfl ?_
    refine jr_aload_n hF dX8_put_78 0 rfl rfl ?_
    refine jr_getRT (cr := 51) hF gf_X8_9 hT h0 rfl rfl dX8_put_79 (fun th11 => ?_)
    refine jr_iload_n hF dX8_put_82 1 rfl rfl ?_
    refine jr_lload_n hF dX8_put_83 2 rfl rfl ?_
    refine jr_lastore hF th11 dX8_put_84 hf (fun hf => ?_)
    refine jr_letW hf (fun w12 hf => ?_)
    obtain rfl := Option.some.inj hf
    exact jr_return hF hE dX8_put_85
  · obtain rfl := Option.some.inj hf
    exact jr_return hF hE dX8_put_9
def f_X8_put (σ : lt_S) (o : Nat) (x1 : Int32) (x2 : Int64) (w : lt_W) : Option lt_W := fb_X8_put_0 σ o x1 x2 w
set_option maxRecDepth 100000 in
theorem c_X8_put {l : Launch} {D : va_G} {gA : Nat → ClassId} {s0 : State} {σ : lt_S} (hT : lt_Wt σ) {o : Nat} (h0 : lt_c σ o = 8) {x1 : Int32} {x2 : Int64} {w : lt_W} {r : lt_W} (hf : f_X8_put σ o x1 x2 w = some r) : lt_C l D gA s0 yX8_put cX8_put 4 none (lt_rm 2) [.ref (s0.heap.size + o), .int x1, .long x2] σ w σ none r := by
  refine lt_enter rfl (Nat.le_of_ble_eq_true rfl) (fun X e1 e2 e3 e4 hF hE => ?_)
  subst e1 e2 e3 e4
  exact jb_X8_put_0 hT h0 hF hE _ _ _ hf

set_option maxRecDepth 100000 in
def fb_X1_outcome_39 (σ : lt_S) (o : Nat) (y0 : Int32) (w : lt_W) : Option (Int32 × lt_W) := Option.bind (f_X5_isThere σ (lt_r σ o 2) (lt_gi w o 4) w) (fun q2 => if q2 = 0 then some (y0 - 1, w) else some (y0 - 0, w))
set_option maxHeartbeats 4000000 in
set_option maxRecDepth 100000 in
theorem jb_X1_outcome_39 {X : lt_X} {σ : lt_S} (hT : lt_Wt σ) {o : Nat} (h0 : lt_c σ o = 1) {r : Int32 × lt_W} (hF : lt_F X cX1_outcome RX1 1 (lt_rm 5)) (hE : lt_E X 0 0 σ (some .int) (some (.int r.1)) r.2) : ∀ (y0 : Int32) (w : lt_W), fb_X1_outcome_39 σ o y0 w = some r → lt_J X 0 0 σ w 39 [(0, .ref (lt_z X + o))] [.int y0] := by
  intro y0 w hf
  unfold fb_X1_outcome_39 at hf
  refine jr_aload_n hF dX1_outcome_39 0 rfl rfl ?_
  refine jr_getRT (cr := 5) hF gf_X1_18 hT h0 rfl rfl dX1_outcome_40 (fun th1 => ?_)
  refine jr_aload_n hF dX1_outcome_43 0 rfl rfl ?_
  refine jr_getI hF gf_X1_28 h0 dX1_outcome_44 ?_
  obtain ⟨q2, hq2, hf⟩ := Option.bind_eq_some_iff.mp hf
  refine jr_cV11 hF ml_X1_58 (c_X5_isThere th1 hq2) th1 ⟨Nat.le_of_ble_eq_true rfl, Nat.le_of_ble_eq_true rfl⟩ (Nat.le_of_ble_eq_true rfl) dX1_outcome_47 ?_
  refine jr_if_eq (tgt := 57) hF dX1_outcome_50 rfl hf (fun hf => ?_) (fun hf => ?_)
  · refine jr_iconst (v := 1) hF dX1_outcome_57 rfl ?_
    refine jr_isub hF dX1_outcome_58 ?_
    obtain rfl := Option.some.inj hf
    exact jr_ireturn hF hE dX1_outcome_59
  · refine jr_iconst (v := 0) hF dX1_outcome_53 rfl ?_
    refine jr_goto (tgt := 58) hF dX1_outcome_54 rfl ?_
    refine jr_isub hF dX1_outcome_58 ?_
    obtain rfl := Option.some.inj hf
    exact jr_ireturn hF hE dX1_outcome_59
set_option maxRecDepth 100000 in
def fb_X1_outcome_0 (σ : lt_S) (o : Nat) (w : lt_W) : Option (Int32 × lt_W) := Option.bind (f_X5_copyFrom σ (lt_r σ o 2) (lt_r σ o 1) w) (fun q3 => Option.bind (f_X5_passDays σ (lt_r σ o 2) 10 q3) (fun q5 => Option.bind (f_X5_isThere σ (lt_r σ o 2) (lt_gi q5 o 3) q5) (fun q7 => if q7 = 0 then fb_X1_outcome_39 σ o 1 q5 else fb_X1_outcome_39 σ o 0 q5)))
set_option maxHeartbeats 4000000 in
set_option maxRecDepth 100000 in
theorem jb_X1_outcome_0 {X : lt_X} {σ : lt_S} (hT : lt_Wt σ) {o : Nat} (h0 : lt_c σ o = 1) {r : Int32 × lt_W} (hF : lt_F X cX1_outcome RX1 1 (lt_rm 5)) (hE : lt_E X 0 0 σ (some .int) (some (.int r.1)) r.2) : ∀ (w : lt_W), fb_X1_outcome_0 σ o w = some r → lt_J X 0 0 σ w 0 [(0, .ref (lt_z X + o))] [] := by
  intro w hf
  unfold fb_X1_outcome_0 at hf
  refine jr_aload_n hF dX1_outcome_0 0 rfl rfl ?_
  refine jr_getRT (cr := 5) hF gf_X1_18 hT h0 rfl rfl dX1_outcome_1 (fun th1 => ?_)
  refine jr_aload_n hF dX1_outcome_4 0 rfl rfl ?_
  refine jr_getRT (cr := 5) hF gf_X1_12 hT h0 rfl rfl dX1_outcome_5 (fun th2 => ?_)
  obtain ⟨q3, hq3, hf⟩ := Option.bind_eq_some_iff.mp hf
  refine jr_cV1v hF ml_X1_43 (c_X5_copyFrom hT th1 th2 hq3) th1 ⟨Nat.le_of_ble_eq_true rfl, Nat.le_of_ble_eq_true rfl⟩ (Nat.le_of_ble_eq_true rfl) dX1_outcome_8 ?_
  refine jr_aload_n hF dX1_outcome_11 0 rfl rfl ?_
  refine jr_getRT (cr := 5) hF gf_X1_18 hT h0 rfl rfl dX1_outcome_12 (fun th4 => ?_)
  refine jr_bipush (v := 10) hF dX1_outcome_15 rfl ?_
  obtain ⟨q5, hq5, hf⟩ := Option.bind_eq_some_iff.mp hf
  refine jr_cV1v hF ml_X1_66 (c_X5_passDays hT th4 hq5) th4 ⟨Nat.le_of_ble_eq_true rfl, Nat.le_of_ble_eq_true rfl⟩ (Nat.le_of_ble_eq_true rfl) dX1_outcome_17 ?_
  refine jr_aload_n hF dX1_outcome_20 0 rfl rfl ?_
  refine jr_getRT (cr := 5) hF gf_X1_18 hT h0 rfl rfl dX1_outcome_21 (fun th6 => ?_)
  refine jr_aload_n hF dX1_outcome_24 0 rfl rfl ?_
  refine jr_getI hF gf_X1_24 h0 dX1_outcome_25 ?_
  obtain ⟨q7, hq7, hf⟩ := Option.bind_eq_some_iff.mp hf
  refine jr_cV11 hF ml_X1_58 (c_X5_isThere th6 hq7) th6 ⟨Nat.le_of_ble_eq_true rfl, Nat.le_of_ble_eq_true rfl⟩ (Nat.le_of_ble_eq_true rfl) dX1_outcome_28 ?_
  refine jr_if_eq (tgt := 38) hF dX1_outcome_31 rfl hf (fun hf => ?_) (fun hf => ?_)
  · refine jr_iconst (v := 1) hF dX1_outcome_38 rfl ?_
    exact jb_X1_outcome_39 hT h0 hF hE _ _ hf
  · refine jr_iconst (v := 0) hF dX1_outcome_34 rfl ?_
    refine jr_goto (tgt := 39) hF dX1_outcome_35 rfl ?_
    exact jb_X1_outcome_39 hT h0 hF hE _ _ hf
def f_X1_outcome (σ : lt_S) (o : Nat) (w : lt_W) : Option (Int32 × lt_W) := fb_X1_outcome_0 σ o w
set_option maxRecDepth 100000 in
theorem c_X1_outcome {l : Launch} {D : va_G} {gA : Nat → ClassId} {s0 : State} {σ : lt_S} (hT : lt_Wt σ) {o : Nat} (h0 : lt_c σ o = 1) {w : lt_W} {r : Int32 × lt_W} (hf : f_X1_outcome σ o w = some r) : lt_C l D gA s0 yX1_outcome cX1_outcome 1 (some .int) (lt_rm 5) [.ref (s0.heap.size + o)] σ w σ (some (.int r.1)) r.2 := by
  refine lt_enter rfl (Nat.le_of_ble_eq_true rfl) (fun X e1 e2 e3 e4 hF hE => ?_)
  subst e1 e2 e3 e4
  exact jb_X1_outcome_0 hT h0 hF hE _ hf

set_option maxRecDepth 100000 in
def fb_X1_bestFrom_208 (σ : lt_S) (o : Nat) (kR : Int32 → lt_W → Option (Int32 × lt_W)) (x1 : Int32) (x4 : Int32) (x5 : Int32) (w : lt_W) : Option (Int32 × lt_W) := if x1 = 0 then lt_let (lt_si w o 6 x5) (fun w1 => some (x4, w1)) else some (x4, w)
set_option maxHeartbeats 4000000 in
set_option maxRecDepth 100000 in
theorem jb_X1_bestFrom_208 {X : lt_X} {σ : lt_S} (hT : lt_Wt σ) {o : Nat} (h0 : lt_c σ o = 1) {r : Int32 × lt_W} {lev : Nat} {kR : Int32 → lt_W → Option (Int32 × lt_W)} (hF : lt_F X cX1_bestFrom RX1 9 (lt_rm (lev + 1))) (hE : lt_E X 0 0 σ (some .int) (some (.int r.1)) r.2) (hL : 6 ≤ lev) (hkR : ∀ (x1 : Int32) (w : lt_W) (r : Int32 × lt_W), kR x1 w = some r → lt_C (lt_Xl X) (lt_XD X) (lt_XA X) (lt_Xs X) yX1_bestFrom cX1_bestFrom 9 (some .int) (lt_rm lev) [.ref ((lt_Xs X).heap.size + o), .int x1] σ w σ (some (.int r.1)) r.2) : ∀ (x1 : Int32) (x4 : Int32) (x5 : Int32) (w : lt_W), fb_X1_bestFrom_208 σ o kR x1 x4 x5 w = some r → lt_J X 0 0 σ w 208 [(0, .ref (lt_z X + o)), (1, .int x1), (4, .int x4), (5, .int x5)] [] := by
  intro x1 x4 x5 w hf
  unfold fb_X1_bestFrom_208 at hf
  refine jr_iload_n hF dX1_bestFrom_208 1 rfl rfl ?_
  refine jr_if_ne (tgt := 218) hF dX1_bestFrom_209 rfl hf (fun hf => ?_) (fun hf => ?_)
  · refine jr_iload hF dX1_bestFrom_218 2 rfl ?_
    obtain rfl := Option.some.inj hf
    exact jr_ireturn hF hE dX1_bestFrom_220
  · refine jr_aload_n hF dX1_bestFrom_212 0 rfl rfl ?_
    refine jr_iload hF dX1_bestFrom_213 3 rfl ?_
    refine jr_putI hF pf_X1_40 h0 dX1_bestFrom_215 ?_
    refine jr_letW hf (fun w1 hf => ?_)
    refine jr_iload hF dX1_bestFrom_218 2 rfl ?_
    obtain rfl := Option.some.inj hf
    exact jr_ireturn hF hE dX1_bestFrom_220
set_option maxRecDepth 100000 in
def fb_X1_bestFrom_201 (σ : lt_S) (o : Nat) (kR : Int32 → lt_W → Option (Int32 × lt_W)) (x1 : Int32) (x6 : Int32) (w : lt_W) : Option (Int32 × lt_W) := fb_X1_bestFrom_208 σ o kR x1 x6 (-1) w
set_option maxHeartbeats 4000000 in
set_option maxRecDepth 100000 in
theorem jb_X1_bestFrom_201 {X : lt_X} {σ : lt_S} (hT : lt_Wt σ) {o : Nat} (h0 : lt_c σ o = 1) {r : Int32 × lt_W} {lev : Nat} {kR : Int32 → lt_W → Option (Int32 × lt_W)} (hF : lt_F X cX1_bestFrom RX1 9 (lt_rm (lev + 1))) (hE : lt_E X 0 0 σ (some .int) (some (.int r.1)) r.2) (hL : 6 ≤ lev) (hkR : ∀ (x1 : Int32) (w : lt_W) (r : Int32 × lt_W), kR x1 w = some r → lt_C (lt_Xl X) (lt_XD X) (lt_XA X) (lt_Xs X) yX1_bestFrom cX1_bestFrom 9 (some .int) (lt_rm lev) [.ref ((lt_Xs X).heap.size + o), .int x1] σ w σ (some (.int r.1)) r.2) : ∀ (x1 : Int32) (x6 : Int32) (w : lt_W), fb_X1_bestFrom_201 σ o kR x1 x6 w = some r → lt_J X 0 0 σ w 201 [(0, .ref (lt_z X + o)), (1, .int x1), (6, .int x6)] [] := by
  intro x1 x6 w hf
  unfold fb_X1_bestFrom_201 at hf
  refine jr_iload hF dX1_bestFrom_201 2 rfl ?_
  refine jr_istore (lv' := [(0, .ref (lt_z X + o)), (1, .int x1), (4, .int x6)]) hF dX1_bestFrom_203 (by decide) [1, 2, 0] rfl ?_
  refine jr_iconst (v := (-1)) hF dX1_bestFrom_205 rfl ?_
  refine jr_istore (lv' := [(0, .ref (lt_z X + o)), (1, .int x1), (4, .int x6), (5, .int (-1))]) hF dX1_bestFrom_206 (by decide) [1, 2, 3, 0] rfl ?_
  exact jb_X1_bestFrom_208 hT h0 hF hE hL hkR _ _ _ _ hf
set_option maxRecDepth 100000 in
def fb_X1_bestFrom_59 (σ : lt_S) (o : Nat) (kR : Int32 → lt_W → Option (Int32 × lt_W)) : Nat → Int32 → Int32 → Int32 → Int32 → Int32 → Int32 → lt_W → Option (Int32 × lt_W)
  | 0, _, _, _, _, _, _, _ => none
  | n + 1, x1, x2, x3, x4, x5, x6, w => if (lt_gi w (lt_r σ o 1) 0) ≤ x6 then Option.bind (kR (x1 + 1) w) (fun q2 => if x2 = 0 then if x4 ≤ q2.1 then fb_X1_bestFrom_208 σ o kR x1 x4 x5 q2.2 else fb_X1_bestFrom_201 σ o kR x1 q2.1 q2.2 else if q2.1 ≤ x4 then fb_X1_bestFrom_208 σ o kR x1 x4 x5 q2.2 else fb_X1_bestFrom_201 σ o kR x1 q2.1 q2.2) else if x6 = x3 then fb_X1_bestFrom_59 σ o kR n x1 x2 x3 x4 x5 (x6 + 1) w else Option.bind (f_X5_isThere σ (lt_r σ o 1) x6 w) (fun q4 => if q4 = 0 then fb_X1_bestFrom_59 σ o kR n x1 x2 x3 x4 x5 (x6 + 1) w else lt_ck x6 (lt_len σ (lt_r σ (lt_r σ o 1) 15)) (lt_let (lt_gi w (lt_r σ (lt_r σ o 1) 15) x6.toNatClampNeg) (fun z7 => lt_ck x6 (lt_len σ (lt_r σ (lt_r σ o 1) 15)) (lt_let (lt_si w (lt_r σ (lt_r σ o 1) 15) x6.toNatClampNeg x3) (fun w10 => Option.bind (kR (x1 + 1) w10) (fun q11 => lt_ck x6 (lt_len σ (lt_r σ (lt_r σ o 1) 15)) (lt_let (lt_si q11.2 (lt_r σ (lt_r σ o 1) 15) x6.toNatClampNeg z7) (fun w14 => if x2 = 0 then if x4 ≤ q11.1 then fb_X1_bestFrom_59 σ o kR n x1 x2 x3 x4 x5 (x6 + 1) w14 else fb_X1_bestFrom_59 σ o kR n x1 x2 x3 q11.1 x6 (x6 + 1) w14 else if q11.1 ≤ x4 then fb_X1_bestFrom_59 σ o kR n x1 x2 x3 x4 x5 (x6 + 1) w14 else fb_X1_bestFrom_59 σ o kR n x1 x2 x3 q11.1 x6 (x6 + 1) w14))))))))
set_option maxHeartbeats 4000000 in
set_option maxRecDepth 100000 in
theorem jb_X1_bestFrom_59 {X : lt_X} {σ : lt_S} (hT : lt_Wt σ) {o : Nat} (h0 : lt_c σ o = 1) {r : Int32 × lt_W} {lev : Nat} {kR : Int32 → lt_W → Option (Int32 × lt_W)} (hF : lt_F X cX1_bestFrom RX1 9 (lt_rm (lev + 1))) (hE : lt_E X 0 0 σ (some .int) (some (.int r.1)) r.2) (hL : 6 ≤ lev) (hkR : ∀ (x1 : Int32) (w : lt_W) (r : Int32 × lt_W), kR x1 w = some r → lt_C (lt_Xl X) (lt_XD X) (lt_XA X) (lt_Xs X) yX1_bestFrom cX1_bestFrom 9 (some .int) (lt_rm lev) [.ref ((lt_Xs X).heap.size + o), .int x1] σ w σ (some (.int r.1)) r.2) (n : Nat) : ∀ (x1 : Int32) (x2 : Int32) (x3 : Int32) (x4 : Int32) (x5 : Int32) (x6 : Int32) (w : lt_W), fb_X1_bestFrom_59 σ o kR n x1 x2 x3 x4 x5 x6 w = some r → lt_J X 0 0 σ w 59 [(0, .ref (lt_z X + o)), (1, .int x1), (2, .int x2), (3, .int x3), (4, .int x4), (5, .int x5), (6, .int x6)] [] := by
  induction n with
  | zero => intro x1 x2 x3 x4 x5 x6 w hf; rw [fb_X1_bestFrom_59] at hf; cases hf
  | succ n ih =>
    intro x1 x2 x3 x4 x5 x6 w hf
    rw [fb_X1_bestFrom_59] at hf
    refine jr_iload hF dX1_bestFrom_59 6 rfl ?_
    refine jr_aload_n hF dX1_bestFrom_61 0 rfl rfl ?_
    refine jr_getRT (cr := 5) hF gf_X1_12 hT h0 rfl rfl dX1_bestFrom_62 (fun th1 => ?_)
    refine jr_getI hF gf_X1_55 th1 dX1_bestFrom_65 ?_
    refine jr_icmp_ge (tgt := 171) hF dX1_bestFrom_68 rfl hf (fun hf => ?_) (fun hf => ?_)
    · refine jr_aload_n hF dX1_bestFrom_171 0 rfl rfl ?_
      refine jr_iload_n hF dX1_bestFrom_172 1 rfl rfl ?_
      refine jr_iconst (v := 1) hF dX1_bestFrom_173 rfl ?_
      refine jr_iadd hF dX1_bestFrom_174 ?_
      obtain ⟨q2, hq2, hf⟩ := Option.bind_eq_some_iff.mp hf
      refine jr_cV11 hF ml_X1_47 (hkR _ _ _ hq2) h0 ⟨by simp only [lt_rm]; omega, by simp only [lt_rm]; omega⟩ (Nat.le_of_ble_eq_true rfl) dX1_bestFrom_175 ?_
      refine jr_istore (lv' := [(0, .ref (lt_z X + o)), (1, .int x1), (2, .int x2), (4, .int x4), (5, .int x5), (6, .int q2.1)]) hF dX1_bestFrom_178 (by decide) [1, 2, 3, 5, 6, 0] rfl ?_
      refine jr_iload_n hF dX1_bestFrom_180 2 rfl rfl ?_
      refine jr_if_eq (tgt := 194) hF dX1_bestFrom_181 rfl hf (fun hf => ?_) (fun hf => ?_)
      · refine jr_iload hF dX1_bestFrom_194 5 rfl ?_
        refine jr_iload hF dX1_bestFrom_196 3 rfl ?_
        refine jr_icmp_ge (tgt := 208) hF dX1_bestFrom_198 rfl hf (fun hf => ?_) (fun hf => ?_)
        · refine jr_sub [0, 1, 3, 4] rfl ?_
          exact jb_X1_bestFrom_208 hT h0 hF hE hL hkR _ _ _ _ hf
        · refine jr_sub [0, 1, 5] rfl ?_
          exact jb_X1_bestFrom_201 hT h0 hF hE hL hkR _ _ _ hf
      · refine jr_iload hF dX1_bestFrom_184 5 rfl ?_
        refine jr_iload hF dX1_bestFrom_186 3 rfl ?_
        refine jr_icmp_le (tgt := 208) hF dX1_bestFrom_188 rfl hf (fun hf => ?_) (fun hf => ?_)
        · refine jr_sub [0, 1, 3, 4] rfl ?_
          exact jb_X1_bestFrom_208 hT h0 hF hE hL hkR _ _ _ _ hf
        · refine jr_goto (tgt := 201) hF dX1_bestFrom_191 rfl ?_
          refine jr_sub [0, 1, 5] rfl ?_
          exact jb_X1_bestFrom_201 hT h0 hF hE hL hkR _ _ _ hf
    · refine jr_iload hF dX1_bestFrom_71 6 rfl ?_
      refine jr_iload_n hF dX1_bestFrom_73 3 rfl rfl ?_
      refine jr_icmp_eq (tgt := 165) hF dX1_bestFrom_74 rfl hf (fun hf => ?_) (fun hf => ?_)
      · refine jr_iinc (v := x6 + 1) (lv' := [(0, .ref (lt_z X + o)), (1, .int x1), (2, .int x2), (3, .int x3), (4, .int x4), (5, .int x5), (6, .int (x6 + 1))]) hF dX1_bestFrom_165 6 rfl rfl (by decide) [1, 2, 3, 4, 5, 6, 0] rfl ?_
        refine jr_goto (tgt := 59) hF dX1_bestFrom_168 rfl ?_
        exact ih _ _ _ _ _ _ _ hf
      · refine jr_aload_n hF dX1_bestFrom_77 0 rfl rfl ?_
        refine jr_getRT (cr := 5) hF gf_X1_12 hT h0 rfl rfl dX1_bestFrom_78 (fun th3 => ?_)
        refine jr_iload hF dX1_bestFrom_81 6 rfl ?_
        obtain ⟨q4, hq4, hf⟩ := Option.bind_eq_some_iff.mp hf
        refine jr_cV11 hF ml_X1_58 (c_X5_isThere th3 hq4) th3 ⟨by simp only [lt_rm]; omega, by simp only [lt_rm]; omega⟩ (Nat.le_of_ble_eq_true rfl) dX1_bestFrom_83 ?_
        refine jr_if_ne (tgt := 92) hF dX1_bestFrom_86 rfl hf (fun hf => ?_) (fun hf => ?_)
        · refine jr_aload_n hF dX1_bestFrom_92 0 rfl rfl ?_
          refine jr_getRT (cr := 5) hF gf_X1_12 hT h0 rfl rfl dX1_bestFrom_93 (fun th5 => ?_)
          refine jr_getRT (cr := 50) hF gf_X1_62 hT th5 rfl rfl dX1_bestFrom_96 (fun th6 => ?_)
          refine jr_iload hF dX1_bestFrom_99 6 rfl ?_
          refine jr_iaload hF th6 dX1_bestFrom_101 hf (fun hf => ?_)
          refine jr_letI hf (fun z7 hf => ?_)
          refine jr_istore (lv' := [(0, .ref (lt_z X + o)), (1, .int x1), (2, .int x2), (3, .int x3), (4, .int x4), (5, .int x5), (6, .int x6), (7, .int z7)]) hF dX1_bestFrom_102 (by decide) [1, 2, 3, 4, 5, 6, 7, 0] rfl ?_
          refine jr_aload_n hF dX1_bestFrom_104 0 rfl rfl ?_
          refine jr_getRT (cr := 5) hF gf_X1_12 hT h0 rfl rfl dX1_bestFrom_105 (fun th8 => ?_)
          refine jr_getRT (cr := 50) hF gf_X1_62 hT th8 rfl rfl dX1_bestFrom_108 (fun th9 => ?_)
          refine jr_iload hF dX1_bestFrom_111 6 rfl ?_
          refine jr_iload_n hF dX1_bestFrom_113 3 rfl rfl ?_
          refine jr_iastore hF th9 dX1_bestFrom_114 hf (fun hf => ?_)
          refine jr_letW hf (fun w10 hf => ?_)
          refine jr_aload_n hF dX1_bestFrom_115 0 rfl rfl ?_
          refine jr_iload_n hF dX1_bestFrom_116 1 rfl rfl ?_
          refine jr_iconst (v := 1) hF dX1_bestFrom_117 rfl ?_
          refine jr_iadd hF dX1_bestFrom_118 ?_
          obtain ⟨q11, hq11, hf⟩ := Option.bind_eq_some_iff.mp hf
          refine jr_cV11 hF ml_X1_47 (hkR _ _ _ hq11) h0 ⟨by simp only [lt_rm]; omega, by simp only [lt_rm]; omega⟩ (Nat.le_of_ble_eq_true rfl) dX1_bestFrom_119 ?_
          refine jr_istore (lv' := [(0, .ref (lt_z X + o)), (1, .int x1), (2, .int x2), (3, .int x3), (4, .int x4), (5, .int x5), (6, .int x6), (7, .int z7), (8, .int q11.1)]) hF dX1_bestFrom_122 (by decide) [1, 2, 3, 4, 5, 6, 7, 8, 0] rfl ?_
          refine jr_aload_n hF dX1_bestFrom_124 0 rfl rfl ?_
          refine jr_getRT (cr := 5) hF gf_X1_12 hT h0 rfl rfl dX1_bestFrom_125 (fun th12 => ?_)
          refine jr_getRT (cr := 50) hF gf_X1_62 hT th12 rfl rfl dX1_bestFrom_128 (fun th13 => ?_)
          refine jr_iload hF dX1_bestFrom_131 6 rfl ?_
          refine jr_iload hF dX1_bestFrom_133 7 rfl ?_
          refine jr_iastore hF th13 dX1_bestFrom_135 hf (fun hf => ?_)
          refine jr_letW hf (fun w14 hf => ?_)
          refine jr_iload_n hF dX1_bestFrom_136 2 rfl rfl ?_
          refine jr_if_eq (tgt := 150) hF dX1_bestFrom_137 rfl hf (fun hf => ?_) (fun hf => ?_)
          · refine jr_iload hF dX1_bestFrom_150 8 rfl ?_
            refine jr_iload hF dX1_bestFrom_152 4 rfl ?_
            refine jr_icmp_ge (tgt := 165) hF dX1_bestFrom_154 rfl hf (fun hf => ?_) (fun hf => ?_)
            · refine jr_iinc (v := x6 + 1) (lv' := [(0, .ref (lt_z X + o)), (1, .int x1), (2, .int x2), (3, .int x3), (4, .int x4), (5, .int x5), (6, .int (x6 + 1)), (7, .int z7), (8, .int q11.1)]) hF dX1_bestFrom_165 6 rfl rfl (by decide) [1, 2, 3, 4, 5, 6, 0, 7, 8] rfl ?_
              refine jr_goto (tgt := 59) hF dX1_bestFrom_168 rfl ?_
              refine jr_sub [0, 1, 2, 3, 4, 5, 6] rfl ?_
              exact ih _ _ _ _ _ _ _ hf
            · refine jr_iload hF dX1_bestFrom_157 8 rfl ?_
              refine jr_istore (lv' := [(0, .ref (lt_z X + o)), (1, .int x1), (2, .int x2), (3, .int x3), (4, .int q11.1), (6, .int x6)]) hF dX1_bestFrom_159 (by decide) [1, 2, 3, 4, 0, 6] rfl ?_
              refine jr_iload hF dX1_bestFrom_161 5 rfl ?_
              refine jr_istore (lv' := [(0, .ref (lt_z X + o)), (1, .int x1), (2, .int x2), (3, .int x3), (4, .int q11.1), (5, .int x6), (6, .int x6)]) hF dX1_bestFrom_163 (by decide) [1, 2, 3, 4, 5, 0, 6] rfl ?_
              refine jr_iinc (v := x6 + 1) (lv' := [(0, .ref (lt_z X + o)), (1, .int x1), (2, .int x2), (3, .int x3), (4, .int q11.1), (5, .int x6), (6, .int (x6 + 1))]) hF dX1_bestFrom_165 6 rfl rfl (by decide) [1, 2, 3, 4, 5, 6, 0] rfl ?_
              refine jr_goto (tgt := 59) hF dX1_bestFrom_168 rfl ?_
              exact ih _ _ _ _ _ _ _ hf
          · refine jr_iload hF dX1_bestFrom_140 8 rfl ?_
            refine jr_iload hF dX1_bestFrom_142 4 rfl ?_
            refine jr_icmp_le (tgt := 165) hF dX1_bestFrom_144 rfl hf (fun hf => ?_) (fun hf => ?_)
            · refine jr_iinc (v := x6 + 1) (lv' := [(0, .ref (lt_z X + o)), (1, .int x1), (2, .int x2), (3, .int x3), (4, .int x4), (5, .int x5), (6, .int (x6 + 1)), (7, .int z7), (8, .int q11.1)]) hF dX1_bestFrom_165 6 rfl rfl (by decide) [1, 2, 3, 4, 5, 6, 0, 7, 8] rfl ?_
              refine jr_goto (tgt := 59) hF dX1_bestFrom_168 rfl ?_
              refine jr_sub [0, 1, 2, 3, 4, 5, 6] rfl ?_
              exact ih _ _ _ _ _ _ _ hf
            · refine jr_goto (tgt := 157) hF dX1_bestFrom_147 rfl ?_
              refine jr_iload hF dX1_bestFrom_157 8 rfl ?_
              refine jr_istore (lv' := [(0, .ref (lt_z X + o)), (1, .int x1), (2, .int x2), (3, .int x3), (4, .int q11.1), (6, .int x6)]) hF dX1_bestFrom_159 (by decide) [1, 2, 3, 4, 0, 6] rfl ?_
              refine jr_iload hF dX1_bestFrom_161 5 rfl ?_
              refine jr_istore (lv' := [(0, .ref (lt_z X + o)), (1, .int x1), (2, .int x2), (3, .int x3), (4, .int q11.1), (5, .int x6), (6, .int x6)]) hF dX1_bestFrom_163 (by decide) [1, 2, 3, 4, 5, 0, 6] rfl ?_
              refine jr_iinc (v := x6 + 1) (lv' := [(0, .ref (lt_z X + o)), (1, .int x1), (2, .int x2), (3, .int x3), (4, .int q11.1), (5, .int x6), (6, .int (x6 + 1))]) hF dX1_bestFrom_165 6 rfl rfl (by decide) [1, 2, 3, 4, 5, 6, 0] rfl ?_
              refine jr_goto (tgt := 59) hF dX1_bestFrom_168 rfl ?_
              exact ih _ _ _ _ _ _ _ hf
        · refine jr_goto (tgt := 165) hF dX1_bestFrom_89 rfl ?_
          refine jr_iinc (v := x6 + 1) (lv' := [(0, .ref (lt_z X + o)), (1, .int x1), (2, .int x2), (3, .int x3), (4, .int x4), (5, .int x5), (6, .int (x6 + 1))]) hF dX1_bestFrom_165 6 rfl rfl (by decide) [1, 2, 3, 4, 5, 6, 0] rfl ?_
          refine jr_goto (tgt := 59) hF dX1_bestFrom_168 rfl ?_
          exact ih _ _ _ _ _ _ _ hf
set_option maxRecDepth 100000 in
def fb_X1_bestFrom_40 (σ : lt_S) (o : Nat) (kR : Int32 → lt_W → Option (Int32 × lt_W)) (x1 : Int32) (x2 : Int32) (y0 : Int32) (w : lt_W) : Option (Int32 × lt_W) := if x2 = 0 then fb_X1_bestFrom_59 σ o kR lt_fu x1 x2 y0 2 (-1) 0 w else fb_X1_bestFrom_59 σ o kR lt_fu x1 x2 y0 (-2) (-1) 0 w
set_option maxHeartbeats 4000000 in
set_option maxRecDepth 100000 in
theorem jb_X1_bestFrom_40 {X : lt_X} {σ : lt_S} (hT : lt_Wt σ) {o : Nat} (h0 : lt_c σ o = 1) {r : Int32 × lt_W} {lev : Nat} {kR : Int32 → lt_W → Option (Int32 × lt_W)} (hF : lt_F X cX1_bestFrom RX1 9 (lt_rm (lev + 1))) (hE : lt_E X 0 0 σ (some .int) (some (.int r.1)) r.2) (hL : 6 ≤ lev) (hkR : ∀ (x1 : Int32) (w : lt_W) (r : Int32 × lt_W), kR x1 w = some r → lt_C (lt_Xl X) (lt_XD X) (lt_XA X) (lt_Xs X) yX1_bestFrom cX1_bestFrom 9 (some .int) (lt_rm lev) [.ref ((lt_Xs X).heap.size + o), .int x1] σ w σ (some (.int r.1)) r.2) : ∀ (x1 : Int32) (x2 : Int32) (y0 : Int32) (w : lt_W), fb_X1_bestFrom_40 σ o kR x1 x2 y0 w = some r → lt_J X 0 0 σ w 40 [(0, .ref (lt_z X + o)), (1, .int x1), (2, .int x2)] [.int y0] := by
  intro x1 x2 y0 w hf
  unfold fb_X1_bestFrom_40 at hf
  refine jr_istore_n (lv' := [(0, .ref (lt_z X + o)), (1, .int x1), (2, .int x2), (3, .int y0)]) hF dX1_bestFrom_40 rfl (by decide) [1, 2, 3, 0] rfl ?_
  refine jr_iload_n hF dX1_bestFrom_41 2 rfl rfl ?_
  refine jr_if_eq (tgt := 50) hF dX1_bestFrom_42 rfl hf (fun hf => ?_) (fun hf => ?_)
  · refine jr_iconst (v := 2) hF dX1_bestFrom_50 rfl ?_
    refine jr_istore (lv' := [(0, .ref (lt_z X + o)), (1, .int x1), (2, .int x2), (3, .int y0), (4, .int 2)]) hF dX1_bestFrom_51 (by decide) [1, 2, 3, 4, 0] rfl ?_
    refine jr_iconst (v := (-1)) hF dX1_bestFrom_53 rfl ?_
    refine jr_istore (lv' := [(0, .ref (lt_z X + o)), (1, .int x1), (2, .int x2), (3, .int y0), (4, .int 2), (5, .int (-1))]) hF dX1_bestFrom_54 (by decide) [1, 2, 3, 4, 5, 0] rfl ?_
    refine jr_iconst (v := 0) hF dX1_bestFrom_56 rfl ?_
    refine jr_istore (lv' := [(0, .ref (lt_z X + o)), (1, .int x1), (2, .int x2), (3, .int y0), (4, .int 2), (5, .int (-1)), (6, .int 0)]) hF dX1_bestFrom_57 (by decide) [1, 2, 3, 4, 5, 6, 0] rfl ?_
    exact jb_X1_bestFrom_59 hT h0 hF hE hL hkR lt_fu _ _ _ _ _ _ _ hf
  · refine jr_bipush (v := (-2)) hF dX1_bestFrom_45 rfl ?_
    refine jr_goto (tgt := 51) hF dX1_bestFrom_47 rfl ?_
    refine jr_istore (lv' := [(0, .ref (lt_z X + o)), (1, .int x1), (2, .int x2), (3, .int y0), (4, .int (-2))]) hF dX1_bestFrom_51 (by decide) [1, 2, 3, 4, 0] rfl ?_
    refine jr_iconst (v := (-1)) hF dX1_bestFrom_53 rfl ?_
    refine jr_istore (lv' := [(0, .ref (lt_z X + o)), (1, .int x1), (2, .int x2), (3, .int y0), (4, .int (-2)), (5, .int (-1))]) hF dX1_bestFrom_54 (by decide) [1, 2, 3, 4, 5, 0] rfl ?_
    refine jr_iconst (v := 0) hF dX1_bestFrom_56 rfl ?_
    refine jr_istore (lv' := [(0, .ref (lt_z X + o)), (1, .int x1), (2, .int x2), (3, .int y0), (4, .int (-2)), (5, .int (-1)), (6, .int 0)]) hF dX1_bestFrom_57 (by decide) [1, 2, 3, 4, 5, 6, 0] rfl ?_
    exact jb_X1_bestFrom_59 hT h0 hF hE hL hkR lt_fu _ _ _ _ _ _ _ hf
set_option maxRecDepth 100000 in
def fb_X1_bestFrom_24 (σ : lt_S) (o : Nat) (kR : Int32 → lt_W → Option (Int32 × lt_W)) (x1 : Int32) (y0 : Int32) (w : lt_W) : Option (Int32 × lt_W) := if y0 = 0 then fb_X1_bestFrom_40 σ o kR x1 y0 (lt_gi w o 4) w else fb_X1_bestFrom_40 σ o kR x1 y0 (lt_gi w o 3) w
set_option maxHeartbeats 4000000 in
set_option maxRecDepth 100000 in
theorem jb_X1_bestFrom_24 {X : lt_X} {σ : lt_S} (hT : lt_Wt σ) {o : Nat} (h0 : lt_c σ o = 1) {r : Int32 × lt_W} {lev : Nat} {kR : Int32 → lt_W → Option (Int32 × lt_W)} (hF : lt_F X cX1_bestFrom RX1 9 (lt_rm (lev + 1))) (hE : lt_E X 0 0 σ (some .int) (some (.int r.1)) r.2) (hL : 6 ≤ lev) (hkR : ∀ (x1 : Int32) (w : lt_W) (r : Int32 × lt_W), kR x1 w = some r → lt_C (lt_Xl X) (lt_XD X) (lt_XA X) (lt_Xs X) yX1_bestFrom cX1_bestFrom 9 (some .int) (lt_rm lev) [.ref ((lt_Xs X).heap.size + o), .int x1] σ w σ (some (.int r.1)) r.2) : ∀ (x1 : Int32) (y0 : Int32) (w : lt_W), fb_X1_bestFrom_24 σ o kR x1 y0 w = some r → lt_J X 0 0 σ w 24 [(0, .ref (lt_z X + o)), (1, .int x1)] [.int y0] := by
  intro x1 y0 w hf
  unfold fb_X1_bestFrom_24 at hf
  refine jr_istore_n (lv' := [(0, .ref (lt_z X + o)), (1, .int x1), (2, .int y0)]) hF dX1_bestFrom_24 rfl (by decide) [1, 2, 0] rfl ?_
  refine jr_iload_n hF dX1_bestFrom_25 2 rfl rfl ?_
  refine jr_if_eq (tgt := 36) hF dX1_bestFrom_26 rfl hf (fun hf => ?_) (fun hf => ?_)
  · refine jr_aload_n hF dX1_bestFrom_36 0 rfl rfl ?_
    refine jr_getI hF gf_X1_28 h0 dX1_bestFrom_37 ?_
    exact jb_X1_bestFrom_40 hT h0 hF hE hL hkR _ _ _ _ hf
  · refine jr_aload_n hF dX1_bestFrom_29 0 rfl rfl ?_
    refine jr_getI hF gf_X1_24 h0 dX1_bestFrom_30 ?_
    refine jr_goto (tgt := 40) hF dX1_bestFrom_33 rfl ?_
    exact jb_X1_bestFrom_40 hT h0 hF hE hL hkR _ _ _ _ hf
set_option maxRecDepth 100000 in
def fb_X1_bestFrom_0 (σ : lt_S) (o : Nat) (kR : Int32 → lt_W → Option (Int32 × lt_W)) (x1 : Int32) (w : lt_W) : Option (Int32 × lt_W) := if x1 < (lt_gi w o 5) then if (x1 - x1 / 2 * 2) = 0 then fb_X1_bestFrom_24 σ o kR x1 1 w else fb_X1_bestFrom_24 σ o kR x1 0 w else Option.bind (f_X1_outcome σ o w) (fun q1 => some (q1.1, q1.2))
set_option maxHeartbeats 4000000 in
set_option maxRecDepth 100000 in
theorem jb_X1_bestFrom_0 {X : lt_X} {σ : lt_S} (hT : lt_Wt σ) {o : Nat} (h0 : lt_c σ o = 1) {r : Int32 × lt_W} {lev : Nat} {kR : Int32 → lt_W → Option (Int32 × lt_W)} (hF : lt_F X cX1_bestFrom RX1 9 (lt_rm (lev + 1))) (hE : lt_E X 0 0 σ (some .int) (some (.int r.1)) r.2) (hL : 6 ≤ lev) (hkR : ∀ (x1 : Int32) (w : lt_W) (r : Int32 × lt_W), kR x1 w = some r → lt_C (lt_Xl X) (lt_XD X) (lt_XA X) (lt_Xs X) yX1_bestFrom cX1_bestFrom 9 (some .int) (lt_rm lev) [.ref ((lt_Xs X).heap.size + o), .int x1] σ w σ (some (.int r.1)) r.2) : ∀ (x1 : Int32) (w : lt_W), fb_X1_bestFrom_0 σ o kR x1 w = some r → lt_J X 0 0 σ w 0 [(0, .ref (lt_z X + o)), (1, .int x1)] [] := by
  intro x1 w hf
  unfold fb_X1_bestFrom_0 at hf
  refine jr_iload_n hF dX1_bestFrom_0 1 rfl rfl ?_
  refine jr_aload_n hF dX1_bestFrom_1 0 rfl rfl ?_
  refine jr_getI hF gf_X1_37 h0 dX1_bestFrom_2 ?_
  refine jr_icmp_lt (tgt := 13) hF dX1_bestFrom_5 rfl hf (fun hf => ?_) (fun hf => ?_)
  · refine jr_iload_n hF dX1_bestFrom_13 1 rfl rfl ?_
    refine jr_iconst (v := 2) hF dX1_bestFrom_14 rfl ?_
    refine jr_iremc hF dX1_bestFrom_15 (by decide) ?_
    refine jr_if_ne (tgt := 23) hF dX1_bestFrom_16 rfl hf (fun hf => ?_) (fun hf => ?_)
    · refine jr_iconst (v := 0) hF dX1_bestFrom_23 rfl ?_
      exact jb_X1_bestFrom_24 hT h0 hF hE hL hkR _ _ _ hf
    · refine jr_iconst (v := 1) hF dX1_bestFrom_19 rfl ?_
      refine jr_goto (tgt := 24) hF dX1_bestFrom_20 rfl ?_
      exact jb_X1_bestFrom_24 hT h0 hF hE hL hkR _ _ _ hf
  · refine jr_aload_n hF dX1_bestFrom_8 0 rfl rfl ?_
    obtain ⟨q1, hq1, hf⟩ := Option.bind_eq_some_iff.mp hf
    refine jr_cV01 hF ml_X1_51 (c_X1_outcome hT h0 hq1) h0 ⟨by simp only [lt_rm]; omega, by simp only [lt_rm]; omega⟩ (Nat.le_of_ble_eq_true rfl) dX1_bestFrom_9 ?_
    obtain rfl := Option.some.inj hf
    exact jr_ireturn hF hE dX1_bestFrom_12
def f_X1_bestFrom (σ : lt_S) (o : Nat) : Nat → Int32 → lt_W → Option (Int32 × lt_W)
  | 0, _, _ => none
  | dd + 1, x1, w => fb_X1_bestFrom_0 σ o (fun x1 w => f_X1_bestFrom σ o dd x1 w) x1 w
set_option maxRecDepth 100000 in
theorem cd_X1_bestFrom {l : Launch} {D : va_G} {gA : Nat → ClassId} {s0 : State} {σ : lt_S} (hT : lt_Wt σ) {o : Nat} (h0 : lt_c σ o = 1) (dd : Nat) : ∀ (x1 : Int32) (w : lt_W) (r : Int32 × lt_W), f_X1_bestFrom σ o dd x1 w = some r → lt_C l D gA s0 yX1_bestFrom cX1_bestFrom 9 (some .int) (lt_rm (6 + 1 * dd)) [.ref (s0.heap.size + o), .int x1] σ w σ (some (.int r.1)) r.2 := by
  induction dd with
  | zero => intro x1 w r hf; rw [f_X1_bestFrom] at hf; cases hf
  | succ dd ih =>
    intro x1 w r hf
    rw [f_X1_bestFrom] at hf
    refine lt_enter rfl (Nat.le_of_ble_eq_true rfl) (fun X e1 e2 e3 e4 hF hE => ?_)
    subst e1 e2 e3 e4
    have hL : 6 ≤ 6 + 1 * dd := by omega
    exact jb_X1_bestFrom_0 hT h0 hF hE hL ih _ _ hf
theorem c_X1_bestFrom {l : Launch} {D : va_G} {gA : Nat → ClassId} {s0 : State} {σ : lt_S} (hT : lt_Wt σ) {o : Nat} (h0 : lt_c σ o = 1) {x1 : Int32} {w : lt_W} {r : Int32 × lt_W} (hf : f_X1_bestFrom σ o 8 x1 w = some r) : lt_C l D gA s0 yX1_bestFrom cX1_bestFrom 9 (some .int) (lt_rm 14) [.ref (s0.heap.size + o), .int x1] σ w σ (some (.int r.1)) r.2 := cd_X1_bestFrom hT h0 8 _ _ _ hf

set_option maxRecDepth 100000 in
def fb_X1_outcomeOf_0 (σ : lt_S) (o : Nat) (x1 : Int32) (x2 : Int32) (x3 : Int32) (w : lt_W) : Option (Int32 × lt_W) := lt_let (lt_si w o 3 x1) (fun w1 => lt_let (lt_si w1 o 4 x2) (fun w2 => lt_let (lt_si w2 o 5 (lt_min x3 3)) (fun w3 => lt_let (lt_si w3 o 6 (-1)) (fun w4 => Option.bind (f_X5_copyFrom σ (lt_r σ o 1) (lt_r σ o 0) w4) (fun q7 => Option.bind (f_X1_bestFrom σ o 8 0 q7) (fun q8 => some (q8.1, q8.2)))))))
set_option maxHeartbeats 4000000 in
set_option maxRecDepth 100000 in
theorem jb_X1_outcomeOf_0 {X : lt_X} {σ : lt_S} (hT : lt_Wt σ) {o : Nat} (h0 : lt_c σ o = 1) {r : Int32 × lt_W} (hF : lt_F X cX1_outcomeOf RX1 4 (lt_rm 15)) (hE : lt_E X 0 0 σ (some .int) (some (.int r.1)) r.2) : ∀ (x1 : Int32) (x2 : Int32) (x3 : Int32) (w : lt_W), fb_X1_outcomeOf_0 σ o x1 x2 x3 w = some r → lt_J X 0 0 σ w 0 [(0, .ref (lt_z X + o)), (1, .int x1), (2, .int x2), (3, .int x3)] [] := by
  intro x1 x2 x3 w hf
  unfold fb_X1_outcomeOf_0 at hf
  refine jr_aload_n hF dX1_outcomeOf_0 0 rfl rfl ?_
  refine jr_iload_n hF dX1_outcomeOf_1 1 rfl rfl ?_
  refine jr_putI hF pf_X1_24 h0 dX1_outcomeOf_2 ?_
  refine jr_letW hf (fun w1 hf => ?_)
  refine jr_aload_n hF dX1_outcomeOf_5 0 rfl rfl ?_
  refine jr_iload_n hF dX1_outcomeOf_6 2 rfl rfl ?_
  refine jr_putI hF pf_X1_28 h0 dX1_outcomeOf_7 ?_
  refine jr_letW hf (fun w2 hf => ?_)
  refine jr_aload_n hF dX1_outcomeOf_10 0 rfl rfl ?_
  refine jr_iload_n hF dX1_outcomeOf_11 3 rfl rfl ?_
  refine jr_iconst (v := 3) hF dX1_outcomeOf_12 rfl ?_
  refine jr_min hF mm_X1_31 ⟨Nat.le_of_ble_eq_true rfl, Nat.le_of_ble_eq_true rfl, Nat.zero_le _, Nat.zero_le _⟩ dX1_outcomeOf_13 ?_
  refine jr_putI hF pf_X1_37 h0 dX1_outcomeOf_16 ?_
  refine jr_letW hf (fun w3 hf => ?_)
  refine jr_aload_n hF dX1_outcomeOf_19 0 rfl rfl ?_
  refine jr_iconst (v := (-1)) hF dX1_outcomeOf_20 rfl ?_
  refine jr_putI hF pf_X1_40 h0 dX1_outcomeOf_21 ?_
  refine jr_letW hf (fun w4 hf => ?_)
  refine jr_aload_n hF dX1_outcomeOf_24 0 rfl rfl ?_
  refine jr_getRT (cr := 5) hF gf_X1_12 hT h0 rfl rfl dX1_outcomeOf_25 (fun th5 => ?_)
  refine jr_aload_n hF dX1_outcomeOf_28 0 rfl rfl ?_
  refine jr_getRT (cr := 5) hF gf_X1_21 hT h0 rfl rfl dX1_outcomeOf_29 (fun th6 => ?_)
  obtain ⟨q7, hq7, hf⟩ := Option.bind_eq_some_iff.mp hf
  refine jr_cV1v hF ml_X1_43 (c_X5_copyFrom hT th5 th6 hq7) th5 ⟨Nat.le_of_ble_eq_true rfl, Nat.le_of_ble_eq_true rfl⟩ (Nat.le_of_ble_eq_true rfl) dX1_outcomeOf_32 ?_
  refine jr_aload_n hF dX1_outcomeOf_35 0 rfl rfl ?_
  refine jr_iconst (v := 0) hF dX1_outcomeOf_36 rfl ?_
  obtain ⟨q8, hq8, hf⟩ := Option.bind_eq_some_iff.mp hf
  refine jr_cV11 hF ml_X1_47 (c_X1_bestFrom hT h0 hq8) h0 ⟨Nat.le_of_ble_eq_true rfl, Nat.le_of_ble_eq_true rfl⟩ (Nat.le_of_ble_eq_true rfl) dX1_outcomeOf_37 ?_
  obtain rfl := Option.some.inj hf
  exact jr_ireturn hF hE dX1_outcomeOf_40
def f_X1_outcomeOf (σ : lt_S) (o : Nat) (x1 : Int32) (x2 : Int32) (x3 : Int32) (w : lt_W) : Option (Int32 × lt_W) := fb_X1_outcomeOf_0 σ o x1 x2 x3 w
set_option maxRecDepth 100000 in
theorem c_X1_outcomeOf {l : Launch} {D : va_G} {gA : Nat → ClassId} {s0 : State} {σ : lt_S} (hT : lt_Wt σ) {o : Nat} (h0 : lt_c σ o = 1) {x1 : Int32} {x2 : Int32} {x3 : Int32} {w : lt_W} {r : Int32 × lt_W} (hf : f_X1_outcomeOf σ o x1 x2 x3 w = some r) : lt_C l D gA s0 yX1_outcomeOf cX1_outcomeOf 4 (some .int) (lt_rm 15) [.ref (s0.heap.size + o), .int x1, .int x2, .int x3] σ w σ (some (.int r.1)) r.2 := by
  refine lt_enter rfl (Nat.le_of_ble_eq_true rfl) (fun X e1 e2 e3 e4 hF hE => ?_)
  subst e1 e2 e3 e4
  exact jb_X1_outcomeOf_0 hT h0 hF hE _ _ _ _ hf

set_option maxRecDepth 100000 in
def fb_X9_copyFrom_0 (σ : lt_S) (o : Nat) (x1 : Nat) (w : lt_W) : Option lt_W := lt_bz (lt_gi w x1 0) (lt_let (lt_si w o 0 (lt_gi w x1 0)) (fun w2 => lt_let (lt_si w2 o 1 (lt_gi w2 x1 1)) (fun w3 => lt_cc (lt_len σ (lt_r σ x1 2)) (lt_len σ (lt_r σ o 2)) 0 0 30 (lt_let (lt_ci w3 (lt_r σ x1 2) (lt_r σ o 2) (0 : Int32).toNatClampNeg (0 : Int32).toNatClampNeg (30 : Int32).toNatClampNeg) (fun w6 => lt_cc (lt_len σ (lt_r σ x1 3)) (lt_len σ (lt_r σ o 3)) 0 0 30 (lt_let (lt_ci w6 (lt_r σ x1 3) (lt_r σ o 3) (0 : Int32).toNatClampNeg (0 : Int32).toNatClampNeg (30 : Int32).toNatClampNeg) (fun w9 => lt_cc (lt_len σ (lt_r σ x1 4)) (lt_len σ (lt_r σ o 4)) 0 0 30 (lt_let (lt_ci w9 (lt_r σ x1 4) (lt_r σ o 4) (0 : Int32).toNatClampNeg (0 : Int32).toNatClampNeg (30 : Int32).toNatClampNeg) (fun w12 => lt_cc (lt_len σ (lt_r σ x1 5)) (lt_len σ (lt_r σ o 5)) 0 0 30 (lt_let (lt_ci w12 (lt_r σ x1 5) (lt_r σ o 5) (0 : Int32).toNatClampNeg (0 : Int32).toNatClampNeg (30 : Int32).toNatClampNeg) (fun w15 => lt_cc (lt_len σ (lt_r σ x1 6)) (lt_len σ (lt_r σ o 6)) 0 0 30 (lt_let (lt_ci w15 (lt_r σ x1 6) (lt_r σ o 6) (0 : Int32).toNatClampNeg (0 : Int32).toNatClampNeg (30 : Int32).toNatClampNeg) (fun w18 => lt_cc (lt_len σ (lt_r σ x1 7)) (lt_len σ (lt_r σ o 7)) 0 0 30 (lt_let (lt_ci w18 (lt_r σ x1 7) (lt_r σ o 7) (0 : Int32).toNatClampNeg (0 : Int32).toNatClampNeg (30 : Int32).toNatClampNeg) (fun w21 => lt_cc (lt_len σ (lt_r σ x1 8)) (lt_len σ (lt_r σ o 8)) 0 0 30 (lt_let (lt_ci w21 (lt_r σ x1 8) (lt_r σ o 8) (0 : Int32).toNatClampNeg (0 : Int32).toNatClampNeg (30 : Int32).toNatClampNeg) (fun w24 => some w24)))))))))))))))))
set_option maxHeartbeats 4000000 in
set_option maxRecDepth 100000 in
theorem jb_X9_copyFrom_0 {X : lt_X} {σ : lt_S} (hT : lt_Wt σ) {o : Nat} (h0 : lt_c σ o = 9) {r : lt_W} (hF : lt_F X cX9_copyFrom RX9 2 (lt_rm 2)) (hE : lt_E X 0 0 σ none none r) : ∀ (x1 : Nat) (w : lt_W), lt_c σ x1 = 9 → fb_X9_copyFrom_0 σ o x1 w = some r → lt_J X 0 0 σ w 0 [(0, .ref (lt_z X + o)), (1, .ref (lt_z X + x1))] [] := by
  intro x1 w t1 hf
  unfold fb_X9_copyFrom_0 at hf
  refine jr_aload_n hF dX9_copyFrom_0 0 rfl rfl ?_
  refine jr_aload_n hF dX9_copyFrom_1 1 rfl rfl ?_
  refine jr_getI hF gf_X9_33 t1 dX9_copyFrom_2 ?_
  obtain ⟨b1, hf⟩ := lt_bzE hf
  refine jr_putZ hF pf_X9_33 h0 b1 dX9_copyFrom_5 ?_
  refine jr_letW hf (fun w2 hf => ?_)
  refine jr_aload_n hF dX9_copyFrom_8 0 rfl rfl ?_
  refine jr_aload_n hF dX9_copyFrom_9 1 rfl rfl ?_
  refine jr_getI hF gf_X9_37 t1 dX9_copyFrom_10 ?_
  refine jr_putI hF pf_X9_37 h0 dX9_copyFrom_13 ?_
  refine jr_letW hf (fun w3 hf => ?_)
  refine jr_aload_n hF dX9_copyFrom_16 1 rfl rfl ?_
  refine jr_getRT (cr := 50) hF gf_X9_9 hT t1 rfl rfl dX9_copyFrom_17 (fun th4 => ?_)
  refine jr_iconst (v := 0) hF dX9_copyFrom_20 rfl ?_
  refine jr_aload_n hF dX9_copyFrom_21 0 rfl rfl ?_
  refine jr_getRT (cr := 50) hF gf_X9_9 hT h0 rfl rfl dX9_copyFrom_22 (fun th5 => ?_)
  refine jr_iconst (v := 0) hF dX9_copyFrom_25 rfl ?_
  refine jr_bipush (v := 30) hF dX9_copyFrom_26 rfl ?_
  refine jr_copyI hF ac_X9_41 th4 th5 ⟨Nat.le_of_ble_eq_true rfl, Nat.le_of_ble_eq_true rfl⟩ dX9_copyFrom_28 hf (fun hf => ?_)
  refine jr_letW hf (fun w6 hf => ?_)
  refine jr_aload_n hF dX9_copyFrom_31 1 rfl rfl ?_
  refine jr_getRT (cr := 50) hF gf_X9_15 hT t1 rfl rfl dX9_copyFrom_32 (fun th7 => ?_)
  refine jr_iconst (v := 0) hF dX9_copyFrom_35 rfl ?_
  refine jr_aload_n hF dX9_copyFrom_36 0 rfl rfl ?_
  refine jr_getRT (cr := 50) hF gf_X9_15 hT h0 rfl rfl dX9_copyFrom_37 (fun th8 => ?_)
  refine jr_iconst (v := 0) hF dX9_copyFrom_40 rfl ?_
  refine jr_bipush (v := 30) hF dX9_copyFrom_41 rfl ?_
  refine jr_copyI hF ac_X9_41 th7 th8 ⟨Nat.le_of_ble_eq_true rfl, Nat.le_of_ble_eq_true rfl⟩ dX9_copyFrom_43 hf (fun hf => ?_)
  refine jr_letW hf (fun w9 hf => ?_)
  refine jr_aload_n hF dX9_copyFrom_46 1 rfl rfl ?_
  refine jr_getRT (cr := 50) hF gf_X9_18 hT t1 rfl rfl dX9_copyFrom_47 (fun th10 => ?_)
  refine jr_iconst (v := 0) hF dX9_copyFrom_50 rfl ?_
  refine jr_aload_n hF dX9_copyFrom_51 0 rfl rfl ?_
  refine jr_getRT (cr := 50) hF gf_X9_18 hT h0 rfl rfl dX9_copyFrom_52 (fun th11 => ?_)
  refine jr_iconst (v := 0) hF dX9_copyFrom_55 rfl ?_
  refine jr_bipush (v := 30) hF dX9_copyFrom_56 rfl ?_
  refine jr_copyI hF ac_X9_41 th10 th11 ⟨Nat.le_of_ble_eq_true rfl, Nat.le_of_ble_eq_true rfl⟩ dX9_copyFrom_58 hf (fun hf => ?_)
  refine jr_letW hf (fun w12 hf => ?_)
  refine jr_aload_n hF dX9_copyFrom_61 1 rfl rfl ?_
  refine jr_getRT (cr := 50) hF gf_X9_21 hT t1 rfl rfl dX9_copyFrom_62 (fun th13 => ?_)
  refine jr_iconst (v := 0) hF dX9_copyFrom_65 rfl ?_
  refine jr_aload_n hF dX9_copyFrom_66 0 rfl rfl ?_
  refine jr_getRT (cr := 50) hF gf_X9_21 hT h0 rfl rfl dX9_copyFrom_67 (fun th14 => ?_)
  refine jr_iconst (v := 0) hF dX9_copyFrom_70 rfl ?_
  refine jr_bipush (v := 30) hF dX9_copyFrom_71 rfl ?_
  refine jr_copyI hF ac_X9_41 th13 th14 ⟨Nat.le_of_ble_eq_true rfl, Nat.le_of_ble_eq_true rfl⟩ dX9_copyFrom_73 hf (fun hf => ?_)
  refine jr_letW hf (fun w15 hf => ?_)
  refine jr_aload_n hF dX9_copyFrom_76 1 rfl rfl ?_
  refine jr_getRT (cr := 50) hF gf_X9_24 hT t1 rfl rfl dX9_copyFrom_77 (fun th16 => ?_)
  refine jr_iconst (v := 0) hF dX9_copyFrom_80 rfl ?_
  refine jr_aload_n hF dX9_copyFrom_81 0 rfl rfl ?_
  refine jr_getRT (cr := 50) hF gf_X9_24 hT h0 rfl rfl dX9_copyFrom_82 (fun th17 => ?_)
  refine jr_iconst (v := 0) hF dX9_copyFrom_85 rfl ?_
  refine jr_bipush (v := 30) hF dX9_copyFrom_86 rfl ?_
  refine jr_copyI hF ac_X9_41 th16 th17 ⟨Nat.le_of_ble_eq_true rfl, Nat.le_of_ble_eq_true rfl⟩ dX9_copyFrom_88 hf (fun hf => ?_)
  refine jr_letW hf (fun w18 hf => ?_)
  refine jr_aload_n hF dX9_copyFrom_91 1 rfl rfl ?_
  refine jr_getRT (cr := 50) hF gf_X9_27 hT t1 rfl rfl dX9_copyFrom_92 (fun th19 => ?_)
  refine jr_iconst (v := 0) hF dX9_copyFrom_95 rfl ?_
  refine jr_aload_n hF dX9_copyFrom_96 0 rfl rfl ?_
  refine jr_getRT (cr := 50) hF gf_X9_27 hT h0 rfl rfl dX9_copyFrom_97 (fun th20 => ?_)
  refine jr_iconst (v := 0) hF dX9_copyFrom_100 rfl ?_
  refine jr_bipush (v := 30) hF dX9_copyFrom_101 rfl ?_
  refine jr_copyI hF ac_X9_41 th19 th20 ⟨Nat.le_of_ble_eq_true rfl, Nat.le_of_ble_eq_true rfl⟩ dX9_copyFrom_103 hf (fun hf => ?_)
  refine jr_letW hf (fun w21 hf => ?_)
  refine jr_aload_n hF dX9_copyFrom_106 1 rfl rfl ?_
  refine jr_getRT (cr := 50) hF gf_X9_30 hT t1 rfl rfl dX9_copyFrom_107 (fun th22 => ?_)
  refine jr_iconst (v := 0) hF dX9_copyFrom_110 rfl ?_
  refine jr_aload_n hF dX9_copyFrom_111 0 rfl rfl ?_
  refine jr_getRT (cr := 50) hF gf_X9_30 hT h0 rfl rfl dX9_copyFrom_112 (fun th23 => ?_)
  refine jr_iconst (v := 0) hF dX9_copyFrom_115 rfl ?_
  refine jr_bipush (v := 30) hF dX9_copyFrom_116 rfl ?_
  refine jr_copyI hF ac_X9_41 th22 th23 ⟨Nat.le_of_ble_eq_true rfl, Nat.le_of_ble_eq_true rfl⟩ dX9_copyFrom_118 hf (fun hf => ?_)
  refine jr_letW hf (fun w24 hf => ?_)
  obtain rfl := Option.some.inj hf
  exact jr_return hF hE dX9_copyFrom_121
def f_X9_copyFrom (σ : lt_S) (o : Nat) (x1 : Nat) (w : lt_W) : Option lt_W := fb_X9_copyFrom_0 σ o x1 w
set_option maxRecDepth 100000 in
theorem c_X9_copyFrom {l : Launch} {D : va_G} {gA : Nat → ClassId} {s0 : State} {σ : lt_S} (hT : lt_Wt σ) {o : Nat} (h0 : lt_c σ o = 9) {x1 : Nat} (t1 : lt_c σ x1 = 9) {w : lt_W} {r : lt_W} (hf : f_X9_copyFrom σ o x1 w = some r) : lt_C l D gA s0 yX9_copyFrom cX9_copyFrom 2 none (lt_rm 2) [.ref (s0.heap.size + o), .ref (s0.heap.size + x1)] σ w σ none r := by
  refine lt_enter rfl (Nat.le_of_ble_eq_true rfl) (fun X e1 e2 e3 e4 hF hE => ?_)
  subst e1 e2 e3 e4
  exact jb_X9_copyFrom_0 hT h0 hF hE _ _ t1 hf

set_option maxRecDepth 100000 in
def fb_X3_tryCutter_96 (σ : lt_S) (o : Nat) (kR : Int32 → Int32 → Int32 → lt_W → Option lt_W) (y1 : Int32) (y2 : Int32) (y3 : Int32) (w : lt_W) : Option lt_W := Option.bind (kR y1 y2 y3 w) (fun q1 => some q1)
set_option maxHeartbeats 4000000 in
set_option maxRecDepth 100000 in
theorem jb_X3_tryCutter_96 {X : lt_X} {σ : lt_S} (hT : lt_Wt σ) {o : Nat} (h0 : lt_c σ o = 3) {r : lt_W} {lev : Nat} {kR : Int32 → Int32 → Int32 → lt_W → Option lt_W} (hF : lt_F X cX3_tryCutter RX3 7 (lt_rm (lev + 1))) (hE : lt_E X 0 0 σ none none r) (hL : 4 ≤ lev) (hkR : ∀ (x1 : Int32) (x2 : Int32) (x3 : Int32) (w : lt_W) (r : lt_W), kR x1 x2 x3 w = some r → lt_C (lt_Xl X) (lt_XD X) (lt_XA X) (lt_Xs X) yX3_search cX3_search 5 none (lt_rm lev) [.ref ((lt_Xs X).heap.size + o), .int x1, .int x2, .int x3] σ w σ none r) : ∀ (y1 : Int32) (y2 : Int32) (y3 : Int32) (w : lt_W), fb_X3_tryCutter_96 σ o kR y1 y2 y3 w = some r → lt_J X 0 0 σ w 96 [(0, .ref (lt_z X + o))] [.int y3, .int y2, .int y1, .ref (lt_z X + o)] := by
  intro y1 y2 y3 w hf
  unfold fb_X3_tryCutter_96 at hf
  obtain ⟨q1, hq1, hf⟩ := Option.bind_eq_some_iff.mp hf
  refine jr_cV3v hF ml_X3_43 (hkR _ _ _ _ _ hq1) h0 ⟨by simp only [lt_rm]; omega, by simp only [lt_rm]; omega⟩ (Nat.le_of_ble_eq_true rfl) dX3_tryCutter_96 ?_
  obtain rfl := Option.some.inj hf
  exact jr_return hF hE dX3_tryCutter_99
set_option maxRecDepth 100000 in
def fb_X3_tryCutter_70 (σ : lt_S) (o : Nat) (kR : Int32 → Int32 → Int32 → lt_W → Option lt_W) (x1 : Int32) (x2 : Int32) (x3 : Int32) (x4 : Int32) (x5 : Nat) (y0 : Int32) (w : lt_W) : Option lt_W := if y0 = 0 then fb_X3_tryCutter_96 σ o kR (x1 + 1) x2 x3 w else lt_ck x4 (lt_len σ (lt_r σ x5 12)) (fb_X3_tryCutter_96 σ o kR (x1 + 1) x2 (x3 + (lt_gi w (lt_r σ x5 12) x4.toNatClampNeg)) w)
set_option maxHeartbeats 4000000 in
set_option maxRecDepth 100000 in
theorem jb_X3_tryCutter_70 {X : lt_X} {σ : lt_S} (hT : lt_Wt σ) {o : Nat} (h0 : lt_c σ o = 3) {r : lt_W} {lev : Nat} {kR : Int32 → Int32 → Int32 → lt_W → Option lt_W} (hF : lt_F X cX3_tryCutter RX3 7 (lt_rm (lev + 1))) (hE : lt_E X 0 0 σ none none r) (hL : 4 ≤ lev) (hkR : ∀ (x1 : Int32) (x2 : Int32) (x3 : Int32) (w : lt_W) (r : lt_W), kR x1 x2 x3 w = some r → lt_C (lt_Xl X) (lt_XD X) (lt_XA X) (lt_Xs X) yX3_search cX3_search 5 none (lt_rm lev) [.ref ((lt_Xs X).heap.size + o), .int x1, .int x2, .int x3] σ w σ none r) : ∀ (x1 : Int32) (x2 : Int32) (x3 : Int32) (x4 : Int32) (x5 : Nat) (y0 : Int32) (w : lt_W), lt_c σ x5 = 5 → fb_X3_tryCutter_70 σ o kR x1 x2 x3 x4 x5 y0 w = some r → lt_J X 0 0 σ w 70 [(0, .ref (lt_z X + o)), (1, .int x1), (2, .int x2), (3, .int x3), (4, .int x4), (5, .ref (lt_z X + x5))] [.int y0] := by
  intro x1 x2 x3 x4 x5 y0 w t5 hf
  unfold fb_X3_tryCutter_70 at hf
  refine jr_istore (lv' := [(0, .ref (lt_z X + o)), (1, .int x1), (2, .int x2), (3, .int x3), (4, .int x4), (5, .ref (lt_z X + x5)), (6, .int y0)]) hF dX3_tryCutter_70 (by decide) [1, 2, 3, 4, 5, 6, 0] rfl ?_
  refine jr_aload_n hF dX3_tryCutter_72 0 rfl rfl ?_
  refine jr_iload_n hF dX3_tryCutter_73 1 rfl rfl ?_
  refine jr_iconst (v := 1) hF dX3_tryCutter_74 rfl ?_
  refine jr_iadd hF dX3_tryCutter_75 ?_
  refine jr_iload_n hF dX3_tryCutter_76 2 rfl rfl ?_
  refine jr_iload hF dX3_tryCutter_77 6 rfl ?_
  refine jr_if_eq (tgt := 95) hF dX3_tryCutter_79 rfl hf (fun hf => ?_) (fun hf => ?_)
  · refine jr_iload_n hF dX3_tryCutter_95 3 rfl rfl ?_
    refine jr_sub [0] rfl ?_
    exact jb_X3_tryCutter_96 hT h0 hF hE hL hkR _ _ _ _ hf
  · refine jr_iload_n hF dX3_tryCutter_82 3 rfl rfl ?_
    refine jr_aload hF dX3_tryCutter_83 5 rfl ?_
    refine jr_getRT (cr := 50) hF gf_X3_78 hT t5 rfl rfl dX3_tryCutter_85 (fun th1 => ?_)
    refine jr_iload hF dX3_tryCutter_88 4 rfl ?_
    refine jr_iaload hF th1 dX3_tryCutter_90 hf (fun hf => ?_)
    refine jr_iadd hF dX3_tryCutter_91 ?_
    refine jr_goto (tgt := 96) hF dX3_tryCutter_92 rfl ?_
    refine jr_sub [0] rfl ?_
    exact jb_X3_tryCutter_96 hT h0 hF hE hL hkR _ _ _ _ hf
set_option maxRecDepth 100000 in
def fb_X3_tryCutter_69 (σ : lt_S) (o : Nat) (kR : Int32 → Int32 → Int32 → lt_W → Option lt_W) (x1 : Int32) (x2 : Int32) (x3 : Int32) (x4 : Int32) (x5 : Nat) (w : lt_W) : Option lt_W := fb_X3_tryCutter_70 σ o kR x1 x2 x3 x4 x5 0 w
set_option maxHeartbeats 4000000 in
set_option maxRecDepth 100000 in
theorem jb_X3_tryCutter_69 {X : lt_X} {σ : lt_S} (hT : lt_Wt σ) {o : Nat} (h0 : lt_c σ o = 3) {r : lt_W} {lev : Nat} {kR : Int32 → Int32 → Int32 → lt_W → Option lt_W} (hF : lt_F X cX3_tryCutter RX3 7 (lt_rm (lev + 1))) (hE : lt_E X 0 0 σ none none r) (hL : 4 ≤ lev) (hkR : ∀ (x1 : Int32) (x2 : Int32) (x3 : Int32) (w : lt_W) (r : lt_W), kR x1 x2 x3 w = some r → lt_C (lt_Xl X) (lt_XD X) (lt_XA X) (lt_Xs X) yX3_search cX3_search 5 none (lt_rm lev) [.ref ((lt_Xs X).heap.size + o), .int x1, .int x2, .int x3] σ w σ none r) : ∀ (x1 : Int32) (x2 : Int32) (x3 : Int32) (x4 : Int32) (x5 : Nat) (w : lt_W), lt_c σ x5 = 5 → fb_X3_tryCutter_69 σ o kR x1 x2 x3 x4 x5 w = some r → lt_J X 0 0 σ w 69 [(0, .ref (lt_z X + o)), (1, .int x1), (2, .int x2), (3, .int x3), (4, .int x4), (5, .ref (lt_z X + x5))] [] := by
  intro x1 x2 x3 x4 x5 w t5 hf
  unfold fb_X3_tryCutter_69 at hf
  refine jr_iconst (v := 0) hF dX3_tryCutter_69 rfl ?_
  exact jb_X3_tryCutter_70 hT h0 hF hE hL hkR _ _ _ _ _ _ _ t5 hf
set_option maxRecDepth 100000 in
def fb_X3_tryCutter_0 (σ : lt_S) (o : Nat) (kR : Int32 → Int32 → Int32 → lt_W → Option lt_W) (x1 : Int32) (x2 : Int32) (x3 : Int32) (x4 : Int32) (w : lt_W) : Option lt_W := lt_ck (x1 + 1) (lt_len σ (lt_r σ o 1)) (lt_ck x1 (lt_len σ (lt_r σ o 1)) (Option.bind (f_X5_copyFrom σ (lt_r σ (lt_r σ o 1) (x1 + 1).toNatClampNeg) (lt_r σ (lt_r σ o 1) x1.toNatClampNeg) w) (fun q5 => Option.bind (f_X5_passDay σ (lt_r σ (lt_r σ o 1) (x1 + 1).toNatClampNeg) x4 q5) (fun q6 => Option.bind (f_X5_starvedSet σ (lt_r σ (lt_r σ o 1) (x1 + 1).toNatClampNeg) q6) (fun q7 => if q7 = 0 then lt_ck x1 (lt_len σ (lt_r σ o 2)) (lt_let (lt_si q6 (lt_r σ o 2) x1.toNatClampNeg x4) (fun w9 => Option.bind (f_X5_hasGuest σ (lt_r σ (lt_r σ o 1) (x1 + 1).toNatClampNeg) x4 w9) (fun q10 => if q10 = 0 then fb_X3_tryCutter_69 σ o kR x1 x2 x3 x4 (lt_r σ (lt_r σ o 1) (x1 + 1).toNatClampNeg) w9 else Option.bind (f_X5_isThere σ (lt_r σ (lt_r σ o 1) (x1 + 1).toNatClampNeg) x4 w9) (fun q11 => if q11 = 0 then fb_X3_tryCutter_70 σ o kR x1 x2 x3 x4 (lt_r σ (lt_r σ o 1) (x1 + 1).toNatClampNeg) 1 w9 else fb_X3_tryCutter_69 σ o kR x1 x2 x3 x4 (lt_r σ (lt_r σ o 1) (x1 + 1).toNatClampNeg) w9)))) else some q6)))))
set_option maxHeartbeats 4000000 in
set_option maxRecDepth 100000 in
theorem jb_X3_tryCutter_0 {X : lt_X} {σ : lt_S} (hT : lt_Wt σ) {o : Nat} (h0 : lt_c σ o = 3) {r : lt_W} {lev : Nat} {kR : Int32 → Int32 → Int32 → lt_W → Option lt_W} (hF : lt_F X cX3_tryCutter RX3 7 (lt_rm (lev + 1))) (hE : lt_E X 0 0 σ none none r) (hL : 4 ≤ lev) (hkR : ∀ (x1 : Int32) (x2 : Int32) (x3 : Int32) (w : lt_W) (r : lt_W), kR x1 x2 x3 w = some r → lt_C (lt_Xl X) (lt_XD X) (lt_XA X) (lt_Xs X) yX3_search cX3_search 5 none (lt_rm lev) [.ref ((lt_Xs X).heap.size + o), .int x1, .int x2, .int x3] σ w σ none r) : ∀ (x1 : Int32) (x2 : Int32) (x3 : Int32) (x4 : Int32) (w : lt_W), fb_X3_tryCutter_0 σ o kR x1 x2 x3 x4 w = some r → lt_J X 0 0 σ w 0 [(0, .ref (lt_z X + o)), (1, .int x1), (2, .int x2), (3, .int x3), (4, .int x4)] [] := by
  intro x1 x2 x3 x4 w hf
  unfold fb_X3_tryCutter_0 at hf
  refine jr_aload_n hF dX3_tryCutter_0 0 rfl rfl ?_
  refine jr_getRT (cr := 55) hF gf_X3_11 hT h0 rfl rfl dX3_tryCutter_1 (fun th1 => ?_)
  refine jr_iload_n hF dX3_tryCutter_4 1 rfl rfl ?_
  refine jr_iconst (v := 1) hF dX3_tryCutter_5 rfl ?_
  refine jr_iadd hF dX3_tryCutter_6 ?_
  refine jr_aaload (c := 55) hF hT th1 5 rfl rfl rfl dX3_tryCutter_7 hf (fun th2 hf => ?_)
  have th2 : lt_c σ (lt_r σ (lt_r σ o 1) (x1 + 1).toNatClampNeg) = 5 := th2
  refine jr_astore (lv' := [(0, .ref (lt_z X + o)), (1, .int x1), (2, .int x2), (3, .int x3), (4, .int x4), (5, .ref (lt_z X + (lt_r σ (lt_r σ o 1) (x1 + 1).toNatClampNeg)))]) hF dX3_tryCutter_8 (by decide) [1, 2, 3, 4, 5, 0] rfl ?_
  refine jr_aload hF dX3_tryCutter_10 5 rfl ?_
  refine jr_aload_n hF dX3_tryCutter_12 0 rfl rfl ?_
  refine jr_getRT (cr := 55) hF gf_X3_11 hT h0 rfl rfl dX3_tryCutter_13 (fun th3 => ?_)
  refine jr_iload_n hF dX3_tryCutter_16 1 rfl rfl ?_
  refine jr_aaload (c := 55) hF hT th3 5 rfl rfl rfl dX3_tryCutter_17 hf (fun th4 hf => ?_)
  have th4 : lt_c σ (lt_r σ (lt_r σ o 1) x1.toNatClampNeg) = 5 := th4
  obtain ⟨q5, hq5, hf⟩ := Option.bind_eq_some_iff.mp hf
  refine jr_cV1v hF ml_X3_33 (c_X5_copyFrom hT th2 th4 hq5) th2 ⟨by simp only [lt_rm]; omega, by simp only [lt_rm]; omega⟩ (Nat.le_of_ble_eq_true rfl) dX3_tryCutter_18 ?_
  refine jr_aload hF dX3_tryCutter_21 5 rfl ?_
  refine jr_iload hF dX3_tryCutter_23 4 rfl ?_
  obtain ⟨q6, hq6, hf⟩ := Option.bind_eq_some_iff.mp hf
  refine jr_cV1v hF ml_X3_67 (c_X5_passDay hT th2 hq6) th2 ⟨by simp only [lt_rm]; omega, by simp only [lt_rm]; omega⟩ (Nat.le_of_ble_eq_true rfl) dX3_tryCutter_25 ?_
  refine jr_aload hF dX3_tryCutter_28 5 rfl ?_
  obtain ⟨q7, hq7, hf⟩ := Option.bind_eq_some_iff.mp hf
  refine jr_cV01 hF ml_X3_71 (c_X5_starvedSet hT th2 hq7) th2 ⟨by simp only [lt_rm]; omega, by simp only [lt_rm]; omega⟩ (Nat.le_of_ble_eq_true rfl) dX3_tryCutter_30 ?_
  refine jr_if_eq (tgt := 37) hF dX3_tryCutter_33 rfl hf (fun hf => ?_) (fun hf => ?_)
  · refine jr_aload_n hF dX3_tryCutter_37 0 rfl rfl ?_
    refine jr_getRT (cr := 50) hF gf_X3_17 hT h0 rfl rfl dX3_tryCutter_38 (fun th8 => ?_)
    refine jr_iload_n hF dX3_tryCutter_41 1 rfl rfl ?_
    refine jr_iload hF dX3_tryCutter_42 4 rfl ?_
    refine jr_iastore hF th8 dX3_tryCutter_44 hf (fun hf => ?_)
    refine jr_letW hf (fun w9 hf => ?_)
    refine jr_aload hF dX3_tryCutter_45 5 rfl ?_
    refine jr_iload hF dX3_tryCutter_47 4 rfl ?_
    obtain ⟨q10, hq10, hf⟩ := Option.bind_eq_some_iff.mp hf
    refine jr_cV11 hF ml_X3_75 (c_X5_hasGuest th2 hq10) th2 ⟨by simp only [lt_rm]; omega, by simp only [lt_rm]; omega⟩ (Nat.le_of_ble_eq_true rfl) dX3_tryCutter_49 ?_
    refine jr_if_eq (tgt := 69) hF dX3_tryCutter_52 rfl hf (fun hf => ?_) (fun hf => ?_)
    · exact jb_X3_tryCutter_69 hT h0 hF hE hL hkR _ _ _ _ _ _ th2 hf
    · refine jr_aload hF dX3_tryCutter_55 5 rfl ?_
      refine jr_iload hF dX3_tryCutter_57 4 rfl ?_
      obtain ⟨q11, hq11, hf⟩ := Option.bind_eq_some_iff.mp hf
      refine jr_cV11 hF ml_X3_63 (c_X5_isThere th2 hq11) th2 ⟨by simp only [lt_rm]; omega, by simp only [lt_rm]; omega⟩ (Nat.le_of_ble_eq_true rfl) dX3_tryCutter_59 ?_
      refine jr_if_ne (tgt := 69) hF dX3_tryCutter_62 rfl hf (fun hf => ?_) (fun hf => ?_)
      · exact jb_X3_tryCutter_69 hT h0 hF hE hL hkR _ _ _ _ _ _ th2 hf
      · refine jr_iconst (v := 1) hF dX3_tryCutter_65 rfl ?_
        refine jr_goto (tgt := 70) hF dX3_tryCutter_66 rfl ?_
        exact jb_X3_tryCutter_70 hT h0 hF hE hL hkR _ _ _ _ _ _ _ th2 hf
  · obtain rfl := Option.some.inj hf
    exact jr_return hF hE dX3_tryCutter_36
def f_X3_tryCutter (σ : lt_S) (o : Nat) (kR : Int32 → Int32 → Int32 → lt_W → Option lt_W) (x1 : Int32) (x2 : Int32) (x3 : Int32) (x4 : Int32) (w : lt_W) : Option lt_W := fb_X3_tryCutter_0 σ o kR x1 x2 x3 x4 w
set_option maxRecDepth 100000 in
theorem c_X3_tryCutter {l : Launch} {D : va_G} {gA : Nat → ClassId} {s0 : State} {σ : lt_S} (hT : lt_Wt σ) {o : Nat} (h0 : lt_c σ o = 3) {kR : Int32 → Int32 → Int32 → lt_W → Option lt_W} {lev : Nat} (hL : 4 ≤ lev) {x1 : Int32} {x2 : Int32} {x3 : Int32} {x4 : Int32} (hkR : ∀ (x1 : Int32) (x2 : Int32) (x3 : Int32) (w : lt_W) (r : lt_W), kR x1 x2 x3 w = some r → lt_C l D gA s0 yX3_search cX3_search 5 none (lt_rm lev) [.ref (s0.heap.size + o), .int x1, .int x2, .int x3] σ w σ none r) {w : lt_W} {r : lt_W} (hf : f_X3_tryCutter σ o kR x1 x2 x3 x4 w = some r) : lt_C l D gA s0 yX3_tryCutter cX3_tryCutter 7 none (lt_rm (lev + 1)) [.ref (s0.heap.size + o), .int x1, .int x2, .int x3, .int x4] σ w σ none r := by
  refine lt_enter rfl (Nat.le_of_ble_eq_true rfl) (fun X e1 e2 e3 e4 hF hE => ?_)
  subst e1 e2 e3 e4
  exact jb_X3_tryCutter_0 hT h0 hF hE hL hkR _ _ _ _ _ hf

set_option maxRecDepth 100000 in
def fb_X3_search_53 (σ : lt_S) (o : Nat) (kR : Int32 → Int32 → Int32 → lt_W → Option lt_W) : Nat → Int32 → Int32 → Int32 → Int32 → lt_W → Option lt_W
  | 0, _, _, _, _, _ => none
  | n + 1, x1, x2, x3, x4, w => if (lt_gi w (lt_r σ o 0) 0) ≤ x4 then some w else lt_ck x1 (lt_len σ (lt_r σ o 1)) (if (lt_gi w (lt_r σ (lt_r σ o 1) x1.toNatClampNeg) 5) = 0 then lt_ck x1 (lt_len σ (lt_r σ o 1)) (Option.bind (f_X5_isThere σ (lt_r σ (lt_r σ o 1) x1.toNatClampNeg) x4 w) (fun q6 => if q6 = 0 then fb_X3_search_53 σ o kR n x1 x2 x3 (x4 + 1) w else Option.bind (f_X3_tryCutter σ o kR x1 x2 x3 x4 w) (fun q7 => fb_X3_search_53 σ o kR n x1 x2 x3 (x4 + 1) q7))) else some w)
set_option maxHeartbeats 4000000 in
set_option maxRecDepth 100000 in
theorem jb_X3_search_53 {X : lt_X} {σ : lt_S} (hT : lt_Wt σ) {o : Nat} (h0 : lt_c σ o = 3) {r : lt_W} {lev : Nat} {kR : Int32 → Int32 → Int32 → lt_W → Option lt_W} (hF : lt_F X cX3_search RX3 5 (lt_rm (lev + 2))) (hE : lt_E X 0 0 σ none none r) (hL : 4 ≤ lev) (hkR : ∀ (x1 : Int32) (x2 : Int32) (x3 : Int32) (w : lt_W) (r : lt_W), kR x1 x2 x3 w = some r → lt_C (lt_Xl X) (lt_XD X) (lt_XA X) (lt_Xs X) yX3_search cX3_search 5 none (lt_rm lev) [.ref ((lt_Xs X).heap.size + o), .int x1, .int x2, .int x3] σ w σ none r) (n : Nat) : ∀ (x1 : Int32) (x2 : Int32) (x3 : Int32) (x4 : Int32) (w : lt_W), fb_X3_search_53 σ o kR n x1 x2 x3 x4 w = some r → lt_J X 0 0 σ w 53 [(0, .ref (lt_z X + o)), (1, .int x1), (2, .int x2), (3, .int x3), (4, .int x4)] [] := by
  induction n with
  | zero => intro x1 x2 x3 x4 w hf; rw [fb_X3_search_53] at hf; cases hf
  | succ n ih =>
    intro x1 x2 x3 x4 w hf
    rw [fb_X3_search_53] at hf
    refine jr_iload hF dX3_search_53 4 rfl ?_
    refine jr_aload_n hF dX3_search_55 0 rfl rfl ?_
    refine jr_getRT (cr := 5) hF gf_X3_24 hT h0 rfl rfl dX3_search_56 (fun th1 => ?_)
    refine jr_getI hF gf_X3_57 th1 dX3_search_59 ?_
    refine jr_icmp_ge (tgt := 106) hF dX3_search_62 rfl hf (fun hf => ?_) (fun hf => ?_)
    · obtain rfl := Option.some.inj hf
      exact jr_return hF hE dX3_search_106
    · refine jr_aload_n hF dX3_search_65 0 rfl rfl ?_
      refine jr_getRT (cr := 55) hF gf_X3_11 hT h0 rfl rfl dX3_search_66 (fun th2 => ?_)
      refine jr_iload_n hF dX3_search_69 1 rfl rfl ?_
      refine jr_aaload (c := 55) hF hT th2 5 rfl rfl rfl dX3_search_70 hf (fun th3 hf => ?_)
      have th3 : lt_c σ (lt_r σ (lt_r σ o 1) x1.toNatClampNeg) = 5 := th3
      refine jr_getI hF gf_X3_60 th3 dX3_search_71 ?_
      refine jr_if_ne (tgt := 106) hF dX3_search_74 rfl hf (fun hf => ?_) (fun hf => ?_)
      · obtain rfl := Option.some.inj hf
        exact jr_return hF hE dX3_search_106
      · refine jr_aload_n hF dX3_search_77 0 rfl rfl ?_
        refine jr_getRT (cr := 55) hF gf_X3_11 hT h0 rfl rfl dX3_search_78 (fun th4 => ?_)
        refine jr_iload_n hF dX3_search_81 1 rfl rfl ?_
        refine jr_aaload (c := 55) hF hT th4 5 rfl rfl rfl dX3_search_82 hf (fun th5 hf => ?_)
        have th5 : lt_c σ (lt_r σ (lt_r σ o 1) x1.toNatClampNeg) = 5 := th5
        refine jr_iload hF dX3_search_83 4 rfl ?_
        obtain ⟨q6, hq6, hf⟩ := Option.bind_eq_some_iff.mp hf
        refine jr_cV11 hF ml_X3_63 (c_X5_isThere th5 hq6) th5 ⟨by simp only [lt_rm]; omega, by simp only [lt_rm]; omega⟩ (Nat.le_of_ble_eq_true rfl) dX3_search_85 ?_
        refine jr_if_eq (tgt := 100) hF dX3_search_88 rfl hf (fun hf => ?_) (fun hf => ?_)
        · refine jr_iinc (v := x4 + 1) (lv' := [(0, .ref (lt_z X + o)), (1, .int x1), (2, .int x2), (3, .int x3), (4, .int (x4 + 1))]) hF dX3_search_100 4 rfl rfl (by decide) [1, 2, 3, 4, 0] rfl ?_
          refine jr_goto (tgt := 53) hF dX3_search_103 rfl ?_
          exact ih _ _ _ _ _ hf
        · refine jr_aload_n hF dX3_search_91 0 rfl rfl ?_
          refine jr_iload_n hF dX3_search_92 1 rfl rfl ?_
          refine jr_iload_n hF dX3_search_93 2 rfl rfl ?_
          refine jr_iload_n hF dX3_search_94 3 rfl rfl ?_
          refine jr_iload hF dX3_search_95 4 rfl ?_
          obtain ⟨q7, hq7, hf⟩ := Option.bind_eq_some_iff.mp hf
          refine jr_cV4v hF ml_X3_53 (c_X3_tryCutter hT h0 hL hkR hq7) h0 ⟨by simp only [lt_rm]; omega, by simp only [lt_rm]; omega⟩ (Nat.le_of_ble_eq_true rfl) dX3_search_97 ?_
          refine jr_iinc (v := x4 + 1) (lv' := [(0, .ref (lt_z X + o)), (1, .int x1), (2, .int x2), (3, .int x3), (4, .int (x4 + 1))]) hF dX3_search_100 4 rfl rfl (by decide) [1, 2, 3, 4, 0] rfl ?_
          refine jr_goto (tgt := 53) hF dX3_search_103 rfl ?_
          exact ih _ _ _ _ _ hf
set_option maxRecDepth 100000 in
def fb_X3_search_17 (σ : lt_S) (o : Nat) (kR : Int32 → Int32 → Int32 → lt_W → Option lt_W) (x1 : Int32) (x2 : Int32) (x3 : Int32) (w : lt_W) : Option lt_W := if x1 < x2 then Option.bind (f_X3_tryCutter σ o kR x1 x2 x3 (-1) w) (fun q1 => fb_X3_search_53 σ o kR lt_fu x1 x2 x3 0 q1) else lt_let (lt_si w o 4 x3) (fun w2 => lt_cc (lt_len σ (lt_r σ o 2)) (lt_len σ (lt_r σ o 3)) 0 0 5 (lt_let (lt_ci w2 (lt_r σ o 2) (lt_r σ o 3) (0 : Int32).toNatClampNeg (0 : Int32).toNatClampNeg (5 : Int32).toNatClampNeg) (fun w5 => some w5)))
set_option maxHeartbeats 4000000 in
set_option maxRecDepth 100000 in
theorem jb_X3_search_17 {X : lt_X} {σ : lt_S} (hT : lt_Wt σ) {o : Nat} (h0 : lt_c σ o = 3) {r : lt_W} {lev : Nat} {kR : Int32 → Int32 → Int32 → lt_W → Option lt_W} (hF : lt_F X cX3_search RX3 5 (lt_rm (lev + 2))) (hE : lt_E X 0 0 σ none none r) (hL : 4 ≤ lev) (hkR : ∀ (x1 : Int32) (x2 : Int32) (x3 : Int32) (w : lt_W) (r : lt_W), kR x1 x2 x3 w = some r → lt_C (lt_Xl X) (lt_XD X) (lt_XA X) (lt_Xs X) yX3_search cX3_search 5 none (lt_rm lev) [.ref ((lt_Xs X).heap.size + o), .int x1, .int x2, .int x3] σ w σ none r) : ∀ (x1 : Int32) (x2 : Int32) (x3 : Int32) (w : lt_W), fb_X3_search_17 σ o kR x1 x2 x3 w = some r → lt_J X 0 0 σ w 17 [(0, .ref (lt_z X + o)), (1, .int x1), (2, .int x2), (3, .int x3)] [] := by
  intro x1 x2 x3 w hf
  unfold fb_X3_search_17 at hf
  refine jr_iload_n hF dX3_search_17 1 rfl rfl ?_
  refine jr_iload_n hF dX3_search_18 2 rfl rfl ?_
  refine jr_icmp_lt (tgt := 42) hF dX3_search_19 rfl hf (fun hf => ?_) (fun hf => ?_)
  · refine jr_aload_n hF dX3_search_42 0 rfl rfl ?_
    refine jr_iload_n hF dX3_search_43 1 rfl rfl ?_
    refine jr_iload_n hF dX3_search_44 2 rfl rfl ?_
    refine jr_iload_n hF dX3_search_45 3 rfl rfl ?_
    refine jr_iconst (v := (-1)) hF dX3_search_46 rfl ?_
    obtain ⟨q1, hq1, hf⟩ := Option.bind_eq_some_iff.mp hf
    refine jr_cV4v hF ml_X3_53 (c_X3_tryCutter hT h0 hL hkR hq1) h0 ⟨by simp only [lt_rm]; omega, by simp only [lt_rm]; omega⟩ (Nat.le_of_ble_eq_true rfl) dX3_search_47 ?_
    refine jr_iconst (v := 0) hF dX3_search_50 rfl ?_
    refine jr_istore (lv' := [(0, .ref (lt_z X + o)), (1, .int x1), (2, .int x2), (3, .int x3), (4, .int 0)]) hF dX3_search_51 (by decide) [1, 2, 3, 4, 0] rfl ?_
    exact jb_X3_search_53 hT h0 hF hE hL hkR lt_fu _ _ _ _ _ hf
  · refine jr_aload_n hF dX3_search_22 0 rfl rfl ?_
    refine jr_iload_n hF dX3_search_23 3 rfl rfl ?_
    refine jr_putI hF pf_X3_29 h0 dX3_search_24 ?_
    refine jr_letW hf (fun w2 hf => ?_)
    refine jr_aload_n hF dX3_search_27 0 rfl rfl ?_
    refine jr_getRT (cr := 50) hF gf_X3_17 hT h0 rfl rfl dX3_search_28 (fun th3 => ?_)
    refine jr_iconst (v := 0) hF dX3_search_31 rfl ?_
    refine jr_aload_n hF dX3_search_32 0 rfl rfl ?_
    refine jr_getRT (cr := 50) hF gf_X3_21 hT h0 rfl rfl dX3_search_33 (fun th4 => ?_)
    refine jr_iconst (v := 0) hF dX3_search_36 rfl ?_
    refine jr_iconst (v := 5) hF dX3_search_37 rfl ?_
    refine jr_copyI hF ac_X3_47 th3 th4 ⟨by simp only [lt_rm]; omega, Nat.le_trans (m := 64) (Nat.le_of_ble_eq_true rfl) (by simp only [lt_rm]; omega)⟩ dX3_search_38 hf (fun hf => ?_)
    refine jr_letW hf (fun w5 hf => ?_)
    obtain rfl := Option.some.inj hf
    exact jr_return hF hE dX3_search_41
set_option maxRecDepth 100000 in
def fb_X3_search_0 (σ : lt_S) (o : Nat) (kR : Int32 → Int32 → Int32 → lt_W → Option lt_W) (x1 : Int32) (x2 : Int32) (x3 : Int32) (w : lt_W) : Option lt_W := if (lt_gi w o 4) = (-1) then fb_X3_search_17 σ o kR x1 x2 x3 w else if x3 < (lt_gi w o 4) then fb_X3_search_17 σ o kR x1 x2 x3 w else some w
set_option maxHeartbeats 4000000 in
set_option maxRecDepth 100000 in
theorem jb_X3_search_0 {X : lt_X} {σ : lt_S} (hT : lt_Wt σ) {o : Nat} (h0 : lt_c σ o = 3) {r : lt_W} {lev : Nat} {kR : Int32 → Int32 → Int32 → lt_W → Option lt_W} (hF : lt_F X cX3_search RX3 5 (lt_rm (lev + 2))) (hE : lt_E X 0 0 σ none none r) (hL : 4 ≤ lev) (hkR : ∀ (x1 : Int32) (x2 : Int32) (x3 : Int32) (w : lt_W) (r : lt_W), kR x1 x2 x3 w = some r → lt_C (lt_Xl X) (lt_XD X) (lt_XA X) (lt_Xs X) yX3_search cX3_search 5 none (lt_rm lev) [.ref ((lt_Xs X).heap.size + o), .int x1, .int x2, .int x3] σ w σ none r) : ∀ (x1 : Int32) (x2 : Int32) (x3 : Int32) (w : lt_W), fb_X3_search_0 σ o kR x1 x2 x3 w = some r → lt_J X 0 0 σ w 0 [(0, .ref (lt_z X + o)), (1, .int x1), (2, .int x2), (3, .int x3)] [] := by
  intro x1 x2 x3 w hf
  unfold fb_X3_search_0 at hf
  refine jr_aload_n hF dX3_search_0 0 rfl rfl ?_
  refine jr_getI hF gf_X3_29 h0 dX3_search_1 ?_
  refine jr_iconst (v := (-1)) hF dX3_search_4 rfl ?_
  refine jr_icmp_eq (tgt := 17) hF dX3_search_5 rfl hf (fun hf => ?_) (fun hf => ?_)
  · exact jb_X3_search_17 hT h0 hF hE hL hkR _ _ _ _ hf
  · refine jr_iload_n hF dX3_search_8 3 rfl rfl ?_
    refine jr_aload_n hF dX3_search_9 0 rfl rfl ?_
    refine jr_getI hF gf_X3_29 h0 dX3_search_10 ?_
    refine jr_icmp_lt (tgt := 17) hF dX3_search_13 rfl hf (fun hf => ?_) (fun hf => ?_)
    · exact jb_X3_search_17 hT h0 hF hE hL hkR _ _ _ _ hf
    · obtain rfl := Option.some.inj hf
      exact jr_return hF hE dX3_search_16
def f_X3_search (σ : lt_S) (o : Nat) : Nat → Int32 → Int32 → Int32 → lt_W → Option lt_W
  | 0, _, _, _, _ => none
  | dd + 1, x1, x2, x3, w => fb_X3_search_0 σ o (fun x1 x2 x3 w => f_X3_search σ o dd x1 x2 x3 w) x1 x2 x3 w
set_option maxRecDepth 100000 in
theorem cd_X3_search {l : Launch} {D : va_G} {gA : Nat → ClassId} {s0 : State} {σ : lt_S} (hT : lt_Wt σ) {o : Nat} (h0 : lt_c σ o = 3) (dd : Nat) : ∀ (x1 : Int32) (x2 : Int32) (x3 : Int32) (w : lt_W) (r : lt_W), f_X3_search σ o dd x1 x2 x3 w = some r → lt_C l D gA s0 yX3_search cX3_search 5 none (lt_rm (4 + 2 * dd)) [.ref (s0.heap.size + o), .int x1, .int x2, .int x3] σ w σ none r := by
  induction dd with
  | zero => intro x1 x2 x3 w r hf; rw [f_X3_search] at hf; cases hf
  | succ dd ih =>
    intro x1 x2 x3 w r hf
    rw [f_X3_search] at hf
    refine lt_enter rfl (Nat.le_of_ble_eq_true rfl) (fun X e1 e2 e3 e4 hF hE => ?_)
    subst e1 e2 e3 e4
    have hL : 4 ≤ 4 + 2 * dd := by omega
    exact jb_X3_search_0 hT h0 hF hE hL ih _ _ _ _ hf
theorem c_X3_search {l : Launch} {D : va_G} {gA : Nat → ClassId} {s0 : State} {σ : lt_S} (hT : lt_Wt σ) {o : Nat} (h0 : lt_c σ o = 3) {x1 : Int32} {x2 : Int32} {x3 : Int32} {w : lt_W} {r : lt_W} (hf : f_X3_search σ o 8 x1 x2 x3 w = some r) : lt_C l D gA s0 yX3_search cX3_search 5 none (lt_rm 20) [.ref (s0.heap.size + o), .int x1, .int x2, .int x3] σ w σ none r := cd_X3_search hT h0 8 _ _ _ _ _ hf

set_option maxRecDepth 100000 in
def fb_X3_leastDear_0 (σ : lt_S) (o : Nat) (x1 : Int32) (w : lt_W) : Option (Int32 × lt_W) := lt_let (lt_si w o 4 (-1)) (fun w1 => lt_ck 0 (lt_len σ (lt_r σ o 1)) (Option.bind (f_X5_copyFrom σ (lt_r σ (lt_r σ o 1) (0 : Int32).toNatClampNeg) (lt_r σ o 0) w1) (fun q5 => Option.bind (f_X3_search σ o 8 0 (lt_min x1 5) 0 q5) (fun q6 => some (lt_gi q6 o 4, q6)))))
set_option maxHeartbeats 4000000 in
set_option maxRecDepth 100000 in
theorem jb_X3_leastDear_0 {X : lt_X} {σ : lt_S} (hT : lt_Wt σ) {o : Nat} (h0 : lt_c σ o = 3) {r : Int32 × lt_W} (hF : lt_F X cX3_leastDear RX3 2 (lt_rm 21)) (hE : lt_E X 0 0 σ (some .int) (some (.int r.1)) r.2) : ∀ (x1 : Int32) (w : lt_W), fb_X3_leastDear_0 σ o x1 w = some r → lt_J X 0 0 σ w 0 [(0, .ref (lt_z X + o)), (1, .int x1)] [] := by
  intro x1 w hf
  unfold fb_X3_leastDear_0 at hf
  refine jr_aload_n hF dX3_leastDear_0 0 rfl rfl ?_
  refine jr_iconst (v := (-1)) hF dX3_leastDear_1 rfl ?_
  refine jr_putI hF pf_X3_29 h0 dX3_leastDear_2 ?_
  refine jr_letW hf (fun w1 hf => ?_)
  refine jr_aload_n hF dX3_leastDear_5 0 rfl rfl ?_
  refine jr_getRT (cr := 55) hF gf_X3_11 hT h0 rfl rfl dX3_leastDear_6 (fun th2 => ?_)
  refine jr_iconst (v := 0) hF dX3_leastDear_9 rfl ?_
  refine jr_aaload (c := 55) hF hT th2 5 rfl rfl rfl dX3_leastDear_10 hf (fun th3 hf => ?_)
  have th3 : lt_c σ (lt_r σ (lt_r σ o 1) (0 : Int32).toNatClampNeg) = 5 := th3
  refine jr_aload_n hF dX3_leastDear_11 0 rfl rfl ?_
  refine jr_getRT (cr := 5) hF gf_X3_24 hT h0 rfl rfl dX3_leastDear_12 (fun th4 => ?_)
  obtain ⟨q5, hq5, hf⟩ := Option.bind_eq_some_iff.mp hf
  refine jr_cV1v hF ml_X3_33 (c_X5_copyFrom hT th3 th4 hq5) th3 ⟨Nat.le_of_ble_eq_true rfl, Nat.le_of_ble_eq_true rfl⟩ (Nat.le_of_ble_eq_true rfl) dX3_leastDear_15 ?_
  refine jr_aload_n hF dX3_leastDear_18 0 rfl rfl ?_
  refine jr_iconst (v := 0) hF dX3_leastDear_19 rfl ?_
  refine jr_iload_n hF dX3_leastDear_20 1 rfl rfl ?_
  refine jr_iconst (v := 5) hF dX3_leastDear_21 rfl ?_
  refine jr_min hF mm_X3_37 ⟨Nat.le_of_ble_eq_true rfl, Nat.le_of_ble_eq_true rfl, Nat.zero_le _, Nat.zero_le _⟩ dX3_leastDear_22 ?_
  refine jr_iconst (v := 0) hF dX3_leastDear_25 rfl ?_
  obtain ⟨q6, hq6, hf⟩ := Option.bind_eq_some_iff.mp hf
  refine jr_cV3v hF ml_X3_43 (c_X3_search hT h0 hq6) h0 ⟨Nat.le_of_ble_eq_true rfl, Nat.le_of_ble_eq_true rfl⟩ (Nat.le_of_ble_eq_true rfl) dX3_leastDear_26 ?_
  refine jr_aload_n hF dX3_leastDear_29 0 rfl rfl ?_
  refine jr_getI hF gf_X3_29 h0 dX3_leastDear_30 ?_
  obtain rfl := Option.some.inj hf
  exact jr_ireturn hF hE dX3_leastDear_33
def f_X3_leastDear (σ : lt_S) (o : Nat) (x1 : Int32) (w : lt_W) : Option (Int32 × lt_W) := fb_X3_leastDear_0 σ o x1 w
set_option maxRecDepth 100000 in
theorem c_X3_leastDear {l : Launch} {D : va_G} {gA : Nat → ClassId} {s0 : State} {σ : lt_S} (hT : lt_Wt σ) {o : Nat} (h0 : lt_c σ o = 3) {x1 : Int32} {w : lt_W} {r : Int32 × lt_W} (hf : f_X3_leastDear σ o x1 w = some r) : lt_C l D gA s0 yX3_leastDear cX3_leastDear 2 (some .int) (lt_rm 21) [.ref (s0.heap.size + o), .int x1] σ w σ (some (.int r.1)) r.2 := by
  refine lt_enter rfl (Nat.le_of_ble_eq_true rfl) (fun X e1 e2 e3 e4 hF hE => ?_)
  subst e1 e2 e3 e4
  exact jb_X3_leastDear_0 hT h0 hF hE _ _ hf

set_option maxRecDepth 100000 in
def fb_X8_become_17 (σ : lt_S) (o : Nat) : Nat → Int32 → lt_W → Option lt_W
  | 0, _, _ => none
  | n + 1, x3, w => if 60 ≤ x3 then some w else lt_ck x3 (lt_len σ (lt_r σ o 3)) (lt_let (lt_sl w (lt_r σ o 3) x3.toNatClampNeg 0) (fun w2 => fb_X8_become_17 σ o n (x3 + 1) w2))
set_option maxHeartbeats 4000000 in
set_option maxRecDepth 100000 in
theorem jb_X8_become_17 {X : lt_X} {σ : lt_S} (hT : lt_Wt σ) {o : Nat} (h0 : lt_c σ o = 8) {r : lt_W} (hF : lt_F X cX8_become RX8 4 (lt_rm 1)) (hE : lt_E X 0 0 σ none none r) (n : Nat) : ∀ (x3 : Int32) (w : lt_W), fb_X8_become_17 σ o n x3 w = some r → lt_J X 0 0 σ w 17 [(0, .ref (lt_z X + o)), (3, .int x3)] [] := by
  induction n with
  | zero => intro x3 w hf; rw [fb_X8_become_17] at hf; cases hf
  | succ n ih =>
    intro x3 w hf
    rw [fb_X8_become_17] at hf
    refine jr_iload_n hF dX8_become_17 1 rfl rfl ?_
    refine jr_bipush (v := 60) hF dX8_become_18 rfl ?_
    refine jr_icmp_ge (tgt := 36) hF dX8_become_20 rfl hf (fun hf => ?_) (fun hf => ?_)
    · obtain rfl := Option.some.inj hf
      exact jr_return hF hE dX8_become_36
    · refine jr_aload_n hF dX8_become_23 0 rfl rfl ?_
      refine jr_getRT (cr := 51) hF gf_X8_9 hT h0 rfl rfl dX8_become_24 (fun th1 => ?_)
      refine jr_iload_n hF dX8_become_27 1 rfl rfl ?_
      refine jr_lconst (v := 0) hF dX8_become_28 rfl ?_
      refine jr_lastore hF th1 dX8_become_29 hf (fun hf => ?_)
      refine jr_letW hf (fun w2 hf => ?_)
      refine jr_iinc (v := x3 + 1) (lv' := [(0, .ref (lt_z X + o)), (3, .int (x3 + 1))]) hF dX8_become_30 1 rfl rfl (by decide) [1, 0] rfl ?_
      refine jr_goto (tgt := 17) hF dX8_become_33 rfl ?_
      exact ih _ _ hf
set_option maxRecDepth 100000 in
def fb_X8_become_0 (σ : lt_S) (o : Nat) (x1 : Int32) (x2 : Int32) (w : lt_W) : Option lt_W := lt_let (lt_si w o 0 1) (fun w1 => lt_let (lt_si w1 o 1 x1) (fun w2 => lt_let (lt_si w2 o 2 x2) (fun w3 => fb_X8_become_17 σ o lt_fu 0 w3)))
set_option maxHeartbeats 4000000 in
set_option maxRecDepth 100000 in
theorem jb_X8_become_0 {X : lt_X} {σ : lt_S} (hT : lt_Wt σ) {o : Nat} (h0 : lt_c σ o = 8) {r : lt_W} (hF : lt_F X cX8_become RX8 4 (lt_rm 1)) (hE : lt_E X 0 0 σ none none r) : ∀ (x1 : Int32) (x2 : Int32) (w : lt_W), fb_X8_become_0 σ o x1 x2 w = some r → lt_J X 0 0 σ w 0 [(0, .ref (lt_z X + o)), (1, .int x1), (2, .int x2)] [] := by
  intro x1 x2 w hf
  unfold fb_X8_become_0 at hf
  refine jr_aload_n hF dX8_become_0 0 rfl rfl ?_
  refine jr_iconst (v := 1) hF dX8_become_1 rfl ?_
  refine jr_putZ hF pf_X8_15 h0 (Or.inr rfl) dX8_become_2 ?_
  refine jr_letW hf (fun w1 hf => ?_)
  refine jr_aload_n hF dX8_become_5 0 rfl rfl ?_
  refine jr_iload_n hF dX8_become_6 1 rfl rfl ?_
  refine jr_putI hF pf_X8_19 h0 dX8_become_7 ?_
  refine jr_letW hf (fun w2 hf => ?_)
  refine jr_aload_n hF dX8_become_10 0 rfl rfl ?_
  refine jr_iload_n hF dX8_become_11 2 rfl rfl ?_
  refine jr_putI hF pf_X8_23 h0 dX8_become_12 ?_
  refine jr_letW hf (fun w3 hf => ?_)
  refine jr_iconst (v := 0) hF dX8_become_15 rfl ?_
  refine jr_istore_n (lv' := [(0, .ref (lt_z X + o)), (3, .int 0)]) hF dX8_become_16 rfl (by decide) [1, 0] rfl ?_
  exact jb_X8_become_17 hT h0 hF hE lt_fu _ _ hf
def f_X8_become (σ : lt_S) (o : Nat) (x1 : Int32) (x2 : Int32) (w : lt_W) : Option lt_W := fb_X8_become_0 σ o x1 x2 w
set_option maxRecDepth 100000 in
theorem c_X8_become {l : Launch} {D : va_G} {gA : Nat → ClassId} {s0 : State} {σ : lt_S} (hT : lt_Wt σ) {o : Nat} (h0 : lt_c σ o = 8) {x1 : Int32} {x2 : Int32} {w : lt_W} {r : lt_W} (hf : f_X8_become σ o x1 x2 w = some r) : lt_C l D gA s0 yX8_become cX8_become 4 none (lt_rm 1) [.ref (s0.heap.size + o), .int x1, .int x2] σ w σ none r := by
  refine lt_enter rfl (Nat.le_of_ble_eq_true rfl) (fun X e1 e2 e3 e4 hF hE => ?_)
  subst e1 e2 e3 e4
  exact jb_X8_become_0 hT h0 hF hE _ _ _ hf
