/-! THE LAW: the loop, the start -/
theorem mi_L_9 : lt_MI RL 9 yX11_init cX11_init 2 0 := ⟨⟨(lt_m1 23 rfl rfl), (lt_m1 24 rfl rfl), (lt_m1 1 rfl rfl), (lt_m1 25 rfl rfl)⟩, rfl, by decide +kernel, by decide +kernel, by decide +kernel⟩
theorem mi_L_12 : lt_MI RL 12 yX12_init cX12_init 1 0 := ⟨⟨(lt_m5 233 rfl rfl), (lt_m5 234 rfl rfl), (lt_m1 13 rfl rfl), (lt_m5 235 rfl rfl)⟩, rfl, by decide +kernel, by decide +kernel, by decide +kernel⟩
section LLOOP
variable {X : lt_X} {w : lt_W} {b L : Nat} {xs : Nat → Int32} {i : Int32}
set_option maxRecDepth 100000 in
theorem ll_sw {v : Int32} (hF : lt_F X cL_law RL 4 room_1) (hX : ll_X X b L xs) (hv : ll_v i L) (hR : lr_R w) (kk : ∀ w', lr_R w' → lt_J X 255 10777 ly_F w' 1664 [(0, .ref b), (1, .ref (lt_z X + 0)), (2, .ref (lt_z X + 233)), (3, .int i)] []) : lt_J X 255 10777 ly_F w 33 [(0, .ref b), (1, .ref (lt_z X + 0)), (2, .ref (lt_z X + 233)), (3, .int i)] [.int v] := by
  by_cases h : v.toInt < 0 ∨ 48 < v.toInt
  · exact jr_tableOut (tgt := 1664) hF dL_law_33 h rfl (kk _ hR)
  · obtain ⟨n, hn⟩ : ∃ n : Nat, v.toInt = (n : Int) := ⟨v.toInt.toNat, by omega⟩
    have hn48 : n ≤ 48 := by omega
    rcases (by omega : n = 0 ∨ n = 1 ∨ n = 2 ∨ n = 3 ∨ n = 4 ∨ n = 5 ∨ n = 6 ∨ n = 7 ∨ n = 8 ∨ n = 9 ∨ n = 10 ∨ n = 11 ∨ n = 12 ∨ n = 13 ∨ n = 14 ∨ n = 15 ∨ n = 16 ∨ n = 17 ∨ n = 18 ∨ n = 19 ∨ n = 20 ∨ n = 21 ∨ n = 22 ∨ n = 23 ∨ n = 24 ∨ n = 25 ∨ n = 26 ∨ n = 27 ∨ n = 28 ∨ n = 29 ∨ n = 30 ∨ n = 31 ∨ n = 32 ∨ n = 33 ∨ n = 34 ∨ n = 35 ∨ n = 36 ∨ n = 37 ∨ n = 38 ∨ n = 39 ∨ n = 40 ∨ n = 41 ∨ n = 42 ∨ n = 43 ∨ n = 44 ∨ n = 45 ∨ n = 46 ∨ n = 47 ∨ n = 48) with rfl | rfl | rfl | rfl | rfl | rfl | rfl | rfl | rfl | rfl | rfl | rfl | rfl | rfl | rfl | rfl | rfl | rfl | rfl | rfl | rfl | rfl | rfl | rfl | rfl | rfl | rfl | rfl | rfl | rfl | rfl | rfl | rfl | rfl | rfl | rfl | rfl | rfl | rfl | rfl | rfl | rfl | rfl | rfl | rfl | rfl | rfl | rfl | rfl
    · exact jr_tableIn (off := 211) (tgt := 244) hF dL_law_33 (by rw [hn]; decide) (by rw [hn]; decide) (by rw [hn]; rfl) rfl (ll_0 hF hX hv hR kk)
    · exact jr_tableIn (off := 224) (tgt := 257) hF dL_law_33 (by rw [hn]; decide) (by rw [hn]; decide) (by rw [hn]; rfl) rfl (ll_1 hF hX hv hR kk)
    · exact jr_tableIn (off := 238) (tgt := 271) hF dL_law_33 (by rw [hn]; decide) (by rw [hn]; decide) (by rw [hn]; rfl) rfl (ll_2 hF hX hv hR kk)
    · exact jr_tableIn (off := 252) (tgt := 285) hF dL_law_33 (by rw [hn]; decide) (by rw [hn]; decide) (by rw [hn]; rfl) rfl (ll_3 hF hX hv hR kk)
    · exact jr_tableIn (off := 295) (tgt := 328) hF dL_law_33 (by rw [hn]; decide) (by rw [hn]; decide) (by rw [hn]; rfl) rfl (ll_4 hF hX hv hR kk)
    · exact jr_tableIn (off := 368) (tgt := 401) hF dL_law_33 (by rw [hn]; decide) (by rw [hn]; decide) (by rw [hn]; rfl) rfl (ll_5 hF hX hv hR kk)
    · exact jr_tableIn (off := 402) (tgt := 435) hF dL_law_33 (by rw [hn]; decide) (by rw [hn]; decide) (by rw [hn]; rfl) rfl (ll_6 hF hX hv hR kk)
    · exact jr_tableIn (off := 465) (tgt := 498) hF dL_law_33 (by rw [hn]; decide) (by rw [hn]; decide) (by rw [hn]; rfl) rfl (ll_7 hF hX hv hR kk)
    · exact jr_tableIn (off := 528) (tgt := 561) hF dL_law_33 (by rw [hn]; decide) (by rw [hn]; decide) (by rw [hn]; rfl) rfl (ll_8 hF hX hv hR kk)
    · exact jr_tableIn (off := 551) (tgt := 584) hF dL_law_33 (by rw [hn]; decide) (by rw [hn]; decide) (by rw [hn]; rfl) rfl (ll_9 hF hX hv hR kk)
    · exact jr_tableIn (off := 574) (tgt := 607) hF dL_law_33 (by rw [hn]; decide) (by rw [hn]; decide) (by rw [hn]; rfl) rfl (ll_10 hF hX hv hR kk)
    · exact jr_tableIn (off := 597) (tgt := 630) hF dL_law_33 (by rw [hn]; decide) (by rw [hn]; decide) (by rw [hn]; rfl) rfl (ll_11 hF hX hv hR kk)
    · exact jr_tableIn (off := 620) (tgt := 653) hF dL_law_33 (by rw [hn]; decide) (by rw [hn]; decide) (by rw [hn]; rfl) rfl (ll_12 hF hX hv hR kk)
    · exact jr_tableIn (off := 653) (tgt := 686) hF dL_law_33 (by rw [hn]; decide) (by rw [hn]; decide) (by rw [hn]; rfl) rfl (ll_13 hF hX hv hR kk)
    · exact jr_tableIn (off := 666) (tgt := 699) hF dL_law_33 (by rw [hn]; decide) (by rw [hn]; decide) (by rw [hn]; rfl) rfl (ll_14 hF hX hv hR kk)
    · exact jr_tableIn (off := 679) (tgt := 712) hF dL_law_33 (by rw [hn]; decide) (by rw [hn]; decide) (by rw [hn]; rfl) rfl (ll_15 hF hX hv hR kk)
    · exact jr_tableIn (off := 702) (tgt := 735) hF dL_law_33 (by rw [hn]; decide) (by rw [hn]; decide) (by rw [hn]; rfl) rfl (ll_16 hF hX hv hR kk)
    · exact jr_tableIn (off := 725) (tgt := 758) hF dL_law_33 (by rw [hn]; decide) (by rw [hn]; decide) (by rw [hn]; rfl) rfl (ll_17 hF hX hv hR kk)
    · exact jr_tableIn (off := 758) (tgt := 791) hF dL_law_33 (by rw [hn]; decide) (by rw [hn]; decide) (by rw [hn]; rfl) rfl (ll_18 hF hX hv hR kk)
    · exact jr_tableIn (off := 781) (tgt := 814) hF dL_law_33 (by rw [hn]; decide) (by rw [hn]; decide) (by rw [hn]; rfl) rfl (ll_19 hF hX hv hR kk)
    · exact jr_tableIn (off := 804) (tgt := 837) hF dL_law_33 (by rw [hn]; decide) (by rw [hn]; decide) (by rw [hn]; rfl) rfl (ll_20 hF hX hv hR kk)
    · exact jr_tableIn (off := 837) (tgt := 870) hF dL_law_33 (by rw [hn]; decide) (by rw [hn]; decide) (by rw [hn]; rfl) rfl (ll_21 hF hX hv hR kk)
    · exact jr_tableIn (off := 890) (tgt := 923) hF dL_law_33 (by rw [hn]; decide) (by rw [hn]; decide) (by rw [hn]; rfl) rfl (ll_22 hF hX hv hR kk)
    · exact jr_tableIn (off := 913) (tgt := 946) hF dL_law_33 (by rw [hn]; decide) (by rw [hn]; decide) (by rw [hn]; rfl) rfl (ll_23 hF hX hv hR kk)
    · exact jr_tableIn (off := 946) (tgt := 979) hF dL_law_33 (by rw [hn]; decide) (by rw [hn]; decide) (by rw [hn]; rfl) rfl (ll_24 hF hX hv hR kk)
    · exact jr_tableIn (off := 969) (tgt := 1002) hF dL_law_33 (by rw [hn]; decide) (by rw [hn]; decide) (by rw [hn]; rfl) rfl (ll_25 hF hX hv hR kk)
    · exact jr_tableIn (off := 992) (tgt := 1025) hF dL_law_33 (by rw [hn]; decide) (by rw [hn]; decide) (by rw [hn]; rfl) rfl (ll_26 hF hX hv hR kk)
    · exact jr_tableIn (off := 1035) (tgt := 1068) hF dL_law_33 (by rw [hn]; decide) (by rw [hn]; decide) (by rw [hn]; rfl) rfl (ll_27 hF hX hv hR kk)
    · exact jr_tableIn (off := 1048) (tgt := 1081) hF dL_law_33 (by rw [hn]; decide) (by rw [hn]; decide) (by rw [hn]; rfl) rfl (ll_28 hF hX hv hR kk)
    · exact jr_tableIn (off := 1061) (tgt := 1094) hF dL_law_33 (by rw [hn]; decide) (by rw [hn]; decide) (by rw [hn]; rfl) rfl (ll_29 hF hX hv hR kk)
    · exact jr_tableIn (off := 1074) (tgt := 1107) hF dL_law_33 (by rw [hn]; decide) (by rw [hn]; decide) (by rw [hn]; rfl) rfl (ll_30 hF hX hv hR kk)
    · exact jr_tableIn (off := 1087) (tgt := 1120) hF dL_law_33 (by rw [hn]; decide) (by rw [hn]; decide) (by rw [hn]; rfl) rfl (ll_31 hF hX hv hR kk)
    · exact jr_tableIn (off := 1110) (tgt := 1143) hF dL_law_33 (by rw [hn]; decide) (by rw [hn]; decide) (by rw [hn]; rfl) rfl (ll_32 hF hX hv hR kk)
    · exact jr_tableIn (off := 1133) (tgt := 1166) hF dL_law_33 (by rw [hn]; decide) (by rw [hn]; decide) (by rw [hn]; rfl) rfl (ll_33 hF hX hv hR kk)
    · exact jr_tableIn (off := 1166) (tgt := 1199) hF dL_law_33 (by rw [hn]; decide) (by rw [hn]; decide) (by rw [hn]; rfl) rfl (ll_34 hF hX hv hR kk)
    · exact jr_tableIn (off := 1209) (tgt := 1242) hF dL_law_33 (by rw [hn]; decide) (by rw [hn]; decide) (by rw [hn]; rfl) rfl (ll_35 hF hX hv hR kk)
    · exact jr_tableIn (off := 1262) (tgt := 1295) hF dL_law_33 (by rw [hn]; decide) (by rw [hn]; decide) (by rw [hn]; rfl) rfl (ll_36 hF hX hv hR kk)
    · exact jr_tableIn (off := 1305) (tgt := 1338) hF dL_law_33 (by rw [hn]; decide) (by rw [hn]; decide) (by rw [hn]; rfl) rfl (ll_37 hF hX hv hR kk)
    · exact jr_tableIn (off := 1338) (tgt := 1371) hF dL_law_33 (by rw [hn]; decide) (by rw [hn]; decide) (by rw [hn]; rfl) rfl (ll_38 hF hX hv hR kk)
    · exact jr_tableIn (off := 1371) (tgt := 1404) hF dL_law_33 (by rw [hn]; decide) (by rw [hn]; decide) (by rw [hn]; rfl) rfl (ll_39 hF hX hv hR kk)
    · exact jr_tableIn (off := 1394) (tgt := 1427) hF dL_law_33 (by rw [hn]; decide) (by rw [hn]; decide) (by rw [hn]; rfl) rfl (ll_40 hF hX hv hR kk)
    · exact jr_tableIn (off := 1417) (tgt := 1450) hF dL_law_33 (by rw [hn]; decide) (by rw [hn]; decide) (by rw [hn]; rfl) rfl (ll_41 hF hX hv hR kk)
    · exact jr_tableIn (off := 1460) (tgt := 1493) hF dL_law_33 (by rw [hn]; decide) (by rw [hn]; decide) (by rw [hn]; rfl) rfl (ll_42 hF hX hv hR kk)
    · exact jr_tableIn (off := 1503) (tgt := 1536) hF dL_law_33 (by rw [hn]; decide) (by rw [hn]; decide) (by rw [hn]; rfl) rfl (ll_43 hF hX hv hR kk)
    · exact jr_tableIn (off := 1526) (tgt := 1559) hF dL_law_33 (by rw [hn]; decide) (by rw [hn]; decide) (by rw [hn]; rfl) rfl (ll_44 hF hX hv hR kk)
    · exact jr_tableIn (off := 1549) (tgt := 1582) hF dL_law_33 (by rw [hn]; decide) (by rw [hn]; decide) (by rw [hn]; rfl) rfl (ll_45 hF hX hv hR kk)
    · exact jr_tableIn (off := 1572) (tgt := 1605) hF dL_law_33 (by rw [hn]; decide) (by rw [hn]; decide) (by rw [hn]; rfl) rfl (ll_46 hF hX hv hR kk)
    · exact jr_tableIn (off := 1605) (tgt := 1638) hF dL_law_33 (by rw [hn]; decide) (by rw [hn]; decide) (by rw [hn]; rfl) rfl (ll_47 hF hX hv hR kk)
    · exact jr_tableIn (off := 1618) (tgt := 1651) hF dL_law_33 (by rw [hn]; decide) (by rw [hn]; decide) (by rw [hn]; rfl) rfl (ll_48 hF hX hv hR kk)
theorem ll_sub {k : Nat} (h : k + 6 ≤ L) (hL : L ≤ 3072) : ¬ (Int32.ofNat L - 6 < nI k) := by
  have e : Int32.ofNat L - 6 = nI (L - 6) := by
    have h1 : nI (L - 6) + nI 6 = nI L := by rw [nI_add]; congr 1; omega
    show nI L - nI 6 = nI (L - 6)
    rw [← h1, Int32.add_sub_cancel]
  rw [e]
  exact nI_nlt (by omega) (by omega)
theorem ll_gt {k : Nat} (h : ¬ k + 6 ≤ L) (hL : L ≤ 3072) (hk : k ≤ 3078) : Int32.ofNat L - 6 < nI k := by
  by_cases h6 : 6 ≤ L
  · have e : Int32.ofNat L - 6 = nI (L - 6) := by
      have h1 : nI (L - 6) + nI 6 = nI L := by rw [nI_add]; congr 1; omega
      show nI L - nI 6 = nI (L - 6)
      rw [← h1, Int32.add_sub_cancel]
    rw [e]
    exact nI_lt (by omega) (by omega)
  · have h0 : (0 : Int32) ≤ nI k := nI_pos' (by omega)
    have h1 : Int32.ofNat L - 6 < 0 := by
      rcases (by omega : L = 0 ∨ L = 1 ∨ L = 2 ∨ L = 3 ∨ L = 4 ∨ L = 5) with rfl | rfl | rfl | rfl | rfl | rfl <;> decide
    exact Int32.lt_of_lt_of_le h1 h0
theorem ll_vin {k : Nat} (h : k + 6 ≤ L) (hL : L ≤ 3072) : ll_v (nI k) L := by
  have g : ∀ j, j < 6 → vp_in (nI (k + j)) L := fun j hj => nI_in (by omega) (by omega)
  have e : ∀ j, nI k + nI j = nI (k + j) := fun j => nI_add k j
  exact ⟨g 0 (by decide), (e 1) ▸ g 1 (by decide), (e 2) ▸ g 2 (by decide), (e 3) ▸ g 3 (by decide), (e 4) ▸ g 4 (by decide), (e 5) ▸ g 5 (by decide)⟩
theorem ll_loop (hF : lt_F X cL_law RL 4 room_1) (hX : ll_X X b L xs) (hL : L ≤ 3072) (hend : ∀ w lv, lt_J X 255 10777 ly_F w 1671 lv [.int 1]) : ∀ (n k : Nat) (w : lt_W), L ≤ k + n → k ≤ 3078 → lr_R w → lt_J X 255 10777 ly_F w 18 [(0, .ref b), (1, .ref (lt_z X + 0)), (2, .ref (lt_z X + 233)), (3, .int (nI k))] [] := by
  intro n
  induction n with
  | zero =>
    intro k w hn hk hR
    refine jr_iload_n hF dL_law_18 3 rfl rfl ?_
    show lt_J X 255 10777 ly_F _ 19 [(0, .ref b), (1, .ref (lt_z X + 0)), (2, .ref (lt_z X + 233)), (3, .int (nI k))] [.int (nI k)]
    refine jr_aload_n hF dL_law_19 0 rfl rfl ?_
    refine jr_slen hF hX dL_law_20 ?_
    refine jr_bipush (v := 6) hF dL_law_21 rfl ?_
    refine jr_isub hF dL_law_23 ?_
    refine jr_icmp_gt (tgt := 1670) (g1 := some ()) (g2 := none) (r := ()) hF dL_law_24 rfl (if_pos (ll_gt (by omega) hL hk)) (fun _ => ?_) (fun z => by cases z)
    refine jr_iconst (v := 1) hF dL_law_1670 rfl ?_
    exact hend _ _
  | succ n ih =>
    intro k w hn hk hR
    refine jr_iload_n hF dL_law_18 3 rfl rfl ?_
    show lt_J X 255 10777 ly_F _ 19 [(0, .ref b), (1, .ref (lt_z X + 0)), (2, .ref (lt_z X + 233)), (3, .int (nI k))] [.int (nI k)]
    refine jr_aload_n hF dL_law_19 0 rfl rfl ?_
    refine jr_slen hF hX dL_law_20 ?_
    refine jr_bipush (v := 6) hF dL_law_21 rfl ?_
    refine jr_isub hF dL_law_23 ?_
    by_cases h6 : k + 6 ≤ L
    · refine jr_icmp_gt (tgt := 1670) (g1 := none) (g2 := some ()) (r := ()) hF dL_law_24 rfl (if_neg (ll_sub h6 hL)) (fun z => by cases z) (fun _ => ?_)
      show lt_J X 255 10777 ly_F _ 27 [(0, .ref b), (1, .ref (lt_z X + 0)), (2, .ref (lt_z X + 233)), (3, .int (nI k))] []
      refine jr_aload_n hF dL_law_27 0 rfl rfl ?_
      refine jr_iload_n hF dL_law_28 3 rfl rfl ?_
      refine jr_sl hF hX (ll_vin h6 hL).1 dL_law_29 ?_
      refine jr_bipush (v := 63) hF dL_law_30 rfl ?_
      refine jr_iand hF dL_law_32 ?_
      refine ll_sw hF hX (ll_vin h6 hL) hR fun w' hR' => ?_
      refine jr_iinc (v := nI (k + 6)) (lv' := [(0, .ref b), (1, .ref (lt_z X + 0)), (2, .ref (lt_z X + 233)), (3, .int (nI (k + 6)))]) hF dL_law_1664 3 rfl (nI_add k 6) (by decide) [1, 2, 3, 0] rfl ?_
      refine jr_goto (tgt := 18) hF dL_law_1667 rfl ?_
      exact ih (k + 6) w' (by omega) (by omega) hR'
    · refine jr_icmp_gt (tgt := 1670) (g1 := some ()) (g2 := none) (r := ()) hF dL_law_24 rfl (if_pos (ll_gt h6 hL hk)) (fun _ => ?_) (fun z => by cases z)
      refine jr_iconst (v := 1) hF dL_law_1670 rfl ?_
      exact hend _ _
set_option maxRecDepth 100000 in
theorem ll_start (hF : lt_F X cL_law RL 4 room_1) (hX : ll_X X b L xs) (hL : L ≤ 3072) (hend : ∀ w lv, lt_J X 255 10777 ly_F w 1671 lv [.int 1]) : lt_J X 0 0 (ly_S 0 0) ly_w0 0 [(0, .ref b)] [] := by
  obtain ⟨r, hr, hR⟩ := ly_made
  refine jr_new (ci := 11) hF clX11 (lt_m1 21 rfl rfl) (lt_m1 22 rfl rfl) (lt_m1 1 rfl rfl) rfl dvX11 (by decide +kernel) (ly_w0z 0) ⟨Nat.le_of_ble_eq_true rfl, Nat.le_of_ble_eq_true rfl⟩ dL_law_0 ?_
  show lt_J X 1 19 (ly_S 1 0) _ 3 [(0, .ref b)] [.ref (lt_z X + 0)]
  refine jr_dup hF dL_law_3 rfl ?_
  refine jr_callI (As := []) (st := [.ref (lt_z X + 0)]) hF mi_L_9 (cI_X11_0 (ly_w0z 1)) rfl ⟨Nat.le_of_ble_eq_true rfl, Nat.le_of_ble_eq_true rfl⟩ ⟨Nat.le_of_ble_eq_true rfl, Nat.le_of_ble_eq_true rfl⟩ (Nat.le_of_ble_eq_true rfl) dL_law_4 ?_
  show lt_J X 233 3732 (ly_S 233 220) _ 7 [(0, .ref b)] [.ref (lt_z X + 0)]
  have hz := zI_X11_0 (ly_w0z 1)
  refine jr_astore_n (lv' := [(0, .ref b), (1, .ref (lt_z X + 0))]) hF dL_law_7 rfl (by decide) [1, 0] rfl ?_
  refine jr_new (ci := 12) hF clX12 (lt_m5 231 rfl rfl) (lt_m5 232 rfl rfl) (lt_m1 13 rfl rfl) rfl dvX12 (by decide +kernel) hz ⟨Nat.le_of_ble_eq_true rfl, Nat.le_of_ble_eq_true rfl⟩ dL_law_8 ?_
  show lt_J X 234 3773 (ly_S 234 220) _ 11 [(0, .ref b), (1, .ref (lt_z X + 0))] [.ref (lt_z X + 233)]
  refine jr_dup hF dL_law_11 rfl ?_
  refine jr_callI (As := []) (st := [.ref (lt_z X + 233)]) hF mi_L_12 (cI_X12_233 (hz.up (Nat.le_succ 233)) ly_FT hr) rfl ⟨Nat.le_of_ble_eq_true rfl, Nat.le_of_ble_eq_true rfl⟩ ⟨Nat.le_of_ble_eq_true rfl, Nat.le_of_ble_eq_true rfl⟩ (Nat.le_of_ble_eq_true rfl) dL_law_12 ?_
  show lt_J X 255 10777 ly_F _ 15 [(0, .ref b), (1, .ref (lt_z X + 0))] [.ref (lt_z X + 233)]
  refine jr_astore_n (lv' := [(0, .ref b), (1, .ref (lt_z X + 0)), (2, .ref (lt_z X + 233))]) hF dL_law_15 rfl (by decide) [1, 2, 0] rfl ?_
  refine jr_iconst (v := 0) hF dL_law_16 rfl ?_
  refine jr_istore_n (lv' := [(0, .ref b), (1, .ref (lt_z X + 0)), (2, .ref (lt_z X + 233)), (3, .int (nI 0))]) hF dL_law_17 rfl (by decide) [1, 2, 3, 0] rfl ?_
  exact ll_loop hF hX hL hend L 0 r (by omega) (by decide) hR
end LLOOP
/-- the classes' numbers at the law's entry -/
theorem ll_K {s : State} {A : Array Value} (hg : ∀ w ∈ lw_tbl, w.before A s = true) : ∃ (D : va_G) (gA : Nat → ClassId), va_K D vwCl (lt_tys gA) s := by
  have hts : ∀ w ∈ lt_tb, w.before A s = true := fun w hw => hg w (lt_tb_in hw)
  have h : ∀ k : Nat, ∃ (ci : ClassId) (iS : Nat → Nat), ∀ q : vw_C, vwCl[k]? = some q → u_Kn s q.1 q.2.1 q.2.2 ci iS := fun k => by
    match k with
    | 0 =>
      obtain ⟨c, i, z⟩ := u_known hts clX0.2.1 (hts _ lyq_105)
      exact ⟨c, i, fun q hq => by cases hq; exact z⟩
    | 1 =>
      obtain ⟨c, i, z⟩ := u_known hts clX1.2.1 (hts _ lyq_120)
      exact ⟨c, i, fun q hq => by cases hq; exact z⟩
    | 2 =>
      obtain ⟨c, i, z⟩ := u_known hts clX2.2.1 (hts _ lyq_125)
      exact ⟨c, i, fun q hq => by cases hq; exact z⟩
    | 3 =>
      obtain ⟨c, i, z⟩ := u_known hts clX3.2.1 (hts _ lyq_110)
      exact ⟨c, i, fun q hq => by cases hq; exact z⟩
    | 4 =>
      obtain ⟨c, i, z⟩ := u_known hts clX4.2.1 (hts _ lyq_115)
      exact ⟨c, i, fun q hq => by cases hq; exact z⟩
    | 5 =>
      obtain ⟨c, i, z⟩ := u_known hts clX5.2.1 (hts _ lyq_28)
      exact ⟨c, i, fun q hq => by cases hq; exact z⟩
    | 6 =>
      obtain ⟨c, i, z⟩ := u_known hts clX6.2.1 (hts _ lyq_95)
      exact ⟨c, i, fun q hq => by cases hq; exact z⟩
    | 7 =>
      obtain ⟨c, i, z⟩ := u_known hts clX7.2.1 (hts _ lyq_84)
      exact ⟨c, i, fun q hq => by cases hq; exact z⟩
    | 8 =>
      obtain ⟨c, i, z⟩ := u_known hts clX8.2.1 (hts _ lyq_80)
      exact ⟨c, i, fun q hq => by cases hq; exact z⟩
    | 9 =>
      obtain ⟨c, i, z⟩ := u_known hts clX9.2.1 (hts _ lyq_35)
      exact ⟨c, i, fun q hq => by cases hq; exact z⟩
    | 10 =>
      obtain ⟨c, i, z⟩ := u_known hts clX10.2.1 (hts _ lyq_100)
      exact ⟨c, i, fun q hq => by cases hq; exact z⟩
    | 11 =>
      obtain ⟨c, i, z⟩ := u_known hts clX11.2.1 (hts _ (lt_m1 22 rfl rfl))
      exact ⟨c, i, fun q hq => by cases hq; exact z⟩
    | 12 =>
      obtain ⟨c, i, z⟩ := u_known hts clX12.2.1 (hts _ (lt_m5 232 rfl rfl))
      exact ⟨c, i, fun q hq => by cases hq; exact z⟩
    | k + 13 =>
      exact ⟨0, fun _ => 0, fun q hq => by simp [vwCl] at hq⟩
  obtain ⟨a50, k50, e50, x50, y50, z50⟩ := Cond.arrayClass_spec (hts _ lyq_10)
  obtain ⟨a51, k51, e51, x51, y51, z51⟩ := Cond.arrayClass_spec (hts _ lyq_3)
  obtain ⟨a52, k52, e52, x52, y52, z52⟩ := Cond.arrayClass_spec (hts _ lyq_6)
  obtain ⟨a53, k53, e53, x53, y53, z53⟩ := Cond.arrayClass_spec (hts _ lyq_147)
  obtain ⟨e54, a54, k54, u54, v54, y54, z54, x54⟩ := Cond.arrayOver_spec (hg _ (lyq_78 : Cond.arrayOver (.object "LoafTable$Tray") ∈ lw_tbl))
  obtain ⟨e55, a55, k55, u55, v55, y55, z55, x55⟩ := Cond.arrayOver_spec (hg _ (lyq_49 : Cond.arrayOver (.object "LoafTable$Table") ∈ lw_tbl))
  obtain ⟨e56, a56, k56, u56, v56, y56, z56, x56⟩ := Cond.arrayOver_spec (hg _ (lyq_131 : Cond.arrayOver (.object "LoafTable$Weeks") ∈ lw_tbl))
  obtain ⟨e57, a57, k57, u57, v57, y57, z57, x57⟩ := arrayOverA_spec (hg _ (lyq_61 : Cond.arrayOver (.array .int) ∈ lw_tbl))
  refine ⟨(fun k => (h k).choose, fun k => (h k).choose_spec.choose), fun c => if c = 50 then a50 else if c = 51 then a51 else if c = 52 then a52 else if c = 53 then a53 else if c = 54 then a54 else if c = 55 then a55 else if c = 56 then a56 else a57, fun k q hq => (h k).choose_spec.choose_spec q hq, fun k q hq => ?_⟩
  match k, hq with
  | 0, hq =>
    cases hq
    exact ⟨fun n z => ⟨fun k h => (by cases h), k50, y50, e50, z50⟩, x50⟩
  | 1, hq =>
    cases hq
    exact ⟨fun n z => ⟨fun k h => (by cases h), k51, y51, e51, z51⟩, x51⟩
  | 2, hq =>
    cases hq
    exact ⟨fun n z => ⟨fun k h => (by cases h), k52, y52, e52, z52⟩, x52⟩
  | 3, hq =>
    cases hq
    exact ⟨fun n z => ⟨fun k h => (by cases h), k53, y53, e53, z53⟩, x53⟩
  | 4, hq =>
    cases hq
    exact ⟨fun n z => ⟨fun k h => (by cases h), k54, y54, e54, z54⟩, ⟨k54, e54, y54, z54, u54, x54⟩⟩
  | 5, hq =>
    cases hq
    exact ⟨fun n z => ⟨fun k h => (by cases h), k55, y55, e55, z55⟩, ⟨k55, e55, y55, z55, u55, x55⟩⟩
  | 6, hq =>
    cases hq
    exact ⟨fun n z => ⟨fun k h => (by cases h), k56, y56, e56, z56⟩, ⟨k56, e56, y56, z56, u56, x56⟩⟩
  | 7, hq =>
    cases hq
    exact ⟨fun n z => ⟨fun k h => (by cases h), k57, y57, e57, z57⟩, x57⟩
  | k + 8, hq => simp at hq
