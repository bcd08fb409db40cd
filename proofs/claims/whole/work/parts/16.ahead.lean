/-! DAYS AHEAD -/
theorem lq_r0_3 {σ : lt_S} (hσ : lr_S σ) : lt_r σ 0 3 = 1 := hσ.r 0 3 (by decide) (by decide)
theorem lq_r0_4 {σ : lt_S} (hσ : lr_S σ) : lt_r σ 0 4 = 10 := hσ.r 0 4 (by decide) (by decide)
theorem lq_r0_5 {σ : lt_S} (hσ : lr_S σ) : lt_r σ 0 5 = 12 := hσ.r 0 5 (by decide) (by decide)
theorem lq_r0_6 {σ : lt_S} (hσ : lr_S σ) : lt_r σ 0 6 = 21 := hσ.r 0 6 (by decide) (by decide)
theorem lq_r0_7 {σ : lt_S} (hσ : lr_S σ) : lt_r σ 0 7 = 29 := hσ.r 0 7 (by decide) (by decide)
theorem lq_r0_8 {σ : lt_S} (hσ : lr_S σ) : lt_r σ 0 8 = 39 := hσ.r 0 8 (by decide) (by decide)
theorem lq_r0_9 {σ : lt_S} (hσ : lr_S σ) : lt_r σ 0 9 = 49 := hσ.r 0 9 (by decide) (by decide)
theorem lq_r0_10 {σ : lt_S} (hσ : lr_S σ) : lt_r σ 0 10 = 59 := hσ.r 0 10 (by decide) (by decide)
theorem lq_r0_11 {σ : lt_S} (hσ : lr_S σ) : lt_r σ 0 11 = 117 := hσ.r 0 11 (by decide) (by decide)
theorem lq_r0_12 {σ : lt_S} (hσ : lr_S σ) : lt_r σ 0 12 = 150 := hσ.r 0 12 (by decide) (by decide)
theorem lq_r0_13 {σ : lt_S} (hσ : lr_S σ) : lt_r σ 0 13 = 169 := hσ.r 0 13 (by decide) (by decide)
theorem lq_r0_14 {σ : lt_S} (hσ : lr_S σ) : lt_r σ 0 14 = 179 := hσ.r 0 14 (by decide) (by decide)
theorem lq_r0_16 {σ : lt_S} (hσ : lr_S σ) : lt_r σ 0 16 = 180 := hσ.r 0 16 (by decide) (by decide)
theorem lq_r0_17 {σ : lt_S} (hσ : lr_S σ) : lt_r σ 0 17 = 181 := hσ.r 0 17 (by decide) (by decide)
theorem lq_l1 {σ : lt_S} (hσ : lr_S σ) : lt_len σ 1 = 4 := hσ.l 1 (by decide)
theorem lq_r2_3 {σ : lt_S} (hσ : lr_S σ) : lt_r σ 2 3 = 3 := hσ.r 2 3 (by decide) (by decide)
theorem lq_l3 {σ : lt_S} (hσ : lr_S σ) : lt_len σ 3 = 60 := hσ.l 3 (by decide)
theorem lq_r4_3 {σ : lt_S} (hσ : lr_S σ) : lt_r σ 4 3 = 5 := hσ.r 4 3 (by decide) (by decide)
theorem lq_l5 {σ : lt_S} (hσ : lr_S σ) : lt_len σ 5 = 60 := hσ.l 5 (by decide)
theorem lq_r6_3 {σ : lt_S} (hσ : lr_S σ) : lt_r σ 6 3 = 7 := hσ.r 6 3 (by decide) (by decide)
theorem lq_l7 {σ : lt_S} (hσ : lr_S σ) : lt_len σ 7 = 60 := hσ.l 7 (by decide)
theorem lq_r8_3 {σ : lt_S} (hσ : lr_S σ) : lt_r σ 8 3 = 9 := hσ.r 8 3 (by decide) (by decide)
theorem lq_l9 {σ : lt_S} (hσ : lr_S σ) : lt_len σ 9 = 60 := hσ.l 9 (by decide)
theorem lq_r10_0 {σ : lt_S} (hσ : lr_S σ) : lt_r σ 10 0 = 11 := hσ.r 10 0 (by decide) (by decide)
theorem lq_l11 {σ : lt_S} (hσ : lr_S σ) : lt_len σ 11 = 900 := hσ.l 11 (by decide)
theorem lq_l13 {σ : lt_S} (hσ : lr_S σ) : lt_len σ 13 = 7 := hσ.l 13 (by decide)
theorem lq_l14 {σ : lt_S} (hσ : lr_S σ) : lt_len σ 14 = 7 := hσ.l 14 (by decide)
theorem lq_l15 {σ : lt_S} (hσ : lr_S σ) : lt_len σ 15 = 7 := hσ.l 15 (by decide)
theorem lq_l16 {σ : lt_S} (hσ : lr_S σ) : lt_len σ 16 = 7 := hσ.l 16 (by decide)
theorem lq_l17 {σ : lt_S} (hσ : lr_S σ) : lt_len σ 17 = 7 := hσ.l 17 (by decide)
theorem lq_l18 {σ : lt_S} (hσ : lr_S σ) : lt_len σ 18 = 7 := hσ.l 18 (by decide)
theorem lq_l19 {σ : lt_S} (hσ : lr_S σ) : lt_len σ 19 = 7 := hσ.l 19 (by decide)
theorem lq_l20 {σ : lt_S} (hσ : lr_S σ) : lt_len σ 20 = 7 := hσ.l 20 (by decide)
theorem lq_r21_2 {σ : lt_S} (hσ : lr_S σ) : lt_r σ 21 2 = 22 := hσ.r 21 2 (by decide) (by decide)
theorem lq_r21_3 {σ : lt_S} (hσ : lr_S σ) : lt_r σ 21 3 = 23 := hσ.r 21 3 (by decide) (by decide)
theorem lq_r21_4 {σ : lt_S} (hσ : lr_S σ) : lt_r σ 21 4 = 24 := hσ.r 21 4 (by decide) (by decide)
theorem lq_r21_5 {σ : lt_S} (hσ : lr_S σ) : lt_r σ 21 5 = 25 := hσ.r 21 5 (by decide) (by decide)
theorem lq_r21_6 {σ : lt_S} (hσ : lr_S σ) : lt_r σ 21 6 = 26 := hσ.r 21 6 (by decide) (by decide)
theorem lq_r21_7 {σ : lt_S} (hσ : lr_S σ) : lt_r σ 21 7 = 27 := hσ.r 21 7 (by decide) (by decide)
theorem lq_r21_8 {σ : lt_S} (hσ : lr_S σ) : lt_r σ 21 8 = 28 := hσ.r 21 8 (by decide) (by decide)
theorem lq_l22 {σ : lt_S} (hσ : lr_S σ) : lt_len σ 22 = 30 := hσ.l 22 (by decide)
theorem lq_l23 {σ : lt_S} (hσ : lr_S σ) : lt_len σ 23 = 30 := hσ.l 23 (by decide)
theorem lq_l24 {σ : lt_S} (hσ : lr_S σ) : lt_len σ 24 = 30 := hσ.l 24 (by decide)
theorem lq_l25 {σ : lt_S} (hσ : lr_S σ) : lt_len σ 25 = 30 := hσ.l 25 (by decide)
theorem lq_l26 {σ : lt_S} (hσ : lr_S σ) : lt_len σ 26 = 30 := hσ.l 26 (by decide)
theorem lq_l27 {σ : lt_S} (hσ : lr_S σ) : lt_len σ 27 = 30 := hσ.l 27 (by decide)
theorem lq_l28 {σ : lt_S} (hσ : lr_S σ) : lt_len σ 28 = 30 := hσ.l 28 (by decide)
theorem lq_r29_1 {σ : lt_S} (hσ : lr_S σ) : lt_r σ 29 1 = 30 := hσ.r 29 1 (by decide) (by decide)
theorem lq_r29_0 {σ : lt_S} (hσ : lr_S σ) : lt_r σ 29 0 = 10 := hσ.r 29 0 (by decide) (by decide)
theorem lq_l31 {σ : lt_S} (hσ : lr_S σ) : lt_len σ 31 = 7 := hσ.l 31 (by decide)
theorem lq_l32 {σ : lt_S} (hσ : lr_S σ) : lt_len σ 32 = 7 := hσ.l 32 (by decide)
theorem lq_l33 {σ : lt_S} (hσ : lr_S σ) : lt_len σ 33 = 7 := hσ.l 33 (by decide)
theorem lq_l34 {σ : lt_S} (hσ : lr_S σ) : lt_len σ 34 = 7 := hσ.l 34 (by decide)
theorem lq_l35 {σ : lt_S} (hσ : lr_S σ) : lt_len σ 35 = 7 := hσ.l 35 (by decide)
theorem lq_l36 {σ : lt_S} (hσ : lr_S σ) : lt_len σ 36 = 7 := hσ.l 36 (by decide)
theorem lq_l37 {σ : lt_S} (hσ : lr_S σ) : lt_len σ 37 = 7 := hσ.l 37 (by decide)
theorem lq_l38 {σ : lt_S} (hσ : lr_S σ) : lt_len σ 38 = 7 := hσ.l 38 (by decide)
theorem lq_r39_2 {σ : lt_S} (hσ : lr_S σ) : lt_r σ 39 2 = 40 := hσ.r 39 2 (by decide) (by decide)
theorem lq_r39_3 {σ : lt_S} (hσ : lr_S σ) : lt_r σ 39 3 = 48 := hσ.r 39 3 (by decide) (by decide)
theorem lq_r39_0 {σ : lt_S} (hσ : lr_S σ) : lt_r σ 39 0 = 10 := hσ.r 39 0 (by decide) (by decide)
theorem lq_r39_1 {σ : lt_S} (hσ : lr_S σ) : lt_r σ 39 1 = 12 := hσ.r 39 1 (by decide) (by decide)
theorem lq_r40_2 {σ : lt_S} (hσ : lr_S σ) : lt_r σ 40 2 = 41 := hσ.r 40 2 (by decide) (by decide)
theorem lq_r40_3 {σ : lt_S} (hσ : lr_S σ) : lt_r σ 40 3 = 42 := hσ.r 40 3 (by decide) (by decide)
theorem lq_r40_4 {σ : lt_S} (hσ : lr_S σ) : lt_r σ 40 4 = 43 := hσ.r 40 4 (by decide) (by decide)
theorem lq_r40_5 {σ : lt_S} (hσ : lr_S σ) : lt_r σ 40 5 = 44 := hσ.r 40 5 (by decide) (by decide)
theorem lq_r40_6 {σ : lt_S} (hσ : lr_S σ) : lt_r σ 40 6 = 45 := hσ.r 40 6 (by decide) (by decide)
theorem lq_r40_7 {σ : lt_S} (hσ : lr_S σ) : lt_r σ 40 7 = 46 := hσ.r 40 7 (by decide) (by decide)
theorem lq_r40_8 {σ : lt_S} (hσ : lr_S σ) : lt_r σ 40 8 = 47 := hσ.r 40 8 (by decide) (by decide)
theorem lq_l41 {σ : lt_S} (hσ : lr_S σ) : lt_len σ 41 = 30 := hσ.l 41 (by decide)
theorem lq_l42 {σ : lt_S} (hσ : lr_S σ) : lt_len σ 42 = 30 := hσ.l 42 (by decide)
theorem lq_l43 {σ : lt_S} (hσ : lr_S σ) : lt_len σ 43 = 30 := hσ.l 43 (by decide)
theorem lq_l44 {σ : lt_S} (hσ : lr_S σ) : lt_len σ 44 = 30 := hσ.l 44 (by decide)
theorem lq_l45 {σ : lt_S} (hσ : lr_S σ) : lt_len σ 45 = 30 := hσ.l 45 (by decide)
theorem lq_l46 {σ : lt_S} (hσ : lr_S σ) : lt_len σ 46 = 30 := hσ.l 46 (by decide)
theorem lq_l47 {σ : lt_S} (hσ : lr_S σ) : lt_len σ 47 = 30 := hσ.l 47 (by decide)
theorem lq_l48 {σ : lt_S} (hσ : lr_S σ) : lt_len σ 48 = 3 := hσ.l 48 (by decide)
theorem lq_r49_1 {σ : lt_S} (hσ : lr_S σ) : lt_r σ 49 1 = 50 := hσ.r 49 1 (by decide) (by decide)
theorem lq_r49_0 {σ : lt_S} (hσ : lr_S σ) : lt_r σ 49 0 = 12 := hσ.r 49 0 (by decide) (by decide)
theorem lq_l51 {σ : lt_S} (hσ : lr_S σ) : lt_len σ 51 = 7 := hσ.l 51 (by decide)
theorem lq_l52 {σ : lt_S} (hσ : lr_S σ) : lt_len σ 52 = 7 := hσ.l 52 (by decide)
theorem lq_l53 {σ : lt_S} (hσ : lr_S σ) : lt_len σ 53 = 7 := hσ.l 53 (by decide)
theorem lq_l54 {σ : lt_S} (hσ : lr_S σ) : lt_len σ 54 = 7 := hσ.l 54 (by decide)
theorem lq_l55 {σ : lt_S} (hσ : lr_S σ) : lt_len σ 55 = 7 := hσ.l 55 (by decide)
theorem lq_l56 {σ : lt_S} (hσ : lr_S σ) : lt_len σ 56 = 7 := hσ.l 56 (by decide)
theorem lq_l57 {σ : lt_S} (hσ : lr_S σ) : lt_len σ 57 = 7 := hσ.l 57 (by decide)
theorem lq_l58 {σ : lt_S} (hσ : lr_S σ) : lt_len σ 58 = 7 := hσ.l 58 (by decide)
theorem lq_r59_1 {σ : lt_S} (hσ : lr_S σ) : lt_r σ 59 1 = 60 := hσ.r 59 1 (by decide) (by decide)
theorem lq_r59_2 {σ : lt_S} (hσ : lr_S σ) : lt_r σ 59 2 = 61 := hσ.r 59 2 (by decide) (by decide)
theorem lq_r59_3 {σ : lt_S} (hσ : lr_S σ) : lt_r σ 59 3 = 62 := hσ.r 59 3 (by decide) (by decide)
theorem lq_r59_0 {σ : lt_S} (hσ : lr_S σ) : lt_r σ 59 0 = 12 := hσ.r 59 0 (by decide) (by decide)
theorem lq_l60 {σ : lt_S} (hσ : lr_S σ) : lt_len σ 60 = 6 := hσ.l 60 (by decide)
theorem lq_l61 {σ : lt_S} (hσ : lr_S σ) : lt_len σ 61 = 5 := hσ.l 61 (by decide)
theorem lq_l62 {σ : lt_S} (hσ : lr_S σ) : lt_len σ 62 = 5 := hσ.l 62 (by decide)
theorem lq_l64 {σ : lt_S} (hσ : lr_S σ) : lt_len σ 64 = 7 := hσ.l 64 (by decide)
theorem lq_l65 {σ : lt_S} (hσ : lr_S σ) : lt_len σ 65 = 7 := hσ.l 65 (by decide)
theorem lq_l66 {σ : lt_S} (hσ : lr_S σ) : lt_len σ 66 = 7 := hσ.l 66 (by decide)
theorem lq_l67 {σ : lt_S} (hσ : lr_S σ) : lt_len σ 67 = 7 := hσ.l 67 (by decide)
theorem lq_l68 {σ : lt_S} (hσ : lr_S σ) : lt_len σ 68 = 7 := hσ.l 68 (by decide)
theorem lq_l69 {σ : lt_S} (hσ : lr_S σ) : lt_len σ 69 = 7 := hσ.l 69 (by decide)
theorem lq_l70 {σ : lt_S} (hσ : lr_S σ) : lt_len σ 70 = 7 := hσ.l 70 (by decide)
theorem lq_l71 {σ : lt_S} (hσ : lr_S σ) : lt_len σ 71 = 7 := hσ.l 71 (by decide)
theorem lq_l73 {σ : lt_S} (hσ : lr_S σ) : lt_len σ 73 = 7 := hσ.l 73 (by decide)
theorem lq_l74 {σ : lt_S} (hσ : lr_S σ) : lt_len σ 74 = 7 := hσ.l 74 (by decide)
theorem lq_l75 {σ : lt_S} (hσ : lr_S σ) : lt_len σ 75 = 7 := hσ.l 75 (by decide)
theorem lq_l76 {σ : lt_S} (hσ : lr_S σ) : lt_len σ 76 = 7 := hσ.l 76 (by decide)
theorem lq_l77 {σ : lt_S} (hσ : lr_S σ) : lt_len σ 77 = 7 := hσ.l 77 (by decide)
theorem lq_l78 {σ : lt_S} (hσ : lr_S σ) : lt_len σ 78 = 7 := hσ.l 78 (by decide)
theorem lq_l79 {σ : lt_S} (hσ : lr_S σ) : lt_len σ 79 = 7 := hσ.l 79 (by decide)
theorem lq_l80 {σ : lt_S} (hσ : lr_S σ) : lt_len σ 80 = 7 := hσ.l 80 (by decide)
theorem lq_l82 {σ : lt_S} (hσ : lr_S σ) : lt_len σ 82 = 7 := hσ.l 82 (by decide)
theorem lq_l83 {σ : lt_S} (hσ : lr_S σ) : lt_len σ 83 = 7 := hσ.l 83 (by decide)
theorem lq_l84 {σ : lt_S} (hσ : lr_S σ) : lt_len σ 84 = 7 := hσ.l 84 (by decide)
theorem lq_l85 {σ : lt_S} (hσ : lr_S σ) : lt_len σ 85 = 7 := hσ.l 85 (by decide)
theorem lq_l86 {σ : lt_S} (hσ : lr_S σ) : lt_len σ 86 = 7 := hσ.l 86 (by decide)
theorem lq_l87 {σ : lt_S} (hσ : lr_S σ) : lt_len σ 87 = 7 := hσ.l 87 (by decide)
theorem lq_l88 {σ : lt_S} (hσ : lr_S σ) : lt_len σ 88 = 7 := hσ.l 88 (by decide)
theorem lq_l89 {σ : lt_S} (hσ : lr_S σ) : lt_len σ 89 = 7 := hσ.l 89 (by decide)
theorem lq_l91 {σ : lt_S} (hσ : lr_S σ) : lt_len σ 91 = 7 := hσ.l 91 (by decide)
theorem lq_l92 {σ : lt_S} (hσ : lr_S σ) : lt_len σ 92 = 7 := hσ.l 92 (by decide)
theorem lq_l93 {σ : lt_S} (hσ : lr_S σ) : lt_len σ 93 = 7 := hσ.l 93 (by decide)
theorem lq_l94 {σ : lt_S} (hσ : lr_S σ) : lt_len σ 94 = 7 := hσ.l 94 (by decide)
theorem lq_l95 {σ : lt_S} (hσ : lr_S σ) : lt_len σ 95 = 7 := hσ.l 95 (by decide)
theorem lq_l96 {σ : lt_S} (hσ : lr_S σ) : lt_len σ 96 = 7 := hσ.l 96 (by decide)
theorem lq_l97 {σ : lt_S} (hσ : lr_S σ) : lt_len σ 97 = 7 := hσ.l 97 (by decide)
theorem lq_l98 {σ : lt_S} (hσ : lr_S σ) : lt_len σ 98 = 7 := hσ.l 98 (by decide)
theorem lq_l100 {σ : lt_S} (hσ : lr_S σ) : lt_len σ 100 = 7 := hσ.l 100 (by decide)
theorem lq_l101 {σ : lt_S} (hσ : lr_S σ) : lt_len σ 101 = 7 := hσ.l 101 (by decide)
theorem lq_l102 {σ : lt_S} (hσ : lr_S σ) : lt_len σ 102 = 7 := hσ.l 102 (by decide)
theorem lq_l103 {σ : lt_S} (hσ : lr_S σ) : lt_len σ 103 = 7 := hσ.l 103 (by decide)
theorem lq_l104 {σ : lt_S} (hσ : lr_S σ) : lt_len σ 104 = 7 := hσ.l 104 (by decide)
theorem lq_l105 {σ : lt_S} (hσ : lr_S σ) : lt_len σ 105 = 7 := hσ.l 105 (by decide)
theorem lq_l106 {σ : lt_S} (hσ : lr_S σ) : lt_len σ 106 = 7 := hσ.l 106 (by decide)
theorem lq_l107 {σ : lt_S} (hσ : lr_S σ) : lt_len σ 107 = 7 := hσ.l 107 (by decide)
theorem lq_l109 {σ : lt_S} (hσ : lr_S σ) : lt_len σ 109 = 7 := hσ.l 109 (by decide)
theorem lq_l110 {σ : lt_S} (hσ : lr_S σ) : lt_len σ 110 = 7 := hσ.l 110 (by decide)
theorem lq_l111 {σ : lt_S} (hσ : lr_S σ) : lt_len σ 111 = 7 := hσ.l 111 (by decide)
theorem lq_l112 {σ : lt_S} (hσ : lr_S σ) : lt_len σ 112 = 7 := hσ.l 112 (by decide)
theorem lq_l113 {σ : lt_S} (hσ : lr_S σ) : lt_len σ 113 = 7 := hσ.l 113 (by decide)
theorem lq_l114 {σ : lt_S} (hσ : lr_S σ) : lt_len σ 114 = 7 := hσ.l 114 (by decide)
theorem lq_l115 {σ : lt_S} (hσ : lr_S σ) : lt_len σ 115 = 7 := hσ.l 115 (by decide)
theorem lq_l116 {σ : lt_S} (hσ : lr_S σ) : lt_len σ 116 = 7 := hσ.l 116 (by decide)
theorem lq_r117_1 {σ : lt_S} (hσ : lr_S σ) : lt_r σ 117 1 = 118 := hσ.r 117 1 (by decide) (by decide)
theorem lq_r117_2 {σ : lt_S} (hσ : lr_S σ) : lt_r σ 117 2 = 127 := hσ.r 117 2 (by decide) (by decide)
theorem lq_r117_3 {σ : lt_S} (hσ : lr_S σ) : lt_r σ 117 3 = 128 := hσ.r 117 3 (by decide) (by decide)
theorem lq_r117_0 {σ : lt_S} (hσ : lr_S σ) : lt_r σ 117 0 = 12 := hσ.r 117 0 (by decide) (by decide)
theorem lq_l119 {σ : lt_S} (hσ : lr_S σ) : lt_len σ 119 = 7 := hσ.l 119 (by decide)
theorem lq_l120 {σ : lt_S} (hσ : lr_S σ) : lt_len σ 120 = 7 := hσ.l 120 (by decide)
theorem lq_l121 {σ : lt_S} (hσ : lr_S σ) : lt_len σ 121 = 7 := hσ.l 121 (by decide)
theorem lq_l122 {σ : lt_S} (hσ : lr_S σ) : lt_len σ 122 = 7 := hσ.l 122 (by decide)
theorem lq_l123 {σ : lt_S} (hσ : lr_S σ) : lt_len σ 123 = 7 := hσ.l 123 (by decide)
theorem lq_l124 {σ : lt_S} (hσ : lr_S σ) : lt_len σ 124 = 7 := hσ.l 124 (by decide)
theorem lq_l125 {σ : lt_S} (hσ : lr_S σ) : lt_len σ 125 = 7 := hσ.l 125 (by decide)
theorem lq_l126 {σ : lt_S} (hσ : lr_S σ) : lt_len σ 126 = 7 := hσ.l 126 (by decide)
theorem lq_l127 {σ : lt_S} (hσ : lr_S σ) : lt_len σ 127 = 21 := hσ.l 127 (by decide)
theorem lq_l128 {σ : lt_S} (hσ : lr_S σ) : lt_len σ 128 = 21 := hσ.l 128 (by decide)
theorem lq_l129 {σ : lt_S} (hσ : lr_S σ) : lt_len σ 129 = 8 := hσ.l 129 (by decide)
theorem lq_l130 {σ : lt_S} (hσ : lr_S σ) : lt_len σ 130 = 8 := hσ.l 130 (by decide)
theorem lq_l131 {σ : lt_S} (hσ : lr_S σ) : lt_len σ 131 = 8 := hσ.l 131 (by decide)
theorem lq_l132 {σ : lt_S} (hσ : lr_S σ) : lt_len σ 132 = 8 := hσ.l 132 (by decide)
theorem lq_l133 {σ : lt_S} (hσ : lr_S σ) : lt_len σ 133 = 8 := hσ.l 133 (by decide)
theorem lq_l134 {σ : lt_S} (hσ : lr_S σ) : lt_len σ 134 = 8 := hσ.l 134 (by decide)
theorem lq_l135 {σ : lt_S} (hσ : lr_S σ) : lt_len σ 135 = 8 := hσ.l 135 (by decide)
theorem lq_l136 {σ : lt_S} (hσ : lr_S σ) : lt_len σ 136 = 8 := hσ.l 136 (by decide)
theorem lq_l137 {σ : lt_S} (hσ : lr_S σ) : lt_len σ 137 = 8 := hσ.l 137 (by decide)
theorem lq_l138 {σ : lt_S} (hσ : lr_S σ) : lt_len σ 138 = 8 := hσ.l 138 (by decide)
theorem lq_l139 {σ : lt_S} (hσ : lr_S σ) : lt_len σ 139 = 8 := hσ.l 139 (by decide)
theorem lq_l140 {σ : lt_S} (hσ : lr_S σ) : lt_len σ 140 = 8 := hσ.l 140 (by decide)
theorem lq_l141 {σ : lt_S} (hσ : lr_S σ) : lt_len σ 141 = 8 := hσ.l 141 (by decide)
theorem lq_l142 {σ : lt_S} (hσ : lr_S σ) : lt_len σ 142 = 8 := hσ.l 142 (by decide)
theorem lq_l143 {σ : lt_S} (hσ : lr_S σ) : lt_len σ 143 = 8 := hσ.l 143 (by decide)
theorem lq_l144 {σ : lt_S} (hσ : lr_S σ) : lt_len σ 144 = 8 := hσ.l 144 (by decide)
theorem lq_l145 {σ : lt_S} (hσ : lr_S σ) : lt_len σ 145 = 8 := hσ.l 145 (by decide)
theorem lq_l146 {σ : lt_S} (hσ : lr_S σ) : lt_len σ 146 = 8 := hσ.l 146 (by decide)
theorem lq_l147 {σ : lt_S} (hσ : lr_S σ) : lt_len σ 147 = 8 := hσ.l 147 (by decide)
theorem lq_l148 {σ : lt_S} (hσ : lr_S σ) : lt_len σ 148 = 8 := hσ.l 148 (by decide)
theorem lq_l149 {σ : lt_S} (hσ : lr_S σ) : lt_len σ 149 = 8 := hσ.l 149 (by decide)
theorem lq_r150_1 {σ : lt_S} (hσ : lr_S σ) : lt_r σ 150 1 = 151 := hσ.r 150 1 (by decide) (by decide)
theorem lq_r150_2 {σ : lt_S} (hσ : lr_S σ) : lt_r σ 150 2 = 160 := hσ.r 150 2 (by decide) (by decide)
theorem lq_r150_0 {σ : lt_S} (hσ : lr_S σ) : lt_r σ 150 0 = 12 := hσ.r 150 0 (by decide) (by decide)
theorem lq_l152 {σ : lt_S} (hσ : lr_S σ) : lt_len σ 152 = 7 := hσ.l 152 (by decide)
theorem lq_l153 {σ : lt_S} (hσ : lr_S σ) : lt_len σ 153 = 7 := hσ.l 153 (by decide)
theorem lq_l154 {σ : lt_S} (hσ : lr_S σ) : lt_len σ 154 = 7 := hσ.l 154 (by decide)
theorem lq_l155 {σ : lt_S} (hσ : lr_S σ) : lt_len σ 155 = 7 := hσ.l 155 (by decide)
theorem lq_l156 {σ : lt_S} (hσ : lr_S σ) : lt_len σ 156 = 7 := hσ.l 156 (by decide)
theorem lq_l157 {σ : lt_S} (hσ : lr_S σ) : lt_len σ 157 = 7 := hσ.l 157 (by decide)
theorem lq_l158 {σ : lt_S} (hσ : lr_S σ) : lt_len σ 158 = 7 := hσ.l 158 (by decide)
theorem lq_l159 {σ : lt_S} (hσ : lr_S σ) : lt_len σ 159 = 7 := hσ.l 159 (by decide)
theorem lq_l161 {σ : lt_S} (hσ : lr_S σ) : lt_len σ 161 = 7 := hσ.l 161 (by decide)
theorem lq_l162 {σ : lt_S} (hσ : lr_S σ) : lt_len σ 162 = 7 := hσ.l 162 (by decide)
theorem lq_l163 {σ : lt_S} (hσ : lr_S σ) : lt_len σ 163 = 7 := hσ.l 163 (by decide)
theorem lq_l164 {σ : lt_S} (hσ : lr_S σ) : lt_len σ 164 = 7 := hσ.l 164 (by decide)
theorem lq_l165 {σ : lt_S} (hσ : lr_S σ) : lt_len σ 165 = 7 := hσ.l 165 (by decide)
theorem lq_l166 {σ : lt_S} (hσ : lr_S σ) : lt_len σ 166 = 7 := hσ.l 166 (by decide)
theorem lq_l167 {σ : lt_S} (hσ : lr_S σ) : lt_len σ 167 = 7 := hσ.l 167 (by decide)
theorem lq_l168 {σ : lt_S} (hσ : lr_S σ) : lt_len σ 168 = 7 := hσ.l 168 (by decide)
theorem lq_r169_2 {σ : lt_S} (hσ : lr_S σ) : lt_r σ 169 2 = 170 := hσ.r 169 2 (by decide) (by decide)
theorem lq_r169_0 {σ : lt_S} (hσ : lr_S σ) : lt_r σ 169 0 = 12 := hσ.r 169 0 (by decide) (by decide)
theorem lq_r169_1 {σ : lt_S} (hσ : lr_S σ) : lt_r σ 169 1 = 21 := hσ.r 169 1 (by decide) (by decide)
theorem lq_l171 {σ : lt_S} (hσ : lr_S σ) : lt_len σ 171 = 7 := hσ.l 171 (by decide)
theorem lq_l172 {σ : lt_S} (hσ : lr_S σ) : lt_len σ 172 = 7 := hσ.l 172 (by decide)
theorem lq_l173 {σ : lt_S} (hσ : lr_S σ) : lt_len σ 173 = 7 := hσ.l 173 (by decide)
theorem lq_l174 {σ : lt_S} (hσ : lr_S σ) : lt_len σ 174 = 7 := hσ.l 174 (by decide)
theorem lq_l175 {σ : lt_S} (hσ : lr_S σ) : lt_len σ 175 = 7 := hσ.l 175 (by decide)
theorem lq_l176 {σ : lt_S} (hσ : lr_S σ) : lt_len σ 176 = 7 := hσ.l 176 (by decide)
theorem lq_l177 {σ : lt_S} (hσ : lr_S σ) : lt_len σ 177 = 7 := hσ.l 177 (by decide)
theorem lq_l178 {σ : lt_S} (hσ : lr_S σ) : lt_len σ 178 = 7 := hσ.l 178 (by decide)
theorem lq_l179 {σ : lt_S} (hσ : lr_S σ) : lt_len σ 179 = 5 := hσ.l 179 (by decide)
theorem lq_l180 {σ : lt_S} (hσ : lr_S σ) : lt_len σ 180 = 3 := hσ.l 180 (by decide)
theorem lq_l181 {σ : lt_S} (hσ : lr_S σ) : lt_len σ 181 = 3 := hσ.l 181 (by decide)
theorem lq_l183 {σ : lt_S} (hσ : lr_S σ) : lt_len σ 183 = 7 := hσ.l 183 (by decide)
theorem lq_l184 {σ : lt_S} (hσ : lr_S σ) : lt_len σ 184 = 7 := hσ.l 184 (by decide)
theorem lq_l185 {σ : lt_S} (hσ : lr_S σ) : lt_len σ 185 = 7 := hσ.l 185 (by decide)
theorem lq_l186 {σ : lt_S} (hσ : lr_S σ) : lt_len σ 186 = 7 := hσ.l 186 (by decide)
theorem lq_l187 {σ : lt_S} (hσ : lr_S σ) : lt_len σ 187 = 7 := hσ.l 187 (by decide)
theorem lq_l188 {σ : lt_S} (hσ : lr_S σ) : lt_len σ 188 = 7 := hσ.l 188 (by decide)
theorem lq_l189 {σ : lt_S} (hσ : lr_S σ) : lt_len σ 189 = 7 := hσ.l 189 (by decide)
theorem lq_l190 {σ : lt_S} (hσ : lr_S σ) : lt_len σ 190 = 7 := hσ.l 190 (by decide)
theorem lq_r191_2 {σ : lt_S} (hσ : lr_S σ) : lt_r σ 191 2 = 192 := hσ.r 191 2 (by decide) (by decide)
theorem lq_r191_3 {σ : lt_S} (hσ : lr_S σ) : lt_r σ 191 3 = 193 := hσ.r 191 3 (by decide) (by decide)
theorem lq_r191_4 {σ : lt_S} (hσ : lr_S σ) : lt_r σ 191 4 = 194 := hσ.r 191 4 (by decide) (by decide)
theorem lq_r191_5 {σ : lt_S} (hσ : lr_S σ) : lt_r σ 191 5 = 195 := hσ.r 191 5 (by decide) (by decide)
theorem lq_r191_6 {σ : lt_S} (hσ : lr_S σ) : lt_r σ 191 6 = 196 := hσ.r 191 6 (by decide) (by decide)
theorem lq_r191_7 {σ : lt_S} (hσ : lr_S σ) : lt_r σ 191 7 = 197 := hσ.r 191 7 (by decide) (by decide)
theorem lq_r191_8 {σ : lt_S} (hσ : lr_S σ) : lt_r σ 191 8 = 198 := hσ.r 191 8 (by decide) (by decide)
theorem lq_l192 {σ : lt_S} (hσ : lr_S σ) : lt_len σ 192 = 30 := hσ.l 192 (by decide)
theorem lq_l193 {σ : lt_S} (hσ : lr_S σ) : lt_len σ 193 = 30 := hσ.l 193 (by decide)
theorem lq_l194 {σ : lt_S} (hσ : lr_S σ) : lt_len σ 194 = 30 := hσ.l 194 (by decide)
theorem lq_l195 {σ : lt_S} (hσ : lr_S σ) : lt_len σ 195 = 30 := hσ.l 195 (by decide)
theorem lq_l196 {σ : lt_S} (hσ : lr_S σ) : lt_len σ 196 = 30 := hσ.l 196 (by decide)
theorem lq_l197 {σ : lt_S} (hσ : lr_S σ) : lt_len σ 197 = 30 := hσ.l 197 (by decide)
theorem lq_l198 {σ : lt_S} (hσ : lr_S σ) : lt_len σ 198 = 30 := hσ.l 198 (by decide)
theorem lq_l200 {σ : lt_S} (hσ : lr_S σ) : lt_len σ 200 = 7 := hσ.l 200 (by decide)
theorem lq_l201 {σ : lt_S} (hσ : lr_S σ) : lt_len σ 201 = 7 := hσ.l 201 (by decide)
theorem lq_l202 {σ : lt_S} (hσ : lr_S σ) : lt_len σ 202 = 7 := hσ.l 202 (by decide)
theorem lq_l203 {σ : lt_S} (hσ : lr_S σ) : lt_len σ 203 = 7 := hσ.l 203 (by decide)
theorem lq_l204 {σ : lt_S} (hσ : lr_S σ) : lt_len σ 204 = 7 := hσ.l 204 (by decide)
theorem lq_l205 {σ : lt_S} (hσ : lr_S σ) : lt_len σ 205 = 7 := hσ.l 205 (by decide)
theorem lq_l206 {σ : lt_S} (hσ : lr_S σ) : lt_len σ 206 = 7 := hσ.l 206 (by decide)
theorem lq_l207 {σ : lt_S} (hσ : lr_S σ) : lt_len σ 207 = 7 := hσ.l 207 (by decide)
theorem lq_r208_2 {σ : lt_S} (hσ : lr_S σ) : lt_r σ 208 2 = 209 := hσ.r 208 2 (by decide) (by decide)
theorem lq_r208_3 {σ : lt_S} (hσ : lr_S σ) : lt_r σ 208 3 = 210 := hσ.r 208 3 (by decide) (by decide)
theorem lq_r208_4 {σ : lt_S} (hσ : lr_S σ) : lt_r σ 208 4 = 211 := hσ.r 208 4 (by decide) (by decide)
theorem lq_r208_5 {σ : lt_S} (hσ : lr_S σ) : lt_r σ 208 5 = 212 := hσ.r 208 5 (by decide) (by decide)
theorem lq_r208_6 {σ : lt_S} (hσ : lr_S σ) : lt_r σ 208 6 = 213 := hσ.r 208 6 (by decide) (by decide)
theorem lq_r208_7 {σ : lt_S} (hσ : lr_S σ) : lt_r σ 208 7 = 214 := hσ.r 208 7 (by decide) (by decide)
theorem lq_r208_8 {σ : lt_S} (hσ : lr_S σ) : lt_r σ 208 8 = 215 := hσ.r 208 8 (by decide) (by decide)
theorem lq_l209 {σ : lt_S} (hσ : lr_S σ) : lt_len σ 209 = 30 := hσ.l 209 (by decide)
theorem lq_l210 {σ : lt_S} (hσ : lr_S σ) : lt_len σ 210 = 30 := hσ.l 210 (by decide)
theorem lq_l211 {σ : lt_S} (hσ : lr_S σ) : lt_len σ 211 = 30 := hσ.l 211 (by decide)
theorem lq_l212 {σ : lt_S} (hσ : lr_S σ) : lt_len σ 212 = 30 := hσ.l 212 (by decide)
theorem lq_l213 {σ : lt_S} (hσ : lr_S σ) : lt_len σ 213 = 30 := hσ.l 213 (by decide)
theorem lq_l214 {σ : lt_S} (hσ : lr_S σ) : lt_len σ 214 = 30 := hσ.l 214 (by decide)
theorem lq_l215 {σ : lt_S} (hσ : lr_S σ) : lt_len σ 215 = 30 := hσ.l 215 (by decide)
theorem lq_l217 {σ : lt_S} (hσ : lr_S σ) : lt_len σ 217 = 7 := hσ.l 217 (by decide)
theorem lq_l218 {σ : lt_S} (hσ : lr_S σ) : lt_len σ 218 = 7 := hσ.l 218 (by decide)
theorem lq_l219 {σ : lt_S} (hσ : lr_S σ) : lt_len σ 219 = 7 := hσ.l 219 (by decide)
theorem lq_l220 {σ : lt_S} (hσ : lr_S σ) : lt_len σ 220 = 7 := hσ.l 220 (by decide)
theorem lq_l221 {σ : lt_S} (hσ : lr_S σ) : lt_len σ 221 = 7 := hσ.l 221 (by decide)
theorem lq_l222 {σ : lt_S} (hσ : lr_S σ) : lt_len σ 222 = 7 := hσ.l 222 (by decide)
theorem lq_l223 {σ : lt_S} (hσ : lr_S σ) : lt_len σ 223 = 7 := hσ.l 223 (by decide)
theorem lq_l224 {σ : lt_S} (hσ : lr_S σ) : lt_len σ 224 = 7 := hσ.l 224 (by decide)
theorem lq_r225_2 {σ : lt_S} (hσ : lr_S σ) : lt_r σ 225 2 = 226 := hσ.r 225 2 (by decide) (by decide)
theorem lq_r225_3 {σ : lt_S} (hσ : lr_S σ) : lt_r σ 225 3 = 227 := hσ.r 225 3 (by decide) (by decide)
theorem lq_r225_4 {σ : lt_S} (hσ : lr_S σ) : lt_r σ 225 4 = 228 := hσ.r 225 4 (by decide) (by decide)
theorem lq_r225_5 {σ : lt_S} (hσ : lr_S σ) : lt_r σ 225 5 = 229 := hσ.r 225 5 (by decide) (by decide)
theorem lq_r225_6 {σ : lt_S} (hσ : lr_S σ) : lt_r σ 225 6 = 230 := hσ.r 225 6 (by decide) (by decide)
theorem lq_r225_7 {σ : lt_S} (hσ : lr_S σ) : lt_r σ 225 7 = 231 := hσ.r 225 7 (by decide) (by decide)
theorem lq_r225_8 {σ : lt_S} (hσ : lr_S σ) : lt_r σ 225 8 = 232 := hσ.r 225 8 (by decide) (by decide)
theorem lq_l226 {σ : lt_S} (hσ : lr_S σ) : lt_len σ 226 = 30 := hσ.l 226 (by decide)
theorem lq_l227 {σ : lt_S} (hσ : lr_S σ) : lt_len σ 227 = 30 := hσ.l 227 (by decide)
theorem lq_l228 {σ : lt_S} (hσ : lr_S σ) : lt_len σ 228 = 30 := hσ.l 228 (by decide)
theorem lq_l229 {σ : lt_S} (hσ : lr_S σ) : lt_len σ 229 = 30 := hσ.l 229 (by decide)
theorem lq_l230 {σ : lt_S} (hσ : lr_S σ) : lt_len σ 230 = 30 := hσ.l 230 (by decide)
theorem lq_l231 {σ : lt_S} (hσ : lr_S σ) : lt_len σ 231 = 30 := hσ.l 231 (by decide)
theorem lq_l232 {σ : lt_S} (hσ : lr_S σ) : lt_len σ 232 = 30 := hσ.l 232 (by decide)
theorem lq_r233_0 {σ : lt_S} (hσ : lr_S σ) : lt_r σ 233 0 = 234 := hσ.r 233 0 (by decide) (by decide)
theorem lq_r233_1 {σ : lt_S} (hσ : lr_S σ) : lt_r σ 233 1 = 235 := hσ.r 233 1 (by decide) (by decide)
theorem lq_r233_5 {σ : lt_S} (hσ : lr_S σ) : lt_r σ 233 5 = 236 := hσ.r 233 5 (by decide) (by decide)
theorem lq_r233_6 {σ : lt_S} (hσ : lr_S σ) : lt_r σ 233 6 = 237 := hσ.r 233 6 (by decide) (by decide)
theorem lq_r233_7 {σ : lt_S} (hσ : lr_S σ) : lt_r σ 233 7 = 238 := hσ.r 233 7 (by decide) (by decide)
theorem lq_r233_8 {σ : lt_S} (hσ : lr_S σ) : lt_r σ 233 8 = 239 := hσ.r 233 8 (by decide) (by decide)
theorem lq_r233_9 {σ : lt_S} (hσ : lr_S σ) : lt_r σ 233 9 = 240 := hσ.r 233 9 (by decide) (by decide)
theorem lq_r233_21 {σ : lt_S} (hσ : lr_S σ) : lt_r σ 233 21 = 241 := hσ.r 233 21 (by decide) (by decide)
theorem lq_r233_24 {σ : lt_S} (hσ : lr_S σ) : lt_r σ 233 24 = 242 := hσ.r 233 24 (by decide) (by decide)
theorem lq_r233_25 {σ : lt_S} (hσ : lr_S σ) : lt_r σ 233 25 = 243 := hσ.r 233 25 (by decide) (by decide)
theorem lq_r233_26 {σ : lt_S} (hσ : lr_S σ) : lt_r σ 233 26 = 244 := hσ.r 233 26 (by decide) (by decide)
theorem lq_r233_27 {σ : lt_S} (hσ : lr_S σ) : lt_r σ 233 27 = 245 := hσ.r 233 27 (by decide) (by decide)
theorem lq_r233_28 {σ : lt_S} (hσ : lr_S σ) : lt_r σ 233 28 = 246 := hσ.r 233 28 (by decide) (by decide)
theorem lq_r233_29 {σ : lt_S} (hσ : lr_S σ) : lt_r σ 233 29 = 247 := hσ.r 233 29 (by decide) (by decide)
theorem lq_r233_30 {σ : lt_S} (hσ : lr_S σ) : lt_r σ 233 30 = 248 := hσ.r 233 30 (by decide) (by decide)
theorem lq_r233_31 {σ : lt_S} (hσ : lr_S σ) : lt_r σ 233 31 = 249 := hσ.r 233 31 (by decide) (by decide)
theorem lq_r233_32 {σ : lt_S} (hσ : lr_S σ) : lt_r σ 233 32 = 250 := hσ.r 233 32 (by decide) (by decide)
theorem lq_r233_33 {σ : lt_S} (hσ : lr_S σ) : lt_r σ 233 33 = 251 := hσ.r 233 33 (by decide) (by decide)
theorem lq_r233_36 {σ : lt_S} (hσ : lr_S σ) : lt_r σ 233 36 = 252 := hσ.r 233 36 (by decide) (by decide)
theorem lq_r233_37 {σ : lt_S} (hσ : lr_S σ) : lt_r σ 233 37 = 253 := hσ.r 233 37 (by decide) (by decide)
theorem lq_r233_38 {σ : lt_S} (hσ : lr_S σ) : lt_r σ 233 38 = 254 := hσ.r 233 38 (by decide) (by decide)
theorem lq_l234 {σ : lt_S} (hσ : lr_S σ) : lt_len σ 234 = 2560 := hσ.l 234 (by decide)
theorem lq_l235 {σ : lt_S} (hσ : lr_S σ) : lt_len σ 235 = 42 := hσ.l 235 (by decide)
theorem lq_l236 {σ : lt_S} (hσ : lr_S σ) : lt_len σ 236 = 4 := hσ.l 236 (by decide)
theorem lq_l237 {σ : lt_S} (hσ : lr_S σ) : lt_len σ 237 = 4 := hσ.l 237 (by decide)
theorem lq_l238 {σ : lt_S} (hσ : lr_S σ) : lt_len σ 238 = 240 := hσ.l 238 (by decide)
theorem lq_l239 {σ : lt_S} (hσ : lr_S σ) : lt_len σ 239 = 900 := hσ.l 239 (by decide)
theorem lq_l240 {σ : lt_S} (hσ : lr_S σ) : lt_len σ 240 = 900 := hσ.l 240 (by decide)
theorem lq_l241 {σ : lt_S} (hσ : lr_S σ) : lt_len σ 241 = 3 := hσ.l 241 (by decide)
theorem lq_l242 {σ : lt_S} (hσ : lr_S σ) : lt_len σ 242 = 6 := hσ.l 242 (by decide)
theorem lq_l243 {σ : lt_S} (hσ : lr_S σ) : lt_len σ 243 = 6 := hσ.l 243 (by decide)
theorem lq_l244 {σ : lt_S} (hσ : lr_S σ) : lt_len σ 244 = 5 := hσ.l 244 (by decide)
theorem lq_l245 {σ : lt_S} (hσ : lr_S σ) : lt_len σ 245 = 21 := hσ.l 245 (by decide)
theorem lq_l246 {σ : lt_S} (hσ : lr_S σ) : lt_len σ 246 = 8 := hσ.l 246 (by decide)
theorem lq_l247 {σ : lt_S} (hσ : lr_S σ) : lt_len σ 247 = 100 := hσ.l 247 (by decide)
theorem lq_l248 {σ : lt_S} (hσ : lr_S σ) : lt_len σ 248 = 2100 := hσ.l 248 (by decide)
theorem lq_l249 {σ : lt_S} (hσ : lr_S σ) : lt_len σ 249 = 7 := hσ.l 249 (by decide)
theorem lq_l250 {σ : lt_S} (hσ : lr_S σ) : lt_len σ 250 = 4 := hσ.l 250 (by decide)
theorem lq_l251 {σ : lt_S} (hσ : lr_S σ) : lt_len σ 251 = 4 := hσ.l 251 (by decide)
theorem lq_l252 {σ : lt_S} (hσ : lr_S σ) : lt_len σ 252 = 80 := hσ.l 252 (by decide)
theorem lq_l253 {σ : lt_S} (hσ : lr_S σ) : lt_len σ 253 = 5 := hσ.l 253 (by decide)
theorem lq_l254 {σ : lt_S} (hσ : lr_S σ) : lt_len σ 254 = 5 := hσ.l 254 (by decide)
/-- all alike outside lo .. hi, longs too -/
def lu_Fg (lo hi : Nat) (w w' : lt_W) : Prop := ∀ a k, (a < lo ∨ hi ≤ a) → lt_gi w' a k = lt_gi w a k ∧ lt_gl w' a k = lt_gl w a k
theorem lu_Fg.refl (lo hi : Nat) (w : lt_W) : lu_Fg lo hi w w := fun _ _ _ => ⟨rfl, rfl⟩
theorem lu_Fg.trans {lo hi : Nat} {w w' w'' : lt_W} (h : lu_Fg lo hi w w') (h' : lu_Fg lo hi w' w'') : lu_Fg lo hi w w'' := fun a k z => ⟨(h' a k z).1.trans (h a k z).1, (h' a k z).2.trans (h a k z).2⟩
theorem lu_Fg.wide {lo hi lo' hi' : Nat} {w w' : lt_W} (h : lu_Fg lo hi w w') (h1 : lo' ≤ lo) (h2 : hi ≤ hi') : lu_Fg lo' hi' w w' := fun a k z => h a k (by omega)
theorem lu_Fg.si {lo hi a k : Nat} {v : Int32} {w w' : lt_W} (h : lu_Fg lo hi w w') (h1 : lo ≤ a) (h2 : a < hi) : lu_Fg lo hi w (lt_si w' a k v) :=
  fun b j z => ⟨by rw [lu_ne (Or.inl (by omega))]; exact (h b j z).1, (h b j z).2⟩
theorem lu_Fr.g {lo hi : Nat} {w w' : lt_W} (h : lu_Fr lo hi w w') : lu_Fg lo hi w w' := fun a k z => ⟨h.2 a k z, h.1 a k⟩
theorem lc_T.fg {w w' : lt_W} {o lo hi : Nat} {A : la_A} (h : lc_T w o A) (e : lu_Fg lo hi w w') (d : o + 8 ≤ lo ∨ hi ≤ o) : lc_T w' o A :=
  h.congr fun a k h1 h2 => (e a k (by omega)).1
theorem lr_Q.ofFg {lo hi : Nat} {w w' : lt_W} (h : lu_Fg lo hi w w') (h1 : 29 ≤ lo) (h2 : hi ≤ 179) : lr_Q w w' :=
  ⟨⟨fun a k z => (h a k (by unfold lr_px at z; omega)).1, fun a k z => (h a k (by unfold lr_q lr_q0 at z; omega)).2⟩, fun a k z => (h a k (by unfold lr_pt at z; omega)).1⟩
theorem lu_cc7 {α : Type} {x : Option α} : lt_cc 7 7 0 0 7 x = x := rfl
theorem lu_ciI {w : lt_W} {a b n j : Nat} (h : j < n) : lt_gi (lt_ci w a b 0 0 n) b j = lt_gi w a j := by
  rw [lu_gici, if_pos ⟨rfl, Nat.zero_le _, by omega⟩]; congr 1; omega
theorem lu_ciO {w : lt_W} {a b n q j : Nat} (h : q ≠ b ∨ n ≤ j) : lt_gi (lt_ci w a b 0 0 n) q j = lt_gi w q j := by
  rw [lu_gici, if_neg (by omega)]
theorem lu_clI {w : lt_W} {a b n j : Nat} (h : j < n) : lt_gl (lt_cl w a b 0 0 n) b j = lt_gl w a j := by
  rw [lu_glcl, if_pos ⟨rfl, Nat.zero_le _, by omega⟩]; congr 1; omega
theorem lu_clO {w : lt_W} {a b n q j : Nat} (h : q ≠ b ∨ n ≤ j) : lt_gl (lt_cl w a b 0 0 n) q j = lt_gl w q j := by
  rw [lu_glcl, if_neg (by omega)]
section AH
variable {σ : lt_S} {w : lt_W} {A : la_A}
theorem lc_copy {o x : Nat} (hS : lc_S σ o) (hX : lc_S σ x) (d : o + 9 ≤ x ∨ x + 9 ≤ o) : ∃ w', f_X5_copyFrom σ o x w = some w' ∧ (∀ k, k < 9 → lt_gi w' o k = lt_gi w x k) ∧ (∀ j g, 2 ≤ j → j < 8 → g < 7 → lt_gi w' (o + j) g = lt_gi w (x + j) g) ∧ (∀ g, g < 7 → lt_gl w' (o + 1) g = lt_gl w (x + 1) g) ∧ lu_Fg o (o + 9) w w' := by
  obtain ⟨⟨s0, s1, s2, s3, s4, s5, s6, s7, s8⟩, l1, l2, l3, l4, l5, l6, l7, l8⟩ := hS
  obtain ⟨⟨t0, t1, t2, t3, t4, t5, t6, t7, t8⟩, m1, m2, m3, m4, m5, m6, m7, m8⟩ := hX
  unfold f_X5_copyFrom fb_X5_copyFrom_0
  simp only [lu_let, s1, s2, s3, s4, s5, s6, s7, t1, t2, t3, t4, t5, t6, t7, l1, l2, l3, l4, l5, l6, l7, m1, m2, m3, m4, m5, m6, m7, lu_cc7, lm_c0, lm_c7]
  refine ⟨_, rfl, fun k hk => ?_, fun j g h2 h8 hg => ?_, fun g hg => ?_, fun a k z => ⟨?_, ?_⟩⟩
  · have : k = 0 ∨ k = 1 ∨ k = 2 ∨ k = 3 ∨ k = 4 ∨ k = 5 ∨ k = 6 ∨ k = 7 ∨ k = 8 := by omega
    rcases this with rfl | rfl | rfl | rfl | rfl | rfl | rfl | rfl | rfl <;> simp (disch := omega) only [lu_eq, lu_ne, lu_ciO, lu_gicl]
  · have : j = 2 ∨ j = 3 ∨ j = 4 ∨ j = 5 ∨ j = 6 ∨ j = 7 := by omega
    rcases this with rfl | rfl | rfl | rfl | rfl | rfl <;> simp (disch := omega) only [lu_ne, lu_ciI, lu_ciO, lu_gicl]
  · simp (disch := omega) only [lu_glci, lu_clI, lu_glsi]
  · simp (disch := omega) only [lu_ne, lu_ciO, lu_gicl]
  · simp (disch := omega) only [lu_glci, lu_clO, lu_glsi]
theorem lc_T.move {w w' : lt_W} {o x : Nat} (h : lc_T w x A) (e1 : ∀ k, k < 9 → lt_gi w' o k = lt_gi w x k) (e2 : ∀ j g, 2 ≤ j → j < 8 → g < 7 → lt_gi w' (o + j) g = lt_gi w (x + j) g) : lc_T w' o A := by
  have h7 := h.2.1
  refine ⟨h.1, h7, fun k hk => (e1 k (by omega)).trans (h.2.2.1 k hk), (e1 8 (by decide)).trans h.2.2.2.1, fun g hg => ?_⟩
  obtain ⟨a0, a1, a2, a3, a4, a5⟩ := h.2.2.2.2 g hg
  exact ⟨(e2 2 g (by omega) (by omega) (by omega)).trans a0, (e2 3 g (by omega) (by omega) (by omega)).trans a1, (e2 4 g (by omega) (by omega) (by omega)).trans a2, (e2 5 g (by omega) (by omega) (by omega)).trans a3, (e2 6 g (by omega) (by omega) (by omega)).trans a4, (e2 7 g (by omega) (by omega) (by omega)).trans a5⟩
theorem lc_copyT {o x : Nat} (hS : lc_S σ o) (hX : lc_S σ x) (d : o + 9 ≤ x ∨ x + 9 ≤ o) (h : lc_T w x A) : ∃ w', f_X5_copyFrom σ o x w = some w' ∧ lc_T w' o A ∧ lu_Fg o (o + 9) w w' := by
  obtain ⟨w', e1, e2, e3, -, e5⟩ := lc_copy (w := w) hS hX d
  exact ⟨w', e1, h.move e2 e3, e5⟩
/-- the reference: back to what was kept -/
theorem lm_back {o b : Nat} {w w1 w2 : lt_W} (hS : lm_S σ o) (hb : 60 ≤ b) (hb2 : b + 60 ≤ 2560) (hk : ∀ k, k < 60 → lt_gi w1 (lt_r σ o 0) (b + k) = lt_gi w (lt_r σ o 0) k) (hF : lm_F (lt_r σ o 0) b (b + 60) w w1) (hD : lm_D (lt_r σ o 0) w1 w2) : ∃ w3, f_X12_brings σ o (nI b) w2 = some w3 ∧ lm_F (lt_r σ o 0) b (b + 60) w w3 ∧ ∀ k, k < 60 → lt_gi w3 (lt_r σ o 0) (b + k) = lt_gi w (lt_r σ o 0) k := by
  obtain ⟨w3, e1, e2, e3⟩ := lm_brings (w := w2) hS hb hb2
  refine ⟨w3, e1, ⟨fun a k => (e3.1 a k).trans ((hD.1 a k).trans (hF.1 a k)), fun a k z => ?_⟩, fun k hk' => ?_⟩
  · by_cases c : a = lt_r σ o 0 ∧ k < 60
    · rw [c.1, e2 k c.2, hD.2 _ _ (by omega), hk k c.2]
    · rw [e3.2 a k (by omega), hD.2 a k (by omega), hF.2 a k (by omega)]
  · rw [e3.2 _ _ (by omega), hD.2 _ _ (by omega), hk k hk']
theorem lm_keepsT {o b : Nat} (hS : lm_S σ o) (hb : 60 ≤ b) (hb2 : b + 60 ≤ 2560) (hA : lm_T w (lt_r σ o 0) 0 A) : ∃ w', f_X12_keeps σ o (nI b) w = some w' ∧ lm_T w' (lt_r σ o 0) 0 A ∧ (∀ k, k < 60 → lt_gi w' (lt_r σ o 0) (b + k) = lt_gi w (lt_r σ o 0) k) ∧ lm_F (lt_r σ o 0) b (b + 60) w w' := by
  obtain ⟨w1, e1, e2, e3⟩ := lm_keeps (w := w) hS hb hb2
  exact ⟨w1, e1, hA.F e3 (by omega), e2, e3⟩
theorem lr_QF (hσ : lr_S σ) {lo hi : Nat} {w w' : lt_W} (h : lm_F (lt_r σ 233 0) lo hi w w') (h1 : 1712 ≤ lo) : lr_Q w w' := by
  rw [lr_at hσ] at h; exact lr_Q.ofF h (Or.inl h1)
theorem lm_F.s0 (hσ : lr_S σ) {lo hi : Nat} {w w' : lt_W} (h : lm_F (lt_r σ 233 0) lo hi w w') : lt_gi w' 0 0 = lt_gi w 0 0 := by
  rw [lr_at hσ] at h; exact h.2 _ _ (by omega)
theorem lc_inDays (hσ : lr_S σ) (h : lc_T w 12 A) (hO : la_Ok A) {d : Nat} (hd : d < 10000) : ∃ w', f_X0_inDays σ 49 (nI d) w = some (50, w') ∧ lc_T w' 50 (la_days A d) ∧ lu_Fg 49 59 w w' := by
  have hT := lr_tab hσ (o := 50) (by decide)
  obtain ⟨w1, e1, e2, e3⟩ := lc_copyT (A := A) hT (lr_nowS hσ) (by omega) h
  obtain ⟨w2, f1, f2, f3⟩ := lc_passDays hT e2 hO hd
  unfold f_X0_inDays fb_X0_inDays_0
  rw [lq_r49_1 hσ, lq_r49_0 hσ, e1, lu_bind, f1, lu_bind]
  exact ⟨w2, rfl, f2, (e3.wide (by omega) (by omega)).trans (f3.g.wide (by omega) (by omega))⟩
theorem lr_cq.fg {f : lt_W → Option (Int32 × lt_W)} {w w' : lt_W} {r st : Int32} (h : f w = some (r, lt_si w' 0 0 st)) (hq : lu_Fg 49 59 w w') : lr_cq f w r st := lr_cq.of h (lr_Q.ofFg hq (by decide) (by decide))
theorem lr_mq.F (hσ : lr_S σ) {f : lt_W → Option (Int32 × lt_W)} {w w' : lt_W} {r st : Int32} (h : f w = some (r, lt_si w' 233 2 st)) (hq : lm_F (lt_r σ 233 0) 2140 2200 w w') : lr_mq f w r st := lr_mq.of h (lr_QF hσ hq (by decide)) (hq.s0 hσ)
theorem lm_inDays (hσ : lr_S σ) (h : lm_T w (lt_r σ 233 0) 0 A) (hO : la_Ok A) {d : Nat} (hd : d < 10000) : ∃ w1 w2 w3, f_X12_keeps σ 233 2140 w = some w1 ∧ f_X12_daysGo σ 233 (nI d) w1 = some w2 ∧ lm_T w2 (lt_r σ 233 0) 0 (la_days A d) ∧ f_X12_brings σ 233 2140 w2 = some w3 ∧ lm_F (lt_r σ 233 0) 2140 2200 w w3 := by
  have hS := lr_mS hσ
  obtain ⟨w1, e1, e2, e3, e4⟩ := lm_keepsT (b := 2140) hS (by decide) (by decide) h
  obtain ⟨w2, f1, f2, f3⟩ := lm_daysGo hS e2 hO hd
  obtain ⟨w3, g1, g2, -⟩ := lm_back (b := 2140) hS (by decide) (by decide) e3 e4 f3
  exact ⟨w1, w2, w3, e1, f1, f2, g1, g2⟩
theorem op_thereIn (hσ : lr_S σ) (h : lr_0 w A) (x : Int32) : lr_ok (f_X11_thereIn σ 0 x) (f_X12_thereIn σ 233 x) w := by
  by_cases c : lq_b x 0 99
  · obtain ⟨d, -, hd, rfl⟩ := c.R (by decide) (by decide)
    refine lr_ok.q h (r := la_sb (la_here (la_days A d)) (la_n (la_days A d))) (st := 0) ?_ (fun w1 h1 => ?_)
    · obtain ⟨w', e1, e2, e3⟩ := lc_inDays hσ h.c h.O (d := d) (by omega)
      refine lr_cq.fg (w' := w') ?_ e3
      unfold f_X11_thereIn fb_X11_thereIn_0
      rw [lq_within_y (lo := 0) (hi := 99) 0 99 rfl rfl c, lu_bind, if_neg lu_10, lq_r0_9 hσ, e1, lu_bind]
      show Option.bind (f_X11_given σ 0 (lt_gi w' 50 8) w') _ = _
      rw [e2.2.2.2.1]; rfl
    · obtain ⟨u1, u2, u3, e1, e2, e3, e4, e5⟩ := lm_inDays hσ (h1.m hσ) h1.O (d := d) (by omega)
      refine lr_mq.F hσ (w' := u3) ?_ e5
      unfold f_X12_thereIn fb_X12_thereIn_0
      rw [lq_from_y (lo := 0) (hi := 99) 0 99 rfl rfl (by decide) (by decide) c, lu_bind, if_neg lu_10, e1, lu_bind, e2, lu_bind, lm_areHere (lr_mS hσ) e3, lu_bind, e4, lu_bind]; rfl
  · refine op_refuse h (r := -1) (st := 1) ?_ (fun w1 h1 => ?_)
    · unfold f_X11_thereIn fb_X11_thereIn_0
      rw [lq_within_n (lo := 0) (hi := 99) 0 99 rfl rfl c, lu_bind, if_pos rfl]; rfl
    · unfold f_X12_thereIn fb_X12_thereIn_0
      rw [lq_from_n (lo := 0) (hi := 99) 0 99 rfl rfl (by decide) (by decide) c, lu_bind, if_pos rfl]; rfl
theorem op_slicesIn (hσ : lr_S σ) (h : lr_0 w A) (x : Int32) : lr_ok (f_X11_slicesIn σ 0 x) (f_X12_slicesIn σ 233 x) w := by
  by_cases c : lq_b x 0 99
  · obtain ⟨d, -, hd, rfl⟩ := c.R (by decide) (by decide)
    refine lr_ok.q h (r := (la_days A d).1 5) (st := 0) ?_ (fun w1 h1 => ?_)
    · obtain ⟨w', e1, e2, e3⟩ := lc_inDays hσ h.c h.O (d := d) (by omega)
      refine lr_cq.fg (w' := w') ?_ e3
      unfold f_X11_slicesIn fb_X11_slicesIn_0
      rw [lq_within_y (lo := 0) (hi := 99) 0 99 rfl rfl c, lu_bind, if_neg lu_10, lq_r0_9 hσ, e1, lu_bind]
      show Option.bind (f_X11_given σ 0 (lt_gi w' 50 5) w') _ = _
      rw [e2.2.2.1 5 (by decide)]; rfl
    · obtain ⟨u1, u2, u3, e1, e2, e3, e4, e5⟩ := lm_inDays hσ (h1.m hσ) h1.O (d := d) (by omega)
      refine lr_mq.F hσ (w' := u3) ?_ e5
      unfold f_X12_slicesIn fb_X12_slicesIn_0
      rw [lq_from_y (lo := 0) (hi := 99) 0 99 rfl rfl (by decide) (by decide) c, lu_bind, if_neg lu_10, e1, lu_bind, e2, lu_bind, lr_mS hσ, lm_k5, lu_let, lm_c5, lm_hd e3 (by decide), e4, lu_bind]; rfl
  · refine op_refuse h (r := -1) (st := 1) ?_ (fun w1 h1 => ?_)
    · unfold f_X11_slicesIn fb_X11_slicesIn_0
      rw [lq_within_n (lo := 0) (hi := 99) 0 99 rfl rfl c, lu_bind, if_pos rfl]; rfl
    · unfold f_X12_slicesIn fb_X12_slicesIn_0
      rw [lq_from_n (lo := 0) (hi := 99) 0 99 rfl rfl (by decide) (by decide) c, lu_bind, if_pos rfl]; rfl
theorem op_guestIn (hσ : lr_S σ) (h : lr_0 w A) (x y z : Int32) : lr_ok (f_X11_guestIn σ 0 x y z) (f_X12_guestIn σ 233 x y z) w := by
  have hN := lr_now hσ
  have hS := lr_mS hσ
  have h7 := h.n7
  rcases lq_ix x h7 with hx | ⟨g, hg, rfl⟩
  · refine op_refuse h (r := -1) (st := 1) ?_ (fun w1 h1 => ?_)
    · unfold f_X11_guestIn fb_X11_guestIn_0 fb_X11_guestIn_30
      rw [hN, lq_hg_n h.c hx, lu_bind, if_pos rfl]; rfl
    · unfold f_X12_guestIn fb_X12_guestIn_0 fb_X12_guestIn_29
      rw [lq_ig_n hS (h1.m hσ) hx, lu_bind, if_pos rfl]; rfl
  by_cases c : lq_b y 0 99
  · obtain ⟨d, -, hd, rfl⟩ := c.R (by decide) (by decide)
    have hgd : g < la_n (la_days A d) := by rw [la_n_days]; exact hg
    by_cases c2 : lq_b z 0 1
    · obtain ⟨⟨s0, s1, s2, s3, s4, s5, s6, s7, s8⟩, l1, l2, l3, l4, l5, l6, l7, l8⟩ := lr_tab hσ (o := 50) (by decide)
      have key : ∀ f, (z = 0 ∧ f = 0) ∨ (z = 1 ∧ f = 4) → lr_ok (f_X11_guestIn σ 0 (nI g) (nI d) z) (f_X12_guestIn σ 233 (nI g) (nI d) z) w := by
        intro f hf
        refine lr_ok.q h (r := (la_days A d).2 g f) (st := 0) ?_ (fun w1 h1 => ?_)
        · obtain ⟨w', e1, e2, e3⟩ := lc_inDays hσ h.c h.O (d := d) (by omega)
          refine lr_cq.fg (w' := w') ?_ e3
          obtain ⟨a0, a1, a2, a3, a4, a5⟩ := e2.2.2.2.2 g hgd
          unfold f_X11_guestIn fb_X11_guestIn_0 fb_X11_guestIn_68
          rw [hN, lq_hg_y h.c hg, lu_bind, if_neg lu_10, lq_within_y (lo := 0) (hi := 99) 0 99 rfl rfl c, lu_bind, if_neg lu_10, lq_within_y (lo := 0) (hi := 1) 0 1 rfl rfl c2, lu_bind, if_neg lu_10, lq_r0_9 hσ, e1, lu_bind]
          show (if z = 0 then lt_ck (nI g) (lt_len σ (lt_r σ 50 10)) (Option.bind (f_X11_given σ 0 (lt_gi w' (lt_r σ 50 10) (nI g).toNatClampNeg) w') _) else lt_ck (nI g) (lt_len σ (lt_r σ 50 14)) (Option.bind (f_X11_given σ 0 (lt_gi w' (lt_r σ 50 14) (nI g).toNatClampNeg) w') _)) = _
          rw [s2, s6, lu_ck (by omega) (by omega), lu_ck (by omega) (by omega), nI_clamp (by omega), a0, a4]
          rcases hf with ⟨rfl, rfl⟩ | ⟨rfl, rfl⟩
          · rfl
          · rfl
        · obtain ⟨u1, u2, u3, e1, e2, e3, e4, e5⟩ := lm_inDays hσ (h1.m hσ) h1.O (d := d) (by omega)
          refine lr_mq.F hσ (w' := u3) ?_ e5
          unfold f_X12_guestIn fb_X12_guestIn_0 fb_X12_guestIn_58
          rw [lq_ig_y hS (h1.m hσ) hg, lu_bind, if_neg lu_10, lq_from_y (lo := 0) (hi := 99) 0 99 rfl rfl (by decide) (by decide) c, lu_bind, if_neg lu_10, if_neg (show ¬ z < 0 from Int32.not_lt.mpr c2.1), if_pos (show z ≤ 1 from c2.2), e1, lu_bind, e2, lu_bind, lm_of (x := 0) (f := 0) hS e3 hgd rfl (by decide), lm_of (x := 4) (f := 4) hS e3 hgd rfl (by decide), lu_bind, lu_bind, e4, lu_bind, lu_bind]
          rcases hf with ⟨rfl, rfl⟩ | ⟨rfl, rfl⟩
          · rfl
          · rfl
      obtain ⟨j, -, hj, hz⟩ := c2.R (by decide) (by decide)
      have : j = 0 ∨ j = 1 := by omega
      rcases this with rfl | rfl
      · exact key 0 (Or.inl ⟨hz, rfl⟩)
      · exact key 4 (Or.inr ⟨hz, rfl⟩)
    · refine op_refuse h (r := -1) (st := 1) ?_ (fun w1 h1 => ?_)
      · unfold f_X11_guestIn fb_X11_guestIn_0 fb_X11_guestIn_30
        rw [hN, lq_hg_y h.c hg, lu_bind, if_neg lu_10, lq_within_y (lo := 0) (hi := 99) 0 99 rfl rfl c, lu_bind, if_neg lu_10, lq_within_n (lo := 0) (hi := 1) 0 1 rfl rfl c2, lu_bind, if_pos rfl]; rfl
      · unfold f_X12_guestIn fb_X12_guestIn_0 fb_X12_guestIn_29
        rw [lq_ig_y hS (h1.m hσ) hg, lu_bind, if_neg lu_10, lq_from_y (lo := 0) (hi := 99) 0 99 rfl rfl (by decide) (by decide) c, lu_bind, if_neg lu_10]
        by_cases c0 : z < 0
        · rw [if_pos c0]; rfl
        · rw [if_neg c0, if_neg (show ¬ z ≤ 1 from fun y => c2 ⟨Int32.not_lt.mp c0, y⟩)]; rfl
  · refine op_refuse h (r := -1) (st := 1) ?_ (fun w1 h1 => ?_)
    · unfold f_X11_guestIn fb_X11_guestIn_0 fb_X11_guestIn_30
      rw [hN, lq_hg_y h.c hg, lu_bind, if_neg lu_10, lq_within_n (lo := 0) (hi := 99) 0 99 rfl rfl c, lu_bind, if_pos rfl]; rfl
    · unfold f_X12_guestIn fb_X12_guestIn_0 fb_X12_guestIn_29
      rw [lq_ig_y hS (h1.m hσ) hg, lu_bind, if_neg lu_10, lq_from_n (lo := 0) (hi := 99) 0 99 rfl rfl (by decide) (by decide) c, lu_bind, if_pos rfl]; rfl
end AH