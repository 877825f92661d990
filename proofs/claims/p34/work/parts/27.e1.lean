set_option maxRecDepth 20000 in
set_option maxHeartbeats 4000000 in
theorem e1 {c : Nat} (hc : yC c) {M : yM} : yL (yLet (yU M c 0 0) fun M1 => yLet (yU M1 c 1 0) fun M2 => yLet (yU M2 c 2 4) fun M3 => yLet (yU M3 c 3 4) fun M4 => yX 1 22 [some (.ref c), some (.int 0)] [] M4 0 0) (yX 1 0 [some (.ref c), none] [] M 0 0) := by
  refine yL.eq (y_aload_n (pc := 0) (x := c) d1_0 rfl) ?_
  refine yL.eq (y_iconst (pc := 1) (v := 0) d1_1 kc_0) ?_
  refine y_putiL (pc := 2) d1_2 q1_39 (yC_i hc).1 rfl (fun M1 => ?_)
  refine yL.eq (y_aload_n (pc := 5) (x := c) d1_5 rfl) ?_
  refine yL.eq (y_iconst (pc := 6) (v := 0) d1_6 kc_0) ?_
  refine y_putiL (pc := 7) d1_7 q1_43 ((yC_i hc)).2.1 rfl (fun M2 => ?_)
  refine yL.eq (y_aload_n (pc := 10) (x := c) d1_10 rfl) ?_
  refine yL.eq (y_iconst (pc := 11) (v := 4) d1_11 kc_4) ?_
  refine y_putiL (pc := 12) d1_12 q1_46 (((yC_i hc)).2).2.1 rfl (fun M3 => ?_)
  refine yL.eq (y_aload_n (pc := 15) (x := c) d1_15 rfl) ?_
  refine yL.eq (y_iconst (pc := 16) (v := 4) d1_16 kc_4) ?_
  refine y_putiL (pc := 17) d1_17 q1_49 ((((yC_i hc)).2).2).2 rfl (fun M4 => ?_)
  refine yL.eq (y_iconst (pc := 20) (v := 0) d1_20 kc_0) ?_
  refine yL.eq (y_istore_n (pc := 21) (ls' := [some (.ref c), some (.int 0)]) d1_21 rfl rfl) ?_
  exact yL.rf
set_option maxRecDepth 20000 in
set_option maxHeartbeats 4000000 in
theorem e1_22 {c : Nat} {x1 : Int32} (hc : yC c) {M : yM} : yL (if x1 < 4 then if yinB x1 4 = true then yLet (yU M (c + 7) (yx x1) 1) fun M2 => yX 1 22 [some (.ref c), some (.int (x1 + 1))] [] M2 0 0 else none else yLet (yUa M (c + 8) (ycp (xsR0 1) (M (c + 8)) 5)) fun M4 => yV M4) (yX 1 22 [some (.ref c), some (.int x1)] [] M 0 0) := by
  refine yL.eq (y_iload_n (pc := 22) (x := x1) d1_22 rfl) ?_
  refine yL.eq (y_iconst (pc := 23) (v := 4) d1_23 kc_4) ?_
  refine yL.eq (y_icmp_ge (pc := 24) (t := 40) d1_24 (by decide)) ?_
  refine yL.ite (fun h1 => ?_) (fun h1 => ?_)
  ·
    refine yL.eq (y_aload_n (pc := 27) (x := c) d1_27 rfl) ?_
    refine yL.eq (y_getr (pc := 28) (r := (c + 7)) d1_28 q1_30 (((((((yC_r hc)).2).2).2).2).2).2.1) ?_
    refine yL.eq (y_iload_n (pc := 31) (x := x1) d1_31 rfl) ?_
    refine yL.eq (y_iconst (pc := 32) (v := 1) d1_32 kc_1) ?_
    refine y_iastL (pc := 33) (n := 4) d1_33 (((((((yC_a hc)).2).2).2).2).2).2.1 (fun h3 M2 => ?_)
    refine yL.eq (y_iinc (pc := 34) (v := 1) (x := x1) (ls' := [some (.ref c), some (.int (x1 + 1))]) d1_34 kc_1 rfl (Nat.le_of_ble_eq_true rfl) rfl) ?_
    refine yL.eq (y_goto (pc := 37) (t := 22) d1_37 (by decide)) ?_
    exact yL.rf
  ·
    refine yL.eq (y_gets (pc := 40) d1_40 q1_52) ?_
    refine yL.eq (y_iconst (pc := 43) (v := 0) d1_43 kc_0) ?_
    refine yL.eq (y_aload_n (pc := 44) (x := c) d1_44 rfl) ?_
    refine yL.eq (y_getr (pc := 45) (r := (c + 8)) d1_45 q1_33 ((((((((yC_r hc)).2).2).2).2).2).2).2) ?_
    refine yL.eq (y_iconst (pc := 48) (v := 0) d1_48 kc_0) ?_
    refine yL.eq (y_iconst (pc := 49) (v := 5) d1_49 kc_5) ?_
    refine y_copyL (pc := 50) (N := 5) d1_50 q1_55 (Nat.le_of_ble_eq_true rfl) (by decide +kernel) (y_cp1 s_g_1) ((((((((yC_a hc)).2).2).2).2).2).2).2 (by decide +kernel) (fun M4 => ?_)
    exact yL.eq (y_ret (pc := 53) d1_53 mr_1) yL.rf
set_option maxRecDepth 20000 in
set_option maxHeartbeats 4000000 in
theorem e2 {c : Nat} {d : Nat} (hc : yC c) (hd : yC d) {M : yM} : yL (yLet (yU M c 0 (M d 0)) fun M1 => yLet (yU M1 c 1 (M1 d 1)) fun M2 => yLet (yU M2 c 2 (M2 d 2)) fun M3 => yLet (yU M3 c 3 (M3 d 3)) fun M4 => yLet (yUa M4 (c + 1) (ycp (M4 (d + 1)) (M4 (c + 1)) 12)) fun M5 => yLet (yUa M5 (c + 2) (ycp (M5 (d + 2)) (M5 (c + 2)) 14)) fun M6 => yLet (yUa M6 (c + 3) (ycp (M6 (d + 3)) (M6 (c + 3)) 14)) fun M7 => yLet (yUa M7 (c + 4) (ycp (M7 (d + 4)) (M7 (c + 4)) 14)) fun M8 => yLet (yUa M8 (c + 5) (ycp (M8 (d + 5)) (M8 (c + 5)) 14)) fun M9 => yLet (yUa M9 (c + 6) (ycp (M9 (d + 6)) (M9 (c + 6)) 14)) fun M10 => yLet (yUa M10 (c + 7) (ycp (M10 (d + 7)) (M10 (c + 7)) 4)) fun M11 => yLet (yUa M11 (c + 8) (ycp (M11 (d + 8)) (M11 (c + 8)) 5)) fun M12 => yV M12) (yX 2 0 [some (.ref c), some (.ref d)] [] M 0 0) := by
  refine yL.eq (y_aload_n (pc := 0) (x := c) d2_0 rfl) ?_
  refine yL.eq (y_aload_n (pc := 1) (x := d) d2_1 rfl) ?_
  refine yL.eq (y_geti (pc := 2) d2_2 q2_39 (yC_i hd).1) ?_
  refine y_putiL (pc := 5) d2_5 q2_39 (yC_i hc).1 rfl (fun M1 => ?_)
  refine yL.eq (y_aload_n (pc := 8) (x := c) d2_8 rfl) ?_
  refine yL.eq (y_aload_n (pc := 9) (x := d) d2_9 rfl) ?_
  refine yL.eq (y_geti (pc := 10) d2_10 q2_43 ((yC_i hd)).2.1) ?_
  refine y_putiL (pc := 13) d2_13 q2_43 ((yC_i hc)).2.1 rfl (fun M2 => ?_)
  refine yL.eq (y_aload_n (pc := 16) (x := c) d2_16 rfl) ?_
  refine yL.eq (y_aload_n (pc := 17) (x := d) d2_17 rfl) ?_
  refine yL.eq (y_geti (pc := 18) d2_18 q2_46 (((yC_i hd)).2).2.1) ?_
  refine y_putiL (pc := 21) d2_21 q2_46 (((yC_i hc)).2).2.1 rfl (fun M3 => ?_)
  refine yL.eq (y_aload_n (pc := 24) (x := c) d2_24 rfl) ?_
  refine yL.eq (y_aload_n (pc := 25) (x := d) d2_25 rfl) ?_
  refine yL.eq (y_geti (pc := 26) d2_26 q2_49 ((((yC_i hd)).2).2).2) ?_
  refine y_putiL (pc := 29) d2_29 q2_49 ((((yC_i hc)).2).2).2 rfl (fun M4 => ?_)
  refine yL.eq (y_aload_n (pc := 32) (x := d) d2_32 rfl) ?_
  refine yL.eq (y_getr (pc := 33) (r := (d + 1)) d2_33 q2_9 (yC_r hd).1) ?_
  refine yL.eq (y_iconst (pc := 36) (v := 0) d2_36 kc_0) ?_
  refine yL.eq (y_aload_n (pc := 37) (x := c) d2_37 rfl) ?_
  refine yL.eq (y_getr (pc := 38) (r := (c + 1)) d2_38 q2_9 (yC_r hc).1) ?_
  refine yL.eq (y_iconst (pc := 41) (v := 0) d2_41 kc_0) ?_
  refine yL.eq (y_bipush (pc := 42) (v := 12) d2_42 kb_12) ?_
  refine y_copyL (pc := 44) (N := 12) d2_44 q2_55 (Nat.le_of_ble_eq_true rfl) (by decide +kernel) (y_cp (yC_a hd).1) (yC_a hc).1 (by decide +kernel) (fun M5 => ?_)
  refine yL.eq (y_aload_n (pc := 47) (x := d) d2_47 rfl) ?_
  refine yL.eq (y_getr (pc := 48) (r := (d + 2)) d2_48 q2_15 ((yC_r hd)).2.1) ?_
  refine yL.eq (y_iconst (pc := 51) (v := 0) d2_51 kc_0) ?_
  refine yL.eq (y_aload_n (pc := 52) (x := c) d2_52 rfl) ?_
  refine yL.eq (y_getr (pc := 53) (r := (c + 2)) d2_53 q2_15 ((yC_r hc)).2.1) ?_
  refine yL.eq (y_iconst (pc := 56) (v := 0) d2_56 kc_0) ?_
  refine yL.eq (y_bipush (pc := 57) (v := 14) d2_57 kb_14) ?_
  refine y_copyL (pc := 59) (N := 14) d2_59 q2_55 (Nat.le_of_ble_eq_true rfl) (by decide +kernel) (y_cp ((yC_a hd)).2.1) ((yC_a hc)).2.1 (by decide +kernel) (fun M6 => ?_)
  refine yL.eq (y_aload_n (pc := 62) (x := d) d2_62 rfl) ?_
  refine yL.eq (y_getr (pc := 63) (r := (d + 3)) d2_63 q2_18 (((yC_r hd)).2).2.1) ?_
  refine yL.eq (y_iconst (pc := 66) (v := 0) d2_66 kc_0) ?_
  refine yL.eq (y_aload_n (pc := 67) (x := c) d2_67 rfl) ?_
  refine yL.eq (y_getr (pc := 68) (r := (c + 3)) d2_68 q2_18 (((yC_r hc)).2).2.1) ?_
  refine yL.eq (y_iconst (pc := 71) (v := 0) d2_71 kc_0) ?_
  refine yL.eq (y_bipush (pc := 72) (v := 14) d2_72 kb_14) ?_
  refine y_copyL (pc := 74) (N := 14) d2_74 q2_55 (Nat.le_of_ble_eq_true rfl) (by decide +kernel) (y_cp (((yC_a hd)).2).2.1) (((yC_a hc)).2).2.1 (by decide +kernel) (fun M7 => ?_)
  refine yL.eq (y_aload_n (pc := 77) (x := d) d2_77 rfl) ?_
  refine yL.eq (y_getr (pc := 78) (r := (d + 4)) d2_78 q2_21 ((((yC_r hd)).2).2).2.1) ?_
  refine yL.eq (y_iconst (pc := 81) (v := 0) d2_81 kc_0) ?_
  refine yL.eq (y_aload_n (pc := 82) (x := c) d2_82 rfl) ?_
  refine yL.eq (y_getr (pc := 83) (r := (c + 4)) d2_83 q2_21 ((((yC_r hc)).2).2).2.1) ?_
  refine yL.eq (y_iconst (pc := 86) (v := 0) d2_86 kc_0) ?_
  refine yL.eq (y_bipush (pc := 87) (v := 14) d2_87 kb_14) ?_
  refine y_copyL (pc := 89) (N := 14) d2_89 q2_55 (Nat.le_of_ble_eq_true rfl) (by decide +kernel) (y_cp ((((yC_a hd)).2).2).2.1) ((((yC_a hc)).2).2).2.1 (by decide +kernel) (fun M8 => ?_)
  refine yL.eq (y_aload_n (pc := 92) (x := d) d2_92 rfl) ?_
  refine yL.eq (y_getr (pc := 93) (r := (d + 5)) d2_93 q2_24 (((((yC_r hd)).2).2).2).2.1) ?_
  refine yL.eq (y_iconst (pc := 96) (v := 0) d2_96 kc_0) ?_
  refine yL.eq (y_aload_n (pc := 97) (x := c) d2_97 rfl) ?_
  refine yL.eq (y_getr (pc := 98) (r := (c + 5)) d2_98 q2_24 (((((yC_r hc)).2).2).2).2.1) ?_
  refine yL.eq (y_iconst (pc := 101) (v := 0) d2_101 kc_0) ?_
  refine yL.eq (y_bipush (pc := 102) (v := 14) d2_102 kb_14) ?_
  refine y_copyL (pc := 104) (N := 14) d2_104 q2_55 (Nat.le_of_ble_eq_true rfl) (by decide +kernel) (y_cp (((((yC_a hd)).2).2).2).2.1) (((((yC_a hc)).2).2).2).2.1 (by decide +kernel) (fun M9 => ?_)
  refine yL.eq (y_aload_n (pc := 107) (x := d) d2_107 rfl) ?_
  refine yL.eq (y_getr (pc := 108) (r := (d + 6)) d2_108 q2_27 ((((((yC_r hd)).2).2).2).2).2.1) ?_
  refine yL.eq (y_iconst (pc := 111) (v := 0) d2_111 kc_0) ?_
  refine yL.eq (y_aload_n (pc := 112) (x := c) d2_112 rfl) ?_
  refine yL.eq (y_getr (pc := 113) (r := (c + 6)) d2_113 q2_27 ((((((yC_r hc)).2).2).2).2).2.1) ?_
  refine yL.eq (y_iconst (pc := 116) (v := 0) d2_116 kc_0) ?_
  refine yL.eq (y_bipush (pc := 117) (v := 14) d2_117 kb_14) ?_
  refine y_copyL (pc := 119) (N := 14) d2_119 q2_55 (Nat.le_of_ble_eq_true rfl) (by decide +kernel) (y_cp ((((((yC_a hd)).2).2).2).2).2.1) ((((((yC_a hc)).2).2).2).2).2.1 (by decide +kernel) (fun M10 => ?_)
  refine yL.eq (y_aload_n (pc := 122) (x := d) d2_122 rfl) ?_
  refine yL.eq (y_getr (pc := 123) (r := (d + 7)) d2_123 q2_30 (((((((yC_r hd)).2).2).2).2).2).2.1) ?_
  refine yL.eq (y_iconst (pc := 126) (v := 0) d2_126 kc_0) ?_
  refine yL.eq (y_aload_n (pc := 127) (x := c) d2_127 rfl) ?_
  refine yL.eq (y_getr (pc := 128) (r := (c + 7)) d2_128 q2_30 (((((((yC_r hc)).2).2).2).2).2).2.1) ?_
  refine yL.eq (y_iconst (pc := 131) (v := 0) d2_131 kc_0) ?_
  refine yL.eq (y_iconst (pc := 132) (v := 4) d2_132 kc_4) ?_
  refine y_copyL (pc := 133) (N := 4) d2_133 q2_55 (Nat.le_of_ble_eq_true rfl) (by decide +kernel) (y_cp (((((((yC_a hd)).2).2).2).2).2).2.1) (((((((yC_a hc)).2).2).2).2).2).2.1 (by decide +kernel) (fun M11 => ?_)
  refine yL.eq (y_aload_n (pc := 136) (x := d) d2_136 rfl) ?_
  refine yL.eq (y_getr (pc := 137) (r := (d + 8)) d2_137 q2_33 ((((((((yC_r hd)).2).2).2).2).2).2).2) ?_
  refine yL.eq (y_iconst (pc := 140) (v := 0) d2_140 kc_0) ?_
  refine yL.eq (y_aload_n (pc := 141) (x := c) d2_141 rfl) ?_
  refine yL.eq (y_getr (pc := 142) (r := (c + 8)) d2_142 q2_33 ((((((((yC_r hc)).2).2).2).2).2).2).2) ?_
  refine yL.eq (y_iconst (pc := 145) (v := 0) d2_145 kc_0) ?_
  refine yL.eq (y_iconst (pc := 146) (v := 5) d2_146 kc_5) ?_
  refine y_copyL (pc := 147) (N := 5) d2_147 q2_55 (Nat.le_of_ble_eq_true rfl) (by decide +kernel) (y_cp ((((((((yC_a hd)).2).2).2).2).2).2).2) ((((((((yC_a hc)).2).2).2).2).2).2).2 (by decide +kernel) (fun M12 => ?_)
  exact yL.eq (y_ret (pc := 150) d2_150 mr_2) yL.rf
set_option maxRecDepth 20000 in
set_option maxHeartbeats 4000000 in
theorem e3 {c : Nat} {a1 : Int32} (hc : yC c) {M : yM} : yL (yCi false (yX 94 0 [some (.int a1), some (.int 0), some (.int ((M c 0) - 1))] [] M 0 0) fun v2 M1 => yZ v2 M1) (yX 3 0 [some (.ref c), some (.int a1)] [] M 0 0) := by
  refine yL.eq (y_iload_n (pc := 0) (x := a1) d3_0 rfl) ?_
  refine yL.eq (y_iconst (pc := 1) (v := 0) d3_1 kc_0) ?_
  refine yL.eq (y_aload_n (pc := 2) (x := c) d3_2 rfl) ?_
  refine yL.eq (y_geti (pc := 3) d3_3 q3_39 (yC_i hc).1) ?_
  refine yL.eq (y_iconst (pc := 6) (v := 1) d3_6 kc_1) ?_
  refine yL.eq (y_isub (pc := 7) d3_7) ?_
  refine y_calls_i (pc := 8) (n := 3) (n' := 3) (nc' := 0) (ns' := 0) [.int a1, .int 0, .int ((M c 0) - 1)] [] false d3_8 q3_61 rfl rfl rfl (Nat.le_of_ble_eq_true rfl) (Nat.le_of_ble_eq_true rfl) rfl (by decide +kernel) (by decide +kernel) (fun v2 M1 => ?_)
  exact yL.eq (y_iretz (pc := 11) d3_11 mr_3) yL.rf
set_option maxRecDepth 20000 in
set_option maxHeartbeats 4000000 in
theorem e4 {c : Nat} {a1 : Int32} (hc : yC c) {M : yM} : yL (yCi false (yX 94 0 [some (.int a1), some (.int 0), some (.int ((M c 1) - 1))] [] M 0 0) fun v2 M1 => yZ v2 M1) (yX 4 0 [some (.ref c), some (.int a1)] [] M 0 0) := by
  refine yL.eq (y_iload_n (pc := 0) (x := a1) d4_0 rfl) ?_
  refine yL.eq (y_iconst (pc := 1) (v := 0) d4_1 kc_0) ?_
  refine yL.eq (y_aload_n (pc := 2) (x := c) d4_2 rfl) ?_
  refine yL.eq (y_geti (pc := 3) d4_3 q4_43 ((yC_i hc)).2.1) ?_
  refine yL.eq (y_iconst (pc := 6) (v := 1) d4_6 kc_1) ?_
  refine yL.eq (y_isub (pc := 7) d4_7) ?_
  refine y_calls_i (pc := 8) (n := 3) (n' := 3) (nc' := 0) (ns' := 0) [.int a1, .int 0, .int ((M c 1) - 1)] [] false d4_8 q4_61 rfl rfl rfl (Nat.le_of_ble_eq_true rfl) (Nat.le_of_ble_eq_true rfl) rfl (by decide +kernel) (by decide +kernel) (fun v2 M1 => ?_)
  exact yL.eq (y_iretz (pc := 11) d4_11 mr_4) yL.rf
set_option maxRecDepth 20000 in
set_option maxHeartbeats 4000000 in
theorem e5 {c : Nat} {a1 : Int32} {a2 : Int32} {a3 : Int32} {a4 : Int32} (hc : yC c) {M : yM} : yL (yCi false (yX 6 0 [some (.ref c), some (.int a1), some (.int a2), some (.int a3), some (.int a4)] [] M 0 0) fun v2 M1 => if v2 = 0 then yCi false (yX 8 0 [some (.ref c), some (.int a1), some (.int a2), some (.int a3), some (.int a4)] [] M1 0 0) fun v5 M4 => yI 1 M4 else yI 0 M1) (yX 5 0 [some (.ref c), some (.int a1), some (.int a2), some (.int a3), some (.int a4)] [] M 0 0) := by
  refine yL.eq (y_aload_n (pc := 0) (x := c) d5_0 rfl) ?_
  refine yL.eq (y_iload_n (pc := 1) (x := a1) d5_1 rfl) ?_
  refine yL.eq (y_iload_n (pc := 2) (x := a2) d5_2 rfl) ?_
  refine yL.eq (y_iload_n (pc := 3) (x := a3) d5_3 rfl) ?_
  refine yL.eq (y_iload (pc := 4) (x := a4) d5_4 rfl) ?_
  refine y_callv_i (pc := 6) (n := 5) (n' := 5) (nc' := 0) (ns' := 0) [.int a1, .int a2, .int a3, .int a4] [] false d5_6 q5_65 mk_6 (yC_t hc) rfl rfl (Nat.le_of_ble_eq_true rfl) (Nat.le_of_ble_eq_true rfl) rfl (by decide +kernel) (by decide +kernel) (fun v2 M1 => ?_)
  refine yL.eq (y_if_eq (pc := 9) (t := 14) d5_9 (by decide)) ?_
  refine yL.ite (fun h3 => ?_) (fun h3 => ?_)
  ·
    refine yL.eq (y_aload_n (pc := 14) (x := c) d5_14 rfl) ?_
    refine yL.eq (y_iload_n (pc := 15) (x := a1) d5_15 rfl) ?_
    refine yL.eq (y_iload_n (pc := 16) (x := a2) d5_16 rfl) ?_
    refine yL.eq (y_iload_n (pc := 17) (x := a3) d5_17 rfl) ?_
    refine yL.eq (y_iload (pc := 18) (x := a4) d5_18 rfl) ?_
    refine y_callv_i (pc := 20) (n := 5) (n' := 5) (nc' := 0) (ns' := 0) [.int a1, .int a2, .int a3, .int a4] [] false d5_20 q5_69 mk_8 (yC_t hc) rfl rfl (Nat.le_of_ble_eq_true rfl) (Nat.le_of_ble_eq_true rfl) rfl (by decide +kernel) (by decide +kernel) (fun v5 M4 => ?_)
    refine yL.eq (y_pop (pc := 23) d5_23 rfl) ?_
    refine yL.eq (y_iconst (pc := 24) (v := 1) d5_24 kc_1) ?_
    exact yL.eq (y_iretz (pc := 25) d5_25 mr_5) (yL.eq yZ_1 yL.rf)
  ·
    refine yL.eq (y_iconst (pc := 12) (v := 0) d5_12 kc_0) ?_
    exact yL.eq (y_iretz (pc := 13) d5_13 mr_5) (yL.eq yZ_0 yL.rf)
set_option maxRecDepth 20000 in
set_option maxHeartbeats 4000000 in
theorem e6 {c : Nat} {a1 : Int32} {a2 : Int32} {a3 : Int32} {a4 : Int32} (hc : yC c) {M : yM} : yL (if a1 = 0 then yCi false (yX 94 0 [some (.int a2), some (.int 1), some (.int 50000)] [] M 0 0) fun v3 M2 => if (M2 c 0) < 12 then yCi false (yX 7 0 [some (.int 1), some (.int v3), some (.int 1)] [] M2 0 0) fun v6 M5 => yI v6 M5 else yCi false (yX 7 0 [some (.int 1), some (.int v3), some (.int 0)] [] M2 0 0) fun v8 M7 => yI v8 M7 else if a1 = 1 then yCi false (yX 94 0 [some (.int a2), some (.int 1), some (.int 90)] [] M 0 0) fun v11 M10 => if v11 = 0 then if (M10 c 1) < 14 then yCi false (yX 7 0 [some (.int 1), some (.int 0), some (.int 1)] [] M10 0 0) fun v15 M14 => yI v15 M14 else yCi false (yX 7 0 [some (.int 1), some (.int 0), some (.int 0)] [] M10 0 0) fun v17 M16 => yI v17 M16 else yCi false (yX 94 0 [some (.int a3), some (.int (-1)), some (.int 3)] [] M10 0 0) fun v19 M18 => if v19 = 0 then if (M18 c 1) < 14 then yCi false (yX 7 0 [some (.int 1), some (.int 0), some (.int 1)] [] M18 0 0) fun v23 M22 => yI v23 M22 else yCi false (yX 7 0 [some (.int 1), some (.int 0), some (.int 0)] [] M18 0 0) fun v25 M24 => yI v25 M24 else if (M18 c 1) < 14 then yCi false (yX 7 0 [some (.int 1), some (.int 1), some (.int 1)] [] M18 0 0) fun v28 M27 => yI v28 M27 else yCi false (yX 7 0 [some (.int 1), some (.int 1), some (.int 0)] [] M18 0 0) fun v30 M29 => yI v30 M29 else if a1 = 2 then yCi false (yX 4 0 [some (.ref c), some (.int a2)] [] M 0 0) fun v33 M32 => if v33 = 0 then yCi false (yX 7 0 [some (.int 0), some (.int 1), some (.int 1)] [] M32 0 0) fun v36 M35 => yI v36 M35 else yCi false (yX 3 0 [some (.ref c), some (.int a3)] [] M32 0 0) fun v38 M37 => if v38 = 0 then yCi false (yX 7 0 [some (.int 0), some (.int 1), some (.int 1)] [] M37 0 0) fun v41 M40 => yI v41 M40 else yCi false (yX 7 0 [some (.int 1), some (.int 1), some (.int 1)] [] M37 0 0) fun v43 M42 => yI v43 M42 else if a1 = 3 then yCi false (yX 4 0 [some (.ref c), some (.int a2)] [] M 0 0) fun v46 M45 => if v46 = 0 then yI 1 M45 else yCi false (yX 4 0 [some (.ref c), some (.int a3)] [] M45 0 0) fun v49 M48 => if v49 = 0 then yI 1 M48 else if a4 = 1 then if a2 = a3 then yI 3 M48 else yCi false (yX 21 0 [some (.ref c), some (.int a3), none, none, none] [] M48 0 0) fun v54 M53 => yCi false (yX 99 0 [some (.int v54), some (.int a2)] [] M53 0 0) fun v56 M55 => if v56 = 0 then yI 0 M55 else yI 3 M55 else yI 0 M48 else if a1 = 4 then yCi false (yX 95 0 [some (.int a2)] [] M 0 0) fun v60 M59 => yCi false (yX 94 0 [some (.int a3), some (.int 0), some (.int 3)] [] M59 0 0) fun v62 M61 => yCi false (yX 7 0 [some (.int v60), some (.int v62), some (.int 1)] [] M61 0 0) fun v64 M63 => yI v64 M63 else if a1 = 5 then yCi false (yX 94 0 [some (.int a2), some (.int 1), some (.int 24)] [] M 0 0) fun v67 M66 => if v67 = 0 then yCi false (yX 7 0 [some (.int 1), some (.int 0), some (.int 1)] [] M66 0 0) fun v70 M69 => yI v70 M69 else yCi false (yX 94 0 [some (.int a3), some (.int 1), some (.int 24)] [] M66 0 0) fun v72 M71 => if v72 = 0 then yCi false (yX 7 0 [some (.int 1), some (.int 0), some (.int 1)] [] M71 0 0) fun v75 M74 => yI v75 M74 else yCi false (yX 7 0 [some (.int 1), some (.int 1), some (.int 1)] [] M71 0 0) fun v77 M76 => yI v77 M76 else if a1 = 6 then yCi false (yX 96 0 [some (.int a2)] [] M 0 0) fun v80 M79 => if v80 = 0 then yCi false (yX 7 0 [some (.int 1), some (.int 0), some (.int 1)] [] M79 0 0) fun v83 M82 => yI v83 M82 else if yinB a2 5 = true then if yinB a2 5 = true then yCi false (yX 94 0 [some (.int a3), some (.int (xsR0 2 (yx a2))), some (.int (xsR0 3 (yx a2)))] [] M79 0 0) fun v87 M86 => if v87 = 0 then yCi false (yX 7 0 [some (.int 1), some (.int 0), some (.int 1)] [] M86 0 0) fun v90 M89 => yI v90 M89 else yCi false (yX 7 0 [some (.int 1), some (.int 1), some (.int 1)] [] M86 0 0) fun v92 M91 => yI v92 M91 else none else none else if a1 = 7 then yCi false (yX 3 0 [some (.ref c), some (.int a2)] [] M 0 0) fun v95 M94 => yCi false (yX 94 0 [some (.int a3), some (.int 1), some (.int 50000)] [] M94 0 0) fun v97 M96 => yCi false (yX 7 0 [some (.int v95), some (.int v97), some (.int 1)] [] M96 0 0) fun v99 M98 => yI v99 M98 else yCi false (yX 4 0 [some (.ref c), some (.int a2)] [] M 0 0) fun v101 M100 => yCi false (yX 94 0 [some (.int a3), some (.int 1), some (.int 90)] [] M100 0 0) fun v103 M102 => yCi false (yX 7 0 [some (.int v101), some (.int v103), some (.int 1)] [] M102 0 0) fun v105 M104 => yI v105 M104) (yX 6 0 [some (.ref c), some (.int a1), some (.int a2), some (.int a3), some (.int a4)] [] M 0 0) := by
  refine yL.eq (y_iload_n (pc := 0) (x := a1) d6_0 rfl) ?_
  refine yL.eq (y_tsw (pc := 1) (ts := [48, 74, 117, 144, 191, 206, 237, 272]) (d := 289) d6_1 (by decide +kernel)) ?_
  refine yL.eq (y_ts (c := 0) (lo' := 1) kc_0 (by decide)) ?_
  refine yL.ite (fun h1 => ?_) (fun h1 => ?_)
  ·
    refine yL.eq (y_iconst (pc := 48) (v := 1) d6_48 kc_1) ?_
    refine yL.eq (y_iload_n (pc := 49) (x := a2) d6_49 rfl) ?_
    refine yL.eq (y_iconst (pc := 50) (v := 1) d6_50 kc_1) ?_
    refine yL.eq (y_ldc (pc := 51) (v := 50000) d6_51 q6_72) ?_
    refine y_calls_i (pc := 53) (n := 3) (n' := 3) (nc' := 0) (ns' := 0) [.int a2, .int 1, .int 50000] [.int 1] false d6_53 q6_61 rfl rfl rfl (Nat.le_of_ble_eq_true rfl) (Nat.le_of_ble_eq_true rfl) rfl (by decide +kernel) (by decide +kernel) (fun v3 M2 => ?_)
    refine yL.eq (y_aload_n (pc := 56) (x := c) d6_56 rfl) ?_
    refine yL.eq (y_geti (pc := 57) d6_57 q6_39 (yC_i hc).1) ?_
    refine yL.eq (y_bipush (pc := 60) (v := 12) d6_60 kb_12) ?_
    refine yL.eq (y_icmp_ge (pc := 62) (t := 69) d6_62 (by decide)) ?_
    refine yL.ite (fun h4 => ?_) (fun h4 => ?_)
    ·
      refine yL.eq (y_iconst (pc := 65) (v := 1) d6_65 kc_1) ?_
      refine yL.eq (y_goto (pc := 66) (t := 70) d6_66 (by decide)) ?_
      refine y_calls_i (pc := 70) (n := 3) (n' := 3) (nc' := 0) (ns' := 0) [.int 1, .int v3, .int 1] [] false d6_70 q6_73 rfl rfl rfl (Nat.le_of_ble_eq_true rfl) (Nat.le_of_ble_eq_true rfl) rfl (by decide +kernel) (by decide +kernel) (fun v6 M5 => ?_)
      exact yL.eq (y_ireti (pc := 73) d6_73 mr_6) yL.rf
    ·
      refine yL.eq (y_iconst (pc := 69) (v := 0) d6_69 kc_0) ?_
      refine y_calls_i (pc := 70) (n := 3) (n' := 3) (nc' := 0) (ns' := 0) [.int 1, .int v3, .int 0] [] false d6_70 q6_73 rfl rfl rfl (Nat.le_of_ble_eq_true rfl) (Nat.le_of_ble_eq_true rfl) rfl (by decide +kernel) (by decide +kernel) (fun v8 M7 => ?_)
      exact yL.eq (y_ireti (pc := 73) d6_73 mr_6) yL.rf
  ·
    refine yL.eq (y_ts (c := 1) (lo' := 2) kc_1 (by decide)) ?_
    refine yL.ite (fun h9 => ?_) (fun h9 => ?_)
    ·
      refine yL.eq (y_iconst (pc := 74) (v := 1) d6_74 kc_1) ?_
      refine yL.eq (y_iload_n (pc := 75) (x := a2) d6_75 rfl) ?_
      refine yL.eq (y_iconst (pc := 76) (v := 1) d6_76 kc_1) ?_
      refine yL.eq (y_bipush (pc := 77) (v := 90) d6_77 kb_90) ?_
      refine y_calls_i (pc := 79) (n := 3) (n' := 3) (nc' := 0) (ns' := 0) [.int a2, .int 1, .int 90] [.int 1] false d6_79 q6_61 rfl rfl rfl (Nat.le_of_ble_eq_true rfl) (Nat.le_of_ble_eq_true rfl) rfl (by decide +kernel) (by decide +kernel) (fun v11 M10 => ?_)
      refine yL.eq (y_if_eq (pc := 82) (t := 98) d6_82 (by decide)) ?_
      refine yL.ite (fun h12 => ?_) (fun h12 => ?_)
      ·
        refine yL.eq (y_iconst (pc := 98) (v := 0) d6_98 kc_0) ?_
        refine yL.eq (y_aload_n (pc := 99) (x := c) d6_99 rfl) ?_
        refine yL.eq (y_geti (pc := 100) d6_100 q6_43 ((yC_i hc)).2.1) ?_
        refine yL.eq (y_bipush (pc := 103) (v := 14) d6_103 kb_14) ?_
        refine yL.eq (y_icmp_ge (pc := 105) (t := 112) d6_105 (by decide)) ?_
        refine yL.ite (fun h13 => ?_) (fun h13 => ?_)
        ·
          refine yL.eq (y_iconst (pc := 108) (v := 1) d6_108 kc_1) ?_
          refine yL.eq (y_goto (pc := 109) (t := 113) d6_109 (by decide)) ?_
          refine y_calls_i (pc := 113) (n := 3) (n' := 3) (nc' := 0) (ns' := 0) [.int 1, .int 0, .int 1] [] false d6_113 q6_73 rfl rfl rfl (Nat.le_of_ble_eq_true rfl) (Nat.le_of_ble_eq_true rfl) rfl (by decide +kernel) (by decide +kernel) (fun v15 M14 => ?_)
          exact yL.eq (y_ireti (pc := 116) d6_116 mr_6) yL.rf
        ·
          refine yL.eq (y_iconst (pc := 112) (v := 0) d6_112 kc_0) ?_
          refine y_calls_i (pc := 113) (n := 3) (n' := 3) (nc' := 0) (ns' := 0) [.int 1, .int 0, .int 0] [] false d6_113 q6_73 rfl rfl rfl (Nat.le_of_ble_eq_true rfl) (Nat.le_of_ble_eq_true rfl) rfl (by decide +kernel) (by decide +kernel) (fun v17 M16 => ?_)
          exact yL.eq (y_ireti (pc := 116) d6_116 mr_6) yL.rf
      ·
        refine yL.eq (y_iload_n (pc := 85) (x := a3) d6_85 rfl) ?_
        refine yL.eq (y_iconst (pc := 86) (v := (-1)) d6_86 kc_m1) ?_
        refine yL.eq (y_iconst (pc := 87) (v := 3) d6_87 kc_3) ?_
        refine y_calls_i (pc := 88) (n := 3) (n' := 3) (nc' := 0) (ns' := 0) [.int a3, .int (-1), .int 3] [.int 1] false d6_88 q6_61 rfl rfl rfl (Nat.le_of_ble_eq_true rfl) (Nat.le_of_ble_eq_true rfl) rfl (by decide +kernel) (by decide +kernel) (fun v19 M18 => ?_)
        refine yL.eq (y_if_eq (pc := 91) (t := 98) d6_91 (by decide)) ?_
        refine yL.ite (fun h20 => ?_) (fun h20 => ?_)
        ·
          refine yL.eq (y_iconst (pc := 98) (v := 0) d6_98 kc_0) ?_
          refine yL.eq (y_aload_n (pc := 99) (x := c) d6_99 rfl) ?_
          refine yL.eq (y_geti (pc := 100) d6_100 q6_43 ((yC_i hc)).2.1) ?_
          refine yL.eq (y_bipush (pc := 103) (v := 14) d6_103 kb_14) ?_
          refine yL.eq (y_icmp_ge (pc := 105) (t := 112) d6_105 (by decide)) ?_
          refine yL.ite (fun h21 => ?_) (fun h21 => ?_)
          ·
            refine yL.eq (y_iconst (pc := 108) (v := 1) d6_108 kc_1) ?_
            refine yL.eq (y_goto (pc := 109) (t := 113) d6_109 (by decide)) ?_
            refine y_calls_i (pc := 113) (n := 3) (n' := 3) (nc' := 0) (ns' := 0) [.int 1, .int 0, .int 1] [] false d6_113 q6_73 rfl rfl rfl (Nat.le_of_ble_eq_true rfl) (Nat.le_of_ble_eq_true rfl) rfl (by decide +kernel) (by decide +kernel) (fun v23 M22 => ?_)
            exact yL.eq (y_ireti (pc := 116) d6_116 mr_6) yL.rf
          ·
            refine yL.eq (y_iconst (pc := 112) (v := 0) d6_112 kc_0) ?_
            refine y_calls_i (pc := 113) (n := 3) (n' := 3) (nc' := 0) (ns' := 0) [.int 1, .int 0, .int 0] [] false d6_113 q6_73 rfl rfl rfl (Nat.le_of_ble_eq_true rfl) (Nat.le_of_ble_eq_true rfl) rfl (by decide +kernel) (by decide +kernel) (fun v25 M24 => ?_)
            exact yL.eq (y_ireti (pc := 116) d6_116 mr_6) yL.rf
        ·
          refine yL.eq (y_iconst (pc := 94) (v := 1) d6_94 kc_1) ?_
          refine yL.eq (y_goto (pc := 95) (t := 99) d6_95 (by decide)) ?_
          refine yL.eq (y_aload_n (pc := 99) (x := c) d6_99 rfl) ?_
          refine yL.eq (y_geti (pc := 100) d6_100 q6_43 ((yC_i hc)).2.1) ?_
          refine yL.eq (y_bipush (pc := 103) (v := 14) d6_103 kb_14) ?_
          refine yL.eq (y_icmp_ge (pc := 105) (t := 112) d6_105 (by decide)) ?_
          refine yL.ite (fun h26 => ?_) (fun h26 => ?_)
          ·
            refine yL.eq (y_iconst (pc := 108) (v := 1) d6_108 kc_1) ?_
            refine yL.eq (y_goto (pc := 109) (t := 113) d6_109 (by decide)) ?_
            refine y_calls_i (pc := 113) (n := 3) (n' := 3) (nc' := 0) (ns' := 0) [.int 1, .int 1, .int 1] [] false d6_113 q6_73 rfl rfl rfl (Nat.le_of_ble_eq_true rfl) (Nat.le_of_ble_eq_true rfl) rfl (by decide +kernel) (by decide +kernel) (fun v28 M27 => ?_)
            exact yL.eq (y_ireti (pc := 116) d6_116 mr_6) yL.rf
          ·
            refine yL.eq (y_iconst (pc := 112) (v := 0) d6_112 kc_0) ?_
            refine y_calls_i (pc := 113) (n := 3) (n' := 3) (nc' := 0) (ns' := 0) [.int 1, .int 1, .int 0] [] false d6_113 q6_73 rfl rfl rfl (Nat.le_of_ble_eq_true rfl) (Nat.le_of_ble_eq_true rfl) rfl (by decide +kernel) (by decide +kernel) (fun v30 M29 => ?_)
            exact yL.eq (y_ireti (pc := 116) d6_116 mr_6) yL.rf
    ·
      refine yL.eq (y_ts (c := 2) (lo' := 3) kc_2 (by decide)) ?_
      refine yL.ite (fun h31 => ?_) (fun h31 => ?_)
      ·
        refine yL.eq (y_aload_n (pc := 117) (x := c) d6_117 rfl) ?_
        refine yL.eq (y_iload_n (pc := 118) (x := a2) d6_118 rfl) ?_
        refine y_callv_i (pc := 119) (n := 2) (n' := 2) (nc' := 0) (ns' := 0) [.int a2] [] false d6_119 q6_77 mk_4 (yC_t hc) rfl rfl (Nat.le_of_ble_eq_true rfl) (Nat.le_of_ble_eq_true rfl) rfl (by decide +kernel) (by decide +kernel) (fun v33 M32 => ?_)
        refine yL.eq (y_if_eq (pc := 122) (t := 137) d6_122 (by decide)) ?_
        refine yL.ite (fun h34 => ?_) (fun h34 => ?_)
        ·
          refine yL.eq (y_iconst (pc := 137) (v := 0) d6_137 kc_0) ?_
          refine yL.eq (y_iconst (pc := 138) (v := 1) d6_138 kc_1) ?_
          refine yL.eq (y_iconst (pc := 139) (v := 1) d6_139 kc_1) ?_
          refine y_calls_i (pc := 140) (n := 3) (n' := 3) (nc' := 0) (ns' := 0) [.int 0, .int 1, .int 1] [] false d6_140 q6_73 rfl rfl rfl (Nat.le_of_ble_eq_true rfl) (Nat.le_of_ble_eq_true rfl) rfl (by decide +kernel) (by decide +kernel) (fun v36 M35 => ?_)
          exact yL.eq (y_ireti (pc := 143) d6_143 mr_6) yL.rf
        ·
          refine yL.eq (y_aload_n (pc := 125) (x := c) d6_125 rfl) ?_
          refine yL.eq (y_iload_n (pc := 126) (x := a3) d6_126 rfl) ?_
          refine y_callv_i (pc := 127) (n := 2) (n' := 2) (nc' := 0) (ns' := 0) [.int a3] [] false d6_127 q6_81 mk_3 (yC_t hc) rfl rfl (Nat.le_of_ble_eq_true rfl) (Nat.le_of_ble_eq_true rfl) rfl (by decide +kernel) (by decide +kernel) (fun v38 M37 => ?_)
          refine yL.eq (y_if_eq (pc := 130) (t := 137) d6_130 (by decide)) ?_
          refine yL.ite (fun h39 => ?_) (fun h39 => ?_)
          ·
            refine yL.eq (y_iconst (pc := 137) (v := 0) d6_137 kc_0) ?_
            refine yL.eq (y_iconst (pc := 138) (v := 1) d6_138 kc_1) ?_
            refine yL.eq (y_iconst (pc := 139) (v := 1) d6_139 kc_1) ?_
            refine y_calls_i (pc := 140) (n := 3) (n' := 3) (nc' := 0) (ns' := 0) [.int 0, .int 1, .int 1] [] false d6_140 q6_73 rfl rfl rfl (Nat.le_of_ble_eq_true rfl) (Nat.le_of_ble_eq_true rfl) rfl (by decide +kernel) (by decide +kernel) (fun v41 M40 => ?_)
            exact yL.eq (y_ireti (pc := 143) d6_143 mr_6) yL.rf
          ·
            refine yL.eq (y_iconst (pc := 133) (v := 1) d6_133 kc_1) ?_
            refine yL.eq (y_goto (pc := 134) (t := 138) d6_134 (by decide)) ?_
            refine yL.eq (y_iconst (pc := 138) (v := 1) d6_138 kc_1) ?_
            refine yL.eq (y_iconst (pc := 139) (v := 1) d6_139 kc_1) ?_
            refine y_calls_i (pc := 140) (n := 3) (n' := 3) (nc' := 0) (ns' := 0) [.int 1, .int 1, .int 1] [] false d6_140 q6_73 rfl rfl rfl (Nat.le_of_ble_eq_true rfl) (Nat.le_of_ble_eq_true rfl) rfl (by decide +kernel) (by decide +kernel) (fun v43 M42 => ?_)
            exact yL.eq (y_ireti (pc := 143) d6_143 mr_6) yL.rf
      ·
        refine yL.eq (y_ts (c := 3) (lo' := 4) kc_3 (by decide)) ?_
        refine yL.ite (fun h44 => ?_) (fun h44 => ?_)
        ·
          refine yL.eq (y_aload_n (pc := 144) (x := c) d6_144 rfl) ?_
          refine yL.eq (y_iload_n (pc := 145) (x := a2) d6_145 rfl) ?_
          refine y_callv_i (pc := 146) (n := 2) (n' := 2) (nc' := 0) (ns' := 0) [.int a2] [] false d6_146 q6_77 mk_4 (yC_t hc) rfl rfl (Nat.le_of_ble_eq_true rfl) (Nat.le_of_ble_eq_true rfl) rfl (by decide +kernel) (by decide +kernel) (fun v46 M45 => ?_)
          refine yL.eq (y_if_eq (pc := 149) (t := 160) d6_149 (by decide)) ?_
          refine yL.ite (fun h47 => ?_) (fun h47 => ?_)
          ·
            refine yL.eq (y_iconst (pc := 160) (v := 1) d6_160 kc_1) ?_
            exact yL.eq (y_ireti (pc := 161) d6_161 mr_6) yL.rf
          ·
            refine yL.eq (y_aload_n (pc := 152) (x := c) d6_152 rfl) ?_
            refine yL.eq (y_iload_n (pc := 153) (x := a3) d6_153 rfl) ?_
            refine y_callv_i (pc := 154) (n := 2) (n' := 2) (nc' := 0) (ns' := 0) [.int a3] [] false d6_154 q6_77 mk_4 (yC_t hc) rfl rfl (Nat.le_of_ble_eq_true rfl) (Nat.le_of_ble_eq_true rfl) rfl (by decide +kernel) (by decide +kernel) (fun v49 M48 => ?_)
            refine yL.eq (y_if_ne (pc := 157) (t := 162) d6_157 (by decide)) ?_
            refine yL.ite (fun h50 => ?_) (fun h50 => ?_)
            ·
              refine yL.eq (y_iconst (pc := 160) (v := 1) d6_160 kc_1) ?_
              exact yL.eq (y_ireti (pc := 161) d6_161 mr_6) yL.rf
            ·
              refine yL.eq (y_iload (pc := 162) (x := a4) d6_162 rfl) ?_
              refine yL.eq (y_iconst (pc := 164) (v := 1) d6_164 kc_1) ?_
              refine yL.eq (y_icmp_ne (pc := 165) (t := 189) d6_165 (by decide)) ?_
              refine yL.ite (fun h51 => ?_) (fun h51 => ?_)
              ·
                refine yL.eq (y_iload_n (pc := 168) (x := a2) d6_168 rfl) ?_
                refine yL.eq (y_iload_n (pc := 169) (x := a3) d6_169 rfl) ?_
                refine yL.eq (y_icmp_eq (pc := 170) (t := 185) d6_170 (by decide)) ?_
                refine yL.ite (fun h52 => ?_) (fun h52 => ?_)
                ·
                  refine yL.eq (y_iconst (pc := 185) (v := 3) d6_185 kc_3) ?_
                  refine yL.eq (y_goto (pc := 186) (t := 190) d6_186 (by decide)) ?_
                  exact yL.eq (y_ireti (pc := 190) d6_190 mr_6) yL.rf
                ·
                  refine yL.eq (y_aload_n (pc := 173) (x := c) d6_173 rfl) ?_
                  refine yL.eq (y_iload_n (pc := 174) (x := a3) d6_174 rfl) ?_
                  refine y_callv_i (pc := 175) (n := 2) (n' := 5) (nc' := 0) (ns' := 0) [.int a3] [] false d6_175 q6_84 mk_21 (yC_t hc) rfl rfl (Nat.le_of_ble_eq_true rfl) (Nat.le_of_ble_eq_true rfl) rfl (by decide +kernel) (by decide +kernel) (fun v54 M53 => ?_)
                  refine yL.eq (y_iload_n (pc := 178) (x := a2) d6_178 rfl) ?_
                  refine y_calls_i (pc := 179) (n := 2) (n' := 2) (nc' := 0) (ns' := 0) [.int v54, .int a2] [] false d6_179 q6_88 rfl rfl rfl (Nat.le_of_ble_eq_true rfl) (Nat.le_of_ble_eq_true rfl) rfl (by decide +kernel) (by decide +kernel) (fun v56 M55 => ?_)
                  refine yL.eq (y_if_eq (pc := 182) (t := 189) d6_182 (by decide)) ?_
                  refine yL.ite (fun h57 => ?_) (fun h57 => ?_)
                  ·
                    refine yL.eq (y_iconst (pc := 189) (v := 0) d6_189 kc_0) ?_
                    exact yL.eq (y_ireti (pc := 190) d6_190 mr_6) yL.rf
                  ·
                    refine yL.eq (y_iconst (pc := 185) (v := 3) d6_185 kc_3) ?_
                    refine yL.eq (y_goto (pc := 186) (t := 190) d6_186 (by decide)) ?_
                    exact yL.eq (y_ireti (pc := 190) d6_190 mr_6) yL.rf
              ·
                refine yL.eq (y_iconst (pc := 189) (v := 0) d6_189 kc_0) ?_
                exact yL.eq (y_ireti (pc := 190) d6_190 mr_6) yL.rf
        ·
          refine yL.eq (y_ts (c := 4) (lo' := 5) kc_4 (by decide)) ?_
          refine yL.ite (fun h58 => ?_) (fun h58 => ?_)
          ·
            refine yL.eq (y_iload_n (pc := 191) (x := a2) d6_191 rfl) ?_
            refine y_calls_i (pc := 192) (n := 1) (n' := 1) (nc' := 0) (ns' := 0) [.int a2] [] false d6_192 q6_92 rfl rfl rfl (Nat.le_of_ble_eq_true rfl) (Nat.le_of_ble_eq_true rfl) rfl (by decide +kernel) (by decide +kernel) (fun v60 M59 => ?_)
            refine yL.eq (y_iload_n (pc := 195) (x := a3) d6_195 rfl) ?_
            refine yL.eq (y_iconst (pc := 196) (v := 0) d6_196 kc_0) ?_
            refine yL.eq (y_iconst (pc := 197) (v := 3) d6_197 kc_3) ?_
            refine y_calls_i (pc := 198) (n := 3) (n' := 3) (nc' := 0) (ns' := 0) [.int a3, .int 0, .int 3] [.int v60] false d6_198 q6_61 rfl rfl rfl (Nat.le_of_ble_eq_true rfl) (Nat.le_of_ble_eq_true rfl) rfl (by decide +kernel) (by decide +kernel) (fun v62 M61 => ?_)
            refine yL.eq (y_iconst (pc := 201) (v := 1) d6_201 kc_1) ?_
            refine y_calls_i (pc := 202) (n := 3) (n' := 3) (nc' := 0) (ns' := 0) [.int v60, .int v62, .int 1] [] false d6_202 q6_73 rfl rfl rfl (Nat.le_of_ble_eq_true rfl) (Nat.le_of_ble_eq_true rfl) rfl (by decide +kernel) (by decide +kernel) (fun v64 M63 => ?_)
            exact yL.eq (y_ireti (pc := 205) d6_205 mr_6) yL.rf
          ·
            refine yL.eq (y_ts (c := 5) (lo' := 6) kc_5 (by decide)) ?_
            refine yL.ite (fun h65 => ?_) (fun h65 => ?_)
            ·
              refine yL.eq (y_iconst (pc := 206) (v := 1) d6_206 kc_1) ?_
              refine yL.eq (y_iload_n (pc := 207) (x := a2) d6_207 rfl) ?_
              refine yL.eq (y_iconst (pc := 208) (v := 1) d6_208 kc_1) ?_
              refine yL.eq (y_bipush (pc := 209) (v := 24) d6_209 kb_24) ?_
              refine y_calls_i (pc := 211) (n := 3) (n' := 3) (nc' := 0) (ns' := 0) [.int a2, .int 1, .int 24] [.int 1] false d6_211 q6_61 rfl rfl rfl (Nat.le_of_ble_eq_true rfl) (Nat.le_of_ble_eq_true rfl) rfl (by decide +kernel) (by decide +kernel) (fun v67 M66 => ?_)
              refine yL.eq (y_if_eq (pc := 214) (t := 231) d6_214 (by decide)) ?_
              refine yL.ite (fun h68 => ?_) (fun h68 => ?_)
              ·
                refine yL.eq (y_iconst (pc := 231) (v := 0) d6_231 kc_0) ?_
                refine yL.eq (y_iconst (pc := 232) (v := 1) d6_232 kc_1) ?_
                refine y_calls_i (pc := 233) (n := 3) (n' := 3) (nc' := 0) (ns' := 0) [.int 1, .int 0, .int 1] [] false d6_233 q6_73 rfl rfl rfl (Nat.le_of_ble_eq_true rfl) (Nat.le_of_ble_eq_true rfl) rfl (by decide +kernel) (by decide +kernel) (fun v70 M69 => ?_)
                exact yL.eq (y_ireti (pc := 236) d6_236 mr_6) yL.rf
              ·
                refine yL.eq (y_iload_n (pc := 217) (x := a3) d6_217 rfl) ?_
                refine yL.eq (y_iconst (pc := 218) (v := 1) d6_218 kc_1) ?_
                refine yL.eq (y_bipush (pc := 219) (v := 24) d6_219 kb_24) ?_
                refine y_calls_i (pc := 221) (n := 3) (n' := 3) (nc' := 0) (ns' := 0) [.int a3, .int 1, .int 24] [.int 1] false d6_221 q6_61 rfl rfl rfl (Nat.le_of_ble_eq_true rfl) (Nat.le_of_ble_eq_true rfl) rfl (by decide +kernel) (by decide +kernel) (fun v72 M71 => ?_)
                refine yL.eq (y_if_eq (pc := 224) (t := 231) d6_224 (by decide)) ?_
                refine yL.ite (fun h73 => ?_) (fun h73 => ?_)
                ·
                  refine yL.eq (y_iconst (pc := 231) (v := 0) d6_231 kc_0) ?_
                  refine yL.eq (y_iconst (pc := 232) (v := 1) d6_232 kc_1) ?_
                  refine y_calls_i (pc := 233) (n := 3) (n' := 3) (nc' := 0) (ns' := 0) [.int 1, .int 0, .int 1] [] false d6_233 q6_73 rfl rfl rfl (Nat.le_of_ble_eq_true rfl) (Nat.le_of_ble_eq_true rfl) rfl (by decide +kernel) (by decide +kernel) (fun v75 M74 => ?_)
                  exact yL.eq (y_ireti (pc := 236) d6_236 mr_6) yL.rf
                ·
                  refine yL.eq (y_iconst (pc := 227) (v := 1) d6_227 kc_1) ?_
                  refine yL.eq (y_goto (pc := 228) (t := 232) d6_228 (by decide)) ?_
                  refine yL.eq (y_iconst (pc := 232) (v := 1) d6_232 kc_1) ?_
                  refine y_calls_i (pc := 233) (n := 3) (n' := 3) (nc' := 0) (ns' := 0) [.int 1, .int 1, .int 1] [] false d6_233 q6_73 rfl rfl rfl (Nat.le_of_ble_eq_true rfl) (Nat.le_of_ble_eq_true rfl) rfl (by decide +kernel) (by decide +kernel) (fun v77 M76 => ?_)
                  exact yL.eq (y_ireti (pc := 236) d6_236 mr_6) yL.rf
            ·
              refine yL.eq (y_ts (c := 6) (lo' := 7) kc_6 (by decide)) ?_
              refine yL.ite (fun h78 => ?_) (fun h78 => ?_)
              ·
                refine yL.eq (y_iconst (pc := 237) (v := 1) d6_237 kc_1) ?_
                refine yL.eq (y_iload_n (pc := 238) (x := a2) d6_238 rfl) ?_
                refine y_calls_i (pc := 239) (n := 1) (n' := 1) (nc' := 0) (ns' := 0) [.int a2] [.int 1] false d6_239 q6_95 rfl rfl rfl (Nat.le_of_ble_eq_true rfl) (Nat.le_of_ble_eq_true rfl) rfl (by decide +kernel) (by decide +kernel) (fun v80 M79 => ?_)
                refine yL.eq (y_if_eq (pc := 242) (t := 266) d6_242 (by decide)) ?_
                refine yL.ite (fun h81 => ?_) (fun h81 => ?_)
                ·
                  refine yL.eq (y_iconst (pc := 266) (v := 0) d6_266 kc_0) ?_
                  refine yL.eq (y_iconst (pc := 267) (v := 1) d6_267 kc_1) ?_
                  refine y_calls_i (pc := 268) (n := 3) (n' := 3) (nc' := 0) (ns' := 0) [.int 1, .int 0, .int 1] [] false d6_268 q6_73 rfl rfl rfl (Nat.le_of_ble_eq_true rfl) (Nat.le_of_ble_eq_true rfl) rfl (by decide +kernel) (by decide +kernel) (fun v83 M82 => ?_)
                  exact yL.eq (y_ireti (pc := 271) d6_271 mr_6) yL.rf
                ·
                  refine yL.eq (y_iload_n (pc := 245) (x := a3) d6_245 rfl) ?_
                  refine yL.eq (y_gets (pc := 246) d6_246 q6_98) ?_
                  refine yL.eq (y_iload_n (pc := 249) (x := a2) d6_249 rfl) ?_
                  refine yL.eq (y_iald1 (pc := 250) (n := 5) d6_250 s_g_2) ?_
                  refine yL.gd (fun h84 => ?_)
                  refine yL.eq (y_gets (pc := 251) d6_251 q6_101) ?_
                  refine yL.eq (y_iload_n (pc := 254) (x := a2) d6_254 rfl) ?_
                  refine yL.eq (y_iald1 (pc := 255) (n := 5) d6_255 s_g_3) ?_
                  refine yL.gd (fun h85 => ?_)
                  refine y_calls_i (pc := 256) (n := 3) (n' := 3) (nc' := 0) (ns' := 0) [.int a3, .int (xsR0 2 (yx a2)), .int (xsR0 3 (yx a2))] [.int 1] false d6_256 q6_61 rfl rfl rfl (Nat.le_of_ble_eq_true rfl) (Nat.le_of_ble_eq_true rfl) rfl (by decide +kernel) (by decide +kernel) (fun v87 M86 => ?_)
                  refine yL.eq (y_if_eq (pc := 259) (t := 266) d6_259 (by decide)) ?_
                  refine yL.ite (fun h88 => ?_) (fun h88 => ?_)
                  ·
                    refine yL.eq (y_iconst (pc := 266) (v := 0) d6_266 kc_0) ?_
                    refine yL.eq (y_iconst (pc := 267) (v := 1) d6_267 kc_1) ?_
                    refine y_calls_i (pc := 268) (n := 3) (n' := 3) (nc' := 0) (ns' := 0) [.int 1, .int 0, .int 1] [] false d6_268 q6_73 rfl rfl rfl (Nat.le_of_ble_eq_true rfl) (Nat.le_of_ble_eq_true rfl) rfl (by decide +kernel) (by decide +kernel) (fun v90 M89 => ?_)
                    exact yL.eq (y_ireti (pc := 271) d6_271 mr_6) yL.rf
                  ·
                    refine yL.eq (y_iconst (pc := 262) (v := 1) d6_262 kc_1) ?_
                    refine yL.eq (y_goto (pc := 263) (t := 267) d6_263 (by decide)) ?_
                    refine yL.eq (y_iconst (pc := 267) (v := 1) d6_267 kc_1) ?_
                    refine y_calls_i (pc := 268) (n := 3) (n' := 3) (nc' := 0) (ns' := 0) [.int 1, .int 1, .int 1] [] false d6_268 q6_73 rfl rfl rfl (Nat.le_of_ble_eq_true rfl) (Nat.le_of_ble_eq_true rfl) rfl (by decide +kernel) (by decide +kernel) (fun v92 M91 => ?_)
                    exact yL.eq (y_ireti (pc := 271) d6_271 mr_6) yL.rf
              ·
                refine yL.eq (y_ts (c := 7) (lo' := 8) kc_7 (by decide)) ?_
                refine yL.ite (fun h93 => ?_) (fun h93 => ?_)
                ·
                  refine yL.eq (y_aload_n (pc := 272) (x := c) d6_272 rfl) ?_
                  refine yL.eq (y_iload_n (pc := 273) (x := a2) d6_273 rfl) ?_
                  refine y_callv_i (pc := 274) (n := 2) (n' := 2) (nc' := 0) (ns' := 0) [.int a2] [] false d6_274 q6_81 mk_3 (yC_t hc) rfl rfl (Nat.le_of_ble_eq_true rfl) (Nat.le_of_ble_eq_true rfl) rfl (by decide +kernel) (by decide +kernel) (fun v95 M94 => ?_)
                  refine yL.eq (y_iload_n (pc := 277) (x := a3) d6_277 rfl) ?_
                  refine yL.eq (y_iconst (pc := 278) (v := 1) d6_278 kc_1) ?_
                  refine yL.eq (y_ldc (pc := 279) (v := 50000) d6_279 q6_72) ?_
                  refine y_calls_i (pc := 281) (n := 3) (n' := 3) (nc' := 0) (ns' := 0) [.int a3, .int 1, .int 50000] [.int v95] false d6_281 q6_61 rfl rfl rfl (Nat.le_of_ble_eq_true rfl) (Nat.le_of_ble_eq_true rfl) rfl (by decide +kernel) (by decide +kernel) (fun v97 M96 => ?_)
                  refine yL.eq (y_iconst (pc := 284) (v := 1) d6_284 kc_1) ?_
                  refine y_calls_i (pc := 285) (n := 3) (n' := 3) (nc' := 0) (ns' := 0) [.int v95, .int v97, .int 1] [] false d6_285 q6_73 rfl rfl rfl (Nat.le_of_ble_eq_true rfl) (Nat.le_of_ble_eq_true rfl) rfl (by decide +kernel) (by decide +kernel) (fun v99 M98 => ?_)
                  exact yL.eq (y_ireti (pc := 288) d6_288 mr_6) yL.rf
                ·
                  refine yL.eq y_tsn ?_
                  refine yL.eq (y_aload_n (pc := 289) (x := c) d6_289 rfl) ?_
                  refine yL.eq (y_iload_n (pc := 290) (x := a2) d6_290 rfl) ?_
                  refine y_callv_i (pc := 291) (n := 2) (n' := 2) (nc' := 0) (ns' := 0) [.int a2] [] false d6_291 q6_77 mk_4 (yC_t hc) rfl rfl (Nat.le_of_ble_eq_true rfl) (Nat.le_of_ble_eq_true rfl) rfl (by decide +kernel) (by decide +kernel) (fun v101 M100 => ?_)
                  refine yL.eq (y_iload_n (pc := 294) (x := a3) d6_294 rfl) ?_
                  refine yL.eq (y_iconst (pc := 295) (v := 1) d6_295 kc_1) ?_
                  refine yL.eq (y_bipush (pc := 296) (v := 90) d6_296 kb_90) ?_
                  refine y_calls_i (pc := 298) (n := 3) (n' := 3) (nc' := 0) (ns' := 0) [.int a3, .int 1, .int 90] [.int v101] false d6_298 q6_61 rfl rfl rfl (Nat.le_of_ble_eq_true rfl) (Nat.le_of_ble_eq_true rfl) rfl (by decide +kernel) (by decide +kernel) (fun v103 M102 => ?_)
                  refine yL.eq (y_iconst (pc := 301) (v := 1) d6_301 kc_1) ?_
                  refine y_calls_i (pc := 302) (n := 3) (n' := 3) (nc' := 0) (ns' := 0) [.int v101, .int v103, .int 1] [] false d6_302 q6_73 rfl rfl rfl (Nat.le_of_ble_eq_true rfl) (Nat.le_of_ble_eq_true rfl) rfl (by decide +kernel) (by decide +kernel) (fun v105 M104 => ?_)
                  exact yL.eq (y_ireti (pc := 305) d6_305 mr_6) yL.rf
set_option maxRecDepth 20000 in
set_option maxHeartbeats 4000000 in
theorem e7 {a0 : Int32} {a1 : Int32} {a2 : Int32} {M : yM} : yL (if a0 = 0 then yI 1 M else if a1 = 0 then yI 2 M else if a2 = 0 then yI 3 M else yI 0 M) (yX 7 0 [some (.int a0), some (.int a1), some (.int a2)] [] M 0 0) := by
  refine yL.eq (y_iload_n (pc := 0) (x := a0) d7_0 rfl) ?_
  refine yL.eq (y_if_ne (pc := 1) (t := 6) d7_1 (by decide)) ?_
  refine yL.ite (fun h1 => ?_) (fun h1 => ?_)
  ·
    refine yL.eq (y_iconst (pc := 4) (v := 1) d7_4 kc_1) ?_
    exact yL.eq (y_ireti (pc := 5) d7_5 mr_7) yL.rf
  ·
    refine yL.eq (y_iload_n (pc := 6) (x := a1) d7_6 rfl) ?_
    refine yL.eq (y_if_ne (pc := 7) (t := 12) d7_7 (by decide)) ?_
    refine yL.ite (fun h2 => ?_) (fun h2 => ?_)
    ·
      refine yL.eq (y_iconst (pc := 10) (v := 2) d7_10 kc_2) ?_
      exact yL.eq (y_ireti (pc := 11) d7_11 mr_7) yL.rf
    ·
      refine yL.eq (y_iload_n (pc := 12) (x := a2) d7_12 rfl) ?_
      refine yL.eq (y_if_eq (pc := 13) (t := 20) d7_13 (by decide)) ?_
      refine yL.ite (fun h3 => ?_) (fun h3 => ?_)
      ·
        refine yL.eq (y_iconst (pc := 20) (v := 3) d7_20 kc_3) ?_
        exact yL.eq (y_ireti (pc := 21) d7_21 mr_7) yL.rf
      ·
        refine yL.eq (y_iconst (pc := 16) (v := 0) d7_16 kc_0) ?_
        refine yL.eq (y_goto (pc := 17) (t := 21) d7_17 (by decide)) ?_
        exact yL.eq (y_ireti (pc := 21) d7_21 mr_7) yL.rf
set_option maxRecDepth 20000 in
set_option maxHeartbeats 4000000 in
theorem e8 {c : Nat} {a1 : Int32} {a2 : Int32} {a3 : Int32} {a4 : Int32} (hc : yC c) {M : yM} : yL (if a1 = 0 then if yinB (M c 0) 12 = true then yLet (yU M (c + 1) (yx (M c 0)) a2) fun M2 => yLet (yU M2 c 0 ((M2 c 0) + 1)) fun M4 => yI (M2 c 0) M4 else none else if a1 = 1 then yCi false (yX 9 0 [some (.ref c), some (.int a2), some (.int a3), some (.int a4)] [] M 0 0) fun v7 M6 => yI v7 M6 else if a1 = 2 then if yinB a2 14 = true then if a4 = 1 then yCi false (yX 100 0 [some (.int (M (c + 5) (yx a2))), some (.int a3), some (.int 1)] [] M 0 0) fun v12 M11 => if yinB a2 14 = true then yLet (yU M11 (c + 5) (yx a2) v12) fun M13 => if yinB a2 14 = true then yCi false (yX 144 0 [some (.int (M13 (c + 5) (yx a2)))] [] M13 0 0) fun v17 M16 => yI v17 M16 else none else none else yCi false (yX 100 0 [some (.int (M (c + 5) (yx a2))), some (.int a3), some (.int 0)] [] M 0 0) fun v19 M18 => if yinB a2 14 = true then yLet (yU M18 (c + 5) (yx a2) v19) fun M20 => if yinB a2 14 = true then yCi false (yX 144 0 [some (.int (M20 (c + 5) (yx a2)))] [] M20 0 0) fun v24 M23 => yI v24 M23 else none else none else none else if a1 = 3 then if yinB a2 14 = true then if a4 = 1 then yCi false (yX 100 0 [some (.int (M (c + 6) (yx a2))), some (.int a3), some (.int 1)] [] M 0 0) fun v29 M28 => if yinB a2 14 = true then yLet (yU M28 (c + 6) (yx a2) v29) fun M30 => if yinB a2 14 = true then yCi false (yX 144 0 [some (.int (M30 (c + 6) (yx a2)))] [] M30 0 0) fun v34 M33 => yI v34 M33 else none else none else yCi false (yX 100 0 [some (.int (M (c + 6) (yx a2))), some (.int a3), some (.int 0)] [] M 0 0) fun v36 M35 => if yinB a2 14 = true then yLet (yU M35 (c + 6) (yx a2) v36) fun M37 => if yinB a2 14 = true then yCi false (yX 144 0 [some (.int (M37 (c + 6) (yx a2)))] [] M37 0 0) fun v41 M40 => yI v41 M40 else none else none else none else if a1 = 4 then yCi false (yX 10 0 [some (.ref (c + 7)), some (.int a2), some (.int a3), none] [] M 0 0) fun v44 M43 => yI v44 M43 else if a1 = 5 then yLet (yU M c 2 a2) fun M46 => yLet (yU M46 c 3 a3) fun M47 => yI (M47 c 3) M47 else if a1 = 6 then yCi false (yX 10 0 [some (.ref (c + 8)), some (.int a2), some (.int a3), none] [] M 0 0) fun v50 M49 => yI v50 M49 else if a1 = 7 then yCi false (yX 10 0 [some (.ref (c + 1)), some (.int a2), some (.int a3), none] [] M 0 0) fun v53 M52 => yI v53 M52 else yCi false (yX 10 0 [some (.ref (c + 2)), some (.int a2), some (.int a3), none] [] M 0 0) fun v55 M54 => yI v55 M54) (yX 8 0 [some (.ref c), some (.int a1), some (.int a2), some (.int a3), some (.int a4)] [] M 0 0) := by
  refine yL.eq (y_iload_n (pc := 0) (x := a1) d8_0 rfl) ?_
  refine yL.eq (y_tsw (pc := 1) (ts := [48, 70, 79, 116, 153, 163, 178, 188]) (d := 198) d8_1 (by decide +kernel)) ?_
  refine yL.eq (y_ts (c := 0) (lo' := 1) kc_0 (by decide)) ?_
  refine yL.ite (fun h1 => ?_) (fun h1 => ?_)
  ·
    refine yL.eq (y_aload_n (pc := 48) (x := c) d8_48 rfl) ?_
    refine yL.eq (y_getr (pc := 49) (r := (c + 1)) d8_49 q8_9 (yC_r hc).1) ?_
    refine yL.eq (y_aload_n (pc := 52) (x := c) d8_52 rfl) ?_
    refine yL.eq (y_geti (pc := 53) d8_53 q8_39 (yC_i hc).1) ?_
    refine yL.eq (y_iload_n (pc := 56) (x := a2) d8_56 rfl) ?_
    refine y_iastL (pc := 57) (n := 12) d8_57 (yC_a hc).1 (fun h3 M2 => ?_)
    refine yL.eq (y_aload_n (pc := 58) (x := c) d8_58 rfl) ?_
    refine yL.eq (y_dup (pc := 59) d8_59 rfl) ?_
    refine yL.eq (y_geti (pc := 60) d8_60 q8_39 (yC_i hc).1) ?_
    refine yL.eq (y_dup_x1 (pc := 63) d8_63 rfl) ?_
    refine yL.eq (y_iconst (pc := 64) (v := 1) d8_64 kc_1) ?_
    refine yL.eq (y_iadd (pc := 65) d8_65) ?_
    refine y_putiL (pc := 66) d8_66 q8_39 (yC_i hc).1 rfl (fun M4 => ?_)
    exact yL.eq (y_ireti (pc := 69) d8_69 mr_8) yL.rf
  ·
    refine yL.eq (y_ts (c := 1) (lo' := 2) kc_1 (by decide)) ?_
    refine yL.ite (fun h5 => ?_) (fun h5 => ?_)
    ·
      refine yL.eq (y_aload_n (pc := 70) (x := c) d8_70 rfl) ?_
      refine yL.eq (y_iload_n (pc := 71) (x := a2) d8_71 rfl) ?_
      refine yL.eq (y_iload_n (pc := 72) (x := a3) d8_72 rfl) ?_
      refine yL.eq (y_iload (pc := 73) (x := a4) d8_73 rfl) ?_
      refine y_callv_i (pc := 75) (n := 4) (n' := 4) (nc' := 0) (ns' := 0) [.int a2, .int a3, .int a4] [] false d8_75 q8_104 mk_9 (yC_t hc) rfl rfl (Nat.le_of_ble_eq_true rfl) (Nat.le_of_ble_eq_true rfl) rfl (by decide +kernel) (by decide +kernel) (fun v7 M6 => ?_)
      exact yL.eq (y_ireti (pc := 78) d8_78 mr_8) yL.rf
    ·
      refine yL.eq (y_ts (c := 2) (lo' := 3) kc_2 (by decide)) ?_
      refine yL.ite (fun h8 => ?_) (fun h8 => ?_)
      ·
        refine yL.eq (y_aload_n (pc := 79) (x := c) d8_79 rfl) ?_
        refine yL.eq (y_getr (pc := 80) (r := (c + 5)) d8_80 q8_24 (((((yC_r hc)).2).2).2).2.1) ?_
        refine yL.eq (y_iload_n (pc := 83) (x := a2) d8_83 rfl) ?_
        refine yL.eq (y_aload_n (pc := 84) (x := c) d8_84 rfl) ?_
        refine yL.eq (y_getr (pc := 85) (r := (c + 5)) d8_85 q8_24 (((((yC_r hc)).2).2).2).2.1) ?_
        refine yL.eq (y_iload_n (pc := 88) (x := a2) d8_88 rfl) ?_
        refine yL.eq (y_iald (pc := 89) (n := 14) d8_89 (((((yC_a hc)).2).2).2).2.1) ?_
        refine yL.gd (fun h9 => ?_)
        refine yL.eq (y_iload_n (pc := 90) (x := a3) d8_90 rfl) ?_
        refine yL.eq (y_iload (pc := 91) (x := a4) d8_91 rfl) ?_
        refine yL.eq (y_iconst (pc := 93) (v := 1) d8_93 kc_1) ?_
        refine yL.eq (y_icmp_ne (pc := 94) (t := 101) d8_94 (by decide)) ?_
        refine yL.ite (fun h10 => ?_) (fun h10 => ?_)
        ·
          refine yL.eq (y_iconst (pc := 97) (v := 1) d8_97 kc_1) ?_
          refine yL.eq (y_goto (pc := 98) (t := 102) d8_98 (by decide)) ?_
          refine y_calls_i (pc := 102) (n := 3) (n' := 3) (nc' := 0) (ns' := 0) [.int (M (c + 5) (yx a2)), .int a3, .int 1] [.int a2, .ref (c + 5)] false d8_102 q8_108 rfl rfl rfl (Nat.le_of_ble_eq_true rfl) (Nat.le_of_ble_eq_true rfl) rfl (by decide +kernel) (by decide +kernel) (fun v12 M11 => ?_)
          refine y_iastL (pc := 105) (n := 14) d8_105 (((((yC_a hc)).2).2).2).2.1 (fun h14 M13 => ?_)
          refine yL.eq (y_aload_n (pc := 106) (x := c) d8_106 rfl) ?_
          refine yL.eq (y_getr (pc := 107) (r := (c + 5)) d8_107 q8_24 (((((yC_r hc)).2).2).2).2.1) ?_
          refine yL.eq (y_iload_n (pc := 110) (x := a2) d8_110 rfl) ?_
          refine yL.eq (y_iald (pc := 111) (n := 14) d8_111 (((((yC_a hc)).2).2).2).2.1) ?_
          refine yL.gd (fun h15 => ?_)
          refine y_calls_i (pc := 112) (n := 1) (n' := 1) (nc' := 0) (ns' := 0) [.int (M13 (c + 5) (yx a2))] [] false d8_112 q8_112 rfl rfl rfl (Nat.le_of_ble_eq_true rfl) (Nat.le_of_ble_eq_true rfl) rfl (by decide +kernel) (by decide +kernel) (fun v17 M16 => ?_)
          exact yL.eq (y_ireti (pc := 115) d8_115 mr_8) yL.rf
        ·
          refine yL.eq (y_iconst (pc := 101) (v := 0) d8_101 kc_0) ?_
          refine y_calls_i (pc := 102) (n := 3) (n' := 3) (nc' := 0) (ns' := 0) [.int (M (c + 5) (yx a2)), .int a3, .int 0] [.int a2, .ref (c + 5)] false d8_102 q8_108 rfl rfl rfl (Nat.le_of_ble_eq_true rfl) (Nat.le_of_ble_eq_true rfl) rfl (by decide +kernel) (by decide +kernel) (fun v19 M18 => ?_)
          refine y_iastL (pc := 105) (n := 14) d8_105 (((((yC_a hc)).2).2).2).2.1 (fun h21 M20 => ?_)
          refine yL.eq (y_aload_n (pc := 106) (x := c) d8_106 rfl) ?_
          refine yL.eq (y_getr (pc := 107) (r := (c + 5)) d8_107 q8_24 (((((yC_r hc)).2).2).2).2.1) ?_
          refine yL.eq (y_iload_n (pc := 110) (x := a2) d8_110 rfl) ?_
          refine yL.eq (y_iald (pc := 111) (n := 14) d8_111 (((((yC_a hc)).2).2).2).2.1) ?_
          refine yL.gd (fun h22 => ?_)
          refine y_calls_i (pc := 112) (n := 1) (n' := 1) (nc' := 0) (ns' := 0) [.int (M20 (c + 5) (yx a2))] [] false d8_112 q8_112 rfl rfl rfl (Nat.le_of_ble_eq_true rfl) (Nat.le_of_ble_eq_true rfl) rfl (by decide +kernel) (by decide +kernel) (fun v24 M23 => ?_)
          exact yL.eq (y_ireti (pc := 115) d8_115 mr_8) yL.rf
      ·
        refine yL.eq (y_ts (c := 3) (lo' := 4) kc_3 (by decide)) ?_
        refine yL.ite (fun h25 => ?_) (fun h25 => ?_)
        ·
          refine yL.eq (y_aload_n (pc := 116) (x := c) d8_116 rfl) ?_
          refine yL.eq (y_getr (pc := 117) (r := (c + 6)) d8_117 q8_27 ((((((yC_r hc)).2).2).2).2).2.1) ?_
          refine yL.eq (y_iload_n (pc := 120) (x := a2) d8_120 rfl) ?_
          refine yL.eq (y_aload_n (pc := 121) (x := c) d8_121 rfl) ?_
          refine yL.eq (y_getr (pc := 122) (r := (c + 6)) d8_122 q8_27 ((((((yC_r hc)).2).2).2).2).2.1) ?_
          refine yL.eq (y_iload_n (pc := 125) (x := a2) d8_125 rfl) ?_
          refine yL.eq (y_iald (pc := 126) (n := 14) d8_126 ((((((yC_a hc)).2).2).2).2).2.1) ?_
          refine yL.gd (fun h26 => ?_)
          refine yL.eq (y_iload_n (pc := 127) (x := a3) d8_127 rfl) ?_
          refine yL.eq (y_iload (pc := 128) (x := a4) d8_128 rfl) ?_
          refine yL.eq (y_iconst (pc := 130) (v := 1) d8_130 kc_1) ?_
          refine yL.eq (y_icmp_ne (pc := 131) (t := 138) d8_131 (by decide)) ?_
          refine yL.ite (fun h27 => ?_) (fun h27 => ?_)
          ·
            refine yL.eq (y_iconst (pc := 134) (v := 1) d8_134 kc_1) ?_
            refine yL.eq (y_goto (pc := 135) (t := 139) d8_135 (by decide)) ?_
            refine y_calls_i (pc := 139) (n := 3) (n' := 3) (nc' := 0) (ns' := 0) [.int (M (c + 6) (yx a2)), .int a3, .int 1] [.int a2, .ref (c + 6)] false d8_139 q8_108 rfl rfl rfl (Nat.le_of_ble_eq_true rfl) (Nat.le_of_ble_eq_true rfl) rfl (by decide +kernel) (by decide +kernel) (fun v29 M28 => ?_)
            refine y_iastL (pc := 142) (n := 14) d8_142 ((((((yC_a hc)).2).2).2).2).2.1 (fun h31 M30 => ?_)
            refine yL.eq (y_aload_n (pc := 143) (x := c) d8_143 rfl) ?_
            refine yL.eq (y_getr (pc := 144) (r := (c + 6)) d8_144 q8_27 ((((((yC_r hc)).2).2).2).2).2.1) ?_
            refine yL.eq (y_iload_n (pc := 147) (x := a2) d8_147 rfl) ?_
            refine yL.eq (y_iald (pc := 148) (n := 14) d8_148 ((((((yC_a hc)).2).2).2).2).2.1) ?_
            refine yL.gd (fun h32 => ?_)
            refine y_calls_i (pc := 149) (n := 1) (n' := 1) (nc' := 0) (ns' := 0) [.int (M30 (c + 6) (yx a2))] [] false d8_149 q8_112 rfl rfl rfl (Nat.le_of_ble_eq_true rfl) (Nat.le_of_ble_eq_true rfl) rfl (by decide +kernel) (by decide +kernel) (fun v34 M33 => ?_)
            exact yL.eq (y_ireti (pc := 152) d8_152 mr_8) yL.rf
          ·
            refine yL.eq (y_iconst (pc := 138) (v := 0) d8_138 kc_0) ?_
            refine y_calls_i (pc := 139) (n := 3) (n' := 3) (nc' := 0) (ns' := 0) [.int (M (c + 6) (yx a2)), .int a3, .int 0] [.int a2, .ref (c + 6)] false d8_139 q8_108 rfl rfl rfl (Nat.le_of_ble_eq_true rfl) (Nat.le_of_ble_eq_true rfl) rfl (by decide +kernel) (by decide +kernel) (fun v36 M35 => ?_)
            refine y_iastL (pc := 142) (n := 14) d8_142 ((((((yC_a hc)).2).2).2).2).2.1 (fun h38 M37 => ?_)
            refine yL.eq (y_aload_n (pc := 143) (x := c) d8_143 rfl) ?_
            refine yL.eq (y_getr (pc := 144) (r := (c + 6)) d8_144 q8_27 ((((((yC_r hc)).2).2).2).2).2.1) ?_
            refine yL.eq (y_iload_n (pc := 147) (x := a2) d8_147 rfl) ?_
            refine yL.eq (y_iald (pc := 148) (n := 14) d8_148 ((((((yC_a hc)).2).2).2).2).2.1) ?_
            refine yL.gd (fun h39 => ?_)
            refine y_calls_i (pc := 149) (n := 1) (n' := 1) (nc' := 0) (ns' := 0) [.int (M37 (c + 6) (yx a2))] [] false d8_149 q8_112 rfl rfl rfl (Nat.le_of_ble_eq_true rfl) (Nat.le_of_ble_eq_true rfl) rfl (by decide +kernel) (by decide +kernel) (fun v41 M40 => ?_)
            exact yL.eq (y_ireti (pc := 152) d8_152 mr_8) yL.rf
        ·
          refine yL.eq (y_ts (c := 4) (lo' := 5) kc_4 (by decide)) ?_
          refine yL.ite (fun h42 => ?_) (fun h42 => ?_)
          ·
            refine yL.eq (y_aload_n (pc := 153) (x := c) d8_153 rfl) ?_
            refine yL.eq (y_getr (pc := 154) (r := (c + 7)) d8_154 q8_30 (((((((yC_r hc)).2).2).2).2).2).2.1) ?_
            refine yL.eq (y_iload_n (pc := 157) (x := a2) d8_157 rfl) ?_
            refine yL.eq (y_iload_n (pc := 158) (x := a3) d8_158 rfl) ?_
            refine y_calls_i (pc := 159) (n := 3) (n' := 4) (nc' := 0) (ns' := 0) [.ref (c + 7), .int a2, .int a3] [] false d8_159 q8_117 rfl rfl rfl (Nat.le_of_ble_eq_true rfl) (Nat.le_of_ble_eq_true rfl) rfl (by decide +kernel) (by decide +kernel) (fun v44 M43 => ?_)
            exact yL.eq (y_ireti (pc := 162) d8_162 mr_8) yL.rf
          ·
            refine yL.eq (y_ts (c := 5) (lo' := 6) kc_5 (by decide)) ?_
            refine yL.ite (fun h45 => ?_) (fun h45 => ?_)
            ·
              refine yL.eq (y_aload_n (pc := 163) (x := c) d8_163 rfl) ?_
              refine yL.eq (y_iload_n (pc := 164) (x := a2) d8_164 rfl) ?_
              refine y_putiL (pc := 165) d8_165 q8_46 (((yC_i hc)).2).2.1 rfl (fun M46 => ?_)
              refine yL.eq (y_aload_n (pc := 168) (x := c) d8_168 rfl) ?_
              refine yL.eq (y_iload_n (pc := 169) (x := a3) d8_169 rfl) ?_
              refine y_putiL (pc := 170) d8_170 q8_49 ((((yC_i hc)).2).2).2 rfl (fun M47 => ?_)
              refine yL.eq (y_aload_n (pc := 173) (x := c) d8_173 rfl) ?_
              refine yL.eq (y_geti (pc := 174) d8_174 q8_49 ((((yC_i hc)).2).2).2) ?_
              exact yL.eq (y_ireti (pc := 177) d8_177 mr_8) yL.rf
            ·
              refine yL.eq (y_ts (c := 6) (lo' := 7) kc_6 (by decide)) ?_
              refine yL.ite (fun h48 => ?_) (fun h48 => ?_)
              ·
                refine yL.eq (y_aload_n (pc := 178) (x := c) d8_178 rfl) ?_
                refine yL.eq (y_getr (pc := 179) (r := (c + 8)) d8_179 q8_33 ((((((((yC_r hc)).2).2).2).2).2).2).2) ?_
                refine yL.eq (y_iload_n (pc := 182) (x := a2) d8_182 rfl) ?_
                refine yL.eq (y_iload_n (pc := 183) (x := a3) d8_183 rfl) ?_
                refine y_calls_i (pc := 184) (n := 3) (n' := 4) (nc' := 0) (ns' := 0) [.ref (c + 8), .int a2, .int a3] [] false d8_184 q8_117 rfl rfl rfl (Nat.le_of_ble_eq_true rfl) (Nat.le_of_ble_eq_true rfl) rfl (by decide +kernel) (by decide +kernel) (fun v50 M49 => ?_)
                exact yL.eq (y_ireti (pc := 187) d8_187 mr_8) yL.rf
              ·
                refine yL.eq (y_ts (c := 7) (lo' := 8) kc_7 (by decide)) ?_
                refine yL.ite (fun h51 => ?_) (fun h51 => ?_)
                ·
                  refine yL.eq (y_aload_n (pc := 188) (x := c) d8_188 rfl) ?_
                  refine yL.eq (y_getr (pc := 189) (r := (c + 1)) d8_189 q8_9 (yC_r hc).1) ?_
                  refine yL.eq (y_iload_n (pc := 192) (x := a2) d8_192 rfl) ?_
                  refine yL.eq (y_iload_n (pc := 193) (x := a3) d8_193 rfl) ?_
                  refine y_calls_i (pc := 194) (n := 3) (n' := 4) (nc' := 0) (ns' := 0) [.ref (c + 1), .int a2, .int a3] [] false d8_194 q8_117 rfl rfl rfl (Nat.le_of_ble_eq_true rfl) (Nat.le_of_ble_eq_true rfl) rfl (by decide +kernel) (by decide +kernel) (fun v53 M52 => ?_)
                  exact yL.eq (y_ireti (pc := 197) d8_197 mr_8) yL.rf
                ·
                  refine yL.eq y_tsn ?_
                  refine yL.eq (y_aload_n (pc := 198) (x := c) d8_198 rfl) ?_
                  refine yL.eq (y_getr (pc := 199) (r := (c + 2)) d8_199 q8_15 ((yC_r hc)).2.1) ?_
                  refine yL.eq (y_iload_n (pc := 202) (x := a2) d8_202 rfl) ?_
                  refine yL.eq (y_iload_n (pc := 203) (x := a3) d8_203 rfl) ?_
                  refine y_calls_i (pc := 204) (n := 3) (n' := 4) (nc' := 0) (ns' := 0) [.ref (c + 2), .int a2, .int a3] [] false d8_204 q8_117 rfl rfl rfl (Nat.le_of_ble_eq_true rfl) (Nat.le_of_ble_eq_true rfl) rfl (by decide +kernel) (by decide +kernel) (fun v55 M54 => ?_)
                  exact yL.eq (y_ireti (pc := 207) d8_207 mr_8) yL.rf
set_option maxRecDepth 20000 in
set_option maxHeartbeats 4000000 in
theorem e9 {c : Nat} {a1 : Int32} {a2 : Int32} {a3 : Int32} (hc : yC c) {M : yM} : yL (if yinB (M c 1) 14 = true then yLet (yU M (c + 2) (yx (M c 1)) a1) fun M1 => if yinB (M1 c 1) 14 = true then yLet (yU M1 (c + 3) (yx (M1 c 1)) a2) fun M3 => if yinB (M3 c 1) 14 = true then yLet (yU M3 (c + 4) (yx (M3 c 1)) a3) fun M5 => if yinB (M5 c 1) 14 = true then yLet (yU M5 (c + 5) (yx (M5 c 1)) 0) fun M7 => if yinB (M7 c 1) 14 = true then yLet (yU M7 (c + 6) (yx (M7 c 1)) 0) fun M9 => yLet (yU M9 c 1 ((M9 c 1) + 1)) fun M11 => yI (M9 c 1) M11 else none else none else none else none else none) (yX 9 0 [some (.ref c), some (.int a1), some (.int a2), some (.int a3)] [] M 0 0) := by
  refine yL.eq (y_aload_n (pc := 0) (x := c) d9_0 rfl) ?_
  refine yL.eq (y_getr (pc := 1) (r := (c + 2)) d9_1 q9_15 ((yC_r hc)).2.1) ?_
  refine yL.eq (y_aload_n (pc := 4) (x := c) d9_4 rfl) ?_
  refine yL.eq (y_geti (pc := 5) d9_5 q9_43 ((yC_i hc)).2.1) ?_
  refine yL.eq (y_iload_n (pc := 8) (x := a1) d9_8 rfl) ?_
  refine y_iastL (pc := 9) (n := 14) d9_9 ((yC_a hc)).2.1 (fun h2 M1 => ?_)
  refine yL.eq (y_aload_n (pc := 10) (x := c) d9_10 rfl) ?_
  refine yL.eq (y_getr (pc := 11) (r := (c + 3)) d9_11 q9_18 (((yC_r hc)).2).2.1) ?_
  refine yL.eq (y_aload_n (pc := 14) (x := c) d9_14 rfl) ?_
  refine yL.eq (y_geti (pc := 15) d9_15 q9_43 ((yC_i hc)).2.1) ?_
  refine yL.eq (y_iload_n (pc := 18) (x := a2) d9_18 rfl) ?_
  refine y_iastL (pc := 19) (n := 14) d9_19 (((yC_a hc)).2).2.1 (fun h4 M3 => ?_)
  refine yL.eq (y_aload_n (pc := 20) (x := c) d9_20 rfl) ?_
  refine yL.eq (y_getr (pc := 21) (r := (c + 4)) d9_21 q9_21 ((((yC_r hc)).2).2).2.1) ?_
  refine yL.eq (y_aload_n (pc := 24) (x := c) d9_24 rfl) ?_
  refine yL.eq (y_geti (pc := 25) d9_25 q9_43 ((yC_i hc)).2.1) ?_
  refine yL.eq (y_iload_n (pc := 28) (x := a3) d9_28 rfl) ?_
  refine y_iastL (pc := 29) (n := 14) d9_29 ((((yC_a hc)).2).2).2.1 (fun h6 M5 => ?_)
  refine yL.eq (y_aload_n (pc := 30) (x := c) d9_30 rfl) ?_
  refine yL.eq (y_getr (pc := 31) (r := (c + 5)) d9_31 q9_24 (((((yC_r hc)).2).2).2).2.1) ?_
  refine yL.eq (y_aload_n (pc := 34) (x := c) d9_34 rfl) ?_
  refine yL.eq (y_geti (pc := 35) d9_35 q9_43 ((yC_i hc)).2.1) ?_
  refine yL.eq (y_iconst (pc := 38) (v := 0) d9_38 kc_0) ?_
  refine y_iastL (pc := 39) (n := 14) d9_39 (((((yC_a hc)).2).2).2).2.1 (fun h8 M7 => ?_)
  refine yL.eq (y_aload_n (pc := 40) (x := c) d9_40 rfl) ?_
  refine yL.eq (y_getr (pc := 41) (r := (c + 6)) d9_41 q9_27 ((((((yC_r hc)).2).2).2).2).2.1) ?_
  refine yL.eq (y_aload_n (pc := 44) (x := c) d9_44 rfl) ?_
  refine yL.eq (y_geti (pc := 45) d9_45 q9_43 ((yC_i hc)).2.1) ?_
  refine yL.eq (y_iconst (pc := 48) (v := 0) d9_48 kc_0) ?_
  refine y_iastL (pc := 49) (n := 14) d9_49 ((((((yC_a hc)).2).2).2).2).2.1 (fun h10 M9 => ?_)
  refine yL.eq (y_aload_n (pc := 50) (x := c) d9_50 rfl) ?_
  refine yL.eq (y_dup (pc := 51) d9_51 rfl) ?_
  refine yL.eq (y_geti (pc := 52) d9_52 q9_43 ((yC_i hc)).2.1) ?_
  refine yL.eq (y_dup_x1 (pc := 55) d9_55 rfl) ?_
  refine yL.eq (y_iconst (pc := 56) (v := 1) d9_56 kc_1) ?_
  refine yL.eq (y_iadd (pc := 57) d9_57) ?_
  refine y_putiL (pc := 58) d9_58 q9_43 ((yC_i hc)).2.1 rfl (fun M11 => ?_)
  exact yL.eq (y_ireti (pc := 61) d9_61 mr_9) yL.rf
set_option maxRecDepth 20000 in
set_option maxHeartbeats 4000000 in
theorem e10 {q n : Nat} {a1 : Int32} {a2 : Int32} (hq : ySa q 0 n) {M : yM} : yL (if yinB a1 n = true then if yinB a1 n = true then yLet (yU M q (yx a1) a2) fun M2 => yI (M q (yx a1)) M2 else none else none) (yX 10 0 [some (.ref q), some (.int a1), some (.int a2), none] [] M 0 0) := by
  refine yL.eq (y_aload_n (pc := 0) (x := q) d10_0 rfl) ?_
  refine yL.eq (y_iload_n (pc := 1) (x := a1) d10_1 rfl) ?_
  refine yL.eq (y_iald (pc := 2) (n := n) d10_2 hq) ?_
  refine yL.gd (fun h1 => ?_)
  refine yL.eq (y_istore_n (pc := 3) (ls' := [some (.ref q), some (.int a1), some (.int a2), some (.int (M q (yx a1)))]) d10_3 rfl rfl) ?_
  refine yL.eq (y_aload_n (pc := 4) (x := q) d10_4 rfl) ?_
  refine yL.eq (y_iload_n (pc := 5) (x := a1) d10_5 rfl) ?_
  refine yL.eq (y_iload_n (pc := 6) (x := a2) d10_6 rfl) ?_
  refine y_iastL (pc := 7) (n := n) d10_7 hq (fun h3 M2 => ?_)
  refine yL.eq (y_iload_n (pc := 8) (x := (M q (yx a1))) d10_8 rfl) ?_
  exact yL.eq (y_ireti (pc := 9) d10_9 mr_10) yL.rf
set_option maxRecDepth 20000 in
set_option maxHeartbeats 4000000 in
theorem e11 {c : Nat} {a1 : Int32} {a2 : Int32} (hc : yC c) {M : yM} : yL (if (M c 2) < 1 then yI 1 M else if yinB a1 12 = true then if (M c 2) = 0 then none else if (((M (c + 1) (yx a1)) * a2) / (M c 2)) < 1 then yI 1 M else yI (((M (c + 1) (yx a1)) * a2) / (M c 2)) M else none) (yX 11 0 [some (.ref c), some (.int a1), some (.int a2), none] [] M 0 0) := by
  refine yL.eq (y_aload_n (pc := 0) (x := c) d11_0 rfl) ?_
  refine yL.eq (y_geti (pc := 1) d11_1 q11_46 (((yC_i hc)).2).2.1) ?_
  refine yL.eq (y_iconst (pc := 4) (v := 1) d11_4 kc_1) ?_
  refine yL.eq (y_icmp_ge (pc := 5) (t := 12) d11_5 (by decide)) ?_
  refine yL.ite (fun h1 => ?_) (fun h1 => ?_)
  ·
    refine yL.eq (y_iconst (pc := 8) (v := 0) d11_8 kc_0) ?_
    refine yL.eq (y_goto (pc := 9) (t := 25) d11_9 (by decide)) ?_
    refine yL.eq (y_istore_n (pc := 25) (ls' := [some (.ref c), some (.int a1), some (.int a2), some (.int 0)]) d11_25 rfl rfl) ?_
    refine yL.eq (y_iload_n (pc := 26) (x := 0) d11_26 rfl) ?_
    refine yL.eq (y_iconst (pc := 27) (v := 1) d11_27 kc_1) ?_
    refine yL.eq (y_icmp_ge (pc := 28) (t := 35) d11_28 (by decide)) ?_
    refine yL.eq (if_pos cp_Int32_0_lt_1) ?_
    refine yL.eq (y_iconst (pc := 31) (v := 1) d11_31 kc_1) ?_
    refine yL.eq (y_goto (pc := 32) (t := 36) d11_32 (by decide)) ?_
    exact yL.eq (y_ireti (pc := 36) d11_36 mr_11) yL.rf
  ·
    refine yL.eq (y_aload_n (pc := 12) (x := c) d11_12 rfl) ?_
    refine yL.eq (y_getr (pc := 13) (r := (c + 1)) d11_13 q11_9 (yC_r hc).1) ?_
    refine yL.eq (y_iload_n (pc := 16) (x := a1) d11_16 rfl) ?_
    refine yL.eq (y_iald (pc := 17) (n := 12) d11_17 (yC_a hc).1) ?_
    refine yL.gd (fun h2 => ?_)
    refine yL.eq (y_iload_n (pc := 18) (x := a2) d11_18 rfl) ?_
    refine yL.eq (y_imul (pc := 19) d11_19) ?_
    refine yL.eq (y_aload_n (pc := 20) (x := c) d11_20 rfl) ?_
    refine yL.eq (y_geti (pc := 21) d11_21 q11_46 (((yC_i hc)).2).2.1) ?_
    refine yL.eq (y_idiv (pc := 24) d11_24) ?_
    refine yL.gn (fun h3 => ?_)
    refine yL.eq (y_istore_n (pc := 25) (ls' := [some (.ref c), some (.int a1), some (.int a2), some (.int (((M (c + 1) (yx a1)) * a2) / (M c 2)))]) d11_25 rfl rfl) ?_
    refine yL.eq (y_iload_n (pc := 26) (x := (((M (c + 1) (yx a1)) * a2) / (M c 2))) d11_26 rfl) ?_
    refine yL.eq (y_iconst (pc := 27) (v := 1) d11_27 kc_1) ?_
    refine yL.eq (y_icmp_ge (pc := 28) (t := 35) d11_28 (by decide)) ?_
    refine yL.ite (fun h4 => ?_) (fun h4 => ?_)
    ·
      refine yL.eq (y_iconst (pc := 31) (v := 1) d11_31 kc_1) ?_
      refine yL.eq (y_goto (pc := 32) (t := 36) d11_32 (by decide)) ?_
      exact yL.eq (y_ireti (pc := 36) d11_36 mr_11) yL.rf
    ·
      refine yL.eq (y_iload_n (pc := 35) (x := (((M (c + 1) (yx a1)) * a2) / (M c 2))) d11_35 rfl) ?_
      exact yL.eq (y_ireti (pc := 36) d11_36 mr_11) yL.rf
set_option maxRecDepth 20000 in
set_option maxHeartbeats 4000000 in
theorem e12 {c : Nat} {a1 : Int32} {a2 : Int32} (hc : yC c) {M : yM} : yL (yCi false (yX 13 0 [some (.ref c), none] [] M 0 0) fun v2 M1 => if yinB v2 4 = true then yCi false (yX 11 0 [some (.ref c), some (.int a1), some (.int a2), none] [] M1 0 0) fun v5 M4 => if (M4 (c + 8) 1) = 0 then if (xsR0 4 (yx v2)) = 0 then none else if (v5 / (xsR0 4 (yx v2))) < 1 then yI (xsR0 4 (yx v2)) M4 else yI ((v5 / (xsR0 4 (yx v2))) * (xsR0 4 (yx v2))) M4 else if (M4 (c + 8) 1) = 1 then if (2 * (xsR0 4 (yx v2))) = 0 then none else if (((2 * v5) + (xsR0 4 (yx v2))) / (2 * (xsR0 4 (yx v2)))) < 1 then yI (xsR0 4 (yx v2)) M4 else yI ((((2 * v5) + (xsR0 4 (yx v2))) / (2 * (xsR0 4 (yx v2)))) * (xsR0 4 (yx v2))) M4 else if (xsR0 4 (yx v2)) = 0 then none else if (((v5 + (xsR0 4 (yx v2))) - 1) / (xsR0 4 (yx v2))) < 1 then yI (xsR0 4 (yx v2)) M4 else yI ((((v5 + (xsR0 4 (yx v2))) - 1) / (xsR0 4 (yx v2))) * (xsR0 4 (yx v2))) M4 else none) (yX 12 0 [some (.ref c), some (.int a1), some (.int a2), none, none, none] [] M 0 0) := by
  refine yL.eq (y_gets (pc := 0) d12_0 q12_121) ?_
  refine yL.eq (y_aload_n (pc := 3) (x := c) d12_3 rfl) ?_
  refine y_callv_i (pc := 4) (n := 1) (n' := 2) (nc' := 0) (ns' := 0) [] [.ref 4] false d12_4 q12_124 mk_13 (yC_t hc) rfl rfl (Nat.le_of_ble_eq_true rfl) (Nat.le_of_ble_eq_true rfl) rfl (by decide +kernel) (by decide +kernel) (fun v2 M1 => ?_)
  refine yL.eq (y_iald1 (pc := 7) (n := 4) d12_7 s_g_4) ?_
  refine yL.gd (fun h3 => ?_)
  refine yL.eq (y_istore_n (pc := 8) (ls' := [some (.ref c), some (.int a1), some (.int a2), some (.int (xsR0 4 (yx v2))), none, none]) d12_8 rfl rfl) ?_
  refine yL.eq (y_aload_n (pc := 9) (x := c) d12_9 rfl) ?_
  refine yL.eq (y_iload_n (pc := 10) (x := a1) d12_10 rfl) ?_
  refine yL.eq (y_iload_n (pc := 11) (x := a2) d12_11 rfl) ?_
  refine y_callv_i (pc := 12) (n := 3) (n' := 4) (nc' := 0) (ns' := 0) [.int a1, .int a2] [] false d12_12 q12_128 mk_11 (yC_t hc) rfl rfl (Nat.le_of_ble_eq_true rfl) (Nat.le_of_ble_eq_true rfl) rfl (by decide +kernel) (by decide +kernel) (fun v5 M4 => ?_)
  refine yL.eq (y_istore (pc := 15) (ls' := [some (.ref c), some (.int a1), some (.int a2), some (.int (xsR0 4 (yx v2))), some (.int v5), none]) d12_15 rfl rfl) ?_
  refine yL.eq (y_aload_n (pc := 17) (x := c) d12_17 rfl) ?_
  refine yL.eq (y_getr (pc := 18) (r := (c + 8)) d12_18 q12_33 ((((((((yC_r hc)).2).2).2).2).2).2).2) ?_
  refine yL.eq (y_iconst (pc := 21) (v := 1) d12_21 kc_1) ?_
  refine yL.eq (y_iald (pc := 22) (n := 5) d12_22 ((((((((yC_a hc)).2).2).2).2).2).2).2) ?_
  refine yL.eq (if_pos in_1_5) ?_
  show yL _ (yX 12 23 [some (.ref c), some (.int a1), some (.int a2), some (.int (xsR0 4 (yx v2))), some (.int v5), none] ([.int (M4 (c + 8) 1)]) M4 0 0)
  refine yL.eq (y_if_ne (pc := 23) (t := 35) d12_23 (by decide)) ?_
  refine yL.ite (fun h6 => ?_) (fun h6 => ?_)
  ·
    refine yL.eq (y_iload (pc := 26) (x := v5) d12_26 rfl) ?_
    refine yL.eq (y_iload_n (pc := 28) (x := (xsR0 4 (yx v2))) d12_28 rfl) ?_
    refine yL.eq (y_idiv (pc := 29) d12_29) ?_
    refine yL.gn (fun h7 => ?_)
    refine yL.eq (y_istore (pc := 30) (ls' := [some (.ref c), some (.int a1), some (.int a2), some (.int (xsR0 4 (yx v2))), some (.int v5), some (.int (v5 / (xsR0 4 (yx v2))))]) d12_30 rfl rfl) ?_
    refine yL.eq (y_goto (pc := 32) (t := 70) d12_32 (by decide)) ?_
    refine yL.eq (y_iload (pc := 70) (x := (v5 / (xsR0 4 (yx v2)))) d12_70 rfl) ?_
    refine yL.eq (y_iconst (pc := 72) (v := 1) d12_72 kc_1) ?_
    refine yL.eq (y_icmp_ge (pc := 73) (t := 80) d12_73 (by decide)) ?_
    refine yL.ite (fun h8 => ?_) (fun h8 => ?_)
    ·
      refine yL.eq (y_iload_n (pc := 76) (x := (xsR0 4 (yx v2))) d12_76 rfl) ?_
      refine yL.eq (y_goto (pc := 77) (t := 84) d12_77 (by decide)) ?_
      exact yL.eq (y_ireti (pc := 84) d12_84 mr_12) yL.rf
    ·
      refine yL.eq (y_iload (pc := 80) (x := (v5 / (xsR0 4 (yx v2)))) d12_80 rfl) ?_
      refine yL.eq (y_iload_n (pc := 82) (x := (xsR0 4 (yx v2))) d12_82 rfl) ?_
      refine yL.eq (y_imul (pc := 83) d12_83) ?_
      exact yL.eq (y_ireti (pc := 84) d12_84 mr_12) yL.rf
  ·
    refine yL.eq (y_aload_n (pc := 35) (x := c) d12_35 rfl) ?_
    refine yL.eq (y_getr (pc := 36) (r := (c + 8)) d12_36 q12_33 ((((((((yC_r hc)).2).2).2).2).2).2).2) ?_
    refine yL.eq (y_iconst (pc := 39) (v := 1) d12_39 kc_1) ?_
    refine yL.eq (y_iald (pc := 40) (n := 5) d12_40 ((((((((yC_a hc)).2).2).2).2).2).2).2) ?_
    refine yL.eq (if_pos in_1_5) ?_
    show yL _ (yX 12 41 [some (.ref c), some (.int a1), some (.int a2), some (.int (xsR0 4 (yx v2))), some (.int v5), none] ([.int (M4 (c + 8) 1)]) M4 0 0)
    refine yL.eq (y_iconst (pc := 41) (v := 1) d12_41 kc_1) ?_
    refine yL.eq (y_icmp_ne (pc := 42) (t := 60) d12_42 (by decide)) ?_
    refine yL.ite (fun h9 => ?_) (fun h9 => ?_)
    ·
      refine yL.eq (y_iconst (pc := 45) (v := 2) d12_45 kc_2) ?_
      refine yL.eq (y_iload (pc := 46) (x := v5) d12_46 rfl) ?_
      refine yL.eq (y_imul (pc := 48) d12_48) ?_
      refine yL.eq (y_iload_n (pc := 49) (x := (xsR0 4 (yx v2))) d12_49 rfl) ?_
      refine yL.eq (y_iadd (pc := 50) d12_50) ?_
      refine yL.eq (y_iconst (pc := 51) (v := 2) d12_51 kc_2) ?_
      refine yL.eq (y_iload_n (pc := 52) (x := (xsR0 4 (yx v2))) d12_52 rfl) ?_
      refine yL.eq (y_imul (pc := 53) d12_53) ?_
      refine yL.eq (y_idiv (pc := 54) d12_54) ?_
      refine yL.gn (fun h10 => ?_)
      refine yL.eq (y_istore (pc := 55) (ls' := [some (.ref c), some (.int a1), some (.int a2), some (.int (xsR0 4 (yx v2))), some (.int v5), some (.int (((2 * v5) + (xsR0 4 (yx v2))) / (2 * (xsR0 4 (yx v2)))))]) d12_55 rfl rfl) ?_
      refine yL.eq (y_goto (pc := 57) (t := 70) d12_57 (by decide)) ?_
      refine yL.eq (y_iload (pc := 70) (x := (((2 * v5) + (xsR0 4 (yx v2))) / (2 * (xsR0 4 (yx v2))))) d12_70 rfl) ?_
      refine yL.eq (y_iconst (pc := 72) (v := 1) d12_72 kc_1) ?_
      refine yL.eq (y_icmp_ge (pc := 73) (t := 80) d12_73 (by decide)) ?_
      refine yL.ite (fun h11 => ?_) (fun h11 => ?_)
      ·
        refine yL.eq (y_iload_n (pc := 76) (x := (xsR0 4 (yx v2))) d12_76 rfl) ?_
        refine yL.eq (y_goto (pc := 77) (t := 84) d12_77 (by decide)) ?_
        exact yL.eq (y_ireti (pc := 84) d12_84 mr_12) yL.rf
      ·
        refine yL.eq (y_iload (pc := 80) (x := (((2 * v5) + (xsR0 4 (yx v2))) / (2 * (xsR0 4 (yx v2))))) d12_80 rfl) ?_
        refine yL.eq (y_iload_n (pc := 82) (x := (xsR0 4 (yx v2))) d12_82 rfl) ?_
        refine yL.eq (y_imul (pc := 83) d12_83) ?_
        exact yL.eq (y_ireti (pc := 84) d12_84 mr_12) yL.rf
    ·
      refine yL.eq (y_iload (pc := 60) (x := v5) d12_60 rfl) ?_
      refine yL.eq (y_iload_n (pc := 62) (x := (xsR0 4 (yx v2))) d12_62 rfl) ?_
      refine yL.eq (y_iadd (pc := 63) d12_63) ?_
      refine yL.eq (y_iconst (pc := 64) (v := 1) d12_64 kc_1) ?_
      refine yL.eq (y_isub (pc := 65) d12_65) ?_
      refine yL.eq (y_iload_n (pc := 66) (x := (xsR0 4 (yx v2))) d12_66 rfl) ?_
      refine yL.eq (y_idiv (pc := 67) d12_67) ?_
      refine yL.gn (fun h12 => ?_)
      refine yL.eq (y_istore (pc := 68) (ls' := [some (.ref c), some (.int a1), some (.int a2), some (.int (xsR0 4 (yx v2))), some (.int v5), some (.int (((v5 + (xsR0 4 (yx v2))) - 1) / (xsR0 4 (yx v2))))]) d12_68 rfl rfl) ?_
      refine yL.eq (y_iload (pc := 70) (x := (((v5 + (xsR0 4 (yx v2))) - 1) / (xsR0 4 (yx v2)))) d12_70 rfl) ?_
      refine yL.eq (y_iconst (pc := 72) (v := 1) d12_72 kc_1) ?_
      refine yL.eq (y_icmp_ge (pc := 73) (t := 80) d12_73 (by decide)) ?_
      refine yL.ite (fun h13 => ?_) (fun h13 => ?_)
      ·
        refine yL.eq (y_iload_n (pc := 76) (x := (xsR0 4 (yx v2))) d12_76 rfl) ?_
        refine yL.eq (y_goto (pc := 77) (t := 84) d12_77 (by decide)) ?_
        exact yL.eq (y_ireti (pc := 84) d12_84 mr_12) yL.rf
      ·
        refine yL.eq (y_iload (pc := 80) (x := (((v5 + (xsR0 4 (yx v2))) - 1) / (xsR0 4 (yx v2)))) d12_80 rfl) ?_
        refine yL.eq (y_iload_n (pc := 82) (x := (xsR0 4 (yx v2))) d12_82 rfl) ?_
        refine yL.eq (y_imul (pc := 83) d12_83) ?_
        exact yL.eq (y_ireti (pc := 84) d12_84 mr_12) yL.rf
set_option maxRecDepth 20000 in
set_option maxHeartbeats 4000000 in
theorem e13 {c : Nat} (hc : yC c) {M : yM} : yL (yX 13 2 [some (.ref c), some (.int 0)] [] M 0 0) (yX 13 0 [some (.ref c), none] [] M 0 0) := by
  refine yL.eq (y_iconst (pc := 0) (v := 0) d13_0 kc_0) ?_
  refine yL.eq (y_istore_n (pc := 1) (ls' := [some (.ref c), some (.int 0)]) d13_1 rfl rfl) ?_
  exact yL.rf
set_option maxRecDepth 20000 in
set_option maxHeartbeats 4000000 in
theorem e13_2 {c : Nat} {x1 : Int32} (hc : yC c) {M : yM} : yL (if x1 < 4 then yCi false (yX 99 0 [some (.int (M (c + 8) 0)), some (.int x1)] [] M 0 0) fun v3 M2 => if v3 = 0 then yX 13 2 [some (.ref c), some (.int (x1 + 1))] [] M2 0 0 else yI x1 M2 else yI 0 M) (yX 13 2 [some (.ref c), some (.int x1)] [] M 0 0) := by
  refine yL.eq (y_iload_n (pc := 2) (x := x1) d13_2 rfl) ?_
  refine yL.eq (y_iconst (pc := 3) (v := 4) d13_3 kc_4) ?_
  refine yL.eq (y_icmp_ge (pc := 4) (t := 28) d13_4 (by decide)) ?_
  refine yL.ite (fun h1 => ?_) (fun h1 => ?_)
  ·
    refine yL.eq (y_aload_n (pc := 7) (x := c) d13_7 rfl) ?_
    refine yL.eq (y_getr (pc := 8) (r := (c + 8)) d13_8 q13_33 ((((((((yC_r hc)).2).2).2).2).2).2).2) ?_
    refine yL.eq (y_iconst (pc := 11) (v := 0) d13_11 kc_0) ?_
    refine yL.eq (y_iald (pc := 12) (n := 5) d13_12 ((((((((yC_a hc)).2).2).2).2).2).2).2) ?_
    refine yL.eq (if_pos in_0_5) ?_
    show yL _ (yX 13 13 [some (.ref c), some (.int x1)] ([.int (M (c + 8) 0)]) M 0 0)
    refine yL.eq (y_iload_n (pc := 13) (x := x1) d13_13 rfl) ?_
    refine y_calls_i (pc := 14) (n := 2) (n' := 2) (nc' := 0) (ns' := 0) [.int (M (c + 8) 0), .int x1] [] false d13_14 q13_88 rfl rfl rfl (Nat.le_of_ble_eq_true rfl) (Nat.le_of_ble_eq_true rfl) rfl (by decide +kernel) (by decide +kernel) (fun v3 M2 => ?_)
    refine yL.eq (y_if_eq (pc := 17) (t := 22) d13_17 (by decide)) ?_
    refine yL.ite (fun h4 => ?_) (fun h4 => ?_)
    ·
      refine yL.eq (y_iinc (pc := 22) (v := 1) (x := x1) (ls' := [some (.ref c), some (.int (x1 + 1))]) d13_22 kc_1 rfl (Nat.le_of_ble_eq_true rfl) rfl) ?_
      refine yL.eq (y_goto (pc := 25) (t := 2) d13_25 (by decide)) ?_
      exact yL.rf
    ·
      refine yL.eq (y_iload_n (pc := 20) (x := x1) d13_20 rfl) ?_
      exact yL.eq (y_ireti (pc := 21) d13_21 mr_13) yL.rf
  ·
    refine yL.eq (y_iconst (pc := 28) (v := 0) d13_28 kc_0) ?_
    exact yL.eq (y_ireti (pc := 29) d13_29 mr_13) yL.rf
set_option maxRecDepth 20000 in
set_option maxHeartbeats 4000000 in
theorem e14 {c : Nat} {a1 : Int32} {a2 : Int32} {a3 : Int32} (hc : yC c) {M : yM} : yL (yCi false (yX 12 0 [some (.ref c), some (.int a1), some (.int a2), none, none, none] [] M 0 0) fun v2 M1 => yX 14 14 [some (.ref c), some (.int a1), some (.int a2), some (.int a3), some (.int v2), some (.int 0), some (.int 3)] [] M1 0 0) (yX 14 0 [some (.ref c), some (.int a1), some (.int a2), some (.int a3), none, none, none] [] M 0 0) := by
  refine yL.eq (y_aload_n (pc := 0) (x := c) d14_0 rfl) ?_
  refine yL.eq (y_iload_n (pc := 1) (x := a1) d14_1 rfl) ?_
  refine yL.eq (y_iload_n (pc := 2) (x := a2) d14_2 rfl) ?_
  refine y_callv_i (pc := 3) (n := 3) (n' := 6) (nc' := 0) (ns' := 0) [.int a1, .int a2] [] false d14_3 q14_132 mk_12 (yC_t hc) rfl rfl (Nat.le_of_ble_eq_true rfl) (Nat.le_of_ble_eq_true rfl) rfl (by decide +kernel) (by decide +kernel) (fun v2 M1 => ?_)
  refine yL.eq (y_istore (pc := 6) (ls' := [some (.ref c), some (.int a1), some (.int a2), some (.int a3), some (.int v2), none, none]) d14_6 rfl rfl) ?_
  refine yL.eq (y_iconst (pc := 8) (v := 0) d14_8 kc_0) ?_
  refine yL.eq (y_istore (pc := 9) (ls' := [some (.ref c), some (.int a1), some (.int a2), some (.int a3), some (.int v2), some (.int 0), none]) d14_9 rfl rfl) ?_
  refine yL.eq (y_iconst (pc := 11) (v := 3) d14_11 kc_3) ?_
  refine yL.eq (y_istore (pc := 12) (ls' := [some (.ref c), some (.int a1), some (.int a2), some (.int a3), some (.int v2), some (.int 0), some (.int 3)]) d14_12 rfl rfl) ?_
  exact yL.rf
set_option maxRecDepth 20000 in
set_option maxHeartbeats 4000000 in
theorem e14_14 {c : Nat} {o1 : Option Value} {o2 : Option Value} {x3 : Int32} {x4 : Int32} {x5 : Int32} {x6 : Int32} (hc : yC c) {M : yM} : yL (if x6 < 0 then yI x5 M else yCi false (yX 99 0 [some (.int (M (c + 8) 0)), some (.int x6)] [] M 0 0) fun v3 M2 => if v3 = 0 then yX 14 14 [some (.ref c), o1, o2, some (.int x3), some (.int x4), some (.int x5), some (.int (x6 + (-1)))] [] M2 0 0 else yCi false (yX 99 0 [some (.int x3), some (.int x6)] [] M2 0 0) fun v6 M5 => if v6 = 0 then if yinB x6 4 = true then if (xsR0 4 (yx x6)) = 0 then none else yX 14 14 [some (.ref c), o1, o2, some (.int x3), some (.int (x4 % (xsR0 4 (yx x6)))), some (.int (x5 + 0)), some (.int (x6 + (-1)))] [] M5 0 0 else none else if yinB x6 4 = true then if (xsR0 4 (yx x6)) = 0 then none else if yinB x6 4 = true then if (xsR0 4 (yx x6)) = 0 then none else yX 14 14 [some (.ref c), o1, o2, some (.int x3), some (.int (x4 % (xsR0 4 (yx x6)))), some (.int (x5 + (x4 / (xsR0 4 (yx x6))))), some (.int (x6 + (-1)))] [] M5 0 0 else none else none) (yX 14 14 [some (.ref c), o1, o2, some (.int x3), some (.int x4), some (.int x5), some (.int x6)] [] M 0 0) := by
  refine yL.eq (y_iload (pc := 14) (x := x6) d14_14 rfl) ?_
  refine yL.eq (y_if_lt (pc := 16) (t := 77) d14_16 (by decide)) ?_
  refine yL.ite (fun h1 => ?_) (fun h1 => ?_)
  ·
    refine yL.eq (y_iload (pc := 77) (x := x5) d14_77 rfl) ?_
    exact yL.eq (y_ireti (pc := 79) d14_79 mr_14) yL.rf
  ·
    refine yL.eq (y_aload_n (pc := 19) (x := c) d14_19 rfl) ?_
    refine yL.eq (y_getr (pc := 20) (r := (c + 8)) d14_20 q14_33 ((((((((yC_r hc)).2).2).2).2).2).2).2) ?_
    refine yL.eq (y_iconst (pc := 23) (v := 0) d14_23 kc_0) ?_
    refine yL.eq (y_iald (pc := 24) (n := 5) d14_24 ((((((((yC_a hc)).2).2).2).2).2).2).2) ?_
    refine yL.eq (if_pos in_0_5) ?_
    show yL _ (yX 14 25 [some (.ref c), o1, o2, some (.int x3), some (.int x4), some (.int x5), some (.int x6)] ([.int (M (c + 8) 0)]) M 0 0)
    refine yL.eq (y_iload (pc := 25) (x := x6) d14_25 rfl) ?_
    refine y_calls_i (pc := 27) (n := 2) (n' := 2) (nc' := 0) (ns' := 0) [.int (M (c + 8) 0), .int x6] [] false d14_27 q14_88 rfl rfl rfl (Nat.le_of_ble_eq_true rfl) (Nat.le_of_ble_eq_true rfl) rfl (by decide +kernel) (by decide +kernel) (fun v3 M2 => ?_)
    refine yL.eq (y_if_eq (pc := 30) (t := 71) d14_30 (by decide)) ?_
    refine yL.ite (fun h4 => ?_) (fun h4 => ?_)
    ·
      refine yL.eq (y_iinc (pc := 71) (v := (-1)) (x := x6) (ls' := [some (.ref c), o1, o2, some (.int x3), some (.int x4), some (.int x5), some (.int (x6 + (-1)))]) d14_71 kc_m1 rfl (Nat.le_of_ble_eq_true rfl) rfl) ?_
      refine yL.eq (y_goto (pc := 74) (t := 14) d14_74 (by decide)) ?_
      exact yL.rf
    ·
      refine yL.eq (y_iload (pc := 33) (x := x5) d14_33 rfl) ?_
      refine yL.eq (y_iload_n (pc := 35) (x := x3) d14_35 rfl) ?_
      refine yL.eq (y_iload (pc := 36) (x := x6) d14_36 rfl) ?_
      refine y_calls_i (pc := 38) (n := 2) (n' := 2) (nc' := 0) (ns' := 0) [.int x3, .int x6] [.int x5] false d14_38 q14_88 rfl rfl rfl (Nat.le_of_ble_eq_true rfl) (Nat.le_of_ble_eq_true rfl) rfl (by decide +kernel) (by decide +kernel) (fun v6 M5 => ?_)
      refine yL.eq (y_if_eq (pc := 41) (t := 56) d14_41 (by decide)) ?_
      refine yL.ite (fun h7 => ?_) (fun h7 => ?_)
      ·
        refine yL.eq (y_iconst (pc := 56) (v := 0) d14_56 kc_0) ?_
        refine yL.eq (y_iadd (pc := 57) d14_57) ?_
        refine yL.eq (y_istore (pc := 58) (ls' := [some (.ref c), o1, o2, some (.int x3), some (.int x4), some (.int (x5 + 0)), some (.int x6)]) d14_58 rfl rfl) ?_
        refine yL.eq (y_iload (pc := 60) (x := x4) d14_60 rfl) ?_
        refine yL.eq (y_gets (pc := 62) d14_62 q14_121) ?_
        refine yL.eq (y_iload (pc := 65) (x := x6) d14_65 rfl) ?_
        refine yL.eq (y_iald1 (pc := 67) (n := 4) d14_67 s_g_4) ?_
        refine yL.gd (fun h8 => ?_)
        refine yL.eq (y_imod (pc := 68) d14_68) ?_
        refine yL.gn (fun h9 => ?_)
        refine yL.eq (y_istore (pc := 69) (ls' := [some (.ref c), o1, o2, some (.int x3), some (.int (x4 % (xsR0 4 (yx x6)))), some (.int (x5 + 0)), some (.int x6)]) d14_69 rfl rfl) ?_
        refine yL.eq (y_iinc (pc := 71) (v := (-1)) (x := x6) (ls' := [some (.ref c), o1, o2, some (.int x3), some (.int (x4 % (xsR0 4 (yx x6)))), some (.int (x5 + 0)), some (.int (x6 + (-1)))]) d14_71 kc_m1 rfl (Nat.le_of_ble_eq_true rfl) rfl) ?_
        refine yL.eq (y_goto (pc := 74) (t := 14) d14_74 (by decide)) ?_
        exact yL.rf
      ·
        refine yL.eq (y_iload (pc := 44) (x := x4) d14_44 rfl) ?_
        refine yL.eq (y_gets (pc := 46) d14_46 q14_121) ?_
        refine yL.eq (y_iload (pc := 49) (x := x6) d14_49 rfl) ?_
        refine yL.eq (y_iald1 (pc := 51) (n := 4) d14_51 s_g_4) ?_
        refine yL.gd (fun h10 => ?_)
        refine yL.eq (y_idiv (pc := 52) d14_52) ?_
        refine yL.gn (fun h11 => ?_)
        refine yL.eq (y_goto (pc := 53) (t := 57) d14_53 (by decide)) ?_
        refine yL.eq (y_iadd (pc := 57) d14_57) ?_
        refine yL.eq (y_istore (pc := 58) (ls' := [some (.ref c), o1, o2, some (.int x3), some (.int x4), some (.int (x5 + (x4 / (xsR0 4 (yx x6))))), some (.int x6)]) d14_58 rfl rfl) ?_
        refine yL.eq (y_iload (pc := 60) (x := x4) d14_60 rfl) ?_
        refine yL.eq (y_gets (pc := 62) d14_62 q14_121) ?_
        refine yL.eq (y_iload (pc := 65) (x := x6) d14_65 rfl) ?_
        refine yL.eq (y_iald1 (pc := 67) (n := 4) d14_67 s_g_4) ?_
        refine yL.gd (fun h12 => ?_)
        refine yL.eq (y_imod (pc := 68) d14_68) ?_
        refine yL.gn (fun h13 => ?_)
        refine yL.eq (y_istore (pc := 69) (ls' := [some (.ref c), o1, o2, some (.int x3), some (.int (x4 % (xsR0 4 (yx x6)))), some (.int (x5 + (x4 / (xsR0 4 (yx x6))))), some (.int x6)]) d14_69 rfl rfl) ?_
        refine yL.eq (y_iinc (pc := 71) (v := (-1)) (x := x6) (ls' := [some (.ref c), o1, o2, some (.int x3), some (.int (x4 % (xsR0 4 (yx x6)))), some (.int (x5 + (x4 / (xsR0 4 (yx x6))))), some (.int (x6 + (-1)))]) d14_71 kc_m1 rfl (Nat.le_of_ble_eq_true rfl) rfl) ?_
        refine yL.eq (y_goto (pc := 74) (t := 14) d14_74 (by decide)) ?_
        exact yL.rf
set_option maxRecDepth 20000 in
set_option maxHeartbeats 4000000 in
theorem e15 {c : Nat} {a1 : Int32} (hc : yC c) {M : yM} : yL (yX 15 4 [some (.ref c), some (.int a1), some (.int 0), some (.int 0)] [] M 0 0) (yX 15 0 [some (.ref c), some (.int a1), none, none] [] M 0 0) := by
  refine yL.eq (y_iconst (pc := 0) (v := 0) d15_0 kc_0) ?_
  refine yL.eq (y_istore_n (pc := 1) (ls' := [some (.ref c), some (.int a1), some (.int 0), none]) d15_1 rfl rfl) ?_
  refine yL.eq (y_iconst (pc := 2) (v := 0) d15_2 kc_0) ?_
  refine yL.eq (y_istore_n (pc := 3) (ls' := [some (.ref c), some (.int a1), some (.int 0), some (.int 0)]) d15_3 rfl rfl) ?_
  exact yL.rf
set_option maxRecDepth 20000 in
set_option maxHeartbeats 4000000 in
theorem e15_4 {c : Nat} {x1 : Int32} {x2 : Int32} {x3 : Int32} (hc : yC c) {M : yM} : yL (if x3 < (M c 0) then yCi false (yX 14 0 [some (.ref c), some (.int x3), some (.int x1), some (.int 15), none, none, none] [] M 0 0) fun v3 M2 => yX 15 4 [some (.ref c), some (.int x1), some (.int (x2 + v3)), some (.int (x3 + 1))] [] M2 0 0 else yI x2 M) (yX 15 4 [some (.ref c), some (.int x1), some (.int x2), some (.int x3)] [] M 0 0) := by
  refine yL.eq (y_iload_n (pc := 4) (x := x3) d15_4 rfl) ?_
  refine yL.eq (y_aload_n (pc := 5) (x := c) d15_5 rfl) ?_
  refine yL.eq (y_geti (pc := 6) d15_6 q15_39 (yC_i hc).1) ?_
  refine yL.eq (y_icmp_ge (pc := 9) (t := 29) d15_9 (by decide)) ?_
  refine yL.ite (fun h1 => ?_) (fun h1 => ?_)
  ·
    refine yL.eq (y_iload_n (pc := 12) (x := x2) d15_12 rfl) ?_
    refine yL.eq (y_aload_n (pc := 13) (x := c) d15_13 rfl) ?_
    refine yL.eq (y_iload_n (pc := 14) (x := x3) d15_14 rfl) ?_
    refine yL.eq (y_iload_n (pc := 15) (x := x1) d15_15 rfl) ?_
    refine yL.eq (y_bipush (pc := 16) (v := 15) d15_16 kb_15) ?_
    refine y_callv_i (pc := 18) (n := 4) (n' := 7) (nc' := 0) (ns' := 0) [.int x3, .int x1, .int 15] [.int x2] false d15_18 q15_135 mk_14 (yC_t hc) rfl rfl (Nat.le_of_ble_eq_true rfl) (Nat.le_of_ble_eq_true rfl) rfl (by decide +kernel) (by decide +kernel) (fun v3 M2 => ?_)
    refine yL.eq (y_iadd (pc := 21) d15_21) ?_
    refine yL.eq (y_istore_n (pc := 22) (ls' := [some (.ref c), some (.int x1), some (.int (x2 + v3)), some (.int x3)]) d15_22 rfl rfl) ?_
    refine yL.eq (y_iinc (pc := 23) (v := 1) (x := x3) (ls' := [some (.ref c), some (.int x1), some (.int (x2 + v3)), some (.int (x3 + 1))]) d15_23 kc_1 rfl (Nat.le_of_ble_eq_true rfl) rfl) ?_
    refine yL.eq (y_goto (pc := 26) (t := 4) d15_26 (by decide)) ?_
    exact yL.rf
  ·
    refine yL.eq (y_iload_n (pc := 29) (x := x2) d15_29 rfl) ?_
    exact yL.eq (y_ireti (pc := 30) d15_30 mr_15) yL.rf
set_option maxRecDepth 20000 in
set_option maxHeartbeats 4000000 in
theorem e16 {c : Nat} {a1 : Int32} (hc : yC c) {M : yM} : yL (yX 16 4 [some (.ref c), some (.int a1), some (.int 0), some (.int 0)] [] M 0 0) (yX 16 0 [some (.ref c), some (.int a1), none, none] [] M 0 0) := by
  refine yL.eq (y_iconst (pc := 0) (v := 0) d16_0 kc_0) ?_
  refine yL.eq (y_istore_n (pc := 1) (ls' := [some (.ref c), some (.int a1), some (.int 0), none]) d16_1 rfl rfl) ?_
  refine yL.eq (y_iconst (pc := 2) (v := 0) d16_2 kc_0) ?_
  refine yL.eq (y_istore_n (pc := 3) (ls' := [some (.ref c), some (.int a1), some (.int 0), some (.int 0)]) d16_3 rfl rfl) ?_
  exact yL.rf
set_option maxRecDepth 20000 in
set_option maxHeartbeats 4000000 in
theorem e16_4 {c : Nat} {x1 : Int32} {x2 : Int32} {x3 : Int32} (hc : yC c) {M : yM} : yL (if x3 < (M c 0) then yCi false (yX 12 0 [some (.ref c), some (.int x3), some (.int x1), none, none, none] [] M 0 0) fun v3 M2 => yCi false (yX 11 0 [some (.ref c), some (.int x3), some (.int x1), none] [] M2 0 0) fun v5 M4 => yX 16 4 [some (.ref c), some (.int x1), some (.int (x2 + (if 0 ≤ (v3 - v5) then (v3 - v5) else 0 - (v3 - v5)))), some (.int (x3 + 1))] [] M4 0 0 else yI x2 M) (yX 16 4 [some (.ref c), some (.int x1), some (.int x2), some (.int x3)] [] M 0 0) := by
  refine yL.eq (y_iload_n (pc := 4) (x := x3) d16_4 rfl) ?_
  refine yL.eq (y_aload_n (pc := 5) (x := c) d16_5 rfl) ?_
  refine yL.eq (y_geti (pc := 6) d16_6 q16_39 (yC_i hc).1) ?_
  refine yL.eq (y_icmp_ge (pc := 9) (t := 37) d16_9 (by decide)) ?_
  refine yL.ite (fun h1 => ?_) (fun h1 => ?_)
  ·
    refine yL.eq (y_iload_n (pc := 12) (x := x2) d16_12 rfl) ?_
    refine yL.eq (y_aload_n (pc := 13) (x := c) d16_13 rfl) ?_
    refine yL.eq (y_iload_n (pc := 14) (x := x3) d16_14 rfl) ?_
    refine yL.eq (y_iload_n (pc := 15) (x := x1) d16_15 rfl) ?_
    refine y_callv_i (pc := 16) (n := 3) (n' := 6) (nc' := 0) (ns' := 0) [.int x3, .int x1] [.int x2] false d16_16 q16_132 mk_12 (yC_t hc) rfl rfl (Nat.le_of_ble_eq_true rfl) (Nat.le_of_ble_eq_true rfl) rfl (by decide +kernel) (by decide +kernel) (fun v3 M2 => ?_)
    refine yL.eq (y_aload_n (pc := 19) (x := c) d16_19 rfl) ?_
    refine yL.eq (y_iload_n (pc := 20) (x := x3) d16_20 rfl) ?_
    refine yL.eq (y_iload_n (pc := 21) (x := x1) d16_21 rfl) ?_
    refine y_callv_i (pc := 22) (n := 3) (n' := 4) (nc' := 0) (ns' := 0) [.int x3, .int x1] [.int v3, .int x2] false d16_22 q16_128 mk_11 (yC_t hc) rfl rfl (Nat.le_of_ble_eq_true rfl) (Nat.le_of_ble_eq_true rfl) rfl (by decide +kernel) (by decide +kernel) (fun v5 M4 => ?_)
    refine yL.eq (y_isub (pc := 25) d16_25) ?_
    refine yL.eq (y_mabs (pc := 26) d16_26 q16_138 (Nat.le_of_ble_eq_true rfl) (by decide +kernel)) ?_
    refine yL.eq (y_iadd (pc := 29) d16_29) ?_
    refine yL.eq (y_istore_n (pc := 30) (ls' := [some (.ref c), some (.int x1), some (.int (x2 + (if 0 ≤ (v3 - v5) then (v3 - v5) else 0 - (v3 - v5)))), some (.int x3)]) d16_30 rfl rfl) ?_
    refine yL.eq (y_iinc (pc := 31) (v := 1) (x := x3) (ls' := [some (.ref c), some (.int x1), some (.int (x2 + (if 0 ≤ (v3 - v5) then (v3 - v5) else 0 - (v3 - v5)))), some (.int (x3 + 1))]) d16_31 kc_1 rfl (Nat.le_of_ble_eq_true rfl) rfl) ?_
    refine yL.eq (y_goto (pc := 34) (t := 4) d16_34 (by decide)) ?_
    exact yL.rf
  ·
    refine yL.eq (y_iload_n (pc := 37) (x := x2) d16_37 rfl) ?_
    exact yL.eq (y_ireti (pc := 38) d16_38 mr_16) yL.rf
set_option maxRecDepth 20000 in
set_option maxHeartbeats 4000000 in
theorem e17 {c : Nat} {a1 : Int32} (hc : yC c) {M : yM} : yL (yX 17 4 [some (.ref c), some (.int a1), some (.int 0), some (.int 0)] [] M 0 0) (yX 17 0 [some (.ref c), some (.int a1), none, none] [] M 0 0) := by
  refine yL.eq (y_iconst (pc := 0) (v := 0) d17_0 kc_0) ?_
  refine yL.eq (y_istore_n (pc := 1) (ls' := [some (.ref c), some (.int a1), some (.int 0), none]) d17_1 rfl rfl) ?_
  refine yL.eq (y_iconst (pc := 2) (v := 0) d17_2 kc_0) ?_
  refine yL.eq (y_istore_n (pc := 3) (ls' := [some (.ref c), some (.int a1), some (.int 0), some (.int 0)]) d17_3 rfl rfl) ?_
  exact yL.rf
set_option maxRecDepth 20000 in
set_option maxHeartbeats 4000000 in
theorem e17_4 {c : Nat} {x1 : Int32} {x2 : Int32} {x3 : Int32} (hc : yC c) {M : yM} : yL (if x3 < (M c 1) then if yinB x3 14 = true then yCi false (yX 99 0 [some (.int (M (c + 5) (yx x3))), some (.int x1)] [] M 0 0) fun v4 M3 => yCi false (yX 98 0 [some (.int v4)] [] M3 0 0) fun v6 M5 => yX 17 4 [some (.ref c), some (.int x1), some (.int (x2 + v6)), some (.int (x3 + 1))] [] M5 0 0 else none else yI x2 M) (yX 17 4 [some (.ref c), some (.int x1), some (.int x2), some (.int x3)] [] M 0 0) := by
  refine yL.eq (y_iload_n (pc := 4) (x := x3) d17_4 rfl) ?_
  refine yL.eq (y_aload_n (pc := 5) (x := c) d17_5 rfl) ?_
  refine yL.eq (y_geti (pc := 6) d17_6 q17_43 ((yC_i hc)).2.1) ?_
  refine yL.eq (y_icmp_ge (pc := 9) (t := 34) d17_9 (by decide)) ?_
  refine yL.ite (fun h1 => ?_) (fun h1 => ?_)
  ·
    refine yL.eq (y_iload_n (pc := 12) (x := x2) d17_12 rfl) ?_
    refine yL.eq (y_aload_n (pc := 13) (x := c) d17_13 rfl) ?_
    refine yL.eq (y_getr (pc := 14) (r := (c + 5)) d17_14 q17_24 (((((yC_r hc)).2).2).2).2.1) ?_
    refine yL.eq (y_iload_n (pc := 17) (x := x3) d17_17 rfl) ?_
    refine yL.eq (y_iald (pc := 18) (n := 14) d17_18 (((((yC_a hc)).2).2).2).2.1) ?_
    refine yL.gd (fun h2 => ?_)
    refine yL.eq (y_iload_n (pc := 19) (x := x1) d17_19 rfl) ?_
    refine y_calls_i (pc := 20) (n := 2) (n' := 2) (nc' := 0) (ns' := 0) [.int (M (c + 5) (yx x3)), .int x1] [.int x2] false d17_20 q17_88 rfl rfl rfl (Nat.le_of_ble_eq_true rfl) (Nat.le_of_ble_eq_true rfl) rfl (by decide +kernel) (by decide +kernel) (fun v4 M3 => ?_)
    refine y_calls_i (pc := 23) (n := 1) (n' := 1) (nc' := 0) (ns' := 0) [.int v4] [.int x2] false d17_23 q17_143 rfl rfl rfl (Nat.le_of_ble_eq_true rfl) (Nat.le_of_ble_eq_true rfl) rfl (by decide +kernel) (by decide +kernel) (fun v6 M5 => ?_)
    refine yL.eq (y_iadd (pc := 26) d17_26) ?_
    refine yL.eq (y_istore_n (pc := 27) (ls' := [some (.ref c), some (.int x1), some (.int (x2 + v6)), some (.int x3)]) d17_27 rfl rfl) ?_
    refine yL.eq (y_iinc (pc := 28) (v := 1) (x := x3) (ls' := [some (.ref c), some (.int x1), some (.int (x2 + v6)), some (.int (x3 + 1))]) d17_28 kc_1 rfl (Nat.le_of_ble_eq_true rfl) rfl) ?_
    refine yL.eq (y_goto (pc := 31) (t := 4) d17_31 (by decide)) ?_
    exact yL.rf
  ·
    refine yL.eq (y_iload_n (pc := 34) (x := x2) d17_34 rfl) ?_
    exact yL.eq (y_ireti (pc := 35) d17_35 mr_17) yL.rf
set_option maxRecDepth 20000 in
set_option maxHeartbeats 4000000 in
theorem e18 {c : Nat} (hc : yC c) {M : yM} : yL (yX 18 4 [some (.ref c), some (.int 0), some (.int 0)] [] M 0 0) (yX 18 0 [some (.ref c), none, none] [] M 0 0) := by
  refine yL.eq (y_iconst (pc := 0) (v := 0) d18_0 kc_0) ?_
  refine yL.eq (y_istore_n (pc := 1) (ls' := [some (.ref c), some (.int 0), none]) d18_1 rfl rfl) ?_
  refine yL.eq (y_iconst (pc := 2) (v := 0) d18_2 kc_0) ?_
  refine yL.eq (y_istore_n (pc := 3) (ls' := [some (.ref c), some (.int 0), some (.int 0)]) d18_3 rfl rfl) ?_
  exact yL.rf
set_option maxRecDepth 20000 in
set_option maxHeartbeats 4000000 in
theorem e18_4 {c : Nat} {x1 : Int32} {x2 : Int32} (hc : yC c) {M : yM} : yL (if x2 < (M c 0) then yCi false (yX 17 0 [some (.ref c), some (.int x2), none, none] [] M 0 0) fun v3 M2 => if v3 = 0 then yCi false (yX 98 0 [some (.int 1)] [] M2 0 0) fun v6 M5 => yX 18 4 [some (.ref c), some (.int (x1 + v6)), some (.int (x2 + 1))] [] M5 0 0 else yCi false (yX 98 0 [some (.int 0)] [] M2 0 0) fun v8 M7 => yX 18 4 [some (.ref c), some (.int (x1 + v8)), some (.int (x2 + 1))] [] M7 0 0 else yI x1 M) (yX 18 4 [some (.ref c), some (.int x1), some (.int x2)] [] M 0 0) := by
  refine yL.eq (y_iload_n (pc := 4) (x := x2) d18_4 rfl) ?_
  refine yL.eq (y_aload_n (pc := 5) (x := c) d18_5 rfl) ?_
  refine yL.eq (y_geti (pc := 6) d18_6 q18_39 (yC_i hc).1) ?_
  refine yL.eq (y_icmp_ge (pc := 9) (t := 37) d18_9 (by decide)) ?_
  refine yL.ite (fun h1 => ?_) (fun h1 => ?_)
  ·
    refine yL.eq (y_iload_n (pc := 12) (x := x1) d18_12 rfl) ?_
    refine yL.eq (y_aload_n (pc := 13) (x := c) d18_13 rfl) ?_
    refine yL.eq (y_iload_n (pc := 14) (x := x2) d18_14 rfl) ?_
    refine y_callv_i (pc := 15) (n := 2) (n' := 4) (nc' := 0) (ns' := 0) [.int x2] [.int x1] false d18_15 q18_147 mk_17 (yC_t hc) rfl rfl (Nat.le_of_ble_eq_true rfl) (Nat.le_of_ble_eq_true rfl) rfl (by decide +kernel) (by decide +kernel) (fun v3 M2 => ?_)
    refine yL.eq (y_if_ne (pc := 18) (t := 25) d18_18 (by decide)) ?_
    refine yL.ite (fun h4 => ?_) (fun h4 => ?_)
    ·
      refine yL.eq (y_iconst (pc := 21) (v := 1) d18_21 kc_1) ?_
      refine yL.eq (y_goto (pc := 22) (t := 26) d18_22 (by decide)) ?_
      refine y_calls_i (pc := 26) (n := 1) (n' := 1) (nc' := 0) (ns' := 0) [.int 1] [.int x1] false d18_26 q18_143 rfl rfl rfl (Nat.le_of_ble_eq_true rfl) (Nat.le_of_ble_eq_true rfl) rfl (by decide +kernel) (by decide +kernel) (fun v6 M5 => ?_)
      refine yL.eq (y_iadd (pc := 29) d18_29) ?_
      refine yL.eq (y_istore_n (pc := 30) (ls' := [some (.ref c), some (.int (x1 + v6)), some (.int x2)]) d18_30 rfl rfl) ?_
      refine yL.eq (y_iinc (pc := 31) (v := 1) (x := x2) (ls' := [some (.ref c), some (.int (x1 + v6)), some (.int (x2 + 1))]) d18_31 kc_1 rfl (Nat.le_of_ble_eq_true rfl) rfl) ?_
      refine yL.eq (y_goto (pc := 34) (t := 4) d18_34 (by decide)) ?_
      exact yL.rf
    ·
      refine yL.eq (y_iconst (pc := 25) (v := 0) d18_25 kc_0) ?_
      refine y_calls_i (pc := 26) (n := 1) (n' := 1) (nc' := 0) (ns' := 0) [.int 0] [.int x1] false d18_26 q18_143 rfl rfl rfl (Nat.le_of_ble_eq_true rfl) (Nat.le_of_ble_eq_true rfl) rfl (by decide +kernel) (by decide +kernel) (fun v8 M7 => ?_)
      refine yL.eq (y_iadd (pc := 29) d18_29) ?_
      refine yL.eq (y_istore_n (pc := 30) (ls' := [some (.ref c), some (.int (x1 + v8)), some (.int x2)]) d18_30 rfl rfl) ?_
      refine yL.eq (y_iinc (pc := 31) (v := 1) (x := x2) (ls' := [some (.ref c), some (.int (x1 + v8)), some (.int (x2 + 1))]) d18_31 kc_1 rfl (Nat.le_of_ble_eq_true rfl) rfl) ?_
      refine yL.eq (y_goto (pc := 34) (t := 4) d18_34 (by decide)) ?_
      exact yL.rf
  ·
    refine yL.eq (y_iload_n (pc := 37) (x := x1) d18_37 rfl) ?_
    exact yL.eq (y_ireti (pc := 38) d18_38 mr_18) yL.rf
set_option maxRecDepth 20000 in
set_option maxHeartbeats 4000000 in
theorem e19 {c : Nat} (hc : yC c) {M : yM} : yL (yX 19 4 [some (.ref c), some (.int 0), some (.int 0)] [] M 0 0) (yX 19 0 [some (.ref c), none, none] [] M 0 0) := by
  refine yL.eq (y_iconst (pc := 0) (v := 0) d19_0 kc_0) ?_
  refine yL.eq (y_istore_n (pc := 1) (ls' := [some (.ref c), some (.int 0), none]) d19_1 rfl rfl) ?_
  refine yL.eq (y_iconst (pc := 2) (v := 0) d19_2 kc_0) ?_
  refine yL.eq (y_istore_n (pc := 3) (ls' := [some (.ref c), some (.int 0), some (.int 0)]) d19_3 rfl rfl) ?_
  exact yL.rf
set_option maxRecDepth 20000 in
set_option maxHeartbeats 4000000 in
theorem e19_4 {c : Nat} {x1 : Int32} {x2 : Int32} (hc : yC c) {M : yM} : yL (if x2 < (M c 1) then if yinB x2 14 = true then yX 19 4 [some (.ref c), some (.int (x1 + (M (c + 2) (yx x2)))), some (.int (x2 + 1))] [] M 0 0 else none else yI x1 M) (yX 19 4 [some (.ref c), some (.int x1), some (.int x2)] [] M 0 0) := by
  refine yL.eq (y_iload_n (pc := 4) (x := x2) d19_4 rfl) ?_
  refine yL.eq (y_aload_n (pc := 5) (x := c) d19_5 rfl) ?_
  refine yL.eq (y_geti (pc := 6) d19_6 q19_43 ((yC_i hc)).2.1) ?_
  refine yL.eq (y_icmp_ge (pc := 9) (t := 27) d19_9 (by decide)) ?_
  refine yL.ite (fun h1 => ?_) (fun h1 => ?_)
  ·
    refine yL.eq (y_iload_n (pc := 12) (x := x1) d19_12 rfl) ?_
    refine yL.eq (y_aload_n (pc := 13) (x := c) d19_13 rfl) ?_
    refine yL.eq (y_getr (pc := 14) (r := (c + 2)) d19_14 q19_15 ((yC_r hc)).2.1) ?_
    refine yL.eq (y_iload_n (pc := 17) (x := x2) d19_17 rfl) ?_
    refine yL.eq (y_iald (pc := 18) (n := 14) d19_18 ((yC_a hc)).2.1) ?_
    refine yL.gd (fun h2 => ?_)
    refine yL.eq (y_iadd (pc := 19) d19_19) ?_
    refine yL.eq (y_istore_n (pc := 20) (ls' := [some (.ref c), some (.int (x1 + (M (c + 2) (yx x2)))), some (.int x2)]) d19_20 rfl rfl) ?_
    refine yL.eq (y_iinc (pc := 21) (v := 1) (x := x2) (ls' := [some (.ref c), some (.int (x1 + (M (c + 2) (yx x2)))), some (.int (x2 + 1))]) d19_21 kc_1 rfl (Nat.le_of_ble_eq_true rfl) rfl) ?_
    refine yL.eq (y_goto (pc := 24) (t := 4) d19_24 (by decide)) ?_
    exact yL.rf
  ·
    refine yL.eq (y_iload_n (pc := 27) (x := x1) d19_27 rfl) ?_
    exact yL.eq (y_ireti (pc := 28) d19_28 mr_19) yL.rf
set_option maxRecDepth 20000 in
set_option maxHeartbeats 4000000 in
theorem e20 {c : Nat} {a1 : Int32} (hc : yC c) {M : yM} : yL (yX 20 4 [some (.ref c), some (.int a1), some (.int 0), some (.int 0)] [] M 0 0) (yX 20 0 [some (.ref c), some (.int a1), none, none] [] M 0 0) := by
  refine yL.eq (y_iconst (pc := 0) (v := 0) d20_0 kc_0) ?_
  refine yL.eq (y_istore_n (pc := 1) (ls' := [some (.ref c), some (.int a1), some (.int 0), none]) d20_1 rfl rfl) ?_
  refine yL.eq (y_iconst (pc := 2) (v := 0) d20_2 kc_0) ?_
  refine yL.eq (y_istore_n (pc := 3) (ls' := [some (.ref c), some (.int a1), some (.int 0), some (.int 0)]) d20_3 rfl rfl) ?_
  exact yL.rf
set_option maxRecDepth 20000 in
set_option maxHeartbeats 4000000 in
theorem e20_4 {c : Nat} {x1 : Int32} {x2 : Int32} {x3 : Int32} (hc : yC c) {M : yM} : yL (if x3 < (M c 1) then if yinB x3 14 = true then yCi false (yX 99 0 [some (.int (M (c + 6) (yx x3))), some (.int x1)] [] M 0 0) fun v4 M3 => yCi false (yX 100 0 [some (.int x2), some (.int x3), some (.int v4)] [] M3 0 0) fun v6 M5 => yX 20 4 [some (.ref c), some (.int x1), some (.int v6), some (.int (x3 + 1))] [] M5 0 0 else none else yI x2 M) (yX 20 4 [some (.ref c), some (.int x1), some (.int x2), some (.int x3)] [] M 0 0) := by
  refine yL.eq (y_iload_n (pc := 4) (x := x3) d20_4 rfl) ?_
  refine yL.eq (y_aload_n (pc := 5) (x := c) d20_5 rfl) ?_
  refine yL.eq (y_geti (pc := 6) d20_6 q20_43 ((yC_i hc)).2.1) ?_
  refine yL.eq (y_icmp_ge (pc := 9) (t := 34) d20_9 (by decide)) ?_
  refine yL.ite (fun h1 => ?_) (fun h1 => ?_)
  ·
    refine yL.eq (y_iload_n (pc := 12) (x := x2) d20_12 rfl) ?_
    refine yL.eq (y_iload_n (pc := 13) (x := x3) d20_13 rfl) ?_
    refine yL.eq (y_aload_n (pc := 14) (x := c) d20_14 rfl) ?_
    refine yL.eq (y_getr (pc := 15) (r := (c + 6)) d20_15 q20_27 ((((((yC_r hc)).2).2).2).2).2.1) ?_
    refine yL.eq (y_iload_n (pc := 18) (x := x3) d20_18 rfl) ?_
    refine yL.eq (y_iald (pc := 19) (n := 14) d20_19 ((((((yC_a hc)).2).2).2).2).2.1) ?_
    refine yL.gd (fun h2 => ?_)
    refine yL.eq (y_iload_n (pc := 20) (x := x1) d20_20 rfl) ?_
    refine y_calls_i (pc := 21) (n := 2) (n' := 2) (nc' := 0) (ns' := 0) [.int (M (c + 6) (yx x3)), .int x1] [.int x3, .int x2] false d20_21 q20_88 rfl rfl rfl (Nat.le_of_ble_eq_true rfl) (Nat.le_of_ble_eq_true rfl) rfl (by decide +kernel) (by decide +kernel) (fun v4 M3 => ?_)
    refine y_calls_i (pc := 24) (n := 3) (n' := 3) (nc' := 0) (ns' := 0) [.int x2, .int x3, .int v4] [] false d20_24 q20_108 rfl rfl rfl (Nat.le_of_ble_eq_true rfl) (Nat.le_of_ble_eq_true rfl) rfl (by decide +kernel) (by decide +kernel) (fun v6 M5 => ?_)
    refine yL.eq (y_istore_n (pc := 27) (ls' := [some (.ref c), some (.int x1), some (.int v6), some (.int x3)]) d20_27 rfl rfl) ?_
    refine yL.eq (y_iinc (pc := 28) (v := 1) (x := x3) (ls' := [some (.ref c), some (.int x1), some (.int v6), some (.int (x3 + 1))]) d20_28 kc_1 rfl (Nat.le_of_ble_eq_true rfl) rfl) ?_
    refine yL.eq (y_goto (pc := 31) (t := 4) d20_31 (by decide)) ?_
    exact yL.rf
  ·
    refine yL.eq (y_iload_n (pc := 34) (x := x2) d20_34 rfl) ?_
    exact yL.eq (y_ireti (pc := 35) d20_35 mr_20) yL.rf
set_option maxRecDepth 20000 in
set_option maxHeartbeats 4000000 in
theorem e21 {c : Nat} {a1 : Int32} (hc : yC c) {M : yM} : yL (if yinB a1 14 = true then yX 21 9 [some (.ref c), some (.int a1), some (.int (M (c + 6) (yx a1))), some (.int 0), none] [] M 0 0 else none) (yX 21 0 [some (.ref c), some (.int a1), none, none, none] [] M 0 0) := by
  refine yL.eq (y_aload_n (pc := 0) (x := c) d21_0 rfl) ?_
  refine yL.eq (y_getr (pc := 1) (r := (c + 6)) d21_1 q21_27 ((((((yC_r hc)).2).2).2).2).2.1) ?_
  refine yL.eq (y_iload_n (pc := 4) (x := a1) d21_4 rfl) ?_
  refine yL.eq (y_iald (pc := 5) (n := 14) d21_5 ((((((yC_a hc)).2).2).2).2).2.1) ?_
  refine yL.gd (fun h1 => ?_)
  refine yL.eq (y_istore_n (pc := 6) (ls' := [some (.ref c), some (.int a1), some (.int (M (c + 6) (yx a1))), none, none]) d21_6 rfl rfl) ?_
  refine yL.eq (y_iconst (pc := 7) (v := 0) d21_7 kc_0) ?_
  refine yL.eq (y_istore_n (pc := 8) (ls' := [some (.ref c), some (.int a1), some (.int (M (c + 6) (yx a1))), some (.int 0), none]) d21_8 rfl rfl) ?_
  exact yL.rf
set_option maxRecDepth 20000 in
set_option maxHeartbeats 4000000 in
theorem e21_9 {c : Nat} {o1 : Option Value} {x2 : Int32} {x3 : Int32} {o4 : Option Value} (hc : yC c) {M : yM} : yL (if x3 < (M c 1) then yX 21 20 [some (.ref c), o1, some (.int x2), some (.int x3), some (.int 0)] [] M 0 0 else yI x2 M) (yX 21 9 [some (.ref c), o1, some (.int x2), some (.int x3), o4] [] M 0 0) := by
  refine yL.eq (y_iload_n (pc := 9) (x := x3) d21_9 rfl) ?_
  refine yL.eq (y_aload_n (pc := 10) (x := c) d21_10 rfl) ?_
  refine yL.eq (y_geti (pc := 11) d21_11 q21_43 ((yC_i hc)).2.1) ?_
  refine yL.eq (y_icmp_ge (pc := 14) (t := 60) d21_14 (by decide)) ?_
  refine yL.ite (fun h1 => ?_) (fun h1 => ?_)
  ·
    refine yL.eq (y_iconst (pc := 17) (v := 0) d21_17 kc_0) ?_
    refine yL.eq (y_istore (pc := 18) (ls' := [some (.ref c), o1, some (.int x2), some (.int x3), some (.int 0)]) d21_18 rfl rfl) ?_
    exact yL.rf
  ·
    refine yL.eq (y_iload_n (pc := 60) (x := x2) d21_60 rfl) ?_
    exact yL.eq (y_ireti (pc := 61) d21_61 mr_21) yL.rf
set_option maxRecDepth 20000 in
set_option maxHeartbeats 4000000 in
theorem e21_20 {c : Nat} {o1 : Option Value} {x2 : Int32} {x3 : Int32} {x4 : Int32} (hc : yC c) {M : yM} : yL (if x4 < (M c 1) then yCi false (yX 99 0 [some (.int x2), some (.int x4)] [] M 0 0) fun v3 M2 => if v3 = 0 then yX 21 20 [some (.ref c), o1, some (.int x2), some (.int x3), some (.int (x4 + 1))] [] M2 0 0 else if yinB x4 14 = true then yX 21 20 [some (.ref c), (xUn o1), some (.int (x2 ||| (M2 (c + 6) (yx x4)))), some (.int x3), some (.int (x4 + 1))] [] M2 0 0 else none else yX 21 9 [some (.ref c), o1, some (.int x2), some (.int (x3 + 1)), some (.int x4)] [] M 0 0) (yX 21 20 [some (.ref c), o1, some (.int x2), some (.int x3), some (.int x4)] [] M 0 0) := by
  refine yL.eq (y_iload (pc := 20) (x := x4) d21_20 rfl) ?_
  refine yL.eq (y_aload_n (pc := 22) (x := c) d21_22 rfl) ?_
  refine yL.eq (y_geti (pc := 23) d21_23 q21_43 ((yC_i hc)).2.1) ?_
  refine yL.eq (y_icmp_ge (pc := 26) (t := 54) d21_26 (by decide)) ?_
  refine yL.ite (fun h1 => ?_) (fun h1 => ?_)
  ·
    refine yL.eq (y_iload_n (pc := 29) (x := x2) d21_29 rfl) ?_
    refine yL.eq (y_iload (pc := 30) (x := x4) d21_30 rfl) ?_
    refine y_calls_i (pc := 32) (n := 2) (n' := 2) (nc' := 0) (ns' := 0) [.int x2, .int x4] [] false d21_32 q21_88 rfl rfl rfl (Nat.le_of_ble_eq_true rfl) (Nat.le_of_ble_eq_true rfl) rfl (by decide +kernel) (by decide +kernel) (fun v3 M2 => ?_)
    refine yL.eq (y_if_eq (pc := 35) (t := 48) d21_35 (by decide)) ?_
    refine yL.ite (fun h4 => ?_) (fun h4 => ?_)
    ·
      refine yL.eq (y_iinc (pc := 48) (v := 1) (x := x4) (ls' := [some (.ref c), o1, some (.int x2), some (.int x3), some (.int (x4 + 1))]) d21_48 kc_1 rfl (Nat.le_of_ble_eq_true rfl) rfl) ?_
      refine yL.eq (y_goto (pc := 51) (t := 20) d21_51 (by decide)) ?_
      exact yL.rf
    ·
      refine yL.eq (y_iload_n (pc := 38) (x := x2) d21_38 rfl) ?_
      refine yL.eq (y_aload_n (pc := 39) (x := c) d21_39 rfl) ?_
      refine yL.eq (y_getr (pc := 40) (r := (c + 6)) d21_40 q21_27 ((((((yC_r hc)).2).2).2).2).2.1) ?_
      refine yL.eq (y_iload (pc := 43) (x := x4) d21_43 rfl) ?_
      refine yL.eq (y_iald (pc := 45) (n := 14) d21_45 ((((((yC_a hc)).2).2).2).2).2.1) ?_
      refine yL.gd (fun h5 => ?_)
      refine yL.eq (y_ior (pc := 46) d21_46) ?_
      refine yL.eq (y_istore_n (pc := 47) (ls' := [some (.ref c), (xUn o1), some (.int (x2 ||| (M2 (c + 6) (yx x4)))), some (.int x3), some (.int x4)]) d21_47 rfl rfl) ?_
      refine yL.eq (y_iinc (pc := 48) (v := 1) (x := x4) (ls' := [some (.ref c), (xUn o1), some (.int (x2 ||| (M2 (c + 6) (yx x4)))), some (.int x3), some (.int (x4 + 1))]) d21_48 kc_1 rfl (Nat.le_of_ble_eq_true rfl) rfl) ?_
      refine yL.eq (y_goto (pc := 51) (t := 20) d21_51 (by decide)) ?_
      exact yL.rf
  ·
    refine yL.eq (y_iinc (pc := 54) (v := 1) (x := x3) (ls' := [some (.ref c), o1, some (.int x2), some (.int (x3 + 1)), some (.int x4)]) d21_54 kc_1 rfl (Nat.le_of_ble_eq_true rfl) rfl) ?_
    refine yL.eq (y_goto (pc := 57) (t := 9) d21_57 (by decide)) ?_
    exact yL.rf
set_option maxRecDepth 20000 in
set_option maxHeartbeats 4000000 in
theorem e23 {a1 : Int32} {M : yM} : yL (if (M 8 1) < 120 then if yinB (M 8 1) 120 = true then yLet (yU M 9 (yx (M 8 1)) (vp_nar .char a1)) fun M2 => yLet (yU M2 8 1 ((M2 8 1) + 1)) fun M4 => yI (M4 8 1) M4 else none else yI (M 8 1) M) (yX 23 0 [some (.ref 8), some (.int a1)] [] M 0 0) := by
  refine yL.eq (y_aload_n (pc := 0) (x := 8) d23_0 rfl) ?_
  refine yL.eq (y_geti (pc := 1) d23_1 q23_15 s_i_8_1) ?_
  refine yL.eq (y_bipush (pc := 4) (v := 120) d23_4 kb_120) ?_
  refine yL.eq (y_icmp_ge (pc := 6) (t := 29) d23_6 (by decide)) ?_
  refine yL.ite (fun h1 => ?_) (fun h1 => ?_)
  ·
    refine yL.eq (y_aload_n (pc := 9) (x := 8) d23_9 rfl) ?_
    refine yL.eq (y_getr (pc := 10) (r := 9) d23_10 q23_9 s_r_8_0) ?_
    refine yL.eq (y_aload_n (pc := 13) (x := 8) d23_13 rfl) ?_
    refine yL.eq (y_geti (pc := 14) d23_14 q23_15 s_i_8_1) ?_
    refine yL.eq (y_iload_n (pc := 17) (x := a1) d23_17 rfl) ?_
    refine y_castL (pc := 18) (n := 120) d23_18 s_a_9 (fun h3 M2 => ?_)
    refine yL.eq (y_aload_n (pc := 19) (x := 8) d23_19 rfl) ?_
    refine yL.eq (y_dup (pc := 20) d23_20 rfl) ?_
    refine yL.eq (y_geti (pc := 21) d23_21 q23_15 s_i_8_1) ?_
    refine yL.eq (y_iconst (pc := 24) (v := 1) d23_24 kc_1) ?_
    refine yL.eq (y_iadd (pc := 25) d23_25) ?_
    refine y_putiL (pc := 26) d23_26 q23_15 s_i_8_1 rfl (fun M4 => ?_)
    refine yL.eq (y_aload_n (pc := 29) (x := 8) d23_29 rfl) ?_
    refine yL.eq (y_geti (pc := 30) d23_30 q23_15 s_i_8_1) ?_
    exact yL.eq (y_ireti (pc := 33) d23_33 mr_23) yL.rf
  ·
    refine yL.eq (y_aload_n (pc := 29) (x := 8) d23_29 rfl) ?_
    refine yL.eq (y_geti (pc := 30) d23_30 q23_15 s_i_8_1) ?_
    exact yL.eq (y_ireti (pc := 33) d23_33 mr_23) yL.rf
set_option maxRecDepth 20000 in
set_option maxHeartbeats 4000000 in
theorem e24 {d : Nat} (hd : yC d) {M : yM} : yL (yCv false (yX 1 0 [some (.ref d), none] [] M 0 0) fun M1 => yLet (yU M1 8 2 0) fun M2 => yLet (yU M2 8 3 0) fun M3 => yLet (yU M3 8 4 0) fun M4 => yCv false (yX 33 0 [some (.ref 8), some (.int 67)] [] M4 0 0) fun M5 => yX 24 27 [some (.ref 8), some (.ref d), some (.int 0)] [] M5 0 0) (yX 24 0 [some (.ref 8), some (.ref d), none] [] M 0 0) := by
  refine yL.eq (y_aload_n (pc := 0) (x := d) d24_0 rfl) ?_
  refine y_callv_v (pc := 1) (n := 1) (n' := 2) (nc' := 0) (ns' := 0) [] [] false d24_1 q24_19 mk_1 (yC_t hd) rfl rfl (Nat.le_of_ble_eq_true rfl) (Nat.le_of_ble_eq_true rfl) rfl (by decide +kernel) (by decide +kernel) (fun M1 => ?_)
  refine yL.eq (y_aload_n (pc := 4) (x := 8) d24_4 rfl) ?_
  refine yL.eq (y_iconst (pc := 5) (v := 0) d24_5 kc_0) ?_
  refine y_putiL (pc := 6) d24_6 q24_24 s_i_8_2 rfl (fun M2 => ?_)
  refine yL.eq (y_aload_n (pc := 9) (x := 8) d24_9 rfl) ?_
  refine yL.eq (y_iconst (pc := 10) (v := 0) d24_10 kc_0) ?_
  refine y_putiL (pc := 11) d24_11 q24_27 s_i_8_3 rfl (fun M3 => ?_)
  refine yL.eq (y_aload_n (pc := 14) (x := 8) d24_14 rfl) ?_
  refine yL.eq (y_iconst (pc := 15) (v := 0) d24_15 kc_0) ?_
  refine y_putiL (pc := 16) d24_16 q24_30 s_i_8_4 rfl (fun M4 => ?_)
  refine yL.eq (y_aload_n (pc := 19) (x := 8) d24_19 rfl) ?_
  refine yL.eq (y_bipush (pc := 20) (v := 67) d24_20 kb_67) ?_
  refine y_callv_v (pc := 22) (n := 2) (n' := 2) (nc' := 0) (ns' := 0) [.int 67] [] false d24_22 q24_34 mk_33 s_t_8 rfl rfl (Nat.le_of_ble_eq_true rfl) (Nat.le_of_ble_eq_true rfl) rfl (by decide +kernel) (by decide +kernel) (fun M5 => ?_)
  refine yL.eq (y_iconst (pc := 25) (v := 0) d24_25 kc_0) ?_
  refine yL.eq (y_istore_n (pc := 26) (ls' := [some (.ref 8), some (.ref d), some (.int 0)]) d24_26 rfl rfl) ?_
  exact yL.rf
set_option maxRecDepth 20000 in
set_option maxHeartbeats 4000000 in
theorem e24_27 {d : Nat} {x2 : Int32} (hd : yC d) {M : yM} : yL (if x2 < 120 then if (M 8 4) = 0 then if (M 8 3) < (M 8 1) then yCv false (yX 25 0 [some (.ref 8), some (.ref d)] [] M 0 0) fun M4 => if (M4 8 4) = 0 then yCi false (yX 5 0 [some (.ref d), some (.int (M4 8 5)), some (.int (M4 8 6)), some (.int (M4 8 7)), some (.int (M4 8 8))] [] M4 0 0) fun v7 M6 => if v7 = 0 then yLet (yU M6 8 2 ((M6 8 2) + 1)) fun M9 => yX 24 27 [some (.ref 8), some (.ref d), some (.int (x2 + 1))] [] M9 0 0 else yX 24 27 [some (.ref 8), some (.ref d), some (.int (x2 + 1))] [] M6 0 0 else yX 24 27 [some (.ref 8), some (.ref d), some (.int (x2 + 1))] [] M4 0 0 else if (M 8 4) = 0 then yI (-1) M else yI (M 8 3) M else if (M 8 4) = 0 then yI (-1) M else yI (M 8 3) M else if (M 8 4) = 0 then yI (-1) M else yI (M 8 3) M) (yX 24 27 [some (.ref 8), some (.ref d), some (.int x2)] [] M 0 0) := by
  refine yL.eq (y_iload_n (pc := 27) (x := x2) d24_27 rfl) ?_
  refine yL.eq (y_bipush (pc := 28) (v := 120) d24_28 kb_120) ?_
  refine yL.eq (y_icmp_ge (pc := 30) (t := 102) d24_30 (by decide)) ?_
  refine yL.ite (fun h1 => ?_) (fun h1 => ?_)
  ·
    refine yL.eq (y_aload_n (pc := 33) (x := 8) d24_33 rfl) ?_
    refine yL.eq (y_geti (pc := 34) d24_34 q24_30 s_i_8_4) ?_
    refine yL.eq (y_if_ne (pc := 37) (t := 102) d24_37 (by decide)) ?_
    refine yL.ite (fun h2 => ?_) (fun h2 => ?_)
    ·
      refine yL.eq (y_aload_n (pc := 40) (x := 8) d24_40 rfl) ?_
      refine yL.eq (y_geti (pc := 41) d24_41 q24_27 s_i_8_3) ?_
      refine yL.eq (y_aload_n (pc := 44) (x := 8) d24_44 rfl) ?_
      refine yL.eq (y_geti (pc := 45) d24_45 q24_15 s_i_8_1) ?_
      refine yL.eq (y_icmp_ge (pc := 48) (t := 102) d24_48 (by decide)) ?_
      refine yL.ite (fun h3 => ?_) (fun h3 => ?_)
      ·
        refine yL.eq (y_aload_n (pc := 51) (x := 8) d24_51 rfl) ?_
        refine yL.eq (y_aload_n (pc := 52) (x := d) d24_52 rfl) ?_
        refine y_callv_v (pc := 53) (n := 2) (n' := 2) (nc' := 0) (ns' := 0) [.ref d] [] false d24_53 q24_38 mk_25 s_t_8 rfl rfl (Nat.le_of_ble_eq_true rfl) (Nat.le_of_ble_eq_true rfl) rfl (by decide +kernel) (by decide +kernel) (fun M4 => ?_)
        refine yL.eq (y_aload_n (pc := 56) (x := 8) d24_56 rfl) ?_
        refine yL.eq (y_geti (pc := 57) d24_57 q24_30 s_i_8_4) ?_
        refine yL.eq (y_if_ne (pc := 60) (t := 96) d24_60 (by decide)) ?_
        refine yL.ite (fun h5 => ?_) (fun h5 => ?_)
        ·
          refine yL.eq (y_aload_n (pc := 63) (x := d) d24_63 rfl) ?_
          refine yL.eq (y_aload_n (pc := 64) (x := 8) d24_64 rfl) ?_
          refine yL.eq (y_geti (pc := 65) d24_65 q24_42 s_i_8_5) ?_
          refine yL.eq (y_aload_n (pc := 68) (x := 8) d24_68 rfl) ?_
          refine yL.eq (y_geti (pc := 69) d24_69 q24_45 s_i_8_6) ?_
          refine yL.eq (y_aload_n (pc := 72) (x := 8) d24_72 rfl) ?_
          refine yL.eq (y_geti (pc := 73) d24_73 q24_48 s_i_8_7) ?_
          refine yL.eq (y_aload_n (pc := 76) (x := 8) d24_76 rfl) ?_
          refine yL.eq (y_geti (pc := 77) d24_77 q24_51 s_i_8_8) ?_
          refine y_callv_i (pc := 80) (n := 5) (n' := 5) (nc' := 0) (ns' := 0) [.int (M4 8 5), .int (M4 8 6), .int (M4 8 7), .int (M4 8 8)] [] false d24_80 q24_54 mk_5 (yC_t hd) rfl rfl (Nat.le_of_ble_eq_true rfl) (Nat.le_of_ble_eq_true rfl) rfl (by decide +kernel) (by decide +kernel) (fun v7 M6 => ?_)
          refine yL.eq (y_if_ne (pc := 83) (t := 96) d24_83 (by decide)) ?_
          refine yL.ite (fun h8 => ?_) (fun h8 => ?_)
          ·
            refine yL.eq (y_aload_n (pc := 86) (x := 8) d24_86 rfl) ?_
            refine yL.eq (y_dup (pc := 87) d24_87 rfl) ?_
            refine yL.eq (y_geti (pc := 88) d24_88 q24_24 s_i_8_2) ?_
            refine yL.eq (y_iconst (pc := 91) (v := 1) d24_91 kc_1) ?_
            refine yL.eq (y_iadd (pc := 92) d24_92) ?_
            refine y_putiL (pc := 93) d24_93 q24_24 s_i_8_2 rfl (fun M9 => ?_)
            refine yL.eq (y_iinc (pc := 96) (v := 1) (x := x2) (ls' := [some (.ref 8), some (.ref d), some (.int (x2 + 1))]) d24_96 kc_1 rfl (Nat.le_of_ble_eq_true rfl) rfl) ?_
            refine yL.eq (y_goto (pc := 99) (t := 27) d24_99 (by decide)) ?_
            exact yL.rf
          ·
            refine yL.eq (y_iinc (pc := 96) (v := 1) (x := x2) (ls' := [some (.ref 8), some (.ref d), some (.int (x2 + 1))]) d24_96 kc_1 rfl (Nat.le_of_ble_eq_true rfl) rfl) ?_
            refine yL.eq (y_goto (pc := 99) (t := 27) d24_99 (by decide)) ?_
            exact yL.rf
        ·
          refine yL.eq (y_iinc (pc := 96) (v := 1) (x := x2) (ls' := [some (.ref 8), some (.ref d), some (.int (x2 + 1))]) d24_96 kc_1 rfl (Nat.le_of_ble_eq_true rfl) rfl) ?_
          refine yL.eq (y_goto (pc := 99) (t := 27) d24_99 (by decide)) ?_
          exact yL.rf
      ·
        refine yL.eq (y_aload_n (pc := 102) (x := 8) d24_102 rfl) ?_
        refine yL.eq (y_geti (pc := 103) d24_103 q24_30 s_i_8_4) ?_
        refine yL.eq (y_if_eq (pc := 106) (t := 116) d24_106 (by decide)) ?_
        refine yL.ite (fun h10 => ?_) (fun h10 => ?_)
        ·
          refine yL.eq (y_iconst (pc := 116) (v := (-1)) d24_116 kc_m1) ?_
          exact yL.eq (y_ireti (pc := 117) d24_117 mr_24) yL.rf
        ·
          refine yL.eq (y_aload_n (pc := 109) (x := 8) d24_109 rfl) ?_
          refine yL.eq (y_geti (pc := 110) d24_110 q24_27 s_i_8_3) ?_
          refine yL.eq (y_goto (pc := 113) (t := 117) d24_113 (by decide)) ?_
          exact yL.eq (y_ireti (pc := 117) d24_117 mr_24) yL.rf
    ·
      refine yL.eq (y_aload_n (pc := 102) (x := 8) d24_102 rfl) ?_
      refine yL.eq (y_geti (pc := 103) d24_103 q24_30 s_i_8_4) ?_
      refine yL.eq (y_if_eq (pc := 106) (t := 116) d24_106 (by decide)) ?_
      refine yL.ite (fun h11 => ?_) (fun h11 => ?_)
      ·
        refine yL.eq (y_iconst (pc := 116) (v := (-1)) d24_116 kc_m1) ?_
        exact yL.eq (y_ireti (pc := 117) d24_117 mr_24) yL.rf
      ·
        refine yL.eq (y_aload_n (pc := 109) (x := 8) d24_109 rfl) ?_
        refine yL.eq (y_geti (pc := 110) d24_110 q24_27 s_i_8_3) ?_
        refine yL.eq (y_goto (pc := 113) (t := 117) d24_113 (by decide)) ?_
        exact yL.eq (y_ireti (pc := 117) d24_117 mr_24) yL.rf
  ·
    refine yL.eq (y_aload_n (pc := 102) (x := 8) d24_102 rfl) ?_
    refine yL.eq (y_geti (pc := 103) d24_103 q24_30 s_i_8_4) ?_
    refine yL.eq (y_if_eq (pc := 106) (t := 116) d24_106 (by decide)) ?_
    refine yL.ite (fun h12 => ?_) (fun h12 => ?_)
    ·
      refine yL.eq (y_iconst (pc := 116) (v := (-1)) d24_116 kc_m1) ?_
      exact yL.eq (y_ireti (pc := 117) d24_117 mr_24) yL.rf
    ·
      refine yL.eq (y_aload_n (pc := 109) (x := 8) d24_109 rfl) ?_
      refine yL.eq (y_geti (pc := 110) d24_110 q24_27 s_i_8_3) ?_
      refine yL.eq (y_goto (pc := 113) (t := 117) d24_113 (by decide)) ?_
      exact yL.eq (y_ireti (pc := 117) d24_117 mr_24) yL.rf
set_option maxRecDepth 20000 in
set_option maxHeartbeats 4000000 in
theorem e25 {d : Nat} (hd : yC d) {M : yM} : yL (yCi false (yX 32 0 [some (.ref 8), some (.ref 5), none] [] M 0 0) fun v2 M1 => if v2 = 0 then yCi false (yX 29 0 [some (.ref 8), none, none, none, none] [] M1 0 0) fun v5 M4 => yCv false (yX 26 0 [some (.ref 8), some (.int 0), some (.int v5), some (.int 0), some (.int 0)] [] M4 0 0) fun M6 => yV M6 else if v2 = 1 then yCi false (yX 30 0 [some (.ref 8), some (.int 1), some (.int 90), none, none, none] [] M1 0 0) fun v9 M8 => yCi false (yX 28 0 [some (.ref 8), none] [] M8 0 0) fun v11 M10 => yCi false (yX 31 0 [some (.ref 8), some (.int 0), some (.int 1), none] [] M10 0 0) fun v13 M12 => yCv false (yX 26 0 [some (.ref 8), some (.int 1), some (.int v9), some (.int v11), some (.int v13)] [] M12 0 0) fun M14 => yV M14 else if v2 = 2 then yCi false (yX 27 0 [some (.ref 8)] [] M1 0 0) fun v17 M16 => yCi false (yX 30 0 [some (.ref 8), some (.int 0), some (.int 11), none, none, none] [] M16 0 0) fun v19 M18 => yCv false (yX 26 0 [some (.ref 8), some (.int 2), some (.int v17), some (.int v19), some (.int 1)] [] M18 0 0) fun M20 => yV M20 else if v2 = 3 then yCi false (yX 27 0 [some (.ref 8)] [] M1 0 0) fun v23 M22 => yCi false (yX 27 0 [some (.ref 8)] [] M22 0 0) fun v25 M24 => yCv false (yX 26 0 [some (.ref 8), some (.int 3), some (.int v23), some (.int v25), some (.int 1)] [] M24 0 0) fun M26 => yV M26 else if v2 = 4 then yCi false (yX 31 0 [some (.ref 8), some (.int 0), some (.int 3), none] [] M1 0 0) fun v29 M28 => yCi false (yX 31 0 [some (.ref 8), some (.int 0), some (.int 3), none] [] M28 0 0) fun v31 M30 => yCv false (yX 26 0 [some (.ref 8), some (.int 4), some (.int v29), some (.int v31), some (.int 0)] [] M30 0 0) fun M32 => yV M32 else if v2 = 5 then yCi false (yX 30 0 [some (.ref 8), some (.int 1), some (.int 24), none, none, none] [] M1 0 0) fun v35 M34 => yCv false (yX 26 0 [some (.ref 8), some (.int 5), some (.int (M1 d 2)), some (.int v35), some (.int 0)] [] M34 0 0) fun M36 => yV M36 else yCi false (yX 31 0 [some (.ref 8), some (.int 0), some (.int 3), none] [] M1 0 0) fun v38 M37 => yCv false (yX 26 0 [some (.ref 8), some (.int 6), some (.int 4), some (.int v38), some (.int 0)] [] M37 0 0) fun M39 => yV M39) (yX 25 0 [some (.ref 8), some (.ref d)] [] M 0 0) := by
  refine yL.eq (y_aload_n (pc := 0) (x := 8) d25_0 rfl) ?_
  refine yL.eq (y_gets (pc := 1) d25_1 q25_58) ?_
  refine y_callv_i (pc := 4) (n := 2) (n' := 3) (nc' := 0) (ns' := 0) [.ref 5] [] false d25_4 q25_61 mk_32 s_t_8 rfl rfl (Nat.le_of_ble_eq_true rfl) (Nat.le_of_ble_eq_true rfl) rfl (by decide +kernel) (by decide +kernel) (fun v2 M1 => ?_)
  refine yL.eq (y_tsw (pc := 7) (ts := [44, 58, 83, 103, 120, 141]) (d := 161) d25_7 (by decide +kernel)) ?_
  refine yL.eq (y_ts (c := 0) (lo' := 1) kc_0 (by decide)) ?_
  refine yL.ite (fun h3 => ?_) (fun h3 => ?_)
  ·
    refine yL.eq (y_aload_n (pc := 44) (x := 8) d25_44 rfl) ?_
    refine yL.eq (y_iconst (pc := 45) (v := 0) d25_45 kc_0) ?_
    refine yL.eq (y_aload_n (pc := 46) (x := 8) d25_46 rfl) ?_
    refine y_callv_i (pc := 47) (n := 1) (n' := 5) (nc' := 0) (ns' := 0) [] [.int 0, .ref 8] false d25_47 q25_65 mk_29 s_t_8 rfl rfl (Nat.le_of_ble_eq_true rfl) (Nat.le_of_ble_eq_true rfl) rfl (by decide +kernel) (by decide +kernel) (fun v5 M4 => ?_)
    refine yL.eq (y_iconst (pc := 50) (v := 0) d25_50 kc_0) ?_
    refine yL.eq (y_iconst (pc := 51) (v := 0) d25_51 kc_0) ?_
    refine y_callv_v (pc := 52) (n := 5) (n' := 5) (nc' := 0) (ns' := 0) [.int 0, .int v5, .int 0, .int 0] [] false d25_52 q25_69 mk_26 s_t_8 rfl rfl (Nat.le_of_ble_eq_true rfl) (Nat.le_of_ble_eq_true rfl) rfl (by decide +kernel) (by decide +kernel) (fun M6 => ?_)
    refine yL.eq (y_goto (pc := 55) (t := 175) d25_55 (by decide)) ?_
    exact yL.eq (y_ret (pc := 175) d25_175 mr_25) yL.rf
  ·
    refine yL.eq (y_ts (c := 1) (lo' := 2) kc_1 (by decide)) ?_
    refine yL.ite (fun h7 => ?_) (fun h7 => ?_)
    ·
      refine yL.eq (y_aload_n (pc := 58) (x := 8) d25_58 rfl) ?_
      refine yL.eq (y_iconst (pc := 59) (v := 1) d25_59 kc_1) ?_
      refine yL.eq (y_aload_n (pc := 60) (x := 8) d25_60 rfl) ?_
      refine yL.eq (y_iconst (pc := 61) (v := 1) d25_61 kc_1) ?_
      refine yL.eq (y_bipush (pc := 62) (v := 90) d25_62 kb_90) ?_
      refine y_callv_i (pc := 64) (n := 3) (n' := 6) (nc' := 0) (ns' := 0) [.int 1, .int 90] [.int 1, .ref 8] false d25_64 q25_73 mk_30 s_t_8 rfl rfl (Nat.le_of_ble_eq_true rfl) (Nat.le_of_ble_eq_true rfl) rfl (by decide +kernel) (by decide +kernel) (fun v9 M8 => ?_)
      refine yL.eq (y_aload_n (pc := 67) (x := 8) d25_67 rfl) ?_
      refine y_callv_i (pc := 68) (n := 1) (n' := 2) (nc' := 0) (ns' := 0) [] [.int v9, .int 1, .ref 8] false d25_68 q25_77 mk_28 s_t_8 rfl rfl (Nat.le_of_ble_eq_true rfl) (Nat.le_of_ble_eq_true rfl) rfl (by decide +kernel) (by decide +kernel) (fun v11 M10 => ?_)
      refine yL.eq (y_aload_n (pc := 71) (x := 8) d25_71 rfl) ?_
      refine yL.eq (y_iconst (pc := 72) (v := 0) d25_72 kc_0) ?_
      refine yL.eq (y_iconst (pc := 73) (v := 1) d25_73 kc_1) ?_
      refine y_callv_i (pc := 74) (n := 3) (n' := 4) (nc' := 0) (ns' := 0) [.int 0, .int 1] [.int v11, .int v9, .int 1, .ref 8] false d25_74 q25_80 mk_31 s_t_8 rfl rfl (Nat.le_of_ble_eq_true rfl) (Nat.le_of_ble_eq_true rfl) rfl (by decide +kernel) (by decide +kernel) (fun v13 M12 => ?_)
      refine y_callv_v (pc := 77) (n := 5) (n' := 5) (nc' := 0) (ns' := 0) [.int 1, .int v9, .int v11, .int v13] [] false d25_77 q25_69 mk_26 s_t_8 rfl rfl (Nat.le_of_ble_eq_true rfl) (Nat.le_of_ble_eq_true rfl) rfl (by decide +kernel) (by decide +kernel) (fun M14 => ?_)
      refine yL.eq (y_goto (pc := 80) (t := 175) d25_80 (by decide)) ?_
      exact yL.eq (y_ret (pc := 175) d25_175 mr_25) yL.rf
    ·
      refine yL.eq (y_ts (c := 2) (lo' := 3) kc_2 (by decide)) ?_
      refine yL.ite (fun h15 => ?_) (fun h15 => ?_)
      ·
        refine yL.eq (y_aload_n (pc := 83) (x := 8) d25_83 rfl) ?_
        refine yL.eq (y_iconst (pc := 84) (v := 2) d25_84 kc_2) ?_
        refine yL.eq (y_aload_n (pc := 85) (x := 8) d25_85 rfl) ?_
        refine y_callv_i (pc := 86) (n := 1) (n' := 1) (nc' := 0) (ns' := 0) [] [.int 2, .ref 8] false d25_86 q25_83 mk_27 s_t_8 rfl rfl (Nat.le_of_ble_eq_true rfl) (Nat.le_of_ble_eq_true rfl) rfl (by decide +kernel) (by decide +kernel) (fun v17 M16 => ?_)
        refine yL.eq (y_aload_n (pc := 89) (x := 8) d25_89 rfl) ?_
        refine yL.eq (y_iconst (pc := 90) (v := 0) d25_90 kc_0) ?_
        refine yL.eq (y_bipush (pc := 91) (v := 11) d25_91 kb_11) ?_
        refine y_callv_i (pc := 93) (n := 3) (n' := 6) (nc' := 0) (ns' := 0) [.int 0, .int 11] [.int v17, .int 2, .ref 8] false d25_93 q25_73 mk_30 s_t_8 rfl rfl (Nat.le_of_ble_eq_true rfl) (Nat.le_of_ble_eq_true rfl) rfl (by decide +kernel) (by decide +kernel) (fun v19 M18 => ?_)
        refine yL.eq (y_iconst (pc := 96) (v := 1) d25_96 kc_1) ?_
        refine y_callv_v (pc := 97) (n := 5) (n' := 5) (nc' := 0) (ns' := 0) [.int 2, .int v17, .int v19, .int 1] [] false d25_97 q25_69 mk_26 s_t_8 rfl rfl (Nat.le_of_ble_eq_true rfl) (Nat.le_of_ble_eq_true rfl) rfl (by decide +kernel) (by decide +kernel) (fun M20 => ?_)
        refine yL.eq (y_goto (pc := 100) (t := 175) d25_100 (by decide)) ?_
        exact yL.eq (y_ret (pc := 175) d25_175 mr_25) yL.rf
      ·
        refine yL.eq (y_ts (c := 3) (lo' := 4) kc_3 (by decide)) ?_
        refine yL.ite (fun h21 => ?_) (fun h21 => ?_)
        ·
          refine yL.eq (y_aload_n (pc := 103) (x := 8) d25_103 rfl) ?_
          refine yL.eq (y_iconst (pc := 104) (v := 3) d25_104 kc_3) ?_
          refine yL.eq (y_aload_n (pc := 105) (x := 8) d25_105 rfl) ?_
          refine y_callv_i (pc := 106) (n := 1) (n' := 1) (nc' := 0) (ns' := 0) [] [.int 3, .ref 8] false d25_106 q25_83 mk_27 s_t_8 rfl rfl (Nat.le_of_ble_eq_true rfl) (Nat.le_of_ble_eq_true rfl) rfl (by decide +kernel) (by decide +kernel) (fun v23 M22 => ?_)
          refine yL.eq (y_aload_n (pc := 109) (x := 8) d25_109 rfl) ?_
          refine y_callv_i (pc := 110) (n := 1) (n' := 1) (nc' := 0) (ns' := 0) [] [.int v23, .int 3, .ref 8] false d25_110 q25_83 mk_27 s_t_8 rfl rfl (Nat.le_of_ble_eq_true rfl) (Nat.le_of_ble_eq_true rfl) rfl (by decide +kernel) (by decide +kernel) (fun v25 M24 => ?_)
          refine yL.eq (y_iconst (pc := 113) (v := 1) d25_113 kc_1) ?_
          refine y_callv_v (pc := 114) (n := 5) (n' := 5) (nc' := 0) (ns' := 0) [.int 3, .int v23, .int v25, .int 1] [] false d25_114 q25_69 mk_26 s_t_8 rfl rfl (Nat.le_of_ble_eq_true rfl) (Nat.le_of_ble_eq_true rfl) rfl (by decide +kernel) (by decide +kernel) (fun M26 => ?_)
          refine yL.eq (y_goto (pc := 117) (t := 175) d25_117 (by decide)) ?_
          exact yL.eq (y_ret (pc := 175) d25_175 mr_25) yL.rf
        ·
          refine yL.eq (y_ts (c := 4) (lo' := 5) kc_4 (by decide)) ?_
          refine yL.ite (fun h27 => ?_) (fun h27 => ?_)
          ·
            refine yL.eq (y_aload_n (pc := 120) (x := 8) d25_120 rfl) ?_
            refine yL.eq (y_iconst (pc := 121) (v := 4) d25_121 kc_4) ?_
            refine yL.eq (y_aload_n (pc := 122) (x := 8) d25_122 rfl) ?_
            refine yL.eq (y_iconst (pc := 123) (v := 0) d25_123 kc_0) ?_
            refine yL.eq (y_iconst (pc := 124) (v := 3) d25_124 kc_3) ?_
            refine y_callv_i (pc := 125) (n := 3) (n' := 4) (nc' := 0) (ns' := 0) [.int 0, .int 3] [.int 4, .ref 8] false d25_125 q25_80 mk_31 s_t_8 rfl rfl (Nat.le_of_ble_eq_true rfl) (Nat.le_of_ble_eq_true rfl) rfl (by decide +kernel) (by decide +kernel) (fun v29 M28 => ?_)
            refine yL.eq (y_aload_n (pc := 128) (x := 8) d25_128 rfl) ?_
            refine yL.eq (y_iconst (pc := 129) (v := 0) d25_129 kc_0) ?_
            refine yL.eq (y_iconst (pc := 130) (v := 3) d25_130 kc_3) ?_
            refine y_callv_i (pc := 131) (n := 3) (n' := 4) (nc' := 0) (ns' := 0) [.int 0, .int 3] [.int v29, .int 4, .ref 8] false d25_131 q25_80 mk_31 s_t_8 rfl rfl (Nat.le_of_ble_eq_true rfl) (Nat.le_of_ble_eq_true rfl) rfl (by decide +kernel) (by decide +kernel) (fun v31 M30 => ?_)
            refine yL.eq (y_iconst (pc := 134) (v := 0) d25_134 kc_0) ?_
            refine y_callv_v (pc := 135) (n := 5) (n' := 5) (nc' := 0) (ns' := 0) [.int 4, .int v29, .int v31, .int 0] [] false d25_135 q25_69 mk_26 s_t_8 rfl rfl (Nat.le_of_ble_eq_true rfl) (Nat.le_of_ble_eq_true rfl) rfl (by decide +kernel) (by decide +kernel) (fun M32 => ?_)
            refine yL.eq (y_goto (pc := 138) (t := 175) d25_138 (by decide)) ?_
            exact yL.eq (y_ret (pc := 175) d25_175 mr_25) yL.rf
          ·
            refine yL.eq (y_ts (c := 5) (lo' := 6) kc_5 (by decide)) ?_
            refine yL.ite (fun h33 => ?_) (fun h33 => ?_)
            ·
              refine yL.eq (y_aload_n (pc := 141) (x := 8) d25_141 rfl) ?_
              refine yL.eq (y_iconst (pc := 142) (v := 5) d25_142 kc_5) ?_
              refine yL.eq (y_aload_n (pc := 143) (x := d) d25_143 rfl) ?_
              refine yL.eq (y_geti (pc := 144) d25_144 q25_86 (((yC_i hd)).2).2.1) ?_
              refine yL.eq (y_aload_n (pc := 147) (x := 8) d25_147 rfl) ?_
              refine yL.eq (y_iconst (pc := 148) (v := 1) d25_148 kc_1) ?_
              refine yL.eq (y_bipush (pc := 149) (v := 24) d25_149 kb_24) ?_
              refine y_callv_i (pc := 151) (n := 3) (n' := 6) (nc' := 0) (ns' := 0) [.int 1, .int 24] [.int (M1 d 2), .int 5, .ref 8] false d25_151 q25_73 mk_30 s_t_8 rfl rfl (Nat.le_of_ble_eq_true rfl) (Nat.le_of_ble_eq_true rfl) rfl (by decide +kernel) (by decide +kernel) (fun v35 M34 => ?_)
              refine yL.eq (y_iconst (pc := 154) (v := 0) d25_154 kc_0) ?_
              refine y_callv_v (pc := 155) (n := 5) (n' := 5) (nc' := 0) (ns' := 0) [.int 5, .int (M1 d 2), .int v35, .int 0] [] false d25_155 q25_69 mk_26 s_t_8 rfl rfl (Nat.le_of_ble_eq_true rfl) (Nat.le_of_ble_eq_true rfl) rfl (by decide +kernel) (by decide +kernel) (fun M36 => ?_)
              refine yL.eq (y_goto (pc := 158) (t := 175) d25_158 (by decide)) ?_
              exact yL.eq (y_ret (pc := 175) d25_175 mr_25) yL.rf
            ·
              refine yL.eq y_tsn ?_
              refine yL.eq (y_aload_n (pc := 161) (x := 8) d25_161 rfl) ?_
              refine yL.eq (y_bipush (pc := 162) (v := 6) d25_162 kb_6) ?_
              refine yL.eq (y_iconst (pc := 164) (v := 4) d25_164 kc_4) ?_
              refine yL.eq (y_aload_n (pc := 165) (x := 8) d25_165 rfl) ?_
              refine yL.eq (y_iconst (pc := 166) (v := 0) d25_166 kc_0) ?_
              refine yL.eq (y_iconst (pc := 167) (v := 3) d25_167 kc_3) ?_
              refine y_callv_i (pc := 168) (n := 3) (n' := 4) (nc' := 0) (ns' := 0) [.int 0, .int 3] [.int 4, .int 6, .ref 8] false d25_168 q25_80 mk_31 s_t_8 rfl rfl (Nat.le_of_ble_eq_true rfl) (Nat.le_of_ble_eq_true rfl) rfl (by decide +kernel) (by decide +kernel) (fun v38 M37 => ?_)
              refine yL.eq (y_iconst (pc := 171) (v := 0) d25_171 kc_0) ?_
              refine y_callv_v (pc := 172) (n := 5) (n' := 5) (nc' := 0) (ns' := 0) [.int 6, .int 4, .int v38, .int 0] [] false d25_172 q25_69 mk_26 s_t_8 rfl rfl (Nat.le_of_ble_eq_true rfl) (Nat.le_of_ble_eq_true rfl) rfl (by decide +kernel) (by decide +kernel) (fun M39 => ?_)
              exact yL.eq (y_ret (pc := 175) d25_175 mr_25) yL.rf
set_option maxRecDepth 20000 in
set_option maxHeartbeats 4000000 in
theorem e26 {a1 : Int32} {a2 : Int32} {a3 : Int32} {a4 : Int32} {M : yM} : yL (yLet (yU M 8 5 a1) fun M1 => yLet (yU M1 8 6 a2) fun M2 => yLet (yU M2 8 7 a3) fun M3 => yLet (yU M3 8 8 a4) fun M4 => yV M4) (yX 26 0 [some (.ref 8), some (.int a1), some (.int a2), some (.int a3), some (.int a4)] [] M 0 0) := by
  refine yL.eq (y_aload_n (pc := 0) (x := 8) d26_0 rfl) ?_
  refine yL.eq (y_iload_n (pc := 1) (x := a1) d26_1 rfl) ?_
  refine y_putiL (pc := 2) d26_2 q26_42 s_i_8_5 rfl (fun M1 => ?_)
  refine yL.eq (y_aload_n (pc := 5) (x := 8) d26_5 rfl) ?_
  refine yL.eq (y_iload_n (pc := 6) (x := a2) d26_6 rfl) ?_
  refine y_putiL (pc := 7) d26_7 q26_45 s_i_8_6 rfl (fun M2 => ?_)
  refine yL.eq (y_aload_n (pc := 10) (x := 8) d26_10 rfl) ?_
  refine yL.eq (y_iload_n (pc := 11) (x := a3) d26_11 rfl) ?_
  refine y_putiL (pc := 12) d26_12 q26_48 s_i_8_7 rfl (fun M3 => ?_)
  refine yL.eq (y_aload_n (pc := 15) (x := 8) d26_15 rfl) ?_
  refine yL.eq (y_iload (pc := 16) (x := a4) d26_16 rfl) ?_
  refine y_putiL (pc := 18) d26_18 q26_51 s_i_8_8 rfl (fun M4 => ?_)
  exact yL.eq (y_ret (pc := 21) d26_21 mr_26) yL.rf
set_option maxRecDepth 20000 in
set_option maxHeartbeats 4000000 in
theorem e27  {M : yM} : yL (yCi false (yX 30 0 [some (.ref 8), some (.int 0), some (.int 13), none, none, none] [] M 0 0) fun v2 M1 => yI v2 M1) (yX 27 0 [some (.ref 8)] [] M 0 0) := by
  refine yL.eq (y_aload_n (pc := 0) (x := 8) d27_0 rfl) ?_
  refine yL.eq (y_iconst (pc := 1) (v := 0) d27_1 kc_0) ?_
  refine yL.eq (y_bipush (pc := 2) (v := 13) d27_2 kb_13) ?_
  refine y_callv_i (pc := 4) (n := 3) (n' := 6) (nc' := 0) (ns' := 0) [.int 0, .int 13] [] false d27_4 q27_73 mk_30 s_t_8 rfl rfl (Nat.le_of_ble_eq_true rfl) (Nat.le_of_ble_eq_true rfl) rfl (by decide +kernel) (by decide +kernel) (fun v2 M1 => ?_)
  exact yL.eq (y_ireti (pc := 7) d27_7 mr_27) yL.rf
set_option maxRecDepth 20000 in
set_option maxHeartbeats 4000000 in
theorem e28  {M : yM} : yL (yCi false (yX 31 0 [some (.ref 8), some (.int 0), some (.int 4), none] [] M 0 0) fun v2 M1 => yCi false (yX 95 0 [some (.int v2)] [] M1 0 0) fun v4 M3 => if v4 = 0 then yI (-1) M3 else yI v2 M3) (yX 28 0 [some (.ref 8), none] [] M 0 0) := by
  refine yL.eq (y_aload_n (pc := 0) (x := 8) d28_0 rfl) ?_
  refine yL.eq (y_iconst (pc := 1) (v := 0) d28_1 kc_0) ?_
  refine yL.eq (y_iconst (pc := 2) (v := 4) d28_2 kc_4) ?_
  refine y_callv_i (pc := 3) (n := 3) (n' := 4) (nc' := 0) (ns' := 0) [.int 0, .int 4] [] false d28_3 q28_80 mk_31 s_t_8 rfl rfl (Nat.le_of_ble_eq_true rfl) (Nat.le_of_ble_eq_true rfl) rfl (by decide +kernel) (by decide +kernel) (fun v2 M1 => ?_)
  refine yL.eq (y_istore_n (pc := 6) (ls' := [some (.ref 8), some (.int v2)]) d28_6 rfl rfl) ?_
  refine yL.eq (y_iload_n (pc := 7) (x := v2) d28_7 rfl) ?_
  refine y_calls_i (pc := 8) (n := 1) (n' := 1) (nc' := 0) (ns' := 0) [.int v2] [] false d28_8 q28_89 rfl rfl rfl (Nat.le_of_ble_eq_true rfl) (Nat.le_of_ble_eq_true rfl) rfl (by decide +kernel) (by decide +kernel) (fun v4 M3 => ?_)
  refine yL.eq (y_if_eq (pc := 11) (t := 18) d28_11 (by decide)) ?_
  refine yL.ite (fun h5 => ?_) (fun h5 => ?_)
  ·
    refine yL.eq (y_iconst (pc := 18) (v := (-1)) d28_18 kc_m1) ?_
    exact yL.eq (y_ireti (pc := 19) d28_19 mr_28) yL.rf
  ·
    refine yL.eq (y_iload_n (pc := 14) (x := v2) d28_14 rfl) ?_
    refine yL.eq (y_goto (pc := 15) (t := 19) d28_15 (by decide)) ?_
    exact yL.eq (y_ireti (pc := 19) d28_19 mr_28) yL.rf
set_option maxRecDepth 20000 in
set_option maxHeartbeats 4000000 in
theorem e29  {M : yM} : yL (yCi false (yX 30 0 [some (.ref 8), some (.int 0), some (.int 99), none, none, none] [] M 0 0) fun v2 M1 => yCi false (yX 34 0 [some (.ref 8), some (.int 43)] [] M1 0 0) fun v4 M3 => if v4 = 0 then yX 29 55 [some (.ref 8), some (.int v2), some (.int 0), some (.int 1), none] [] M3 0 0 else yLet (yU M3 8 3 ((M3 8 3) + 1)) fun M6 => yCi false (yX 31 0 [some (.ref 8), some (.int 1), some (.int 7), none] [] M6 0 0) fun v8 M7 => yCv false (yX 33 0 [some (.ref 8), some (.int 47)] [] M7 0 0) fun M9 => yCi false (yX 31 0 [some (.ref 8), some (.int (v8 + 1)), some (.int 8), none] [] M9 0 0) fun v11 M10 => yX 29 55 [some (.ref 8), some (.int v2), some (.int v8), some (.int v11), none] [] M10 0 0) (yX 29 0 [some (.ref 8), none, none, none, none] [] M 0 0) := by
  refine yL.eq (y_aload_n (pc := 0) (x := 8) d29_0 rfl) ?_
  refine yL.eq (y_iconst (pc := 1) (v := 0) d29_1 kc_0) ?_
  refine yL.eq (y_bipush (pc := 2) (v := 99) d29_2 kb_99) ?_
  refine y_callv_i (pc := 4) (n := 3) (n' := 6) (nc' := 0) (ns' := 0) [.int 0, .int 99] [] false d29_4 q29_73 mk_30 s_t_8 rfl rfl (Nat.le_of_ble_eq_true rfl) (Nat.le_of_ble_eq_true rfl) rfl (by decide +kernel) (by decide +kernel) (fun v2 M1 => ?_)
  refine yL.eq (y_istore_n (pc := 7) (ls' := [some (.ref 8), some (.int v2), none, none, none]) d29_7 rfl rfl) ?_
  refine yL.eq (y_iconst (pc := 8) (v := 0) d29_8 kc_0) ?_
  refine yL.eq (y_istore_n (pc := 9) (ls' := [some (.ref 8), some (.int v2), some (.int 0), none, none]) d29_9 rfl rfl) ?_
  refine yL.eq (y_iconst (pc := 10) (v := 1) d29_10 kc_1) ?_
  refine yL.eq (y_istore_n (pc := 11) (ls' := [some (.ref 8), some (.int v2), some (.int 0), some (.int 1), none]) d29_11 rfl rfl) ?_
  refine yL.eq (y_aload_n (pc := 12) (x := 8) d29_12 rfl) ?_
  refine yL.eq (y_bipush (pc := 13) (v := 43) d29_13 kb_43) ?_
  refine y_callv_i (pc := 15) (n := 2) (n' := 2) (nc' := 0) (ns' := 0) [.int 43] [] false d29_15 q29_93 mk_34 s_t_8 rfl rfl (Nat.le_of_ble_eq_true rfl) (Nat.le_of_ble_eq_true rfl) rfl (by decide +kernel) (by decide +kernel) (fun v4 M3 => ?_)
  refine yL.eq (y_if_eq (pc := 18) (t := 55) d29_18 (by decide)) ?_
  refine yL.ite (fun h5 => ?_) (fun h5 => ?_)
  ·
    exact yL.rf
  ·
    refine yL.eq (y_aload_n (pc := 21) (x := 8) d29_21 rfl) ?_
    refine yL.eq (y_dup (pc := 22) d29_22 rfl) ?_
    refine yL.eq (y_geti (pc := 23) d29_23 q29_27 s_i_8_3) ?_
    refine yL.eq (y_iconst (pc := 26) (v := 1) d29_26 kc_1) ?_
    refine yL.eq (y_iadd (pc := 27) d29_27) ?_
    refine y_putiL (pc := 28) d29_28 q29_27 s_i_8_3 rfl (fun M6 => ?_)
    refine yL.eq (y_aload_n (pc := 31) (x := 8) d29_31 rfl) ?_
    refine yL.eq (y_iconst (pc := 32) (v := 1) d29_32 kc_1) ?_
    refine yL.eq (y_bipush (pc := 33) (v := 7) d29_33 kb_7) ?_
    refine y_callv_i (pc := 35) (n := 3) (n' := 4) (nc' := 0) (ns' := 0) [.int 1, .int 7] [] false d29_35 q29_80 mk_31 s_t_8 rfl rfl (Nat.le_of_ble_eq_true rfl) (Nat.le_of_ble_eq_true rfl) rfl (by decide +kernel) (by decide +kernel) (fun v8 M7 => ?_)
    refine yL.eq (y_istore_n (pc := 38) (ls' := [some (.ref 8), some (.int v2), some (.int v8), some (.int 1), none]) d29_38 rfl rfl) ?_
    refine yL.eq (y_aload_n (pc := 39) (x := 8) d29_39 rfl) ?_
    refine yL.eq (y_bipush (pc := 40) (v := 47) d29_40 kb_47) ?_
    refine y_callv_v (pc := 42) (n := 2) (n' := 2) (nc' := 0) (ns' := 0) [.int 47] [] false d29_42 q29_34 mk_33 s_t_8 rfl rfl (Nat.le_of_ble_eq_true rfl) (Nat.le_of_ble_eq_true rfl) rfl (by decide +kernel) (by decide +kernel) (fun M9 => ?_)
    refine yL.eq (y_aload_n (pc := 45) (x := 8) d29_45 rfl) ?_
    refine yL.eq (y_iload_n (pc := 46) (x := v8) d29_46 rfl) ?_
    refine yL.eq (y_iconst (pc := 47) (v := 1) d29_47 kc_1) ?_
    refine yL.eq (y_iadd (pc := 48) d29_48) ?_
    refine yL.eq (y_bipush (pc := 49) (v := 8) d29_49 kb_8) ?_
    refine y_callv_i (pc := 51) (n := 3) (n' := 4) (nc' := 0) (ns' := 0) [.int (v8 + 1), .int 8] [] false d29_51 q29_80 mk_31 s_t_8 rfl rfl (Nat.le_of_ble_eq_true rfl) (Nat.le_of_ble_eq_true rfl) rfl (by decide +kernel) (by decide +kernel) (fun v11 M10 => ?_)
    refine yL.eq (y_istore_n (pc := 54) (ls' := [some (.ref 8), some (.int v2), some (.int v8), some (.int v11), none]) d29_54 rfl rfl) ?_
    exact yL.rf
set_option maxRecDepth 20000 in
set_option maxHeartbeats 4000000 in
theorem e29_55 {x1 : Int32} {x2 : Int32} {x3 : Int32} {o4 : Option Value} {M : yM} : yL (yCi false (yX 32 0 [some (.ref 8), some (.ref 6), none] [] M 0 0) fun v2 M1 => if (M1 8 4) = 0 then if v2 < 0 then yI 0 M1 else if x3 < 1 then yI 0 M1 else if yinB v2 4 = true then if yinB v2 4 = true then if x3 = 0 then none else yI (((xsR0 4 (yx v2)) * x1) + (((xsR0 4 (yx v2)) * x2) / x3)) M1 else none else none else yI 0 M1) (yX 29 55 [some (.ref 8), some (.int x1), some (.int x2), some (.int x3), o4] [] M 0 0) := by
  refine yL.eq (y_aload_n (pc := 55) (x := 8) d29_55 rfl) ?_
  refine yL.eq (y_gets (pc := 56) d29_56 q29_97) ?_
  refine y_callv_i (pc := 59) (n := 2) (n' := 3) (nc' := 0) (ns' := 0) [.ref 6] [] false d29_59 q29_61 mk_32 s_t_8 rfl rfl (Nat.le_of_ble_eq_true rfl) (Nat.le_of_ble_eq_true rfl) rfl (by decide +kernel) (by decide +kernel) (fun v2 M1 => ?_)
  refine yL.eq (y_istore (pc := 62) (ls' := [some (.ref 8), some (.int x1), some (.int x2), some (.int x3), some (.int v2)]) d29_62 rfl rfl) ?_
  refine yL.eq (y_aload_n (pc := 64) (x := 8) d29_64 rfl) ?_
  refine yL.eq (y_geti (pc := 65) d29_65 q29_30 s_i_8_4) ?_
  refine yL.eq (y_if_ne (pc := 68) (t := 81) d29_68 (by decide)) ?_
  refine yL.ite (fun h3 => ?_) (fun h3 => ?_)
  ·
    refine yL.eq (y_iload (pc := 71) (x := v2) d29_71 rfl) ?_
    refine yL.eq (y_if_lt (pc := 73) (t := 81) d29_73 (by decide)) ?_
    refine yL.ite (fun h4 => ?_) (fun h4 => ?_)
    ·
      refine yL.eq (y_iconst (pc := 81) (v := 0) d29_81 kc_0) ?_
      exact yL.eq (y_ireti (pc := 82) d29_82 mr_29) yL.rf
    ·
      refine yL.eq (y_iload_n (pc := 76) (x := x3) d29_76 rfl) ?_
      refine yL.eq (y_iconst (pc := 77) (v := 1) d29_77 kc_1) ?_
      refine yL.eq (y_icmp_ge (pc := 78) (t := 83) d29_78 (by decide)) ?_
      refine yL.ite (fun h5 => ?_) (fun h5 => ?_)
      ·
        refine yL.eq (y_iconst (pc := 81) (v := 0) d29_81 kc_0) ?_
        exact yL.eq (y_ireti (pc := 82) d29_82 mr_29) yL.rf
      ·
        refine yL.eq (y_gets (pc := 83) d29_83 q29_100) ?_
        refine yL.eq (y_iload (pc := 86) (x := v2) d29_86 rfl) ?_
        refine yL.eq (y_iald1 (pc := 88) (n := 4) d29_88 s_g_4) ?_
        refine yL.gd (fun h6 => ?_)
        refine yL.eq (y_iload_n (pc := 89) (x := x1) d29_89 rfl) ?_
        refine yL.eq (y_imul (pc := 90) d29_90) ?_
        refine yL.eq (y_gets (pc := 91) d29_91 q29_100) ?_
        refine yL.eq (y_iload (pc := 94) (x := v2) d29_94 rfl) ?_
        refine yL.eq (y_iald1 (pc := 96) (n := 4) d29_96 s_g_4) ?_
        refine yL.gd (fun h7 => ?_)
        refine yL.eq (y_iload_n (pc := 97) (x := x2) d29_97 rfl) ?_
        refine yL.eq (y_imul (pc := 98) d29_98) ?_
        refine yL.eq (y_iload_n (pc := 99) (x := x3) d29_99 rfl) ?_
        refine yL.eq (y_idiv (pc := 100) d29_100) ?_
        refine yL.gn (fun h8 => ?_)
        refine yL.eq (y_iadd (pc := 101) d29_101) ?_
        exact yL.eq (y_ireti (pc := 102) d29_102 mr_29) yL.rf
  ·
    refine yL.eq (y_iconst (pc := 81) (v := 0) d29_81 kc_0) ?_
    exact yL.eq (y_ireti (pc := 82) d29_82 mr_29) yL.rf
set_option maxRecDepth 20000 in
set_option maxHeartbeats 4000000 in
theorem e30 {a1 : Int32} {a2 : Int32} {M : yM} : yL (yCi false (yX 31 0 [some (.ref 8), some (.int (a1 / 10)), some (.int (a2 / 10)), none] [] M 0 0) fun v2 M1 => if v2 = (a1 / 10) then if v2 = (a2 / 10) then yCi false (yX 31 0 [some (.ref 8), some (.int (a1 % 10)), some (.int (a2 % 10)), none] [] M1 0 0) fun v6 M5 => yI ((10 * v2) + v6) M5 else yCi false (yX 31 0 [some (.ref 8), some (.int (a1 % 10)), some (.int 9), none] [] M1 0 0) fun v8 M7 => yI ((10 * v2) + v8) M7 else if v2 = (a2 / 10) then yCi false (yX 31 0 [some (.ref 8), some (.int 0), some (.int (a2 % 10)), none] [] M1 0 0) fun v11 M10 => yI ((10 * v2) + v11) M10 else yCi false (yX 31 0 [some (.ref 8), some (.int 0), some (.int 9), none] [] M1 0 0) fun v13 M12 => yI ((10 * v2) + v13) M12) (yX 30 0 [some (.ref 8), some (.int a1), some (.int a2), none, none, none] [] M 0 0) := by
  refine yL.eq (y_aload_n (pc := 0) (x := 8) d30_0 rfl) ?_
  refine yL.eq (y_iload_n (pc := 1) (x := a1) d30_1 rfl) ?_
  refine yL.eq (y_bipush (pc := 2) (v := 10) d30_2 kb_10) ?_
  refine yL.eq (y_idivc (pc := 4) d30_4 nzI_10) ?_
  refine yL.eq (y_iload_n (pc := 5) (x := a2) d30_5 rfl) ?_
  refine yL.eq (y_bipush (pc := 6) (v := 10) d30_6 kb_10) ?_
  refine yL.eq (y_idivc (pc := 8) d30_8 nzI_10) ?_
  refine y_callv_i (pc := 9) (n := 3) (n' := 4) (nc' := 0) (ns' := 0) [.int (a1 / 10), .int (a2 / 10)] [] false d30_9 q30_80 mk_31 s_t_8 rfl rfl (Nat.le_of_ble_eq_true rfl) (Nat.le_of_ble_eq_true rfl) rfl (by decide +kernel) (by decide +kernel) (fun v2 M1 => ?_)
  refine yL.eq (y_istore_n (pc := 12) (ls' := [some (.ref 8), some (.int a1), some (.int a2), some (.int v2), none, none]) d30_12 rfl rfl) ?_
  refine yL.eq (y_iload_n (pc := 13) (x := v2) d30_13 rfl) ?_
  refine yL.eq (y_iload_n (pc := 14) (x := a1) d30_14 rfl) ?_
  refine yL.eq (y_bipush (pc := 15) (v := 10) d30_15 kb_10) ?_
  refine yL.eq (y_idivc (pc := 17) d30_17 nzI_10) ?_
  refine yL.eq (y_icmp_ne (pc := 18) (t := 28) d30_18 (by decide)) ?_
  refine yL.ite (fun h3 => ?_) (fun h3 => ?_)
  ·
    refine yL.eq (y_iload_n (pc := 21) (x := a1) d30_21 rfl) ?_
    refine yL.eq (y_bipush (pc := 22) (v := 10) d30_22 kb_10) ?_
    refine yL.eq (y_imodc (pc := 24) d30_24 nzI_10) ?_
    refine yL.eq (y_goto (pc := 25) (t := 29) d30_25 (by decide)) ?_
    refine yL.eq (y_istore (pc := 29) (ls' := [some (.ref 8), some (.int a1), some (.int a2), some (.int v2), some (.int (a1 % 10)), none]) d30_29 rfl rfl) ?_
    refine yL.eq (y_iload_n (pc := 31) (x := v2) d30_31 rfl) ?_
    refine yL.eq (y_iload_n (pc := 32) (x := a2) d30_32 rfl) ?_
    refine yL.eq (y_bipush (pc := 33) (v := 10) d30_33 kb_10) ?_
    refine yL.eq (y_idivc (pc := 35) d30_35 nzI_10) ?_
    refine yL.eq (y_icmp_ne (pc := 36) (t := 46) d30_36 (by decide)) ?_
    refine yL.ite (fun h4 => ?_) (fun h4 => ?_)
    ·
      refine yL.eq (y_iload_n (pc := 39) (x := a2) d30_39 rfl) ?_
      refine yL.eq (y_bipush (pc := 40) (v := 10) d30_40 kb_10) ?_
      refine yL.eq (y_imodc (pc := 42) d30_42 nzI_10) ?_
      refine yL.eq (y_goto (pc := 43) (t := 48) d30_43 (by decide)) ?_
      refine yL.eq (y_istore (pc := 48) (ls' := [some (.ref 8), some (.int a1), some (.int a2), some (.int v2), some (.int (a1 % 10)), some (.int (a2 % 10))]) d30_48 rfl rfl) ?_
      refine yL.eq (y_bipush (pc := 50) (v := 10) d30_50 kb_10) ?_
      refine yL.eq (y_iload_n (pc := 52) (x := v2) d30_52 rfl) ?_
      refine yL.eq (y_imul (pc := 53) d30_53) ?_
      refine yL.eq (y_aload_n (pc := 54) (x := 8) d30_54 rfl) ?_
      refine yL.eq (y_iload (pc := 55) (x := (a1 % 10)) d30_55 rfl) ?_
      refine yL.eq (y_iload (pc := 57) (x := (a2 % 10)) d30_57 rfl) ?_
      refine y_callv_i (pc := 59) (n := 3) (n' := 4) (nc' := 0) (ns' := 0) [.int (a1 % 10), .int (a2 % 10)] [.int (10 * v2)] false d30_59 q30_80 mk_31 s_t_8 rfl rfl (Nat.le_of_ble_eq_true rfl) (Nat.le_of_ble_eq_true rfl) rfl (by decide +kernel) (by decide +kernel) (fun v6 M5 => ?_)
      refine yL.eq (y_iadd (pc := 62) d30_62) ?_
      exact yL.eq (y_ireti (pc := 63) d30_63 mr_30) yL.rf
    ·
      refine yL.eq (y_bipush (pc := 46) (v := 9) d30_46 kb_9) ?_
      refine yL.eq (y_istore (pc := 48) (ls' := [some (.ref 8), some (.int a1), some (.int a2), some (.int v2), some (.int (a1 % 10)), some (.int 9)]) d30_48 rfl rfl) ?_
      refine yL.eq (y_bipush (pc := 50) (v := 10) d30_50 kb_10) ?_
      refine yL.eq (y_iload_n (pc := 52) (x := v2) d30_52 rfl) ?_
      refine yL.eq (y_imul (pc := 53) d30_53) ?_
      refine yL.eq (y_aload_n (pc := 54) (x := 8) d30_54 rfl) ?_
      refine yL.eq (y_iload (pc := 55) (x := (a1 % 10)) d30_55 rfl) ?_
      refine yL.eq (y_iload (pc := 57) (x := 9) d30_57 rfl) ?_
      refine y_callv_i (pc := 59) (n := 3) (n' := 4) (nc' := 0) (ns' := 0) [.int (a1 % 10), .int 9] [.int (10 * v2)] false d30_59 q30_80 mk_31 s_t_8 rfl rfl (Nat.le_of_ble_eq_true rfl) (Nat.le_of_ble_eq_true rfl) rfl (by decide +kernel) (by decide +kernel) (fun v8 M7 => ?_)
      refine yL.eq (y_iadd (pc := 62) d30_62) ?_
      exact yL.eq (y_ireti (pc := 63) d30_63 mr_30) yL.rf
  ·
    refine yL.eq (y_iconst (pc := 28) (v := 0) d30_28 kc_0) ?_
    refine yL.eq (y_istore (pc := 29) (ls' := [some (.ref 8), some (.int a1), some (.int a2), some (.int v2), some (.int 0), none]) d30_29 rfl rfl) ?_
    refine yL.eq (y_iload_n (pc := 31) (x := v2) d30_31 rfl) ?_
    refine yL.eq (y_iload_n (pc := 32) (x := a2) d30_32 rfl) ?_
    refine yL.eq (y_bipush (pc := 33) (v := 10) d30_33 kb_10) ?_
    refine yL.eq (y_idivc (pc := 35) d30_35 nzI_10) ?_
    refine yL.eq (y_icmp_ne (pc := 36) (t := 46) d30_36 (by decide)) ?_
    refine yL.ite (fun h9 => ?_) (fun h9 => ?_)
    ·
      refine yL.eq (y_iload_n (pc := 39) (x := a2) d30_39 rfl) ?_
      refine yL.eq (y_bipush (pc := 40) (v := 10) d30_40 kb_10) ?_
      refine yL.eq (y_imodc (pc := 42) d30_42 nzI_10) ?_
      refine yL.eq (y_goto (pc := 43) (t := 48) d30_43 (by decide)) ?_
      refine yL.eq (y_istore (pc := 48) (ls' := [some (.ref 8), some (.int a1), some (.int a2), some (.int v2), some (.int 0), some (.int (a2 % 10))]) d30_48 rfl rfl) ?_
      refine yL.eq (y_bipush (pc := 50) (v := 10) d30_50 kb_10) ?_
      refine yL.eq (y_iload_n (pc := 52) (x := v2) d30_52 rfl) ?_
      refine yL.eq (y_imul (pc := 53) d30_53) ?_
      refine yL.eq (y_aload_n (pc := 54) (x := 8) d30_54 rfl) ?_
      refine yL.eq (y_iload (pc := 55) (x := 0) d30_55 rfl) ?_
      refine yL.eq (y_iload (pc := 57) (x := (a2 % 10)) d30_57 rfl) ?_
      refine y_callv_i (pc := 59) (n := 3) (n' := 4) (nc' := 0) (ns' := 0) [.int 0, .int (a2 % 10)] [.int (10 * v2)] false d30_59 q30_80 mk_31 s_t_8 rfl rfl (Nat.le_of_ble_eq_true rfl) (Nat.le_of_ble_eq_true rfl) rfl (by decide +kernel) (by decide +kernel) (fun v11 M10 => ?_)
      refine yL.eq (y_iadd (pc := 62) d30_62) ?_
      exact yL.eq (y_ireti (pc := 63) d30_63 mr_30) yL.rf
    ·
      refine yL.eq (y_bipush (pc := 46) (v := 9) d30_46 kb_9) ?_
      refine yL.eq (y_istore (pc := 48) (ls' := [some (.ref 8), some (.int a1), some (.int a2), some (.int v2), some (.int 0), some (.int 9)]) d30_48 rfl rfl) ?_
      refine yL.eq (y_bipush (pc := 50) (v := 10) d30_50 kb_10) ?_
      refine yL.eq (y_iload_n (pc := 52) (x := v2) d30_52 rfl) ?_
      refine yL.eq (y_imul (pc := 53) d30_53) ?_
      refine yL.eq (y_aload_n (pc := 54) (x := 8) d30_54 rfl) ?_
      refine yL.eq (y_iload (pc := 55) (x := 0) d30_55 rfl) ?_
      refine yL.eq (y_iload (pc := 57) (x := 9) d30_57 rfl) ?_
      refine y_callv_i (pc := 59) (n := 3) (n' := 4) (nc' := 0) (ns' := 0) [.int 0, .int 9] [.int (10 * v2)] false d30_59 q30_80 mk_31 s_t_8 rfl rfl (Nat.le_of_ble_eq_true rfl) (Nat.le_of_ble_eq_true rfl) rfl (by decide +kernel) (by decide +kernel) (fun v13 M12 => ?_)
      refine yL.eq (y_iadd (pc := 62) d30_62) ?_
      exact yL.eq (y_ireti (pc := 63) d30_63 mr_30) yL.rf
set_option maxRecDepth 20000 in
set_option maxHeartbeats 4000000 in
theorem e31 {a1 : Int32} {a2 : Int32} {M : yM} : yL (yX 31 2 [some (.ref 8), some (.int a1), some (.int a2), some (.int a1)] [] M 0 0) (yX 31 0 [some (.ref 8), some (.int a1), some (.int a2), none] [] M 0 0) := by
  refine yL.eq (y_iload_n (pc := 0) (x := a1) d31_0 rfl) ?_
  refine yL.eq (y_istore_n (pc := 1) (ls' := [some (.ref 8), some (.int a1), some (.int a2), some (.int a1)]) d31_1 rfl rfl) ?_
  exact yL.rf
set_option maxRecDepth 20000 in
set_option maxHeartbeats 4000000 in
theorem e31_2 {o1 : Option Value} {x2 : Int32} {x3 : Int32} {M : yM} : yL (if x3 ≤ x2 then yCi false (yX 34 0 [some (.ref 8), some (.int (((48 + x3).toUInt32 % 65536).toInt32))] [] M 0 0) fun v3 M2 => if v3 = 0 then yX 31 2 [some (.ref 8), o1, some (.int x2), some (.int (x3 + 1))] [] M2 0 0 else yLet (yU M2 8 3 ((M2 8 3) + 1)) fun M5 => yI x3 M5 else yLet (yU M 8 4 1) fun M6 => yI 0 M6) (yX 31 2 [some (.ref 8), o1, some (.int x2), some (.int x3)] [] M 0 0) := by
  refine yL.eq (y_iload_n (pc := 2) (x := x3) d31_2 rfl) ?_
  refine yL.eq (y_iload_n (pc := 3) (x := x2) d31_3 rfl) ?_
  refine yL.eq (y_icmp_gt (pc := 4) (t := 37) d31_4 (by decide)) ?_
  refine yL.ite (fun h1 => ?_) (fun h1 => ?_)
  ·
    refine yL.eq (y_aload_n (pc := 7) (x := 8) d31_7 rfl) ?_
    refine yL.eq (y_bipush (pc := 8) (v := 48) d31_8 kb_48) ?_
    refine yL.eq (y_iload_n (pc := 10) (x := x3) d31_10 rfl) ?_
    refine yL.eq (y_iadd (pc := 11) d31_11) ?_
    refine yL.eq (y_i2c (pc := 12) d31_12) ?_
    refine y_callv_i (pc := 13) (n := 2) (n' := 2) (nc' := 0) (ns' := 0) [.int (((48 + x3).toUInt32 % 65536).toInt32)] [] false d31_13 q31_93 mk_34 s_t_8 rfl rfl (Nat.le_of_ble_eq_true rfl) (Nat.le_of_ble_eq_true rfl) rfl (by decide +kernel) (by decide +kernel) (fun v3 M2 => ?_)
    refine yL.eq (y_if_eq (pc := 16) (t := 31) d31_16 (by decide)) ?_
    refine yL.ite (fun h4 => ?_) (fun h4 => ?_)
    ·
      refine yL.eq (y_iinc (pc := 31) (v := 1) (x := x3) (ls' := [some (.ref 8), o1, some (.int x2), some (.int (x3 + 1))]) d31_31 kc_1 rfl (Nat.le_of_ble_eq_true rfl) rfl) ?_
      refine yL.eq (y_goto (pc := 34) (t := 2) d31_34 (by decide)) ?_
      exact yL.rf
    ·
      refine yL.eq (y_aload_n (pc := 19) (x := 8) d31_19 rfl) ?_
      refine yL.eq (y_dup (pc := 20) d31_20 rfl) ?_
      refine yL.eq (y_geti (pc := 21) d31_21 q31_27 s_i_8_3) ?_
      refine yL.eq (y_iconst (pc := 24) (v := 1) d31_24 kc_1) ?_
      refine yL.eq (y_iadd (pc := 25) d31_25) ?_
      refine y_putiL (pc := 26) d31_26 q31_27 s_i_8_3 rfl (fun M5 => ?_)
      refine yL.eq (y_iload_n (pc := 29) (x := x3) d31_29 rfl) ?_
      exact yL.eq (y_ireti (pc := 30) d31_30 mr_31) yL.rf
  ·
    refine yL.eq (y_aload_n (pc := 37) (x := 8) d31_37 rfl) ?_
    refine yL.eq (y_iconst (pc := 38) (v := 1) d31_38 kc_1) ?_
    refine y_putiL (pc := 39) d31_39 q31_30 s_i_8_4 rfl (fun M6 => ?_)
    refine yL.eq (y_iconst (pc := 42) (v := 0) d31_42 kc_0) ?_
    exact yL.eq (y_ireti (pc := 43) d31_43 mr_31) yL.rf
set_option maxRecDepth 20000 in
set_option maxHeartbeats 4000000 in
theorem e32 {q n : Nat} (hq : ySg q 11 n) {M : yM} : yL (yX 32 2 [some (.ref 8), some (.ref q), some (.int 0)] [] M 0 0) (yX 32 0 [some (.ref 8), some (.ref q), none] [] M 0 0) := by
  refine yL.eq (y_iconst (pc := 0) (v := 0) d32_0 kc_0) ?_
  refine yL.eq (y_istore_n (pc := 1) (ls' := [some (.ref 8), some (.ref q), some (.int 0)]) d32_1 rfl rfl) ?_
  exact yL.rf
set_option maxRecDepth 20000 in
set_option maxHeartbeats 4000000 in
theorem e32_2 {q n : Nat} {x2 : Int32} (hq : ySg q 11 n) {M : yM} : yL (if x2 < (Int32.ofNat n) then if yinB x2 n = true then yCi false (yX 34 0 [some (.ref 8), some (.int (xsR0 q (yx x2)))] [] M 0 0) fun v4 M3 => if v4 = 0 then yX 32 2 [some (.ref 8), some (.ref q), some (.int (x2 + 1))] [] M3 0 0 else yLet (yU M3 8 3 ((M3 8 3) + 1)) fun M6 => yI x2 M6 else none else yLet (yU M 8 4 1) fun M7 => yI (-1) M7) (yX 32 2 [some (.ref 8), some (.ref q), some (.int x2)] [] M 0 0) := by
  refine yL.eq (y_iload_n (pc := 2) (x := x2) d32_2 rfl) ?_
  refine yL.eq (y_aload_n (pc := 3) (x := q) d32_3 rfl) ?_
  refine yL.eq (y_alen1 (pc := 4) d32_4 hq) ?_
  refine yL.eq (y_icmp_ge (pc := 5) (t := 36) d32_5 (by decide)) ?_
  refine yL.ite (fun h1 => ?_) (fun h1 => ?_)
  ·
    refine yL.eq (y_aload_n (pc := 8) (x := 8) d32_8 rfl) ?_
    refine yL.eq (y_aload_n (pc := 9) (x := q) d32_9 rfl) ?_
    refine yL.eq (y_iload_n (pc := 10) (x := x2) d32_10 rfl) ?_
    refine yL.eq (y_cald1 (pc := 11) (n := n) d32_11 hq) ?_
    refine yL.gd (fun h2 => ?_)
    refine y_callv_i (pc := 12) (n := 2) (n' := 2) (nc' := 0) (ns' := 0) [.int (xsR0 q (yx x2))] [] false d32_12 q32_93 mk_34 s_t_8 rfl rfl (Nat.le_of_ble_eq_true rfl) (Nat.le_of_ble_eq_true rfl) rfl (by decide +kernel) (by decide +kernel) (fun v4 M3 => ?_)
    refine yL.eq (y_if_eq (pc := 15) (t := 30) d32_15 (by decide)) ?_
    refine yL.ite (fun h5 => ?_) (fun h5 => ?_)
    ·
      refine yL.eq (y_iinc (pc := 30) (v := 1) (x := x2) (ls' := [some (.ref 8), some (.ref q), some (.int (x2 + 1))]) d32_30 kc_1 rfl (Nat.le_of_ble_eq_true rfl) rfl) ?_
      refine yL.eq (y_goto (pc := 33) (t := 2) d32_33 (by decide)) ?_
      exact yL.rf
    ·
      refine yL.eq (y_aload_n (pc := 18) (x := 8) d32_18 rfl) ?_
      refine yL.eq (y_dup (pc := 19) d32_19 rfl) ?_
      refine yL.eq (y_geti (pc := 20) d32_20 q32_27 s_i_8_3) ?_
      refine yL.eq (y_iconst (pc := 23) (v := 1) d32_23 kc_1) ?_
      refine yL.eq (y_iadd (pc := 24) d32_24) ?_
      refine y_putiL (pc := 25) d32_25 q32_27 s_i_8_3 rfl (fun M6 => ?_)
      refine yL.eq (y_iload_n (pc := 28) (x := x2) d32_28 rfl) ?_
      exact yL.eq (y_ireti (pc := 29) d32_29 mr_32) yL.rf
  ·
    refine yL.eq (y_aload_n (pc := 36) (x := 8) d32_36 rfl) ?_
    refine yL.eq (y_iconst (pc := 37) (v := 1) d32_37 kc_1) ?_
    refine y_putiL (pc := 38) d32_38 q32_30 s_i_8_4 rfl (fun M7 => ?_)
    refine yL.eq (y_iconst (pc := 41) (v := (-1)) d32_41 kc_m1) ?_
    exact yL.eq (y_ireti (pc := 42) d32_42 mr_32) yL.rf
set_option maxRecDepth 20000 in
set_option maxHeartbeats 4000000 in
theorem e33 {a1 : Int32} {M : yM} : yL (yCi false (yX 34 0 [some (.ref 8), some (.int a1)] [] M 0 0) fun v2 M1 => if v2 = 0 then yLet (yU M1 8 4 1) fun M4 => yV M4 else yLet (yU M1 8 3 ((M1 8 3) + 1)) fun M5 => yV M5) (yX 33 0 [some (.ref 8), some (.int a1)] [] M 0 0) := by
  refine yL.eq (y_aload_n (pc := 0) (x := 8) d33_0 rfl) ?_
  refine yL.eq (y_iload_n (pc := 1) (x := a1) d33_1 rfl) ?_
  refine y_callv_i (pc := 2) (n := 2) (n' := 2) (nc' := 0) (ns' := 0) [.int a1] [] false d33_2 q33_93 mk_34 s_t_8 rfl rfl (Nat.le_of_ble_eq_true rfl) (Nat.le_of_ble_eq_true rfl) rfl (by decide +kernel) (by decide +kernel) (fun v2 M1 => ?_)
  refine yL.eq (y_if_eq (pc := 5) (t := 21) d33_5 (by decide)) ?_
  refine yL.ite (fun h3 => ?_) (fun h3 => ?_)
  ·
    refine yL.eq (y_aload_n (pc := 21) (x := 8) d33_21 rfl) ?_
    refine yL.eq (y_iconst (pc := 22) (v := 1) d33_22 kc_1) ?_
    refine y_putiL (pc := 23) d33_23 q33_30 s_i_8_4 rfl (fun M4 => ?_)
    exact yL.eq (y_ret (pc := 26) d33_26 mr_33) yL.rf
  ·
    refine yL.eq (y_aload_n (pc := 8) (x := 8) d33_8 rfl) ?_
    refine yL.eq (y_dup (pc := 9) d33_9 rfl) ?_
    refine yL.eq (y_geti (pc := 10) d33_10 q33_27 s_i_8_3) ?_
    refine yL.eq (y_iconst (pc := 13) (v := 1) d33_13 kc_1) ?_
    refine yL.eq (y_iadd (pc := 14) d33_14) ?_
    refine y_putiL (pc := 15) d33_15 q33_27 s_i_8_3 rfl (fun M5 => ?_)
    refine yL.eq (y_goto (pc := 18) (t := 26) d33_18 (by decide)) ?_
    exact yL.eq (y_ret (pc := 26) d33_26 mr_33) yL.rf
set_option maxRecDepth 20000 in
set_option maxHeartbeats 4000000 in
theorem e34 {a1 : Int32} {M : yM} : yL (if (M 8 4) = 0 then if (M 8 3) < (M 8 1) then if yinB (M 8 3) 120 = true then if (M 9 (yx (M 8 3))) = a1 then yI 1 M else yI 0 M else none else yI 0 M else yI 0 M) (yX 34 0 [some (.ref 8), some (.int a1)] [] M 0 0) := by
  refine yL.eq (y_aload_n (pc := 0) (x := 8) d34_0 rfl) ?_
  refine yL.eq (y_geti (pc := 1) d34_1 q34_30 s_i_8_4) ?_
  refine yL.eq (y_if_ne (pc := 4) (t := 35) d34_4 (by decide)) ?_
  refine yL.ite (fun h1 => ?_) (fun h1 => ?_)
  ·
    refine yL.eq (y_aload_n (pc := 7) (x := 8) d34_7 rfl) ?_
    refine yL.eq (y_geti (pc := 8) d34_8 q34_27 s_i_8_3) ?_
    refine yL.eq (y_aload_n (pc := 11) (x := 8) d34_11 rfl) ?_
    refine yL.eq (y_geti (pc := 12) d34_12 q34_15 s_i_8_1) ?_
    refine yL.eq (y_icmp_ge (pc := 15) (t := 35) d34_15 (by decide)) ?_
    refine yL.ite (fun h2 => ?_) (fun h2 => ?_)
    ·
      refine yL.eq (y_aload_n (pc := 18) (x := 8) d34_18 rfl) ?_
      refine yL.eq (y_getr (pc := 19) (r := 9) d34_19 q34_9 s_r_8_0) ?_
      refine yL.eq (y_aload_n (pc := 22) (x := 8) d34_22 rfl) ?_
      refine yL.eq (y_geti (pc := 23) d34_23 q34_27 s_i_8_3) ?_
      refine yL.eq (y_cald (pc := 26) (n := 120) d34_26 s_a_9) ?_
      refine yL.gd (fun h3 => ?_)
      refine yL.eq (y_iload_n (pc := 27) (x := a1) d34_27 rfl) ?_
      refine yL.eq (y_icmp_ne (pc := 28) (t := 35) d34_28 (by decide)) ?_
      refine yL.ite (fun h4 => ?_) (fun h4 => ?_)
      ·
        refine yL.eq (y_iconst (pc := 31) (v := 1) d34_31 kc_1) ?_
        refine yL.eq (y_goto (pc := 32) (t := 36) d34_32 (by decide)) ?_
        exact yL.eq (y_iretz (pc := 36) d34_36 mr_34) (yL.eq yZ_1 yL.rf)
      ·
        refine yL.eq (y_iconst (pc := 35) (v := 0) d34_35 kc_0) ?_
        exact yL.eq (y_iretz (pc := 36) d34_36 mr_34) (yL.eq yZ_0 yL.rf)
    ·
      refine yL.eq (y_iconst (pc := 35) (v := 0) d34_35 kc_0) ?_
      exact yL.eq (y_iretz (pc := 36) d34_36 mr_34) (yL.eq yZ_0 yL.rf)
  ·
    refine yL.eq (y_iconst (pc := 35) (v := 0) d34_35 kc_0) ?_
    exact yL.eq (y_iretz (pc := 36) d34_36 mr_34) (yL.eq yZ_0 yL.rf)
set_option maxRecDepth 20000 in
set_option maxHeartbeats 4000000 in
theorem e36 {d : Nat} (hd : yC d) {M : yM} : yL (if yinB (M 42 1) 14 = true then yCv false (yX 2 0 [some (.ref (44 + 9 * yx (M 42 1))), some (.ref d)] [] M 0 0) fun M2 => if ((M2 42 1) + 1) < 14 then yLet (yU M2 42 1 ((M2 42 1) + 1)) fun M4 => yLet (yU M4 42 2 (if 14 < ((M4 42 2) + 1) then 14 else ((M4 42 2) + 1))) fun M5 => yV M5 else yLet (yU M2 42 1 0) fun M6 => yLet (yU M6 42 2 (if 14 < ((M6 42 2) + 1) then 14 else ((M6 42 2) + 1))) fun M7 => yV M7 else none) (yX 36 0 [some (.ref 42), some (.ref d)] [] M 0 0) := by
  refine yL.eq (y_aload_n (pc := 0) (x := 42) d36_0 rfl) ?_
  refine yL.eq (y_getr (pc := 1) (r := 43) d36_1 q36_11 s_r_42_0) ?_
  refine yL.eq (y_aload_n (pc := 4) (x := 42) d36_4 rfl) ?_
  refine yL.eq (y_geti (pc := 5) d36_5 q36_18 s_i_42_1) ?_
  refine yL.eq (y_aald (pc := 8) d36_8 yAr_43) ?_
  refine yL.gd (fun h1 => ?_)
  refine yL.eq (y_aload_n (pc := 9) (x := d) d36_9 rfl) ?_
  refine y_callv_v (pc := 10) (n := 2) (n' := 2) (nc' := 0) (ns' := 0) [.ref d] [] false d36_10 q36_22 mk_2 (yC_t (yC_43 (yx_lt h1))) rfl rfl (Nat.le_of_ble_eq_true rfl) (Nat.le_of_ble_eq_true rfl) rfl (by decide +kernel) (by decide +kernel) (fun M2 => ?_)
  refine yL.eq (y_aload_n (pc := 13) (x := 42) d36_13 rfl) ?_
  refine yL.eq (y_aload_n (pc := 14) (x := 42) d36_14 rfl) ?_
  refine yL.eq (y_geti (pc := 15) d36_15 q36_18 s_i_42_1) ?_
  refine yL.eq (y_iconst (pc := 18) (v := 1) d36_18 kc_1) ?_
  refine yL.eq (y_iadd (pc := 19) d36_19) ?_
  refine yL.eq (y_bipush (pc := 20) (v := 14) d36_20 kb_14) ?_
  refine yL.eq (y_icmp_ge (pc := 22) (t := 34) d36_22 (by decide)) ?_
  refine yL.ite (fun h3 => ?_) (fun h3 => ?_)
  ·
    refine yL.eq (y_aload_n (pc := 25) (x := 42) d36_25 rfl) ?_
    refine yL.eq (y_geti (pc := 26) d36_26 q36_18 s_i_42_1) ?_
    refine yL.eq (y_iconst (pc := 29) (v := 1) d36_29 kc_1) ?_
    refine yL.eq (y_iadd (pc := 30) d36_30) ?_
    refine yL.eq (y_goto (pc := 31) (t := 35) d36_31 (by decide)) ?_
    refine y_putiL (pc := 35) d36_35 q36_18 s_i_42_1 rfl (fun M4 => ?_)
    refine yL.eq (y_aload_n (pc := 38) (x := 42) d36_38 rfl) ?_
    refine yL.eq (y_aload_n (pc := 39) (x := 42) d36_39 rfl) ?_
    refine yL.eq (y_geti (pc := 40) d36_40 q36_26 s_i_42_2) ?_
    refine yL.eq (y_iconst (pc := 43) (v := 1) d36_43 kc_1) ?_
    refine yL.eq (y_iadd (pc := 44) d36_44) ?_
    refine yL.eq (y_bipush (pc := 45) (v := 14) d36_45 kb_14) ?_
    refine yL.eq (y_mmin (pc := 47) d36_47 q36_29 (Nat.le_of_ble_eq_true rfl) (by decide +kernel)) ?_
    refine y_putiL (pc := 50) d36_50 q36_26 s_i_42_2 rfl (fun M5 => ?_)
    exact yL.eq (y_ret (pc := 53) d36_53 mr_36) yL.rf
  ·
    refine yL.eq (y_iconst (pc := 34) (v := 0) d36_34 kc_0) ?_
    refine y_putiL (pc := 35) d36_35 q36_18 s_i_42_1 rfl (fun M6 => ?_)
    refine yL.eq (y_aload_n (pc := 38) (x := 42) d36_38 rfl) ?_
    refine yL.eq (y_aload_n (pc := 39) (x := 42) d36_39 rfl) ?_
    refine yL.eq (y_geti (pc := 40) d36_40 q36_26 s_i_42_2) ?_
    refine yL.eq (y_iconst (pc := 43) (v := 1) d36_43 kc_1) ?_
    refine yL.eq (y_iadd (pc := 44) d36_44) ?_
    refine yL.eq (y_bipush (pc := 45) (v := 14) d36_45 kb_14) ?_
    refine yL.eq (y_mmin (pc := 47) d36_47 q36_29 (Nat.le_of_ble_eq_true rfl) (by decide +kernel)) ?_
    refine y_putiL (pc := 50) d36_50 q36_26 s_i_42_2 rfl (fun M7 => ?_)
    exact yL.eq (y_ret (pc := 53) d36_53 mr_36) yL.rf
set_option maxRecDepth 20000 in
set_option maxHeartbeats 4000000 in
theorem e37 {d : Nat} (hd : yC d) {M : yM} : yL (if (M 42 1) ≤ 0 then yLet (yU M 42 1 13) fun M2 => if yinB (M2 42 1) 14 = true then yCv false (yX 2 0 [some (.ref d), some (.ref (44 + 9 * yx (M2 42 1)))] [] M2 0 0) fun M4 => yLet (yU M4 42 2 ((M4 42 2) - 1)) fun M5 => yI (M5 42 2) M5 else none else yLet (yU M 42 1 ((M 42 1) - 1)) fun M6 => if yinB (M6 42 1) 14 = true then yCv false (yX 2 0 [some (.ref d), some (.ref (44 + 9 * yx (M6 42 1)))] [] M6 0 0) fun M8 => yLet (yU M8 42 2 ((M8 42 2) - 1)) fun M9 => yI (M9 42 2) M9 else none) (yX 37 0 [some (.ref 42), some (.ref d)] [] M 0 0) := by
  refine yL.eq (y_aload_n (pc := 0) (x := 42) d37_0 rfl) ?_
  refine yL.eq (y_aload_n (pc := 1) (x := 42) d37_1 rfl) ?_
  refine yL.eq (y_geti (pc := 2) d37_2 q37_18 s_i_42_1) ?_
  refine yL.eq (y_if_le (pc := 5) (t := 17) d37_5 (by decide)) ?_
  refine yL.ite (fun h1 => ?_) (fun h1 => ?_)
  ·
    refine yL.eq (y_bipush (pc := 17) (v := 13) d37_17 kb_13) ?_
    refine y_putiL (pc := 19) d37_19 q37_18 s_i_42_1 rfl (fun M2 => ?_)
    refine yL.eq (y_aload_n (pc := 22) (x := d) d37_22 rfl) ?_
    refine yL.eq (y_aload_n (pc := 23) (x := 42) d37_23 rfl) ?_
    refine yL.eq (y_getr (pc := 24) (r := 43) d37_24 q37_11 s_r_42_0) ?_
    refine yL.eq (y_aload_n (pc := 27) (x := 42) d37_27 rfl) ?_
    refine yL.eq (y_geti (pc := 28) d37_28 q37_18 s_i_42_1) ?_
    refine yL.eq (y_aald (pc := 31) d37_31 yAr_43) ?_
    refine yL.gd (fun h3 => ?_)
    refine y_callv_v (pc := 32) (n := 2) (n' := 2) (nc' := 0) (ns' := 0) [.ref (44 + 9 * yx (M2 42 1))] [] false d37_32 q37_22 mk_2 (yC_t hd) rfl rfl (Nat.le_of_ble_eq_true rfl) (Nat.le_of_ble_eq_true rfl) rfl (by decide +kernel) (by decide +kernel) (fun M4 => ?_)
    refine yL.eq (y_aload_n (pc := 35) (x := 42) d37_35 rfl) ?_
    refine yL.eq (y_dup (pc := 36) d37_36 rfl) ?_
    refine yL.eq (y_geti (pc := 37) d37_37 q37_26 s_i_42_2) ?_
    refine yL.eq (y_iconst (pc := 40) (v := 1) d37_40 kc_1) ?_
    refine yL.eq (y_isub (pc := 41) d37_41) ?_
    refine y_putiL (pc := 42) d37_42 q37_26 s_i_42_2 rfl (fun M5 => ?_)
    refine yL.eq (y_aload_n (pc := 45) (x := 42) d37_45 rfl) ?_
    refine yL.eq (y_geti (pc := 46) d37_46 q37_26 s_i_42_2) ?_
    exact yL.eq (y_ireti (pc := 49) d37_49 mr_37) yL.rf
  ·
    refine yL.eq (y_aload_n (pc := 8) (x := 42) d37_8 rfl) ?_
    refine yL.eq (y_geti (pc := 9) d37_9 q37_18 s_i_42_1) ?_
    refine yL.eq (y_iconst (pc := 12) (v := 1) d37_12 kc_1) ?_
    refine yL.eq (y_isub (pc := 13) d37_13) ?_
    refine yL.eq (y_goto (pc := 14) (t := 19) d37_14 (by decide)) ?_
    refine y_putiL (pc := 19) d37_19 q37_18 s_i_42_1 rfl (fun M6 => ?_)
    refine yL.eq (y_aload_n (pc := 22) (x := d) d37_22 rfl) ?_
    refine yL.eq (y_aload_n (pc := 23) (x := 42) d37_23 rfl) ?_
    refine yL.eq (y_getr (pc := 24) (r := 43) d37_24 q37_11 s_r_42_0) ?_
    refine yL.eq (y_aload_n (pc := 27) (x := 42) d37_27 rfl) ?_
    refine yL.eq (y_geti (pc := 28) d37_28 q37_18 s_i_42_1) ?_
    refine yL.eq (y_aald (pc := 31) d37_31 yAr_43) ?_
    refine yL.gd (fun h7 => ?_)
    refine y_callv_v (pc := 32) (n := 2) (n' := 2) (nc' := 0) (ns' := 0) [.ref (44 + 9 * yx (M6 42 1))] [] false d37_32 q37_22 mk_2 (yC_t hd) rfl rfl (Nat.le_of_ble_eq_true rfl) (Nat.le_of_ble_eq_true rfl) rfl (by decide +kernel) (by decide +kernel) (fun M8 => ?_)
    refine yL.eq (y_aload_n (pc := 35) (x := 42) d37_35 rfl) ?_
    refine yL.eq (y_dup (pc := 36) d37_36 rfl) ?_
    refine yL.eq (y_geti (pc := 37) d37_37 q37_26 s_i_42_2) ?_
    refine yL.eq (y_iconst (pc := 40) (v := 1) d37_40 kc_1) ?_
    refine yL.eq (y_isub (pc := 41) d37_41) ?_
    refine y_putiL (pc := 42) d37_42 q37_26 s_i_42_2 rfl (fun M9 => ?_)
    refine yL.eq (y_aload_n (pc := 45) (x := 42) d37_45 rfl) ?_
    refine yL.eq (y_geti (pc := 46) d37_46 q37_26 s_i_42_2) ?_
    exact yL.eq (y_ireti (pc := 49) d37_49 mr_37) yL.rf
set_option maxRecDepth 20000 in
set_option maxHeartbeats 4000000 in
theorem e38  {M : yM} : yL (yLet (yU M 42 2 0) fun M1 => yV M1) (yX 38 0 [some (.ref 42)] [] M 0 0) := by
  refine yL.eq (y_aload_n (pc := 0) (x := 42) d38_0 rfl) ?_
  refine yL.eq (y_iconst (pc := 1) (v := 0) d38_1 kc_0) ?_
  refine y_putiL (pc := 2) d38_2 q38_26 s_i_42_2 rfl (fun M1 => ?_)
  exact yL.eq (y_ret (pc := 5) d38_5 mr_38) yL.rf
set_option maxRecDepth 20000 in
set_option maxHeartbeats 4000000 in
theorem e40 {p : Nat} (hp : yP p) {M : yM} : yL (yCv false (yX 48 0 [some (.ref p), none, none] [] M 0 0) fun M1 => yX 40 8 [some (.ref p), some (.int 0), some (.int 0)] [] M1 0 0) (yX 40 0 [some (.ref p), none, none] [] M 0 0) := by
  refine yL.eq (y_aload_n (pc := 0) (x := p) d40_0 rfl) ?_
  refine y_callv_v (pc := 1) (n := 1) (n' := 3) (nc' := 0) (ns' := 0) [] [] false d40_1 q40_37 mk_48 (yP_t hp) rfl rfl (Nat.le_of_ble_eq_true rfl) (Nat.le_of_ble_eq_true rfl) rfl (by decide +kernel) (by decide +kernel) (fun M1 => ?_)
  refine yL.eq (y_iconst (pc := 4) (v := 0) d40_4 kc_0) ?_
  refine yL.eq (y_istore_n (pc := 5) (ls' := [some (.ref p), some (.int 0), none]) d40_5 rfl rfl) ?_
  refine yL.eq (y_iconst (pc := 6) (v := 0) d40_6 kc_0) ?_
  refine yL.eq (y_istore_n (pc := 7) (ls' := [some (.ref p), some (.int 0), some (.int 0)]) d40_7 rfl rfl) ?_
  exact yL.rf
set_option maxRecDepth 20000 in
set_option maxHeartbeats 4000000 in
theorem e40_8 {p : Nat} {x1 : Int32} {x2 : Int32} (hp : yP p) {M : yM} : yL (if x2 < (M (p + 1) 1) then if yinB x2 14 = true then yX 40 8 [some (.ref p), some (.int (if x1 < (M (p + 12) (yx x2)) then (M (p + 12) (yx x2)) else x1)), some (.int (x2 + 1))] [] M 0 0 else none else yI x1 M) (yX 40 8 [some (.ref p), some (.int x1), some (.int x2)] [] M 0 0) := by
  refine yL.eq (y_iload_n (pc := 8) (x := x2) d40_8 rfl) ?_
  refine yL.eq (y_aload_n (pc := 9) (x := p) d40_9 rfl) ?_
  refine yL.eq (y_getr (pc := 10) (r := (p + 1)) d40_10 q40_12 (yP_r hp).1) ?_
  refine yL.eq (y_geti (pc := 13) d40_13 q40_40 ((yC_i (yP_c hp))).2.1) ?_
  refine yL.eq (y_icmp_ge (pc := 16) (t := 36) d40_16 (by decide)) ?_
  refine yL.ite (fun h1 => ?_) (fun h1 => ?_)
  ·
    refine yL.eq (y_iload_n (pc := 19) (x := x1) d40_19 rfl) ?_
    refine yL.eq (y_aload_n (pc := 20) (x := p) d40_20 rfl) ?_
    refine yL.eq (y_getr (pc := 21) (r := (p + 12)) d40_21 q40_25 ((((yP_r hp)).2).2).2.1) ?_
    refine yL.eq (y_iload_n (pc := 24) (x := x2) d40_24 rfl) ?_
    refine yL.eq (y_iald (pc := 25) (n := 14) d40_25 (((yP_a hp)).2).2.1) ?_
    refine yL.gd (fun h2 => ?_)
    refine yL.eq (y_mmax (pc := 26) d40_26 q40_44 (Nat.le_of_ble_eq_true rfl) (by decide +kernel)) ?_
    refine yL.eq (y_istore_n (pc := 29) (ls' := [some (.ref p), some (.int (if x1 < (M (p + 12) (yx x2)) then (M (p + 12) (yx x2)) else x1)), some (.int x2)]) d40_29 rfl rfl) ?_
    refine yL.eq (y_iinc (pc := 30) (v := 1) (x := x2) (ls' := [some (.ref p), some (.int (if x1 < (M (p + 12) (yx x2)) then (M (p + 12) (yx x2)) else x1)), some (.int (x2 + 1))]) d40_30 kc_1 rfl (Nat.le_of_ble_eq_true rfl) rfl) ?_
    refine yL.eq (y_goto (pc := 33) (t := 8) d40_33 (by decide)) ?_
    exact yL.rf
  ·
    refine yL.eq (y_iload_n (pc := 36) (x := x1) d40_36 rfl) ?_
    exact yL.eq (y_ireti (pc := 37) d40_37 mr_40) yL.rf
set_option maxRecDepth 20000 in
set_option maxHeartbeats 4000000 in
theorem e41 {p : Nat} {a1 : Int32} (hp : yP p) {M : yM} : yL (yX 41 2 [some (.ref p), some (.int a1), some (.int 0)] [] M 0 0) (yX 41 0 [some (.ref p), some (.int a1), none] [] M 0 0) := by
  refine yL.eq (y_iconst (pc := 0) (v := 0) d41_0 kc_0) ?_
  refine yL.eq (y_istore_n (pc := 1) (ls' := [some (.ref p), some (.int a1), some (.int 0)]) d41_1 rfl rfl) ?_
  exact yL.rf
set_option maxRecDepth 20000 in
set_option maxHeartbeats 4000000 in
theorem e41_2 {p : Nat} {x1 : Int32} {x2 : Int32} (hp : yP p) {M : yM} : yL (if x2 < (M p 6) then if yinB x2 14 = true then if yinB (M (p + 14) (yx x2)) 14 = true then yCi false (yX 99 0 [some (.int (M ((p + 1) + 5) (yx (M (p + 14) (yx x2))))), some (.int x1)] [] M 0 0) fun v5 M4 => if v5 = 0 then yX 41 2 [some (.ref p), some (.int x1), some (.int (x2 + 1))] [] M4 0 0 else if yinB x2 14 = true then if yinB (M4 (p + 14) (yx x2)) 14 = true then yI (M4 (p + 10) (yx (M4 (p + 14) (yx x2)))) M4 else none else none else none else none else yI (-1) M) (yX 41 2 [some (.ref p), some (.int x1), some (.int x2)] [] M 0 0) := by
  refine yL.eq (y_iload_n (pc := 2) (x := x2) d41_2 rfl) ?_
  refine yL.eq (y_aload_n (pc := 3) (x := p) d41_3 rfl) ?_
  refine yL.eq (y_geti (pc := 4) d41_4 q41_50 (yP_i hp).1) ?_
  refine yL.eq (y_icmp_ge (pc := 7) (t := 49) d41_7 (by decide)) ?_
  refine yL.ite (fun h1 => ?_) (fun h1 => ?_)
  ·
    refine yL.eq (y_aload_n (pc := 10) (x := p) d41_10 rfl) ?_
    refine yL.eq (y_getr (pc := 11) (r := (p + 1)) d41_11 q41_12 (yP_r hp).1) ?_
    refine yL.eq (y_getr (pc := 14) (r := ((p + 1) + 5)) d41_14 q41_53 (((((yC_r (yP_c hp))).2).2).2).2.1) ?_
    refine yL.eq (y_aload_n (pc := 17) (x := p) d41_17 rfl) ?_
    refine yL.eq (y_getr (pc := 18) (r := (p + 14)) d41_18 q41_31 ((((((yP_r hp)).2).2).2).2).2.1) ?_
    refine yL.eq (y_iload_n (pc := 21) (x := x2) d41_21 rfl) ?_
    refine yL.eq (y_iald (pc := 22) (n := 14) d41_22 (((((yP_a hp)).2).2).2).2.1) ?_
    refine yL.gd (fun h2 => ?_)
    refine yL.eq (y_iald (pc := 23) (n := 14) d41_23 (((((yC_a (yP_c hp))).2).2).2).2.1) ?_
    refine yL.gd (fun h3 => ?_)
    refine yL.eq (y_iload_n (pc := 24) (x := x1) d41_24 rfl) ?_
    refine y_calls_i (pc := 25) (n := 2) (n' := 2) (nc' := 0) (ns' := 0) [.int (M ((p + 1) + 5) (yx (M (p + 14) (yx x2)))), .int x1] [] false d41_25 q41_56 rfl rfl rfl (Nat.le_of_ble_eq_true rfl) (Nat.le_of_ble_eq_true rfl) rfl (by decide +kernel) (by decide +kernel) (fun v5 M4 => ?_)
    refine yL.eq (y_if_eq (pc := 28) (t := 43) d41_28 (by decide)) ?_
    refine yL.ite (fun h6 => ?_) (fun h6 => ?_)
    ·
      refine yL.eq (y_iinc (pc := 43) (v := 1) (x := x2) (ls' := [some (.ref p), some (.int x1), some (.int (x2 + 1))]) d41_43 kc_1 rfl (Nat.le_of_ble_eq_true rfl) rfl) ?_
      refine yL.eq (y_goto (pc := 46) (t := 2) d41_46 (by decide)) ?_
      exact yL.rf
    ·
      refine yL.eq (y_aload_n (pc := 31) (x := p) d41_31 rfl) ?_
      refine yL.eq (y_getr (pc := 32) (r := (p + 10)) d41_32 q41_18 ((yP_r hp)).2.1) ?_
      refine yL.eq (y_aload_n (pc := 35) (x := p) d41_35 rfl) ?_
      refine yL.eq (y_getr (pc := 36) (r := (p + 14)) d41_36 q41_31 ((((((yP_r hp)).2).2).2).2).2.1) ?_
      refine yL.eq (y_iload_n (pc := 39) (x := x2) d41_39 rfl) ?_
      refine yL.eq (y_iald (pc := 40) (n := 14) d41_40 (((((yP_a hp)).2).2).2).2.1) ?_
      refine yL.gd (fun h7 => ?_)
      refine yL.eq (y_iald (pc := 41) (n := 14) d41_41 (yP_a hp).1) ?_
      refine yL.gd (fun h8 => ?_)
      exact yL.eq (y_ireti (pc := 42) d41_42 mr_41) yL.rf
  ·
    refine yL.eq (y_iconst (pc := 49) (v := (-1)) d41_49 kc_m1) ?_
    exact yL.eq (y_ireti (pc := 50) d41_50 mr_41) yL.rf
set_option maxRecDepth 20000 in
set_option maxHeartbeats 4000000 in
theorem e42 {p : Nat} {a1 : Int32} {a2 : Int32} (hp : yP p) {M : yM} : yL (yX 42 5 [some (.ref p), some (.int a1), some (.int a2), some (.int 0), some (.int 0)] [] M 0 0) (yX 42 0 [some (.ref p), some (.int a1), some (.int a2), none, none] [] M 0 0) := by
  refine yL.eq (y_iconst (pc := 0) (v := 0) d42_0 kc_0) ?_
  refine yL.eq (y_istore_n (pc := 1) (ls' := [some (.ref p), some (.int a1), some (.int a2), some (.int 0), none]) d42_1 rfl rfl) ?_
  refine yL.eq (y_iconst (pc := 2) (v := 0) d42_2 kc_0) ?_
  refine yL.eq (y_istore (pc := 3) (ls' := [some (.ref p), some (.int a1), some (.int a2), some (.int 0), some (.int 0)]) d42_3 rfl rfl) ?_
  exact yL.rf
set_option maxRecDepth 20000 in
set_option maxHeartbeats 4000000 in
theorem e42_5 {p : Nat} {x1 : Int32} {x2 : Int32} {x3 : Int32} {x4 : Int32} (hp : yP p) {M : yM} : yL (if x4 < (M p 6) then if yinB x4 14 = true then yCi false (yX 43 0 [some (.ref p), some (.int x1), some (.int x2), some (.int (M (p + 14) (yx x4))), none] [] M 0 0) fun v4 M3 => yCi false (yX 98 0 [some (.int v4)] [] M3 0 0) fun v6 M5 => yX 42 5 [some (.ref p), some (.int x1), some (.int x2), some (.int (x3 + v6)), some (.int (x4 + 1))] [] M5 0 0 else none else yI x3 M) (yX 42 5 [some (.ref p), some (.int x1), some (.int x2), some (.int x3), some (.int x4)] [] M 0 0) := by
  refine yL.eq (y_iload (pc := 5) (x := x4) d42_5 rfl) ?_
  refine yL.eq (y_aload_n (pc := 7) (x := p) d42_7 rfl) ?_
  refine yL.eq (y_geti (pc := 8) d42_8 q42_50 (yP_i hp).1) ?_
  refine yL.eq (y_icmp_ge (pc := 11) (t := 39) d42_11 (by decide)) ?_
  refine yL.ite (fun h1 => ?_) (fun h1 => ?_)
  ·
    refine yL.eq (y_iload_n (pc := 14) (x := x3) d42_14 rfl) ?_
    refine yL.eq (y_aload_n (pc := 15) (x := p) d42_15 rfl) ?_
    refine yL.eq (y_iload_n (pc := 16) (x := x1) d42_16 rfl) ?_
    refine yL.eq (y_iload_n (pc := 17) (x := x2) d42_17 rfl) ?_
    refine yL.eq (y_aload_n (pc := 18) (x := p) d42_18 rfl) ?_
    refine yL.eq (y_getr (pc := 19) (r := (p + 14)) d42_19 q42_31 ((((((yP_r hp)).2).2).2).2).2.1) ?_
    refine yL.eq (y_iload (pc := 22) (x := x4) d42_22 rfl) ?_
    refine yL.eq (y_iald (pc := 24) (n := 14) d42_24 (((((yP_a hp)).2).2).2).2.1) ?_
    refine yL.gd (fun h2 => ?_)
    refine y_callv_i (pc := 25) (n := 4) (n' := 5) (nc' := 0) (ns' := 0) [.int x1, .int x2, .int (M (p + 14) (yx x4))] [.int x3] false d42_25 q42_60 mk_43 (yP_t hp) rfl rfl (Nat.le_of_ble_eq_true rfl) (Nat.le_of_ble_eq_true rfl) rfl (by decide +kernel) (by decide +kernel) (fun v4 M3 => ?_)
    refine y_calls_i (pc := 28) (n := 1) (n' := 1) (nc' := 0) (ns' := 0) [.int v4] [.int x3] false d42_28 q42_64 rfl rfl rfl (Nat.le_of_ble_eq_true rfl) (Nat.le_of_ble_eq_true rfl) rfl (by decide +kernel) (by decide +kernel) (fun v6 M5 => ?_)
    refine yL.eq (y_iadd (pc := 31) d42_31) ?_
    refine yL.eq (y_istore_n (pc := 32) (ls' := [some (.ref p), some (.int x1), some (.int x2), some (.int (x3 + v6)), some (.int x4)]) d42_32 rfl rfl) ?_
    refine yL.eq (y_iinc (pc := 33) (v := 1) (x := x4) (ls' := [some (.ref p), some (.int x1), some (.int x2), some (.int (x3 + v6)), some (.int (x4 + 1))]) d42_33 kc_1 rfl (Nat.le_of_ble_eq_true rfl) rfl) ?_
    refine yL.eq (y_goto (pc := 36) (t := 5) d42_36 (by decide)) ?_
    exact yL.rf
  ·
    refine yL.eq (y_iload_n (pc := 39) (x := x3) d42_39 rfl) ?_
    exact yL.eq (y_ireti (pc := 40) d42_40 mr_42) yL.rf
set_option maxRecDepth 20000 in
set_option maxHeartbeats 4000000 in
theorem e43 {p : Nat} {a1 : Int32} {a2 : Int32} {a3 : Int32} (hp : yP p) {M : yM} : yL (if yinB a3 14 = true then if (M (p + 10) (yx a3)) ≤ a1 then if yinB a3 14 = true then if a1 < (M (p + 11) (yx a3)) then if a2 = 0 then if yinB a3 14 = true then if (M ((p + 1) + 4) (yx a3)) = 1 then yI 1 M else yI 0 M else none else if a2 ≤ 4 then if yinB a3 14 = true then if (M ((p + 1) + 3) (yx a3)) = (a2 - 1) then yI 1 M else yI 0 M else none else if a2 ≤ 8 then if yinB a3 14 = true then if (M ((p + 1) + 3) (yx a3)) = ((a2 - 1) - 4) then if yinB a3 14 = true then if (M (p + 11) (yx a3)) ≤ a1 then yCi false (yX 44 0 [some (.ref p), some (.int a3)] [] M 0 0) fun v17 M16 => if a1 < v17 then yI 1 M16 else yI 0 M16 else yI 0 M else none else yI 0 M else none else if yinB a3 14 = true then if (M (p + 11) (yx a3)) ≤ a1 then yI 1 M else yI 0 M else none else yX 43 24 [some (.ref p), some (.int a1), some (.int a2), some (.int a3), none] [] M 0 0 else none else yX 43 24 [some (.ref p), some (.int a1), some (.int a2), some (.int a3), none] [] M 0 0 else none) (yX 43 0 [some (.ref p), some (.int a1), some (.int a2), some (.int a3), none] [] M 0 0) := by
  refine yL.eq (y_aload_n (pc := 0) (x := p) d43_0 rfl) ?_
  refine yL.eq (y_getr (pc := 1) (r := (p + 10)) d43_1 q43_18 ((yP_r hp)).2.1) ?_
  refine yL.eq (y_iload_n (pc := 4) (x := a3) d43_4 rfl) ?_
  refine yL.eq (y_iald (pc := 5) (n := 14) d43_5 (yP_a hp).1) ?_
  refine yL.gd (fun h1 => ?_)
  refine yL.eq (y_iload_n (pc := 6) (x := a1) d43_6 rfl) ?_
  refine yL.eq (y_icmp_gt (pc := 7) (t := 24) d43_7 (by decide)) ?_
  refine yL.ite (fun h2 => ?_) (fun h2 => ?_)
  ·
    refine yL.eq (y_iload_n (pc := 10) (x := a1) d43_10 rfl) ?_
    refine yL.eq (y_aload_n (pc := 11) (x := p) d43_11 rfl) ?_
    refine yL.eq (y_getr (pc := 12) (r := (p + 11)) d43_12 q43_22 (((yP_r hp)).2).2.1) ?_
    refine yL.eq (y_iload_n (pc := 15) (x := a3) d43_15 rfl) ?_
    refine yL.eq (y_iald (pc := 16) (n := 14) d43_16 ((yP_a hp)).2.1) ?_
    refine yL.gd (fun h3 => ?_)
    refine yL.eq (y_icmp_ge (pc := 17) (t := 24) d43_17 (by decide)) ?_
    refine yL.ite (fun h4 => ?_) (fun h4 => ?_)
    ·
      refine yL.eq (y_iconst (pc := 20) (v := 1) d43_20 kc_1) ?_
      refine yL.eq (y_goto (pc := 21) (t := 25) d43_21 (by decide)) ?_
      refine yL.eq (y_istore (pc := 25) (ls' := [some (.ref p), some (.int a1), some (.int a2), some (.int a3), some (.int 1)]) d43_25 rfl rfl) ?_
      refine yL.eq (y_iload_n (pc := 27) (x := a2) d43_27 rfl) ?_
      refine yL.eq (y_if_ne (pc := 28) (t := 55) d43_28 (by decide)) ?_
      refine yL.ite (fun h5 => ?_) (fun h5 => ?_)
      ·
        refine yL.eq (y_iload (pc := 31) (x := 1) d43_31 rfl) ?_
        refine yL.eq (y_if_eq (pc := 33) (t := 53) d43_33 (by decide)) ?_
        refine yL.eq (if_neg cn_Int32_1_eq_0) ?_
        refine yL.eq (y_aload_n (pc := 36) (x := p) d43_36 rfl) ?_
        refine yL.eq (y_getr (pc := 37) (r := (p + 1)) d43_37 q43_12 (yP_r hp).1) ?_
        refine yL.eq (y_getr (pc := 40) (r := ((p + 1) + 4)) d43_40 q43_68 ((((yC_r (yP_c hp))).2).2).2.1) ?_
        refine yL.eq (y_iload_n (pc := 43) (x := a3) d43_43 rfl) ?_
        refine yL.eq (y_iald (pc := 44) (n := 14) d43_44 ((((yC_a (yP_c hp))).2).2).2.1) ?_
        refine yL.gd (fun h6 => ?_)
        refine yL.eq (y_iconst (pc := 45) (v := 1) d43_45 kc_1) ?_
        refine yL.eq (y_icmp_ne (pc := 46) (t := 53) d43_46 (by decide)) ?_
        refine yL.ite (fun h7 => ?_) (fun h7 => ?_)
        ·
          refine yL.eq (y_iconst (pc := 49) (v := 1) d43_49 kc_1) ?_
          refine yL.eq (y_goto (pc := 50) (t := 54) d43_50 (by decide)) ?_
          exact yL.eq (y_iretz (pc := 54) d43_54 mr_43) (yL.eq yZ_1 yL.rf)
        ·
          refine yL.eq (y_iconst (pc := 53) (v := 0) d43_53 kc_0) ?_
          exact yL.eq (y_iretz (pc := 54) d43_54 mr_43) (yL.eq yZ_0 yL.rf)
      ·
        refine yL.eq (y_iload_n (pc := 55) (x := a2) d43_55 rfl) ?_
        refine yL.eq (y_iconst (pc := 56) (v := 4) d43_56 kc_4) ?_
        refine yL.eq (y_icmp_gt (pc := 57) (t := 86) d43_57 (by decide)) ?_
        refine yL.ite (fun h8 => ?_) (fun h8 => ?_)
        ·
          refine yL.eq (y_iload (pc := 60) (x := 1) d43_60 rfl) ?_
          refine yL.eq (y_if_eq (pc := 62) (t := 84) d43_62 (by decide)) ?_
          refine yL.eq (if_neg cn_Int32_1_eq_0) ?_
          refine yL.eq (y_aload_n (pc := 65) (x := p) d43_65 rfl) ?_
          refine yL.eq (y_getr (pc := 66) (r := (p + 1)) d43_66 q43_12 (yP_r hp).1) ?_
          refine yL.eq (y_getr (pc := 69) (r := ((p + 1) + 3)) d43_69 q43_71 (((yC_r (yP_c hp))).2).2.1) ?_
          refine yL.eq (y_iload_n (pc := 72) (x := a3) d43_72 rfl) ?_
          refine yL.eq (y_iald (pc := 73) (n := 14) d43_73 (((yC_a (yP_c hp))).2).2.1) ?_
          refine yL.gd (fun h9 => ?_)
          refine yL.eq (y_iload_n (pc := 74) (x := a2) d43_74 rfl) ?_
          refine yL.eq (y_iconst (pc := 75) (v := 1) d43_75 kc_1) ?_
          refine yL.eq (y_isub (pc := 76) d43_76) ?_
          refine yL.eq (y_icmp_ne (pc := 77) (t := 84) d43_77 (by decide)) ?_
          refine yL.ite (fun h10 => ?_) (fun h10 => ?_)
          ·
            refine yL.eq (y_iconst (pc := 80) (v := 1) d43_80 kc_1) ?_
            refine yL.eq (y_goto (pc := 81) (t := 85) d43_81 (by decide)) ?_
            exact yL.eq (y_iretz (pc := 85) d43_85 mr_43) (yL.eq yZ_1 yL.rf)
          ·
            refine yL.eq (y_iconst (pc := 84) (v := 0) d43_84 kc_0) ?_
            exact yL.eq (y_iretz (pc := 85) d43_85 mr_43) (yL.eq yZ_0 yL.rf)
        ·
          refine yL.eq (y_iload_n (pc := 86) (x := a2) d43_86 rfl) ?_
          refine yL.eq (y_bipush (pc := 87) (v := 8) d43_87 kb_8) ?_
          refine yL.eq (y_icmp_gt (pc := 89) (t := 134) d43_89 (by decide)) ?_
          refine yL.ite (fun h11 => ?_) (fun h11 => ?_)
          ·
            refine yL.eq (y_aload_n (pc := 92) (x := p) d43_92 rfl) ?_
            refine yL.eq (y_getr (pc := 93) (r := (p + 1)) d43_93 q43_12 (yP_r hp).1) ?_
            refine yL.eq (y_getr (pc := 96) (r := ((p + 1) + 3)) d43_96 q43_71 (((yC_r (yP_c hp))).2).2.1) ?_
            refine yL.eq (y_iload_n (pc := 99) (x := a3) d43_99 rfl) ?_
            refine yL.eq (y_iald (pc := 100) (n := 14) d43_100 (((yC_a (yP_c hp))).2).2.1) ?_
            refine yL.gd (fun h12 => ?_)
            refine yL.eq (y_iload_n (pc := 101) (x := a2) d43_101 rfl) ?_
            refine yL.eq (y_iconst (pc := 102) (v := 1) d43_102 kc_1) ?_
            refine yL.eq (y_isub (pc := 103) d43_103) ?_
            refine yL.eq (y_iconst (pc := 104) (v := 4) d43_104 kc_4) ?_
            refine yL.eq (y_isub (pc := 105) d43_105) ?_
            refine yL.eq (y_icmp_ne (pc := 106) (t := 132) d43_106 (by decide)) ?_
            refine yL.ite (fun h13 => ?_) (fun h13 => ?_)
            ·
              refine yL.eq (y_aload_n (pc := 109) (x := p) d43_109 rfl) ?_
              refine yL.eq (y_getr (pc := 110) (r := (p + 11)) d43_110 q43_22 (((yP_r hp)).2).2.1) ?_
              refine yL.eq (y_iload_n (pc := 113) (x := a3) d43_113 rfl) ?_
              refine yL.eq (y_iald (pc := 114) (n := 14) d43_114 ((yP_a hp)).2.1) ?_
              refine yL.gd (fun h14 => ?_)
              refine yL.eq (y_iload_n (pc := 115) (x := a1) d43_115 rfl) ?_
              refine yL.eq (y_icmp_gt (pc := 116) (t := 132) d43_116 (by decide)) ?_
              refine yL.ite (fun h15 => ?_) (fun h15 => ?_)
              ·
                refine yL.eq (y_iload_n (pc := 119) (x := a1) d43_119 rfl) ?_
                refine yL.eq (y_aload_n (pc := 120) (x := p) d43_120 rfl) ?_
                refine yL.eq (y_iload_n (pc := 121) (x := a3) d43_121 rfl) ?_
                refine y_callv_i (pc := 122) (n := 2) (n' := 2) (nc' := 0) (ns' := 0) [.int a3] [.int a1] false d43_122 q43_74 mk_44 (yP_t hp) rfl rfl (Nat.le_of_ble_eq_true rfl) (Nat.le_of_ble_eq_true rfl) rfl (by decide +kernel) (by decide +kernel) (fun v17 M16 => ?_)
                refine yL.eq (y_icmp_ge (pc := 125) (t := 132) d43_125 (by decide)) ?_
                refine yL.ite (fun h18 => ?_) (fun h18 => ?_)
                ·
                  refine yL.eq (y_iconst (pc := 128) (v := 1) d43_128 kc_1) ?_
                  refine yL.eq (y_goto (pc := 129) (t := 133) d43_129 (by decide)) ?_
                  exact yL.eq (y_iretz (pc := 133) d43_133 mr_43) (yL.eq yZ_1 yL.rf)
                ·
                  refine yL.eq (y_iconst (pc := 132) (v := 0) d43_132 kc_0) ?_
                  exact yL.eq (y_iretz (pc := 133) d43_133 mr_43) (yL.eq yZ_0 yL.rf)
              ·
                refine yL.eq (y_iconst (pc := 132) (v := 0) d43_132 kc_0) ?_
                exact yL.eq (y_iretz (pc := 133) d43_133 mr_43) (yL.eq yZ_0 yL.rf)
            ·
              refine yL.eq (y_iconst (pc := 132) (v := 0) d43_132 kc_0) ?_
              exact yL.eq (y_iretz (pc := 133) d43_133 mr_43) (yL.eq yZ_0 yL.rf)
          ·
            refine yL.eq (y_aload_n (pc := 134) (x := p) d43_134 rfl) ?_
            refine yL.eq (y_getr (pc := 135) (r := (p + 11)) d43_135 q43_22 (((yP_r hp)).2).2.1) ?_
            refine yL.eq (y_iload_n (pc := 138) (x := a3) d43_138 rfl) ?_
            refine yL.eq (y_iald (pc := 139) (n := 14) d43_139 ((yP_a hp)).2.1) ?_
            refine yL.gd (fun h19 => ?_)
            refine yL.eq (y_iload_n (pc := 140) (x := a1) d43_140 rfl) ?_
            refine yL.eq (y_icmp_gt (pc := 141) (t := 148) d43_141 (by decide)) ?_
            refine yL.ite (fun h20 => ?_) (fun h20 => ?_)
            ·
              refine yL.eq (y_iconst (pc := 144) (v := 1) d43_144 kc_1) ?_
              refine yL.eq (y_goto (pc := 145) (t := 149) d43_145 (by decide)) ?_
              exact yL.eq (y_iretz (pc := 149) d43_149 mr_43) (yL.eq yZ_1 yL.rf)
            ·
              refine yL.eq (y_iconst (pc := 148) (v := 0) d43_148 kc_0) ?_
              exact yL.eq (y_iretz (pc := 149) d43_149 mr_43) (yL.eq yZ_0 yL.rf)
    ·
      exact yL.rf
  ·
    exact yL.rf
set_option maxRecDepth 20000 in
set_option maxHeartbeats 4000000 in
theorem e43_24 {p : Nat} {x1 : Int32} {x2 : Int32} {x3 : Int32} {o4 : Option Value} (hp : yP p) {M : yM} : yL (if x2 = 0 then yI 0 M else if x2 ≤ 4 then yI 0 M else if x2 ≤ 8 then if yinB x3 14 = true then if (M ((p + 1) + 3) (yx x3)) = ((x2 - 1) - 4) then if yinB x3 14 = true then if (M (p + 11) (yx x3)) ≤ x1 then yCi false (yX 44 0 [some (.ref p), some (.int x3)] [] M 0 0) fun v9 M8 => if x1 < v9 then yI 1 M8 else yI 0 M8 else yI 0 M else none else yI 0 M else none else if yinB x3 14 = true then if (M (p + 11) (yx x3)) ≤ x1 then yI 1 M else yI 0 M else none) (yX 43 24 [some (.ref p), some (.int x1), some (.int x2), some (.int x3), o4] [] M 0 0) := by
  refine yL.eq (y_iconst (pc := 24) (v := 0) d43_24 kc_0) ?_
  refine yL.eq (y_istore (pc := 25) (ls' := [some (.ref p), some (.int x1), some (.int x2), some (.int x3), some (.int 0)]) d43_25 rfl rfl) ?_
  refine yL.eq (y_iload_n (pc := 27) (x := x2) d43_27 rfl) ?_
  refine yL.eq (y_if_ne (pc := 28) (t := 55) d43_28 (by decide)) ?_
  refine yL.ite (fun h1 => ?_) (fun h1 => ?_)
  ·
    refine yL.eq (y_iload (pc := 31) (x := 0) d43_31 rfl) ?_
    refine yL.eq (y_if_eq (pc := 33) (t := 53) d43_33 (by decide)) ?_
    refine yL.eq (if_pos cp_Int32_0_eq_0) ?_
    refine yL.eq (y_iconst (pc := 53) (v := 0) d43_53 kc_0) ?_
    exact yL.eq (y_iretz (pc := 54) d43_54 mr_43) (yL.eq yZ_0 yL.rf)
  ·
    refine yL.eq (y_iload_n (pc := 55) (x := x2) d43_55 rfl) ?_
    refine yL.eq (y_iconst (pc := 56) (v := 4) d43_56 kc_4) ?_
    refine yL.eq (y_icmp_gt (pc := 57) (t := 86) d43_57 (by decide)) ?_
    refine yL.ite (fun h2 => ?_) (fun h2 => ?_)
    ·
      refine yL.eq (y_iload (pc := 60) (x := 0) d43_60 rfl) ?_
      refine yL.eq (y_if_eq (pc := 62) (t := 84) d43_62 (by decide)) ?_
      refine yL.eq (if_pos cp_Int32_0_eq_0) ?_
      refine yL.eq (y_iconst (pc := 84) (v := 0) d43_84 kc_0) ?_
      exact yL.eq (y_iretz (pc := 85) d43_85 mr_43) (yL.eq yZ_0 yL.rf)
    ·
      refine yL.eq (y_iload_n (pc := 86) (x := x2) d43_86 rfl) ?_
      refine yL.eq (y_bipush (pc := 87) (v := 8) d43_87 kb_8) ?_
      refine yL.eq (y_icmp_gt (pc := 89) (t := 134) d43_89 (by decide)) ?_
      refine yL.ite (fun h3 => ?_) (fun h3 => ?_)
      ·
        refine yL.eq (y_aload_n (pc := 92) (x := p) d43_92 rfl) ?_
        refine yL.eq (y_getr (pc := 93) (r := (p + 1)) d43_93 q43_12 (yP_r hp).1) ?_
        refine yL.eq (y_getr (pc := 96) (r := ((p + 1) + 3)) d43_96 q43_71 (((yC_r (yP_c hp))).2).2.1) ?_
        refine yL.eq (y_iload_n (pc := 99) (x := x3) d43_99 rfl) ?_
        refine yL.eq (y_iald (pc := 100) (n := 14) d43_100 (((yC_a (yP_c hp))).2).2.1) ?_
        refine yL.gd (fun h4 => ?_)
        refine yL.eq (y_iload_n (pc := 101) (x := x2) d43_101 rfl) ?_
        refine yL.eq (y_iconst (pc := 102) (v := 1) d43_102 kc_1) ?_
        refine yL.eq (y_isub (pc := 103) d43_103) ?_
        refine yL.eq (y_iconst (pc := 104) (v := 4) d43_104 kc_4) ?_
        refine yL.eq (y_isub (pc := 105) d43_105) ?_
        refine yL.eq (y_icmp_ne (pc := 106) (t := 132) d43_106 (by decide)) ?_
        refine yL.ite (fun h5 => ?_) (fun h5 => ?_)
        ·
          refine yL.eq (y_aload_n (pc := 109) (x := p) d43_109 rfl) ?_
          refine yL.eq (y_getr (pc := 110) (r := (p + 11)) d43_110 q43_22 (((yP_r hp)).2).2.1) ?_
          refine yL.eq (y_iload_n (pc := 113) (x := x3) d43_113 rfl) ?_
          refine yL.eq (y_iald (pc := 114) (n := 14) d43_114 ((yP_a hp)).2.1) ?_
          refine yL.gd (fun h6 => ?_)
          refine yL.eq (y_iload_n (pc := 115) (x := x1) d43_115 rfl) ?_
          refine yL.eq (y_icmp_gt (pc := 116) (t := 132) d43_116 (by decide)) ?_
          refine yL.ite (fun h7 => ?_) (fun h7 => ?_)
          ·
            refine yL.eq (y_iload_n (pc := 119) (x := x1) d43_119 rfl) ?_
            refine yL.eq (y_aload_n (pc := 120) (x := p) d43_120 rfl) ?_
            refine yL.eq (y_iload_n (pc := 121) (x := x3) d43_121 rfl) ?_
            refine y_callv_i (pc := 122) (n := 2) (n' := 2) (nc' := 0) (ns' := 0) [.int x3] [.int x1] false d43_122 q43_74 mk_44 (yP_t hp) rfl rfl (Nat.le_of_ble_eq_true rfl) (Nat.le_of_ble_eq_true rfl) rfl (by decide +kernel) (by decide +kernel) (fun v9 M8 => ?_)
            refine yL.eq (y_icmp_ge (pc := 125) (t := 132) d43_125 (by decide)) ?_
            refine yL.ite (fun h10 => ?_) (fun h10 => ?_)
            ·
              refine yL.eq (y_iconst (pc := 128) (v := 1) d43_128 kc_1) ?_
              refine yL.eq (y_goto (pc := 129) (t := 133) d43_129 (by decide)) ?_
              exact yL.eq (y_iretz (pc := 133) d43_133 mr_43) (yL.eq yZ_1 yL.rf)
            ·
              refine yL.eq (y_iconst (pc := 132) (v := 0) d43_132 kc_0) ?_
              exact yL.eq (y_iretz (pc := 133) d43_133 mr_43) (yL.eq yZ_0 yL.rf)
          ·
            refine yL.eq (y_iconst (pc := 132) (v := 0) d43_132 kc_0) ?_
            exact yL.eq (y_iretz (pc := 133) d43_133 mr_43) (yL.eq yZ_0 yL.rf)
        ·
          refine yL.eq (y_iconst (pc := 132) (v := 0) d43_132 kc_0) ?_
          exact yL.eq (y_iretz (pc := 133) d43_133 mr_43) (yL.eq yZ_0 yL.rf)
      ·
        refine yL.eq (y_aload_n (pc := 134) (x := p) d43_134 rfl) ?_
        refine yL.eq (y_getr (pc := 135) (r := (p + 11)) d43_135 q43_22 (((yP_r hp)).2).2.1) ?_
        refine yL.eq (y_iload_n (pc := 138) (x := x3) d43_138 rfl) ?_
        refine yL.eq (y_iald (pc := 139) (n := 14) d43_139 ((yP_a hp)).2.1) ?_
        refine yL.gd (fun h11 => ?_)
        refine yL.eq (y_iload_n (pc := 140) (x := x1) d43_140 rfl) ?_
        refine yL.eq (y_icmp_gt (pc := 141) (t := 148) d43_141 (by decide)) ?_
        refine yL.ite (fun h12 => ?_) (fun h12 => ?_)
        ·
          refine yL.eq (y_iconst (pc := 144) (v := 1) d43_144 kc_1) ?_
          refine yL.eq (y_goto (pc := 145) (t := 149) d43_145 (by decide)) ?_
          exact yL.eq (y_iretz (pc := 149) d43_149 mr_43) (yL.eq yZ_1 yL.rf)
        ·
          refine yL.eq (y_iconst (pc := 148) (v := 0) d43_148 kc_0) ?_
          exact yL.eq (y_iretz (pc := 149) d43_149 mr_43) (yL.eq yZ_0 yL.rf)
set_option maxRecDepth 20000 in
set_option maxHeartbeats 4000000 in
theorem e44 {p : Nat} {a1 : Int32} (hp : yP p) {M : yM} : yL (if yinB a1 14 = true then yI ((M (p + 11) (yx a1)) + (M ((p + 1) + 8) 2)) M else none) (yX 44 0 [some (.ref p), some (.int a1)] [] M 0 0) := by
  refine yL.eq (y_aload_n (pc := 0) (x := p) d44_0 rfl) ?_
  refine yL.eq (y_getr (pc := 1) (r := (p + 11)) d44_1 q44_22 (((yP_r hp)).2).2.1) ?_
  refine yL.eq (y_iload_n (pc := 4) (x := a1) d44_4 rfl) ?_
  refine yL.eq (y_iald (pc := 5) (n := 14) d44_5 ((yP_a hp)).2.1) ?_
  refine yL.gd (fun h1 => ?_)
  refine yL.eq (y_aload_n (pc := 6) (x := p) d44_6 rfl) ?_
  refine yL.eq (y_getr (pc := 7) (r := (p + 1)) d44_7 q44_12 (yP_r hp).1) ?_
  refine yL.eq (y_getr (pc := 10) (r := ((p + 1) + 8)) d44_10 q44_78 ((((((((yC_r (yP_c hp))).2).2).2).2).2).2).2) ?_
  refine yL.eq (y_iconst (pc := 13) (v := 2) d44_13 kc_2) ?_
  refine yL.eq (y_iald (pc := 14) (n := 5) d44_14 ((((((((yC_a (yP_c hp))).2).2).2).2).2).2).2) ?_
  refine yL.eq (if_pos in_2_5) ?_
  show yL _ (yX 44 15 [some (.ref p), some (.int a1)] ([.int (M ((p + 1) + 8) 2), .int (M (p + 11) (yx a1))]) M 0 0)
  refine yL.eq (y_iadd (pc := 15) d44_15) ?_
  exact yL.eq (y_ireti (pc := 16) d44_16 mr_44) yL.rf
