set_option maxRecDepth 20000 in
set_option maxHeartbeats 4000000 in
theorem e105 {a1 : Int32} {M : yM} : yL (if a1 < (Int32.ofNat (ylen M)) then if yinB a1 (ylen M) = true then yI ((M 0 (yx a1)) &&& 2147483647) M else none else yI (((15594227 * a1) + 10799) &&& 2147483647) M) (yX 105 0 [some (.ref 0), some (.int a1)] [] M 0 0) := by
  refine yL.eq (y_iload_n (pc := 0) (x := a1) d105_0 rfl) ?_
  refine yL.eq (y_aload_n (pc := 1) (x := 0) d105_1 rfl) ?_
  refine yL.eq (y_alen0 (pc := 2) d105_2) ?_
  refine yL.eq (y_icmp_ge (pc := 3) (t := 12) d105_3 (by decide)) ?_
  refine yL.ite (fun h1 => ?_) (fun h1 => ?_)
  ·
    refine yL.eq (y_aload_n (pc := 6) (x := 0) d105_6 rfl) ?_
    refine yL.eq (y_iload_n (pc := 7) (x := a1) d105_7 rfl) ?_
    refine yL.eq (y_iald0 (pc := 8) d105_8) ?_
    refine yL.gd (fun h2 => ?_)
    refine yL.eq (y_goto (pc := 9) (t := 20) d105_9 (by decide)) ?_
    refine yL.eq (y_ldc (pc := 20) (v := 2147483647) d105_20 q105_8) ?_
    refine yL.eq (y_iand (pc := 22) d105_22) ?_
    exact yL.eq (y_ireti (pc := 23) d105_23 mr_105) yL.rf
  ·
    refine yL.eq (y_ldc (pc := 12) (v := 15594227) d105_12 q105_7) ?_
    refine yL.eq (y_iload_n (pc := 14) (x := a1) d105_14 rfl) ?_
    refine yL.eq (y_imul (pc := 15) d105_15) ?_
    refine yL.eq (y_sipush (pc := 16) (v := 10799) d105_16 ks_10799) ?_
    refine yL.eq (y_iadd (pc := 19) d105_19) ?_
    refine yL.eq (y_ldc (pc := 20) (v := 2147483647) d105_20 q105_8) ?_
    refine yL.eq (y_iand (pc := 22) d105_22) ?_
    exact yL.eq (y_ireti (pc := 23) d105_23 mr_105) yL.rf
set_option maxRecDepth 20000 in
set_option maxHeartbeats 4000000 in
theorem e106 {a0 : Int64} {a2 : Int64} {a4 : Int64} {M : yM} : yL (if a0 < a2 then yI 0 M else if a0 ≤ a4 then yI 1 M else yI 0 M) (yX 106 0 [some (.long a0), none, some (.long a2), none, some (.long a4), none] [] M 0 0) := by
  refine yL.eq (y_lload_n (pc := 0) (x := a0) d106_0 rfl) ?_
  refine yL.eq (y_lload_n (pc := 1) (x := a2) d106_1 rfl) ?_
  refine yL.eq (y_lcmp (pc := 2) d106_2) ?_
  refine yL.eq (y_lif_lt (pc := 3) (t := 17) d106_3 (by decide)) ?_
  refine yL.ite (fun h1 => ?_) (fun h1 => ?_)
  ·
    refine yL.eq (y_iconst (pc := 17) (v := 0) d106_17 kc_0) ?_
    exact yL.eq (y_iretz (pc := 18) d106_18 mr_106) (yL.eq yZ_0 yL.rf)
  ·
    refine yL.eq (y_lload_n (pc := 6) (x := a0) d106_6 rfl) ?_
    refine yL.eq (y_lload (pc := 7) (x := a4) d106_7 rfl) ?_
    refine yL.eq (y_lcmp (pc := 9) d106_9) ?_
    refine yL.eq (y_lif_gt (pc := 10) (t := 17) d106_10 (by decide)) ?_
    refine yL.ite (fun h2 => ?_) (fun h2 => ?_)
    ·
      refine yL.eq (y_iconst (pc := 13) (v := 1) d106_13 kc_1) ?_
      refine yL.eq (y_goto (pc := 14) (t := 18) d106_14 (by decide)) ?_
      exact yL.eq (y_iretz (pc := 18) d106_18 mr_106) (yL.eq yZ_1 yL.rf)
    ·
      refine yL.eq (y_iconst (pc := 17) (v := 0) d106_17 kc_0) ?_
      exact yL.eq (y_iretz (pc := 18) d106_18 mr_106) (yL.eq yZ_0 yL.rf)
set_option maxRecDepth 20000 in
set_option maxHeartbeats 4000000 in
theorem e107 {a1 : Int32} {M : yM} : yL (yCh (yX 58 0 [some (.ref 7), some (.int a1)] [] M 0 0) (fun v2 M1 => yJr v2.toInt64 M1) (fun E M1 => if E = 1 then yJr (-9000000000000000002) M1 else if E = 2 then yJr (-9000000000000000003) M1 else none)) (yX 107 0 [some (.ref 7), some (.int a1), none] [] M 0 0) := by
  refine yL.eq (y_aload_n (pc := 0) (x := 7) d107_0 rfl) ?_
  refine yL.eq (y_iload_n (pc := 1) (x := a1) d107_1 rfl) ?_
  refine y_callh (pc := 2) (n := 2) (n' := 2) (nc' := 2) (ns' := 12) [.int a1] [] d107_2 q107_9 mk_58 s_t_7 rfl rfl (Nat.le_of_ble_eq_true rfl) (Nat.le_of_ble_eq_true rfl) rfl (by decide +kernel) (by decide +kernel) (fun v2 M1 => ?_) (fun E M1 => ?_)
  ·
    refine yL.eq (y_i2l (pc := 5) d107_5) ?_
    exact yL.eq (y_lret (pc := 6) d107_6 mr_107) yL.rf
  ·
    refine yL.il (fun h => ?_) (fun h => ?_)
    ·
      subst h
      exact yL.eq (y_hd (tpc := 8) (i := 2) (v := (-9000000000000000002)) hx107_1 rfl d107_8 q107_17 d107_11 mr_107) yL.rf
    ·
      refine yL.il (fun h => ?_) (fun h => ?_)
      ·
        subst h
        exact yL.eq (y_hd (tpc := 13) (i := 2) (v := (-9000000000000000003)) hx107_2 rfl d107_13 q107_21 d107_16 mr_107) yL.rf
      ·
        exact yL.nn
set_option maxRecDepth 20000 in
set_option maxHeartbeats 4000000 in
theorem e108  {M : yM} : yL (yCh (yX 61 0 [some (.ref 7), none] [] M 0 0) (fun v2 M1 => yJr v2.toInt64 M1) (fun E M1 => if E = 2 then yJr (-9000000000000000003) M1 else none)) (yX 108 0 [some (.ref 7), none] [] M 0 0) := by
  refine yL.eq (y_aload_n (pc := 0) (x := 7) d108_0 rfl) ?_
  refine y_callh (pc := 1) (n := 1) (n' := 2) (nc' := 1) (ns' := 6) [] [] d108_1 q108_23 mk_61 s_t_7 rfl rfl (Nat.le_of_ble_eq_true rfl) (Nat.le_of_ble_eq_true rfl) rfl (by decide +kernel) (by decide +kernel) (fun v2 M1 => ?_) (fun E M1 => ?_)
  ·
    refine yL.eq (y_i2l (pc := 4) d108_4) ?_
    exact yL.eq (y_lret (pc := 5) d108_5 mr_108) yL.rf
  ·
    refine yL.il (fun h => ?_) (fun h => ?_)
    ·
      subst h
      exact yL.eq (y_hd (tpc := 7) (i := 1) (v := (-9000000000000000003)) hx108_2 rfl d108_7 q108_21 d108_10 mr_108) yL.rf
    ·
      exact yL.nn
set_option maxRecDepth 20000 in
set_option maxHeartbeats 4000000 in
theorem e109 {a1 : Int32} {M : yM} : yL (yCh (yX 62 0 [some (.ref 7), some (.int a1)] [] M 0 0) (fun v2 M1 => yJr v2.toInt64 M1) (fun E M1 => if E = 1 then yJr (-9000000000000000002) M1 else none)) (yX 109 0 [some (.ref 7), some (.int a1), none] [] M 0 0) := by
  refine yL.eq (y_aload_n (pc := 0) (x := 7) d109_0 rfl) ?_
  refine yL.eq (y_iload_n (pc := 1) (x := a1) d109_1 rfl) ?_
  refine y_callh (pc := 2) (n := 2) (n' := 2) (nc' := 1) (ns' := 6) [.int a1] [] d109_2 q109_27 mk_62 s_t_7 rfl rfl (Nat.le_of_ble_eq_true rfl) (Nat.le_of_ble_eq_true rfl) rfl (by decide +kernel) (by decide +kernel) (fun v2 M1 => ?_) (fun E M1 => ?_)
  ·
    refine yL.eq (y_i2l (pc := 5) d109_5) ?_
    exact yL.eq (y_lret (pc := 6) d109_6 mr_109) yL.rf
  ·
    refine yL.il (fun h => ?_) (fun h => ?_)
    ·
      subst h
      exact yL.eq (y_hd (tpc := 8) (i := 2) (v := (-9000000000000000002)) hx109_1 rfl d109_8 q109_17 d109_11 mr_109) yL.rf
    ·
      exact yL.nn
set_option maxRecDepth 20000 in
set_option maxHeartbeats 4000000 in
theorem e110 {a1 : Int32} {a2 : Int32} {M : yM} : yL (yCh (yX 63 0 [some (.ref 7), some (.int a1), some (.int a2), none] [] M 0 0) (fun v2 M1 => yJr v2.toInt64 M1) (fun E M1 => if E = 0 then yJr (-9000000000000000001) M1 else if E = 1 then yJr (-9000000000000000002) M1 else none)) (yX 110 0 [some (.ref 7), some (.int a1), some (.int a2), none] [] M 0 0) := by
  refine yL.eq (y_aload_n (pc := 0) (x := 7) d110_0 rfl) ?_
  refine yL.eq (y_iload_n (pc := 1) (x := a1) d110_1 rfl) ?_
  refine yL.eq (y_iload_n (pc := 2) (x := a2) d110_2 rfl) ?_
  refine y_callh (pc := 3) (n := 3) (n' := 4) (nc' := 2) (ns' := 12) [.int a1, .int a2] [] d110_3 q110_30 mk_63 s_t_7 rfl rfl (Nat.le_of_ble_eq_true rfl) (Nat.le_of_ble_eq_true rfl) rfl (by decide +kernel) (by decide +kernel) (fun v2 M1 => ?_) (fun E M1 => ?_)
  ·
    refine yL.eq (y_i2l (pc := 6) d110_6) ?_
    exact yL.eq (y_lret (pc := 7) d110_7 mr_110) yL.rf
  ·
    refine yL.il (fun h => ?_) (fun h => ?_)
    ·
      subst h
      exact yL.eq (y_hd (tpc := 9) (i := 3) (v := (-9000000000000000001)) hx110_0 rfl d110_9 q110_36 d110_12 mr_110) yL.rf
    ·
      refine yL.il (fun h => ?_) (fun h => ?_)
      ·
        subst h
        exact yL.eq (y_hd (tpc := 14) (i := 3) (v := (-9000000000000000002)) hx110_1 rfl d110_14 q110_17 d110_17 mr_110) yL.rf
      ·
        exact yL.nn
set_option maxRecDepth 20000 in
set_option maxHeartbeats 4000000 in
theorem e111 {a1 : Int32} {a2 : Int32} {M : yM} : yL (yCh (yX 64 0 [some (.ref 7), some (.int a1), some (.int a2)] [] M 0 0) (fun v2 M1 => yJr v2.toInt64 M1) (fun E M1 => if E = 0 then yJr (-9000000000000000001) M1 else if E = 1 then yJr (-9000000000000000002) M1 else none)) (yX 111 0 [some (.ref 7), some (.int a1), some (.int a2), none] [] M 0 0) := by
  refine yL.eq (y_aload_n (pc := 0) (x := 7) d111_0 rfl) ?_
  refine yL.eq (y_iload_n (pc := 1) (x := a1) d111_1 rfl) ?_
  refine yL.eq (y_iload_n (pc := 2) (x := a2) d111_2 rfl) ?_
  refine y_callh (pc := 3) (n := 3) (n' := 3) (nc' := 2) (ns' := 12) [.int a1, .int a2] [] d111_3 q111_38 mk_64 s_t_7 rfl rfl (Nat.le_of_ble_eq_true rfl) (Nat.le_of_ble_eq_true rfl) rfl (by decide +kernel) (by decide +kernel) (fun v2 M1 => ?_) (fun E M1 => ?_)
  ·
    refine yL.eq (y_i2l (pc := 6) d111_6) ?_
    exact yL.eq (y_lret (pc := 7) d111_7 mr_111) yL.rf
  ·
    refine yL.il (fun h => ?_) (fun h => ?_)
    ·
      subst h
      exact yL.eq (y_hd (tpc := 9) (i := 3) (v := (-9000000000000000001)) hx111_0 rfl d111_9 q111_36 d111_12 mr_111) yL.rf
    ·
      refine yL.il (fun h => ?_) (fun h => ?_)
      ·
        subst h
        exact yL.eq (y_hd (tpc := 14) (i := 3) (v := (-9000000000000000002)) hx111_1 rfl d111_14 q111_17 d111_17 mr_111) yL.rf
      ·
        exact yL.nn
set_option maxRecDepth 20000 in
set_option maxHeartbeats 4000000 in
theorem e112 {a1 : Int32} {a2 : Int32} {M : yM} : yL (yCh (yX 65 0 [some (.ref 7), some (.int a1), some (.int a2)] [] M 0 0) (fun v2 M1 => yJr v2.toInt64 M1) (fun E M1 => if E = 0 then yJr (-9000000000000000001) M1 else if E = 1 then yJr (-9000000000000000002) M1 else none)) (yX 112 0 [some (.ref 7), some (.int a1), some (.int a2), none] [] M 0 0) := by
  refine yL.eq (y_aload_n (pc := 0) (x := 7) d112_0 rfl) ?_
  refine yL.eq (y_iload_n (pc := 1) (x := a1) d112_1 rfl) ?_
  refine yL.eq (y_iload_n (pc := 2) (x := a2) d112_2 rfl) ?_
  refine y_callh (pc := 3) (n := 3) (n' := 3) (nc' := 2) (ns' := 12) [.int a1, .int a2] [] d112_3 q112_41 mk_65 s_t_7 rfl rfl (Nat.le_of_ble_eq_true rfl) (Nat.le_of_ble_eq_true rfl) rfl (by decide +kernel) (by decide +kernel) (fun v2 M1 => ?_) (fun E M1 => ?_)
  ·
    refine yL.eq (y_i2l (pc := 6) d112_6) ?_
    exact yL.eq (y_lret (pc := 7) d112_7 mr_112) yL.rf
  ·
    refine yL.il (fun h => ?_) (fun h => ?_)
    ·
      subst h
      exact yL.eq (y_hd (tpc := 9) (i := 3) (v := (-9000000000000000001)) hx112_0 rfl d112_9 q112_36 d112_12 mr_112) yL.rf
    ·
      refine yL.il (fun h => ?_) (fun h => ?_)
      ·
        subst h
        exact yL.eq (y_hd (tpc := 14) (i := 3) (v := (-9000000000000000002)) hx112_1 rfl d112_14 q112_17 d112_17 mr_112) yL.rf
      ·
        exact yL.nn
set_option maxRecDepth 20000 in
set_option maxHeartbeats 4000000 in
theorem e113 {a1 : Int32} {M : yM} : yL (yCh (yX 66 0 [some (.ref 7), some (.int a1)] [] M 0 0) (fun v2 M1 => yJr v2.toInt64 M1) (fun E M1 => if E = 0 then yJr (-9000000000000000001) M1 else none)) (yX 113 0 [some (.ref 7), some (.int a1), none] [] M 0 0) := by
  refine yL.eq (y_aload_n (pc := 0) (x := 7) d113_0 rfl) ?_
  refine yL.eq (y_iload_n (pc := 1) (x := a1) d113_1 rfl) ?_
  refine y_callh (pc := 2) (n := 2) (n' := 2) (nc' := 1) (ns' := 6) [.int a1] [] d113_2 q113_44 mk_66 s_t_7 rfl rfl (Nat.le_of_ble_eq_true rfl) (Nat.le_of_ble_eq_true rfl) rfl (by decide +kernel) (by decide +kernel) (fun v2 M1 => ?_) (fun E M1 => ?_)
  ·
    refine yL.eq (y_i2l (pc := 5) d113_5) ?_
    exact yL.eq (y_lret (pc := 6) d113_6 mr_113) yL.rf
  ·
    refine yL.il (fun h => ?_) (fun h => ?_)
    ·
      subst h
      exact yL.eq (y_hd (tpc := 8) (i := 2) (v := (-9000000000000000001)) hx113_0 rfl d113_8 q113_36 d113_11 mr_113) yL.rf
    ·
      exact yL.nn
set_option maxRecDepth 20000 in
set_option maxHeartbeats 4000000 in
theorem e114 {a1 : Int32} {M : yM} : yL (yCh (yX 67 0 [some (.ref 7), some (.int a1)] [] M 0 0) (fun v2 M1 => yJr v2.toInt64 M1) (fun E M1 => if E = 0 then yJr (-9000000000000000001) M1 else none)) (yX 114 0 [some (.ref 7), some (.int a1), none] [] M 0 0) := by
  refine yL.eq (y_aload_n (pc := 0) (x := 7) d114_0 rfl) ?_
  refine yL.eq (y_iload_n (pc := 1) (x := a1) d114_1 rfl) ?_
  refine y_callh (pc := 2) (n := 2) (n' := 2) (nc' := 1) (ns' := 6) [.int a1] [] d114_2 q114_47 mk_67 s_t_7 rfl rfl (Nat.le_of_ble_eq_true rfl) (Nat.le_of_ble_eq_true rfl) rfl (by decide +kernel) (by decide +kernel) (fun v2 M1 => ?_) (fun E M1 => ?_)
  ·
    refine yL.eq (y_i2l (pc := 5) d114_5) ?_
    exact yL.eq (y_lret (pc := 6) d114_6 mr_114) yL.rf
  ·
    refine yL.il (fun h => ?_) (fun h => ?_)
    ·
      subst h
      exact yL.eq (y_hd (tpc := 8) (i := 2) (v := (-9000000000000000001)) hx114_0 rfl d114_8 q114_36 d114_11 mr_114) yL.rf
    ·
      exact yL.nn
set_option maxRecDepth 20000 in
set_option maxHeartbeats 4000000 in
theorem e115 {a1 : Int32} {M : yM} : yL (yCh (yX 68 0 [some (.ref 7), some (.int a1)] [] M 0 0) (fun v2 M1 => yJr v2.toInt64 M1) (fun E M1 => if E = 1 then yJr (-9000000000000000002) M1 else none)) (yX 115 0 [some (.ref 7), some (.int a1), none] [] M 0 0) := by
  refine yL.eq (y_aload_n (pc := 0) (x := 7) d115_0 rfl) ?_
  refine yL.eq (y_iload_n (pc := 1) (x := a1) d115_1 rfl) ?_
  refine y_callh (pc := 2) (n := 2) (n' := 2) (nc' := 1) (ns' := 6) [.int a1] [] d115_2 q115_50 mk_68 s_t_7 rfl rfl (Nat.le_of_ble_eq_true rfl) (Nat.le_of_ble_eq_true rfl) rfl (by decide +kernel) (by decide +kernel) (fun v2 M1 => ?_) (fun E M1 => ?_)
  ·
    refine yL.eq (y_i2l (pc := 5) d115_5) ?_
    exact yL.eq (y_lret (pc := 6) d115_6 mr_115) yL.rf
  ·
    refine yL.il (fun h => ?_) (fun h => ?_)
    ·
      subst h
      exact yL.eq (y_hd (tpc := 8) (i := 2) (v := (-9000000000000000002)) hx115_1 rfl d115_8 q115_17 d115_11 mr_115) yL.rf
    ·
      exact yL.nn
set_option maxRecDepth 20000 in
set_option maxHeartbeats 4000000 in
theorem e116 {a1 : Int32} {a2 : Int32} {M : yM} : yL (yCh (yX 69 0 [some (.ref 7), some (.int a1), some (.int a2)] [] M 0 0) (fun v2 M1 => yJr v2.toInt64 M1) (fun E M1 => if E = 1 then yJr (-9000000000000000002) M1 else none)) (yX 116 0 [some (.ref 7), some (.int a1), some (.int a2), none] [] M 0 0) := by
  refine yL.eq (y_aload_n (pc := 0) (x := 7) d116_0 rfl) ?_
  refine yL.eq (y_iload_n (pc := 1) (x := a1) d116_1 rfl) ?_
  refine yL.eq (y_iload_n (pc := 2) (x := a2) d116_2 rfl) ?_
  refine y_callh (pc := 3) (n := 3) (n' := 3) (nc' := 1) (ns' := 6) [.int a1, .int a2] [] d116_3 q116_53 mk_69 s_t_7 rfl rfl (Nat.le_of_ble_eq_true rfl) (Nat.le_of_ble_eq_true rfl) rfl (by decide +kernel) (by decide +kernel) (fun v2 M1 => ?_) (fun E M1 => ?_)
  ·
    refine yL.eq (y_i2l (pc := 6) d116_6) ?_
    exact yL.eq (y_lret (pc := 7) d116_7 mr_116) yL.rf
  ·
    refine yL.il (fun h => ?_) (fun h => ?_)
    ·
      subst h
      exact yL.eq (y_hd (tpc := 9) (i := 3) (v := (-9000000000000000002)) hx116_1 rfl d116_9 q116_17 d116_12 mr_116) yL.rf
    ·
      exact yL.nn
set_option maxRecDepth 20000 in
set_option maxHeartbeats 4000000 in
theorem e117 {a1 : Int32} {M : yM} : yL (yCh (yX 70 0 [some (.ref 7), some (.int a1)] [] M 0 0) (fun v2 M1 => yJr v2.toInt64 M1) (fun E M1 => if E = 1 then yJr (-9000000000000000002) M1 else if E = 2 then yJr (-9000000000000000003) M1 else none)) (yX 117 0 [some (.ref 7), some (.int a1), none] [] M 0 0) := by
  refine yL.eq (y_aload_n (pc := 0) (x := 7) d117_0 rfl) ?_
  refine yL.eq (y_iload_n (pc := 1) (x := a1) d117_1 rfl) ?_
  refine y_callh (pc := 2) (n := 2) (n' := 2) (nc' := 3) (ns' := 18) [.int a1] [] d117_2 q117_56 mk_70 s_t_7 rfl rfl (Nat.le_of_ble_eq_true rfl) (Nat.le_of_ble_eq_true rfl) rfl (by decide +kernel) (by decide +kernel) (fun v2 M1 => ?_) (fun E M1 => ?_)
  ·
    refine yL.eq (y_i2l (pc := 5) d117_5) ?_
    exact yL.eq (y_lret (pc := 6) d117_6 mr_117) yL.rf
  ·
    refine yL.il (fun h => ?_) (fun h => ?_)
    ·
      subst h
      exact yL.eq (y_hd (tpc := 8) (i := 2) (v := (-9000000000000000002)) hx117_1 rfl d117_8 q117_17 d117_11 mr_117) yL.rf
    ·
      refine yL.il (fun h => ?_) (fun h => ?_)
      ·
        subst h
        exact yL.eq (y_hd (tpc := 13) (i := 2) (v := (-9000000000000000003)) hx117_2 rfl d117_13 q117_21 d117_16 mr_117) yL.rf
      ·
        exact yL.nn
set_option maxRecDepth 20000 in
set_option maxHeartbeats 4000000 in
theorem e118 {a1 : Int32} {a2 : Int32} {M : yM} : yL (yCh (yX 71 0 [some (.ref 7), some (.int a1), some (.int a2)] [] M 0 0) (fun v2 M1 => yJr v2.toInt64 M1) (fun E M1 => if E = 0 then yJr (-9000000000000000001) M1 else if E = 1 then yJr (-9000000000000000002) M1 else none)) (yX 118 0 [some (.ref 7), some (.int a1), some (.int a2), none] [] M 0 0) := by
  refine yL.eq (y_aload_n (pc := 0) (x := 7) d118_0 rfl) ?_
  refine yL.eq (y_iload_n (pc := 1) (x := a1) d118_1 rfl) ?_
  refine yL.eq (y_iload_n (pc := 2) (x := a2) d118_2 rfl) ?_
  refine y_callh (pc := 3) (n := 3) (n' := 3) (nc' := 3) (ns' := 18) [.int a1, .int a2] [] d118_3 q118_59 mk_71 s_t_7 rfl rfl (Nat.le_of_ble_eq_true rfl) (Nat.le_of_ble_eq_true rfl) rfl (by decide +kernel) (by decide +kernel) (fun v2 M1 => ?_) (fun E M1 => ?_)
  ·
    refine yL.eq (y_i2l (pc := 6) d118_6) ?_
    exact yL.eq (y_lret (pc := 7) d118_7 mr_118) yL.rf
  ·
    refine yL.il (fun h => ?_) (fun h => ?_)
    ·
      subst h
      exact yL.eq (y_hd (tpc := 9) (i := 3) (v := (-9000000000000000001)) hx118_0 rfl d118_9 q118_36 d118_12 mr_118) yL.rf
    ·
      refine yL.il (fun h => ?_) (fun h => ?_)
      ·
        subst h
        exact yL.eq (y_hd (tpc := 14) (i := 3) (v := (-9000000000000000002)) hx118_1 rfl d118_14 q118_17 d118_17 mr_118) yL.rf
      ·
        exact yL.nn
set_option maxRecDepth 20000 in
set_option maxHeartbeats 4000000 in
theorem e119 {a1 : Int32} {a2 : Int32} {M : yM} : yL (yCh (yX 72 0 [some (.ref 7), some (.int a1), some (.int a2)] [] M 0 0) (fun v2 M1 => yJr v2.toInt64 M1) (fun E M1 => if E = 1 then yJr (-9000000000000000002) M1 else none)) (yX 119 0 [some (.ref 7), some (.int a1), some (.int a2), none] [] M 0 0) := by
  refine yL.eq (y_aload_n (pc := 0) (x := 7) d119_0 rfl) ?_
  refine yL.eq (y_iload_n (pc := 1) (x := a1) d119_1 rfl) ?_
  refine yL.eq (y_iload_n (pc := 2) (x := a2) d119_2 rfl) ?_
  refine y_callh (pc := 3) (n := 3) (n' := 3) (nc' := 3) (ns' := 18) [.int a1, .int a2] [] d119_3 q119_62 mk_72 s_t_7 rfl rfl (Nat.le_of_ble_eq_true rfl) (Nat.le_of_ble_eq_true rfl) rfl (by decide +kernel) (by decide +kernel) (fun v2 M1 => ?_) (fun E M1 => ?_)
  ·
    refine yL.eq (y_i2l (pc := 6) d119_6) ?_
    exact yL.eq (y_lret (pc := 7) d119_7 mr_119) yL.rf
  ·
    refine yL.il (fun h => ?_) (fun h => ?_)
    ·
      subst h
      exact yL.eq (y_hd (tpc := 9) (i := 3) (v := (-9000000000000000002)) hx119_1 rfl d119_9 q119_17 d119_12 mr_119) yL.rf
    ·
      exact yL.nn
set_option maxRecDepth 20000 in
set_option maxHeartbeats 4000000 in
theorem e120 {a1 : Int32} {a2 : Int32} {a3 : Int32} {M : yM} : yL (yCh (yX 73 0 [some (.ref 7), some (.int a1), some (.int a2), some (.int a3)] [] M 0 0) (fun v2 M1 => yJr v2.toInt64 M1) (fun E M1 => if E = 1 then yJr (-9000000000000000002) M1 else if E = 2 then yJr (-9000000000000000003) M1 else none)) (yX 120 0 [some (.ref 7), some (.int a1), some (.int a2), some (.int a3), none] [] M 0 0) := by
  refine yL.eq (y_aload_n (pc := 0) (x := 7) d120_0 rfl) ?_
  refine yL.eq (y_iload_n (pc := 1) (x := a1) d120_1 rfl) ?_
  refine yL.eq (y_iload_n (pc := 2) (x := a2) d120_2 rfl) ?_
  refine yL.eq (y_iload_n (pc := 3) (x := a3) d120_3 rfl) ?_
  refine y_callh (pc := 4) (n := 4) (n' := 4) (nc' := 3) (ns' := 18) [.int a1, .int a2, .int a3] [] d120_4 q120_65 mk_73 s_t_7 rfl rfl (Nat.le_of_ble_eq_true rfl) (Nat.le_of_ble_eq_true rfl) rfl (by decide +kernel) (by decide +kernel) (fun v2 M1 => ?_) (fun E M1 => ?_)
  ·
    refine yL.eq (y_i2l (pc := 7) d120_7) ?_
    exact yL.eq (y_lret (pc := 8) d120_8 mr_120) yL.rf
  ·
    refine yL.il (fun h => ?_) (fun h => ?_)
    ·
      subst h
      exact yL.eq (y_hd (tpc := 11) (i := 4) (v := (-9000000000000000002)) hx120_1 rfl d120_11 q120_17 d120_14 mr_120) yL.rf
    ·
      refine yL.il (fun h => ?_) (fun h => ?_)
      ·
        subst h
        exact yL.eq (y_hd (tpc := 17) (i := 4) (v := (-9000000000000000003)) hx120_2 rfl d120_17 q120_21 d120_20 mr_120) yL.rf
      ·
        exact yL.nn
set_option maxRecDepth 20000 in
set_option maxHeartbeats 4000000 in
theorem e121 {a1 : Int32} {a2 : Int32} {M : yM} : yL (yCh (yX 74 0 [some (.ref 7), some (.int a1), some (.int a2)] [] M 0 0) (fun v2 M1 => yJr v2.toInt64 M1) (fun E M1 => if E = 0 then yJr (-9000000000000000001) M1 else if E = 1 then yJr (-9000000000000000002) M1 else none)) (yX 121 0 [some (.ref 7), some (.int a1), some (.int a2), none] [] M 0 0) := by
  refine yL.eq (y_aload_n (pc := 0) (x := 7) d121_0 rfl) ?_
  refine yL.eq (y_iload_n (pc := 1) (x := a1) d121_1 rfl) ?_
  refine yL.eq (y_iload_n (pc := 2) (x := a2) d121_2 rfl) ?_
  refine y_callh (pc := 3) (n := 3) (n' := 3) (nc' := 3) (ns' := 18) [.int a1, .int a2] [] d121_3 q121_69 mk_74 s_t_7 rfl rfl (Nat.le_of_ble_eq_true rfl) (Nat.le_of_ble_eq_true rfl) rfl (by decide +kernel) (by decide +kernel) (fun v2 M1 => ?_) (fun E M1 => ?_)
  ·
    refine yL.eq (y_i2l (pc := 6) d121_6) ?_
    exact yL.eq (y_lret (pc := 7) d121_7 mr_121) yL.rf
  ·
    refine yL.il (fun h => ?_) (fun h => ?_)
    ·
      subst h
      exact yL.eq (y_hd (tpc := 9) (i := 3) (v := (-9000000000000000001)) hx121_0 rfl d121_9 q121_36 d121_12 mr_121) yL.rf
    ·
      refine yL.il (fun h => ?_) (fun h => ?_)
      ·
        subst h
        exact yL.eq (y_hd (tpc := 14) (i := 3) (v := (-9000000000000000002)) hx121_1 rfl d121_14 q121_17 d121_17 mr_121) yL.rf
      ·
        exact yL.nn
set_option maxRecDepth 20000 in
set_option maxHeartbeats 4000000 in
theorem e122 {a1 : Int32} {a2 : Int32} {a3 : Int32} {M : yM} : yL (yCh (yX 75 0 [some (.ref 7), some (.int a1), some (.int a2), some (.int a3)] [] M 0 0) (fun v2 M1 => yJr v2.toInt64 M1) (fun E M1 => if E = 0 then yJr (-9000000000000000001) M1 else none)) (yX 122 0 [some (.ref 7), some (.int a1), some (.int a2), some (.int a3), none] [] M 0 0) := by
  refine yL.eq (y_aload_n (pc := 0) (x := 7) d122_0 rfl) ?_
  refine yL.eq (y_iload_n (pc := 1) (x := a1) d122_1 rfl) ?_
  refine yL.eq (y_iload_n (pc := 2) (x := a2) d122_2 rfl) ?_
  refine yL.eq (y_iload_n (pc := 3) (x := a3) d122_3 rfl) ?_
  refine y_callh (pc := 4) (n := 4) (n' := 4) (nc' := 3) (ns' := 18) [.int a1, .int a2, .int a3] [] d122_4 q122_72 mk_75 s_t_7 rfl rfl (Nat.le_of_ble_eq_true rfl) (Nat.le_of_ble_eq_true rfl) rfl (by decide +kernel) (by decide +kernel) (fun v2 M1 => ?_) (fun E M1 => ?_)
  ·
    refine yL.eq (y_i2l (pc := 7) d122_7) ?_
    exact yL.eq (y_lret (pc := 8) d122_8 mr_122) yL.rf
  ·
    refine yL.il (fun h => ?_) (fun h => ?_)
    ·
      subst h
      exact yL.eq (y_hd (tpc := 11) (i := 4) (v := (-9000000000000000001)) hx122_0 rfl d122_11 q122_36 d122_14 mr_122) yL.rf
    ·
      exact yL.nn
set_option maxRecDepth 20000 in
set_option maxHeartbeats 4000000 in
theorem e123 {a1 : Int32} {a2 : Int32} {a3 : Int32} {M : yM} : yL (yCh (yX 76 0 [some (.ref 7), some (.int a1), some (.int a2), some (.int a3)] [] M 0 0) (fun v2 M1 => yJr v2.toInt64 M1) (fun E M1 => if E = 0 then yJr (-9000000000000000001) M1 else if E = 2 then yJr (-9000000000000000003) M1 else none)) (yX 123 0 [some (.ref 7), some (.int a1), some (.int a2), some (.int a3), none] [] M 0 0) := by
  refine yL.eq (y_aload_n (pc := 0) (x := 7) d123_0 rfl) ?_
  refine yL.eq (y_iload_n (pc := 1) (x := a1) d123_1 rfl) ?_
  refine yL.eq (y_iload_n (pc := 2) (x := a2) d123_2 rfl) ?_
  refine yL.eq (y_iload_n (pc := 3) (x := a3) d123_3 rfl) ?_
  refine y_callh (pc := 4) (n := 4) (n' := 4) (nc' := 3) (ns' := 18) [.int a1, .int a2, .int a3] [] d123_4 q123_75 mk_76 s_t_7 rfl rfl (Nat.le_of_ble_eq_true rfl) (Nat.le_of_ble_eq_true rfl) rfl (by decide +kernel) (by decide +kernel) (fun v2 M1 => ?_) (fun E M1 => ?_)
  ·
    refine yL.eq (y_i2l (pc := 7) d123_7) ?_
    exact yL.eq (y_lret (pc := 8) d123_8 mr_123) yL.rf
  ·
    refine yL.il (fun h => ?_) (fun h => ?_)
    ·
      subst h
      exact yL.eq (y_hd (tpc := 11) (i := 4) (v := (-9000000000000000001)) hx123_0 rfl d123_11 q123_36 d123_14 mr_123) yL.rf
    ·
      refine yL.il (fun h => ?_) (fun h => ?_)
      ·
        subst h
        exact yL.eq (y_hd (tpc := 17) (i := 4) (v := (-9000000000000000003)) hx123_2 rfl d123_17 q123_21 d123_20 mr_123) yL.rf
      ·
        exact yL.nn
set_option maxRecDepth 20000 in
set_option maxHeartbeats 4000000 in
theorem e124 {a1 : Int32} {a2 : Int32} {M : yM} : yL (yCh (yX 77 0 [some (.ref 7), some (.int a1), some (.int a2)] [] M 0 0) (fun v2 M1 => yJr v2.toInt64 M1) (fun E M1 => if E = 0 then yJr (-9000000000000000001) M1 else if E = 1 then yJr (-9000000000000000002) M1 else none)) (yX 124 0 [some (.ref 7), some (.int a1), some (.int a2), none] [] M 0 0) := by
  refine yL.eq (y_aload_n (pc := 0) (x := 7) d124_0 rfl) ?_
  refine yL.eq (y_iload_n (pc := 1) (x := a1) d124_1 rfl) ?_
  refine yL.eq (y_iload_n (pc := 2) (x := a2) d124_2 rfl) ?_
  refine y_callh (pc := 3) (n := 3) (n' := 3) (nc' := 3) (ns' := 18) [.int a1, .int a2] [] d124_3 q124_78 mk_77 s_t_7 rfl rfl (Nat.le_of_ble_eq_true rfl) (Nat.le_of_ble_eq_true rfl) rfl (by decide +kernel) (by decide +kernel) (fun v2 M1 => ?_) (fun E M1 => ?_)
  ·
    refine yL.eq (y_i2l (pc := 6) d124_6) ?_
    exact yL.eq (y_lret (pc := 7) d124_7 mr_124) yL.rf
  ·
    refine yL.il (fun h => ?_) (fun h => ?_)
    ·
      subst h
      exact yL.eq (y_hd (tpc := 9) (i := 3) (v := (-9000000000000000001)) hx124_0 rfl d124_9 q124_36 d124_12 mr_124) yL.rf
    ·
      refine yL.il (fun h => ?_) (fun h => ?_)
      ·
        subst h
        exact yL.eq (y_hd (tpc := 14) (i := 3) (v := (-9000000000000000002)) hx124_1 rfl d124_14 q124_17 d124_17 mr_124) yL.rf
      ·
        exact yL.nn
set_option maxRecDepth 20000 in
set_option maxHeartbeats 4000000 in
theorem e125 {a1 : Int32} {a2 : Int32} {M : yM} : yL (yCh (yX 78 0 [some (.ref 7), some (.int a1), some (.int a2)] [] M 0 0) (fun v2 M1 => yJr v2.toInt64 M1) (fun E M1 => if E = 1 then yJr (-9000000000000000002) M1 else none)) (yX 125 0 [some (.ref 7), some (.int a1), some (.int a2), none] [] M 0 0) := by
  refine yL.eq (y_aload_n (pc := 0) (x := 7) d125_0 rfl) ?_
  refine yL.eq (y_iload_n (pc := 1) (x := a1) d125_1 rfl) ?_
  refine yL.eq (y_iload_n (pc := 2) (x := a2) d125_2 rfl) ?_
  refine y_callh (pc := 3) (n := 3) (n' := 3) (nc' := 3) (ns' := 18) [.int a1, .int a2] [] d125_3 q125_81 mk_78 s_t_7 rfl rfl (Nat.le_of_ble_eq_true rfl) (Nat.le_of_ble_eq_true rfl) rfl (by decide +kernel) (by decide +kernel) (fun v2 M1 => ?_) (fun E M1 => ?_)
  ·
    refine yL.eq (y_i2l (pc := 6) d125_6) ?_
    exact yL.eq (y_lret (pc := 7) d125_7 mr_125) yL.rf
  ·
    refine yL.il (fun h => ?_) (fun h => ?_)
    ·
      subst h
      exact yL.eq (y_hd (tpc := 9) (i := 3) (v := (-9000000000000000002)) hx125_1 rfl d125_9 q125_17 d125_12 mr_125) yL.rf
    ·
      exact yL.nn
set_option maxRecDepth 20000 in
set_option maxHeartbeats 4000000 in
theorem e126  {M : yM} : yL (yCh (yX 79 0 [some (.ref 7)] [] M 0 0) (fun v2 M1 => yJr v2.toInt64 M1) (fun E M1 => if E = 2 then yJr (-9000000000000000003) M1 else none)) (yX 126 0 [some (.ref 7), none] [] M 0 0) := by
  refine yL.eq (y_aload_n (pc := 0) (x := 7) d126_0 rfl) ?_
  refine y_callh (pc := 1) (n := 1) (n' := 1) (nc' := 1) (ns' := 6) [] [] d126_1 q126_84 mk_79 s_t_7 rfl rfl (Nat.le_of_ble_eq_true rfl) (Nat.le_of_ble_eq_true rfl) rfl (by decide +kernel) (by decide +kernel) (fun v2 M1 => ?_) (fun E M1 => ?_)
  ·
    refine yL.eq (y_i2l (pc := 4) d126_4) ?_
    exact yL.eq (y_lret (pc := 5) d126_5 mr_126) yL.rf
  ·
    refine yL.il (fun h => ?_) (fun h => ?_)
    ·
      subst h
      exact yL.eq (y_hd (tpc := 7) (i := 1) (v := (-9000000000000000003)) hx126_2 rfl d126_7 q126_21 d126_10 mr_126) yL.rf
    ·
      exact yL.nn
set_option maxRecDepth 20000 in
set_option maxHeartbeats 4000000 in
theorem e127 {a1 : Int32} {a2 : Int32} {M : yM} : yL (yCh (yX 80 0 [some (.ref 7), some (.int a1), some (.int a2)] [] M 0 0) (fun v2 M1 => yJr v2.toInt64 M1) (fun E M1 => if E = 0 then yJr (-9000000000000000001) M1 else if E = 1 then yJr (-9000000000000000002) M1 else none)) (yX 127 0 [some (.ref 7), some (.int a1), some (.int a2), none] [] M 0 0) := by
  refine yL.eq (y_aload_n (pc := 0) (x := 7) d127_0 rfl) ?_
  refine yL.eq (y_iload_n (pc := 1) (x := a1) d127_1 rfl) ?_
  refine yL.eq (y_iload_n (pc := 2) (x := a2) d127_2 rfl) ?_
  refine y_callh (pc := 3) (n := 3) (n' := 3) (nc' := 2) (ns' := 12) [.int a1, .int a2] [] d127_3 q127_87 mk_80 s_t_7 rfl rfl (Nat.le_of_ble_eq_true rfl) (Nat.le_of_ble_eq_true rfl) rfl (by decide +kernel) (by decide +kernel) (fun v2 M1 => ?_) (fun E M1 => ?_)
  ·
    refine yL.eq (y_i2l (pc := 6) d127_6) ?_
    exact yL.eq (y_lret (pc := 7) d127_7 mr_127) yL.rf
  ·
    refine yL.il (fun h => ?_) (fun h => ?_)
    ·
      subst h
      exact yL.eq (y_hd (tpc := 9) (i := 3) (v := (-9000000000000000001)) hx127_0 rfl d127_9 q127_36 d127_12 mr_127) yL.rf
    ·
      refine yL.il (fun h => ?_) (fun h => ?_)
      ·
        subst h
        exact yL.eq (y_hd (tpc := 14) (i := 3) (v := (-9000000000000000002)) hx127_1 rfl d127_14 q127_17 d127_17 mr_127) yL.rf
      ·
        exact yL.nn
set_option maxRecDepth 20000 in
set_option maxHeartbeats 4000000 in
theorem e128 {a1 : Int32} {a2 : Int32} {M : yM} : yL (yCh (yX 81 0 [some (.ref 7), some (.int a1), some (.int a2)] [] M 0 0) (fun v2 M1 => yJr v2.toInt64 M1) (fun E M1 => if E = 1 then yJr (-9000000000000000002) M1 else none)) (yX 128 0 [some (.ref 7), some (.int a1), some (.int a2), none] [] M 0 0) := by
  refine yL.eq (y_aload_n (pc := 0) (x := 7) d128_0 rfl) ?_
  refine yL.eq (y_iload_n (pc := 1) (x := a1) d128_1 rfl) ?_
  refine yL.eq (y_iload_n (pc := 2) (x := a2) d128_2 rfl) ?_
  refine y_callh (pc := 3) (n := 3) (n' := 3) (nc' := 1) (ns' := 6) [.int a1, .int a2] [] d128_3 q128_90 mk_81 s_t_7 rfl rfl (Nat.le_of_ble_eq_true rfl) (Nat.le_of_ble_eq_true rfl) rfl (by decide +kernel) (by decide +kernel) (fun v2 M1 => ?_) (fun E M1 => ?_)
  ·
    refine yL.eq (y_i2l (pc := 6) d128_6) ?_
    exact yL.eq (y_lret (pc := 7) d128_7 mr_128) yL.rf
  ·
    refine yL.il (fun h => ?_) (fun h => ?_)
    ·
      subst h
      exact yL.eq (y_hd (tpc := 9) (i := 3) (v := (-9000000000000000002)) hx128_1 rfl d128_9 q128_17 d128_12 mr_128) yL.rf
    ·
      exact yL.nn
set_option maxRecDepth 20000 in
set_option maxHeartbeats 4000000 in
theorem e129 {a1 : Int32} {M : yM} : yL (yCh (yX 82 0 [some (.ref 7), some (.int a1), none] [] M 0 0) (fun v2 M1 => yJr v2.toInt64 M1) (fun E M1 => if E = 0 then yJr (-9000000000000000001) M1 else none)) (yX 129 0 [some (.ref 7), some (.int a1), none] [] M 0 0) := by
  refine yL.eq (y_aload_n (pc := 0) (x := 7) d129_0 rfl) ?_
  refine yL.eq (y_iload_n (pc := 1) (x := a1) d129_1 rfl) ?_
  refine y_callh (pc := 2) (n := 2) (n' := 3) (nc' := 1) (ns' := 6) [.int a1] [] d129_2 q129_93 mk_82 s_t_7 rfl rfl (Nat.le_of_ble_eq_true rfl) (Nat.le_of_ble_eq_true rfl) rfl (by decide +kernel) (by decide +kernel) (fun v2 M1 => ?_) (fun E M1 => ?_)
  ·
    refine yL.eq (y_i2l (pc := 5) d129_5) ?_
    exact yL.eq (y_lret (pc := 6) d129_6 mr_129) yL.rf
  ·
    refine yL.il (fun h => ?_) (fun h => ?_)
    ·
      subst h
      exact yL.eq (y_hd (tpc := 8) (i := 2) (v := (-9000000000000000001)) hx129_0 rfl d129_8 q129_36 d129_11 mr_129) yL.rf
    ·
      exact yL.nn
set_option maxRecDepth 20000 in
set_option maxHeartbeats 4000000 in
theorem e130 {a1 : Int32} {a2 : Int32} {M : yM} : yL (yCh (yX 84 0 [some (.ref 7), some (.int a1), some (.int a2), none, none, none, none] [] M 0 0) (fun v2 M1 => yJr v2.toInt64 M1) (fun E M1 => if E = 1 then yJr (-9000000000000000002) M1 else none)) (yX 130 0 [some (.ref 7), some (.int a1), some (.int a2), none] [] M 0 0) := by
  refine yL.eq (y_aload_n (pc := 0) (x := 7) d130_0 rfl) ?_
  refine yL.eq (y_iload_n (pc := 1) (x := a1) d130_1 rfl) ?_
  refine yL.eq (y_iload_n (pc := 2) (x := a2) d130_2 rfl) ?_
  refine y_callh (pc := 3) (n := 3) (n' := 7) (nc' := 1) (ns' := 6) [.int a1, .int a2] [] d130_3 q130_96 mk_84 s_t_7 rfl rfl (Nat.le_of_ble_eq_true rfl) (Nat.le_of_ble_eq_true rfl) rfl (by decide +kernel) (by decide +kernel) (fun v2 M1 => ?_) (fun E M1 => ?_)
  ·
    refine yL.eq (y_i2l (pc := 6) d130_6) ?_
    exact yL.eq (y_lret (pc := 7) d130_7 mr_130) yL.rf
  ·
    refine yL.il (fun h => ?_) (fun h => ?_)
    ·
      subst h
      exact yL.eq (y_hd (tpc := 9) (i := 3) (v := (-9000000000000000002)) hx130_1 rfl d130_9 q130_17 d130_12 mr_130) yL.rf
    ·
      exact yL.nn
set_option maxRecDepth 20000 in
set_option maxHeartbeats 4000000 in
theorem e131 {a1 : Int32} {a2 : Int64} {M : yM} : yL (yCh (yX 85 0 [some (.ref 7), some (.int a1), some (.long a2), none, none, none, none, none, none, none, none] [] M 0 0) (fun v2 M1 => yJr v2.toInt64 M1) (fun E M1 => if E = 1 then yJr (-9000000000000000002) M1 else none)) (yX 131 0 [some (.ref 7), some (.int a1), some (.long a2), none, none] [] M 0 0) := by
  refine yL.eq (y_aload_n (pc := 0) (x := 7) d131_0 rfl) ?_
  refine yL.eq (y_iload_n (pc := 1) (x := a1) d131_1 rfl) ?_
  refine yL.eq (y_lload_n (pc := 2) (x := a2) d131_2 rfl) ?_
  refine y_callh (pc := 3) (n := 3) (n' := 11) (nc' := 2) (ns' := 12) [.int a1, .long a2] [] d131_3 q131_99 mk_85 s_t_7 rfl rfl (Nat.le_of_ble_eq_true rfl) (Nat.le_of_ble_eq_true rfl) rfl (by decide +kernel) (by decide +kernel) (fun v2 M1 => ?_) (fun E M1 => ?_)
  ·
    refine yL.eq (y_i2l (pc := 6) d131_6) ?_
    exact yL.eq (y_lret (pc := 7) d131_7 mr_131) yL.rf
  ·
    refine yL.il (fun h => ?_) (fun h => ?_)
    ·
      subst h
      exact yL.eq (y_hd (tpc := 10) (i := 4) (v := (-9000000000000000002)) hx131_1 rfl d131_10 q131_17 d131_13 mr_131) yL.rf
    ·
      exact yL.nn
set_option maxRecDepth 20000 in
set_option maxHeartbeats 4000000 in
theorem e132 {a1 : Int64} {a3 : Int32} {M : yM} : yL (yCh (yX 86 0 [some (.ref 7), some (.long a1), none, some (.int a3), none, none, none, none] [] M 0 0) (fun v2 M1 => yJr v2.toInt64 M1) (fun E M1 => if E = 1 then yJr (-9000000000000000002) M1 else none)) (yX 132 0 [some (.ref 7), some (.long a1), none, some (.int a3), none] [] M 0 0) := by
  refine yL.eq (y_aload_n (pc := 0) (x := 7) d132_0 rfl) ?_
  refine yL.eq (y_lload_n (pc := 1) (x := a1) d132_1 rfl) ?_
  refine yL.eq (y_iload_n (pc := 2) (x := a3) d132_2 rfl) ?_
  refine y_callh (pc := 3) (n := 3) (n' := 8) (nc' := 1) (ns' := 6) [.long a1, .int a3] [] d132_3 q132_103 mk_86 s_t_7 rfl rfl (Nat.le_of_ble_eq_true rfl) (Nat.le_of_ble_eq_true rfl) rfl (by decide +kernel) (by decide +kernel) (fun v2 M1 => ?_) (fun E M1 => ?_)
  ·
    refine yL.eq (y_i2l (pc := 6) d132_6) ?_
    exact yL.eq (y_lret (pc := 7) d132_7 mr_132) yL.rf
  ·
    refine yL.il (fun h => ?_) (fun h => ?_)
    ·
      subst h
      exact yL.eq (y_hd (tpc := 10) (i := 4) (v := (-9000000000000000002)) hx132_1 rfl d132_10 q132_17 d132_13 mr_132) yL.rf
    ·
      exact yL.nn
set_option maxRecDepth 20000 in
set_option maxHeartbeats 4000000 in
theorem e133 {a1 : Int32} {M : yM} : yL (yCh (yX 87 0 [some (.ref 7), some (.int a1)] [] M 0 0) (fun v2 M1 => yJr v2.toInt64 M1) (fun E M1 => if E = 0 then yJr (-9000000000000000001) M1 else none)) (yX 133 0 [some (.ref 7), some (.int a1), none] [] M 0 0) := by
  refine yL.eq (y_aload_n (pc := 0) (x := 7) d133_0 rfl) ?_
  refine yL.eq (y_iload_n (pc := 1) (x := a1) d133_1 rfl) ?_
  refine y_callh (pc := 2) (n := 2) (n' := 2) (nc' := 1) (ns' := 6) [.int a1] [] d133_2 q133_107 mk_87 s_t_7 rfl rfl (Nat.le_of_ble_eq_true rfl) (Nat.le_of_ble_eq_true rfl) rfl (by decide +kernel) (by decide +kernel) (fun v2 M1 => ?_) (fun E M1 => ?_)
  ·
    refine yL.eq (y_i2l (pc := 5) d133_5) ?_
    exact yL.eq (y_lret (pc := 6) d133_6 mr_133) yL.rf
  ·
    refine yL.il (fun h => ?_) (fun h => ?_)
    ·
      subst h
      exact yL.eq (y_hd (tpc := 8) (i := 2) (v := (-9000000000000000001)) hx133_0 rfl d133_8 q133_36 d133_11 mr_133) yL.rf
    ·
      exact yL.nn
set_option maxRecDepth 20000 in
set_option maxHeartbeats 4000000 in
theorem e134 {a1 : Int32} {M : yM} : yL (yCh (yX 88 0 [some (.ref 7), some (.int a1)] [] M 0 0) (fun v2 M1 => yJr v2.toInt64 M1) (fun E M1 => if E = 0 then yJr (-9000000000000000001) M1 else if E = 2 then yJr (-9000000000000000003) M1 else none)) (yX 134 0 [some (.ref 7), some (.int a1), none] [] M 0 0) := by
  refine yL.eq (y_aload_n (pc := 0) (x := 7) d134_0 rfl) ?_
  refine yL.eq (y_iload_n (pc := 1) (x := a1) d134_1 rfl) ?_
  refine y_callh (pc := 2) (n := 2) (n' := 2) (nc' := 2) (ns' := 12) [.int a1] [] d134_2 q134_110 mk_88 s_t_7 rfl rfl (Nat.le_of_ble_eq_true rfl) (Nat.le_of_ble_eq_true rfl) rfl (by decide +kernel) (by decide +kernel) (fun v2 M1 => ?_) (fun E M1 => ?_)
  ·
    refine yL.eq (y_i2l (pc := 5) d134_5) ?_
    exact yL.eq (y_lret (pc := 6) d134_6 mr_134) yL.rf
  ·
    refine yL.il (fun h => ?_) (fun h => ?_)
    ·
      subst h
      exact yL.eq (y_hd (tpc := 8) (i := 2) (v := (-9000000000000000001)) hx134_0 rfl d134_8 q134_36 d134_11 mr_134) yL.rf
    ·
      refine yL.il (fun h => ?_) (fun h => ?_)
      ·
        subst h
        exact yL.eq (y_hd (tpc := 13) (i := 2) (v := (-9000000000000000003)) hx134_2 rfl d134_13 q134_21 d134_16 mr_134) yL.rf
      ·
        exact yL.nn
set_option maxRecDepth 20000 in
set_option maxHeartbeats 4000000 in
theorem e135  {M : yM} {nc ns : Nat} (hn : nc + 60 ≤ 400 ∧ ns + 360 ≤ 2400) : yL (yX 135 6 [some (.ref 7), some (.long 127), none, some (.int 0), none] [] M nc ns) (yX 135 0 [some (.ref 7), none, none, none, none] [] M nc ns) := by
  refine yL.eq (y_ldc2_w (pc := 0) (v := 127) d135_0 q135_113) ?_
  refine yL.eq (y_lstore_n (pc := 3) (ls' := [some (.ref 7), some (.long 127), none, none, none]) d135_3 rfl rfl) ?_
  refine yL.eq (y_iconst (pc := 4) (v := 0) d135_4 kc_0) ?_
  refine yL.eq (y_istore_n (pc := 5) (ls' := [some (.ref 7), some (.long 127), none, some (.int 0), none]) d135_5 rfl rfl) ?_
  exact yL.rf
set_option maxRecDepth 20000 in
set_option maxHeartbeats 4000000 in
theorem e135_6 {x1 : Int64} {x3 : Int32} {o4 : Option Value} {M : yM} {nc ns : Nat} (hn : nc + 60 ≤ 400 ∧ ns + 360 ≤ 2400) : yL (if x3 < 10 then yCj false (yX 109 0 [some (.ref 7), some (.int x3), none] [] M 0 0) fun v3 M2 => yX 135 6 [some (.ref 7), some (.long ((31 * x1) + v3)), none, some (.int (x3 + 1)), o4] [] M2 (nc + 1) (ns + 6) else yX 135 32 [some (.ref 7), some (.long x1), none, some (.int 0), o4] [] M nc ns) (yX 135 6 [some (.ref 7), some (.long x1), none, some (.int x3), o4] [] M nc ns) := by
  refine yL.eq (y_iload_n (pc := 6) (x := x3) d135_6 rfl) ?_
  refine yL.eq (y_bipush (pc := 7) (v := 10) d135_7 kb_10) ?_
  refine yL.eq (y_icmp_ge (pc := 9) (t := 30) d135_9 (by decide)) ?_
  refine yL.ite (fun h1 => ?_) (fun h1 => ?_)
  ·
    refine yL.eq (y_ldc2_w (pc := 12) (v := 31) d135_12 q135_115) ?_
    refine yL.eq (y_lload_n (pc := 15) (x := x1) d135_15 rfl) ?_
    refine yL.eq (y_lmul (pc := 16) d135_16) ?_
    refine yL.eq (y_aload_n (pc := 17) (x := 7) d135_17 rfl) ?_
    refine yL.eq (y_iload_n (pc := 18) (x := x3) d135_18 rfl) ?_
    refine y_calls_j (pc := 19) (n := 2) (n' := 3) (nc' := nc + 1) (ns' := ns + 6) [.ref 7, .int x3] [.long (31 * x1)] false d135_19 q135_117 rfl rfl rfl (Nat.le_of_ble_eq_true rfl) (Nat.le_of_ble_eq_true rfl) rfl (by decide +kernel) (y_rmc mcs_109 mcs_135 hn (by decide)) (fun v3 M2 => ?_)
    refine yL.eq (y_ladd (pc := 22) d135_22) ?_
    refine yL.eq (y_lstore_n (pc := 23) (ls' := [some (.ref 7), some (.long ((31 * x1) + v3)), none, some (.int x3), o4]) d135_23 rfl rfl) ?_
    refine yL.eq (y_iinc (pc := 24) (v := 1) (x := x3) (ls' := [some (.ref 7), some (.long ((31 * x1) + v3)), none, some (.int (x3 + 1)), o4]) d135_24 kc_1 rfl (Nat.le_of_ble_eq_true rfl) rfl) ?_
    refine yL.eq (y_goto (pc := 27) (t := 6) d135_27 (by decide)) ?_
    exact yL.rf
  ·
    refine yL.eq (y_iconst (pc := 30) (v := 0) d135_30 kc_0) ?_
    refine yL.eq (y_istore_n (pc := 31) (ls' := [some (.ref 7), some (.long x1), none, some (.int 0), o4]) d135_31 rfl rfl) ?_
    exact yL.rf
set_option maxRecDepth 20000 in
set_option maxHeartbeats 4000000 in
theorem e135_32 {x1 : Int64} {x3 : Int32} {o4 : Option Value} {M : yM} {nc ns : Nat} (hn : nc + 60 ≤ 400 ∧ ns + 360 ≤ 2400) : yL (if x3 < 5 then yCj false (yX 115 0 [some (.ref 7), some (.int x3), none] [] M 0 0) fun v3 M2 => if x3 < 4 then yCj false (yX 114 0 [some (.ref 7), some (.int x3), none] [] M2 0 0) fun v6 M5 => yX 135 32 [some (.ref 7), some (.long (((31 * x1) + v3) + (97 * v6))), none, some (.int (x3 + 1)), o4] [] M5 (nc + 2) (ns + 12) else yX 135 32 [some (.ref 7), some (.long (((31 * x1) + v3) + 0)), none, some (.int (x3 + 1)), o4] [] M2 (nc + 1) (ns + 6) else yX 135 76 [some (.ref 7), some (.long x1), none, some (.int 0), o4] [] M nc ns) (yX 135 32 [some (.ref 7), some (.long x1), none, some (.int x3), o4] [] M nc ns) := by
  refine yL.eq (y_iload_n (pc := 32) (x := x3) d135_32 rfl) ?_
  refine yL.eq (y_iconst (pc := 33) (v := 5) d135_33 kc_5) ?_
  refine yL.eq (y_icmp_ge (pc := 34) (t := 74) d135_34 (by decide)) ?_
  refine yL.ite (fun h1 => ?_) (fun h1 => ?_)
  ·
    refine yL.eq (y_ldc2_w (pc := 37) (v := 31) d135_37 q135_115) ?_
    refine yL.eq (y_lload_n (pc := 40) (x := x1) d135_40 rfl) ?_
    refine yL.eq (y_lmul (pc := 41) d135_41) ?_
    refine yL.eq (y_aload_n (pc := 42) (x := 7) d135_42 rfl) ?_
    refine yL.eq (y_iload_n (pc := 43) (x := x3) d135_43 rfl) ?_
    refine y_calls_j (pc := 44) (n := 2) (n' := 3) (nc' := nc + 1) (ns' := ns + 6) [.ref 7, .int x3] [.long (31 * x1)] false d135_44 q135_122 rfl rfl rfl (Nat.le_of_ble_eq_true rfl) (Nat.le_of_ble_eq_true rfl) rfl (by decide +kernel) (y_rmc mcs_115 mcs_135 hn (by decide)) (fun v3 M2 => ?_)
    refine yL.eq (y_ladd (pc := 47) d135_47) ?_
    refine yL.eq (y_iload_n (pc := 48) (x := x3) d135_48 rfl) ?_
    refine yL.eq (y_iconst (pc := 49) (v := 4) d135_49 kc_4) ?_
    refine yL.eq (y_icmp_ge (pc := 50) (t := 65) d135_50 (by decide)) ?_
    refine yL.ite (fun h4 => ?_) (fun h4 => ?_)
    ·
      refine yL.eq (y_ldc2_w (pc := 53) (v := 97) d135_53 q135_124) ?_
      refine yL.eq (y_aload_n (pc := 56) (x := 7) d135_56 rfl) ?_
      refine yL.eq (y_iload_n (pc := 57) (x := x3) d135_57 rfl) ?_
      refine y_calls_j (pc := 58) (n := 2) (n' := 3) (nc' := nc + 2) (ns' := ns + 12) [.ref 7, .int x3] [.long 97, .long ((31 * x1) + v3)] false d135_58 q135_126 rfl rfl rfl (Nat.le_of_ble_eq_true rfl) (Nat.le_of_ble_eq_true rfl) rfl (by decide +kernel) (y_rme (c1 := 2) (s1 := 12) mcs_114 mcs_135 hn (by decide)) (fun v6 M5 => ?_)
      refine yL.eq (y_lmul (pc := 61) d135_61) ?_
      refine yL.eq (y_goto (pc := 62) (t := 66) d135_62 (by decide)) ?_
      refine yL.eq (y_ladd (pc := 66) d135_66) ?_
      refine yL.eq (y_lstore_n (pc := 67) (ls' := [some (.ref 7), some (.long (((31 * x1) + v3) + (97 * v6))), none, some (.int x3), o4]) d135_67 rfl rfl) ?_
      refine yL.eq (y_iinc (pc := 68) (v := 1) (x := x3) (ls' := [some (.ref 7), some (.long (((31 * x1) + v3) + (97 * v6))), none, some (.int (x3 + 1)), o4]) d135_68 kc_1 rfl (Nat.le_of_ble_eq_true rfl) rfl) ?_
      refine yL.eq (y_goto (pc := 71) (t := 32) d135_71 (by decide)) ?_
      exact yL.rf
    ·
      refine yL.eq (y_lconst (pc := 65) (v := 0) d135_65 kl_0) ?_
      refine yL.eq (y_ladd (pc := 66) d135_66) ?_
      refine yL.eq (y_lstore_n (pc := 67) (ls' := [some (.ref 7), some (.long (((31 * x1) + v3) + 0)), none, some (.int x3), o4]) d135_67 rfl rfl) ?_
      refine yL.eq (y_iinc (pc := 68) (v := 1) (x := x3) (ls' := [some (.ref 7), some (.long (((31 * x1) + v3) + 0)), none, some (.int (x3 + 1)), o4]) d135_68 kc_1 rfl (Nat.le_of_ble_eq_true rfl) rfl) ?_
      refine yL.eq (y_goto (pc := 71) (t := 32) d135_71 (by decide)) ?_
      exact yL.rf
  ·
    refine yL.eq (y_iconst (pc := 74) (v := 0) d135_74 kc_0) ?_
    refine yL.eq (y_istore_n (pc := 75) (ls' := [some (.ref 7), some (.long x1), none, some (.int 0), o4]) d135_75 rfl rfl) ?_
    exact yL.rf
set_option maxRecDepth 20000 in
set_option maxHeartbeats 4000000 in
theorem e135_76 {x1 : Int64} {x3 : Int32} {o4 : Option Value} {M : yM} {nc ns : Nat} (hn : nc + 60 ≤ 400 ∧ ns + 360 ≤ 2400) : yL (yCj false (yX 109 0 [some (.ref 7), some (.int 0), none] [] M 0 0) fun v2 M1 => if x3.toInt64 < v2 then yCj false (yX 110 0 [some (.ref 7), some (.int x3), some (.int 0), none] [] M1 0 0) fun v5 M4 => yX 135 76 [some (.ref 7), some (.long ((31 * x1) + v5)), none, some (.int (x3 + 1)), o4] [] M4 (nc + 3) (ns + 18) else yX 135 108 [some (.ref 7), some (.long x1), none, some (.int 0), o4] [] M1 (nc + 1) (ns + 6)) (yX 135 76 [some (.ref 7), some (.long x1), none, some (.int x3), o4] [] M nc ns) := by
  refine yL.eq (y_iload_n (pc := 76) (x := x3) d135_76 rfl) ?_
  refine yL.eq (y_i2l (pc := 77) d135_77) ?_
  refine yL.eq (y_aload_n (pc := 78) (x := 7) d135_78 rfl) ?_
  refine yL.eq (y_iconst (pc := 79) (v := 0) d135_79 kc_0) ?_
  refine y_calls_j (pc := 80) (n := 2) (n' := 3) (nc' := nc + 1) (ns' := ns + 6) [.ref 7, .int 0] [.long x3.toInt64] false d135_80 q135_117 rfl rfl rfl (Nat.le_of_ble_eq_true rfl) (Nat.le_of_ble_eq_true rfl) rfl (by decide +kernel) (y_rmc mcs_109 mcs_135 hn (by decide)) (fun v2 M1 => ?_)
  refine yL.eq (y_lcmp (pc := 83) d135_83) ?_
  refine yL.eq (y_lif_ge (pc := 84) (t := 106) d135_84 (by decide)) ?_
  refine yL.ite (fun h3 => ?_) (fun h3 => ?_)
  ·
    refine yL.eq (y_ldc2_w (pc := 87) (v := 31) d135_87 q135_115) ?_
    refine yL.eq (y_lload_n (pc := 90) (x := x1) d135_90 rfl) ?_
    refine yL.eq (y_lmul (pc := 91) d135_91) ?_
    refine yL.eq (y_aload_n (pc := 92) (x := 7) d135_92 rfl) ?_
    refine yL.eq (y_iload_n (pc := 93) (x := x3) d135_93 rfl) ?_
    refine yL.eq (y_iconst (pc := 94) (v := 0) d135_94 kc_0) ?_
    refine y_calls_j (pc := 95) (n := 3) (n' := 4) (nc' := nc + 3) (ns' := ns + 18) [.ref 7, .int x3, .int 0] [.long (31 * x1)] false d135_95 q135_128 rfl rfl rfl (Nat.le_of_ble_eq_true rfl) (Nat.le_of_ble_eq_true rfl) rfl (by decide +kernel) (y_rme (c1 := 3) (s1 := 18) mcs_110 mcs_135 hn (by decide)) (fun v5 M4 => ?_)
    refine yL.eq (y_ladd (pc := 98) d135_98) ?_
    refine yL.eq (y_lstore_n (pc := 99) (ls' := [some (.ref 7), some (.long ((31 * x1) + v5)), none, some (.int x3), o4]) d135_99 rfl rfl) ?_
    refine yL.eq (y_iinc (pc := 100) (v := 1) (x := x3) (ls' := [some (.ref 7), some (.long ((31 * x1) + v5)), none, some (.int (x3 + 1)), o4]) d135_100 kc_1 rfl (Nat.le_of_ble_eq_true rfl) rfl) ?_
    refine yL.eq (y_goto (pc := 103) (t := 76) d135_103 (by decide)) ?_
    exact yL.rf
  ·
    refine yL.eq (y_iconst (pc := 106) (v := 0) d135_106 kc_0) ?_
    refine yL.eq (y_istore_n (pc := 107) (ls' := [some (.ref 7), some (.long x1), none, some (.int 0), o4]) d135_107 rfl rfl) ?_
    exact yL.rf
set_option maxRecDepth 20000 in
set_option maxHeartbeats 4000000 in
theorem e135_108 {x1 : Int64} {x3 : Int32} {o4 : Option Value} {M : yM} {nc ns : Nat} (hn : nc + 60 ≤ 400 ∧ ns + 360 ≤ 2400) : yL (yCj false (yX 109 0 [some (.ref 7), some (.int 1), none] [] M 0 0) fun v2 M1 => if x3.toInt64 < v2 then yX 135 122 [some (.ref 7), some (.long x1), none, some (.int x3), some (.int 0)] [] M1 (nc + 1) (ns + 6) else yJr x1 M1) (yX 135 108 [some (.ref 7), some (.long x1), none, some (.int x3), o4] [] M nc ns) := by
  refine yL.eq (y_iload_n (pc := 108) (x := x3) d135_108 rfl) ?_
  refine yL.eq (y_i2l (pc := 109) d135_109) ?_
  refine yL.eq (y_aload_n (pc := 110) (x := 7) d135_110 rfl) ?_
  refine yL.eq (y_iconst (pc := 111) (v := 1) d135_111 kc_1) ?_
  refine y_calls_j (pc := 112) (n := 2) (n' := 3) (nc' := nc + 1) (ns' := ns + 6) [.ref 7, .int 1] [.long x3.toInt64] false d135_112 q135_117 rfl rfl rfl (Nat.le_of_ble_eq_true rfl) (Nat.le_of_ble_eq_true rfl) rfl (by decide +kernel) (y_rmc mcs_109 mcs_135 hn (by decide)) (fun v2 M1 => ?_)
  refine yL.eq (y_lcmp (pc := 115) d135_115) ?_
  refine yL.eq (y_lif_ge (pc := 116) (t := 154) d135_116 (by decide)) ?_
  refine yL.ite (fun h3 => ?_) (fun h3 => ?_)
  ·
    refine yL.eq (y_iconst (pc := 119) (v := 0) d135_119 kc_0) ?_
    refine yL.eq (y_istore (pc := 120) (ls' := [some (.ref 7), some (.long x1), none, some (.int x3), some (.int 0)]) d135_120 rfl rfl) ?_
    exact yL.rf
  ·
    refine yL.eq (y_lload_n (pc := 154) (x := x1) d135_154 rfl) ?_
    exact yL.eq (y_lret (pc := 155) d135_155 mr_135) yL.rf
set_option maxRecDepth 20000 in
set_option maxHeartbeats 4000000 in
theorem e135_122 {x1 : Int64} {x3 : Int32} {x4 : Int32} {M : yM} {nc ns : Nat} (hn : nc + 60 ≤ 400 ∧ ns + 360 ≤ 2400) : yL (if x4 < 5 then yCj false (yX 112 0 [some (.ref 7), some (.int x3), some (.int x4), none] [] M 0 0) fun v3 M2 => yX 135 122 [some (.ref 7), some (.long ((31 * x1) + v3)), none, some (.int x3), some (.int (x4 + 1))] [] M2 (nc + 2) (ns + 12) else yX 135 108 [some (.ref 7), some (.long x1), none, some (.int (x3 + 1)), some (.int x4)] [] M nc ns) (yX 135 122 [some (.ref 7), some (.long x1), none, some (.int x3), some (.int x4)] [] M nc ns) := by
  refine yL.eq (y_iload (pc := 122) (x := x4) d135_122 rfl) ?_
  refine yL.eq (y_iconst (pc := 124) (v := 5) d135_124 kc_5) ?_
  refine yL.eq (y_icmp_ge (pc := 125) (t := 148) d135_125 (by decide)) ?_
  refine yL.ite (fun h1 => ?_) (fun h1 => ?_)
  ·
    refine yL.eq (y_ldc2_w (pc := 128) (v := 31) d135_128 q135_115) ?_
    refine yL.eq (y_lload_n (pc := 131) (x := x1) d135_131 rfl) ?_
    refine yL.eq (y_lmul (pc := 132) d135_132) ?_
    refine yL.eq (y_aload_n (pc := 133) (x := 7) d135_133 rfl) ?_
    refine yL.eq (y_iload_n (pc := 134) (x := x3) d135_134 rfl) ?_
    refine yL.eq (y_iload (pc := 135) (x := x4) d135_135 rfl) ?_
    refine y_calls_j (pc := 137) (n := 3) (n' := 4) (nc' := nc + 2) (ns' := ns + 12) [.ref 7, .int x3, .int x4] [.long (31 * x1)] false d135_137 q135_131 rfl rfl rfl (Nat.le_of_ble_eq_true rfl) (Nat.le_of_ble_eq_true rfl) rfl (by decide +kernel) (y_rmc mcs_112 mcs_135 hn (by decide)) (fun v3 M2 => ?_)
    refine yL.eq (y_ladd (pc := 140) d135_140) ?_
    refine yL.eq (y_lstore_n (pc := 141) (ls' := [some (.ref 7), some (.long ((31 * x1) + v3)), none, some (.int x3), some (.int x4)]) d135_141 rfl rfl) ?_
    refine yL.eq (y_iinc (pc := 142) (v := 1) (x := x4) (ls' := [some (.ref 7), some (.long ((31 * x1) + v3)), none, some (.int x3), some (.int (x4 + 1))]) d135_142 kc_1 rfl (Nat.le_of_ble_eq_true rfl) rfl) ?_
    refine yL.eq (y_goto (pc := 145) (t := 122) d135_145 (by decide)) ?_
    exact yL.rf
  ·
    refine yL.eq (y_iinc (pc := 148) (v := 1) (x := x3) (ls' := [some (.ref 7), some (.long x1), none, some (.int (x3 + 1)), some (.int x4)]) d135_148 kc_1 rfl (Nat.le_of_ble_eq_true rfl) rfl) ?_
    refine yL.eq (y_goto (pc := 151) (t := 108) d135_151 (by decide)) ?_
    exact yL.rf
set_option maxRecDepth 20000 in
set_option maxHeartbeats 4000000 in
theorem e140 {a1 : Int32} {a2 : Int32} {a3 : Int32} {a4 : Int32} {M : yM} : yL (yCj false (yX 107 0 [some (.ref 7), some (.int a1), none] [] M 0 0) fun v2 M1 => if v2 ≤ 0 then yI 0 M1 else yCj false (yX 107 0 [some (.ref 7), some (.int a2), none] [] M1 0 0) fun v5 M4 => if v5 ≤ 0 then yI 0 M4 else yCj false (yX 107 0 [some (.ref 7), some (.int a3), none] [] M4 0 0) fun v8 M7 => if v8 ≤ 0 then yI 0 M7 else yCj false (yX 107 0 [some (.ref 7), some (.int a4), none] [] M7 0 0) fun v11 M10 => if v11 ≤ 0 then yI 0 M10 else yI 1 M10) (yX 140 0 [some (.ref 7), some (.int a1), some (.int a2), some (.int a3), some (.int a4)] [] M 0 0) := by
  refine yL.eq (y_aload_n (pc := 0) (x := 7) d140_0 rfl) ?_
  refine yL.eq (y_iload_n (pc := 1) (x := a1) d140_1 rfl) ?_
  refine y_calls_j (pc := 2) (n := 2) (n' := 3) (nc' := 2) (ns' := 12) [.ref 7, .int a1] [] false d140_2 q140_183 rfl rfl rfl (Nat.le_of_ble_eq_true rfl) (Nat.le_of_ble_eq_true rfl) rfl (by decide +kernel) (by decide +kernel) (fun v2 M1 => ?_)
  refine yL.eq (y_lconst (pc := 5) (v := 0) d140_5 kl_0) ?_
  refine yL.eq (y_lcmp (pc := 6) d140_6) ?_
  refine yL.eq (y_lif_le (pc := 7) (t := 45) d140_7 (by decide)) ?_
  refine yL.ite (fun h3 => ?_) (fun h3 => ?_)
  ·
    refine yL.eq (y_iconst (pc := 45) (v := 0) d140_45 kc_0) ?_
    exact yL.eq (y_iretz (pc := 46) d140_46 mr_140) (yL.eq yZ_0 yL.rf)
  ·
    refine yL.eq (y_aload_n (pc := 10) (x := 7) d140_10 rfl) ?_
    refine yL.eq (y_iload_n (pc := 11) (x := a2) d140_11 rfl) ?_
    refine y_calls_j (pc := 12) (n := 2) (n' := 3) (nc' := 4) (ns' := 24) [.ref 7, .int a2] [] false d140_12 q140_183 rfl rfl rfl (Nat.le_of_ble_eq_true rfl) (Nat.le_of_ble_eq_true rfl) rfl (by decide +kernel) (by decide +kernel) (fun v5 M4 => ?_)
    refine yL.eq (y_lconst (pc := 15) (v := 0) d140_15 kl_0) ?_
    refine yL.eq (y_lcmp (pc := 16) d140_16) ?_
    refine yL.eq (y_lif_le (pc := 17) (t := 45) d140_17 (by decide)) ?_
    refine yL.ite (fun h6 => ?_) (fun h6 => ?_)
    ·
      refine yL.eq (y_iconst (pc := 45) (v := 0) d140_45 kc_0) ?_
      exact yL.eq (y_iretz (pc := 46) d140_46 mr_140) (yL.eq yZ_0 yL.rf)
    ·
      refine yL.eq (y_aload_n (pc := 20) (x := 7) d140_20 rfl) ?_
      refine yL.eq (y_iload_n (pc := 21) (x := a3) d140_21 rfl) ?_
      refine y_calls_j (pc := 22) (n := 2) (n' := 3) (nc' := 6) (ns' := 36) [.ref 7, .int a3] [] false d140_22 q140_183 rfl rfl rfl (Nat.le_of_ble_eq_true rfl) (Nat.le_of_ble_eq_true rfl) rfl (by decide +kernel) (by decide +kernel) (fun v8 M7 => ?_)
      refine yL.eq (y_lconst (pc := 25) (v := 0) d140_25 kl_0) ?_
      refine yL.eq (y_lcmp (pc := 26) d140_26) ?_
      refine yL.eq (y_lif_le (pc := 27) (t := 45) d140_27 (by decide)) ?_
      refine yL.ite (fun h9 => ?_) (fun h9 => ?_)
      ·
        refine yL.eq (y_iconst (pc := 45) (v := 0) d140_45 kc_0) ?_
        exact yL.eq (y_iretz (pc := 46) d140_46 mr_140) (yL.eq yZ_0 yL.rf)
      ·
        refine yL.eq (y_aload_n (pc := 30) (x := 7) d140_30 rfl) ?_
        refine yL.eq (y_iload (pc := 31) (x := a4) d140_31 rfl) ?_
        refine y_calls_j (pc := 33) (n := 2) (n' := 3) (nc' := 8) (ns' := 48) [.ref 7, .int a4] [] false d140_33 q140_183 rfl rfl rfl (Nat.le_of_ble_eq_true rfl) (Nat.le_of_ble_eq_true rfl) rfl (by decide +kernel) (by decide +kernel) (fun v11 M10 => ?_)
        refine yL.eq (y_lconst (pc := 36) (v := 0) d140_36 kl_0) ?_
        refine yL.eq (y_lcmp (pc := 37) d140_37) ?_
        refine yL.eq (y_lif_le (pc := 38) (t := 45) d140_38 (by decide)) ?_
        refine yL.ite (fun h12 => ?_) (fun h12 => ?_)
        ·
          refine yL.eq (y_iconst (pc := 45) (v := 0) d140_45 kc_0) ?_
          exact yL.eq (y_iretz (pc := 46) d140_46 mr_140) (yL.eq yZ_0 yL.rf)
        ·
          refine yL.eq (y_iconst (pc := 41) (v := 1) d140_41 kc_1) ?_
          refine yL.eq (y_goto (pc := 42) (t := 46) d140_42 (by decide)) ?_
          exact yL.eq (y_iretz (pc := 46) d140_46 mr_140) (yL.eq yZ_1 yL.rf)
set_option maxRecDepth 20000 in
set_option maxHeartbeats 4000000 in
theorem e142 {a1 : Int32} {a2 : Int32} {M : yM} : yL (if (a1 % 24) = 0 then yX 142 116 [some (.ref 7), some (.int a1), some (.int a2), some (.int (a2 / 32))] [] M 0 0 else if (a1 % 24) = 1 then yX 142 116 [some (.ref 7), some (.int a1), some (.int a2), some (.int (a2 / 32))] [] M 0 0 else if (a1 % 24) = 2 then yX 142 128 [some (.ref 7), some (.int a1), some (.int a2), some (.int (a2 / 32))] [] M 0 0 else if (a1 % 24) = 3 then yX 142 128 [some (.ref 7), some (.int a1), some (.int a2), some (.int (a2 / 32))] [] M 0 0 else if (a1 % 24) = 4 then yX 142 128 [some (.ref 7), some (.int a1), some (.int a2), some (.int (a2 / 32))] [] M 0 0 else if (a1 % 24) = 5 then yX 142 128 [some (.ref 7), some (.int a1), some (.int a2), some (.int (a2 / 32))] [] M 0 0 else if (a1 % 24) = 6 then yX 142 157 [some (.ref 7), some (.int a1), some (.int a2), some (.int (a2 / 32))] [] M 0 0 else if (a1 % 24) = 7 then yX 142 174 [some (.ref 7), some (.int a1), some (.int a2), some (.int (a2 / 32))] [] M 0 0 else if (a1 % 24) = 8 then yX 142 174 [some (.ref 7), some (.int a1), some (.int a2), some (.int (a2 / 32))] [] M 0 0 else if (a1 % 24) = 9 then yX 142 201 [some (.ref 7), some (.int a1), some (.int a2), some (.int (a2 / 32))] [] M 0 0 else if (a1 % 24) = 10 then yX 142 201 [some (.ref 7), some (.int a1), some (.int a2), some (.int (a2 / 32))] [] M 0 0 else if (a1 % 24) = 11 then yX 142 201 [some (.ref 7), some (.int a1), some (.int a2), some (.int (a2 / 32))] [] M 0 0 else if (a1 % 24) = 12 then yX 142 201 [some (.ref 7), some (.int a1), some (.int a2), some (.int (a2 / 32))] [] M 0 0 else if (a1 % 24) = 13 then yX 142 201 [some (.ref 7), some (.int a1), some (.int a2), some (.int (a2 / 32))] [] M 0 0 else if (a1 % 24) = 14 then yX 142 228 [some (.ref 7), some (.int a1), some (.int a2), some (.int (a2 / 32))] [] M 0 0 else if (a1 % 24) = 15 then yX 142 228 [some (.ref 7), some (.int a1), some (.int a2), some (.int (a2 / 32))] [] M 0 0 else if (a1 % 24) = 16 then yX 142 239 [some (.ref 7), some (.int a1), some (.int a2), some (.int (a2 / 32))] [] M 0 0 else if (a1 % 24) = 17 then yX 142 239 [some (.ref 7), some (.int a1), some (.int a2), some (.int (a2 / 32))] [] M 0 0 else if (a1 % 24) = 18 then yX 142 239 [some (.ref 7), some (.int a1), some (.int a2), some (.int (a2 / 32))] [] M 0 0 else if (a1 % 24) = 19 then yX 142 251 [some (.ref 7), some (.int a1), some (.int a2), some (.int (a2 / 32))] [] M 0 0 else if (a1 % 24) = 20 then yX 142 266 [some (.ref 7), some (.int a1), some (.int a2), some (.int (a2 / 32))] [] M 0 0 else if (a1 % 24) = 21 then yX 142 282 [some (.ref 7), some (.int a1), some (.int a2), some (.int (a2 / 32))] [] M 0 0 else if (a1 % 24) = 22 then yX 142 282 [some (.ref 7), some (.int a1), some (.int a2), some (.int (a2 / 32))] [] M 0 0 else yX 142 287 [some (.ref 7), some (.int a1), some (.int a2), some (.int (a2 / 32))] [] M 0 0) (yX 142 0 [some (.ref 7), some (.int a1), some (.int a2), none] [] M 0 0) := by
  refine yL.eq (y_iload_n (pc := 0) (x := a2) d142_0 rfl) ?_
  refine yL.eq (y_bipush (pc := 1) (v := 32) d142_1 kb_32) ?_
  refine yL.eq (y_idivc (pc := 3) d142_3 nzI_32) ?_
  refine yL.eq (y_istore_n (pc := 4) (ls' := [some (.ref 7), some (.int a1), some (.int a2), some (.int (a2 / 32))]) d142_4 rfl rfl) ?_
  refine yL.eq (y_iload_n (pc := 5) (x := a1) d142_5 rfl) ?_
  refine yL.eq (y_bipush (pc := 6) (v := 24) d142_6 kb_24) ?_
  refine yL.eq (y_imodc (pc := 8) d142_8 nzI_24) ?_
  refine yL.eq (y_tsw (pc := 9) (ts := [116, 116, 128, 128, 128, 128, 157, 174, 174, 201, 201, 201, 201, 201, 228, 228, 239, 239, 239, 251, 266, 282, 282]) (d := 287) d142_9 (by decide +kernel)) ?_
  refine yL.eq (y_ts (c := 0) (lo' := 1) kc_0 (by decide)) ?_
  refine yL.ite (fun h1 => ?_) (fun h1 => ?_)
  ·
    exact yL.rf
  ·
    refine yL.eq (y_ts (c := 1) (lo' := 2) kc_1 (by decide)) ?_
    refine yL.ite (fun h2 => ?_) (fun h2 => ?_)
    ·
      exact yL.rf
    ·
      refine yL.eq (y_ts (c := 2) (lo' := 3) kc_2 (by decide)) ?_
      refine yL.ite (fun h3 => ?_) (fun h3 => ?_)
      ·
        exact yL.rf
      ·
        refine yL.eq (y_ts (c := 3) (lo' := 4) kc_3 (by decide)) ?_
        refine yL.ite (fun h4 => ?_) (fun h4 => ?_)
        ·
          exact yL.rf
        ·
          refine yL.eq (y_ts (c := 4) (lo' := 5) kc_4 (by decide)) ?_
          refine yL.ite (fun h5 => ?_) (fun h5 => ?_)
          ·
            exact yL.rf
          ·
            refine yL.eq (y_ts (c := 5) (lo' := 6) kc_5 (by decide)) ?_
            refine yL.ite (fun h6 => ?_) (fun h6 => ?_)
            ·
              exact yL.rf
            ·
              refine yL.eq (y_ts (c := 6) (lo' := 7) kc_6 (by decide)) ?_
              refine yL.ite (fun h7 => ?_) (fun h7 => ?_)
              ·
                exact yL.rf
              ·
                refine yL.eq (y_ts (c := 7) (lo' := 8) kc_7 (by decide)) ?_
                refine yL.ite (fun h8 => ?_) (fun h8 => ?_)
                ·
                  exact yL.rf
                ·
                  refine yL.eq (y_ts (c := 8) (lo' := 9) kc_8 (by decide)) ?_
                  refine yL.ite (fun h9 => ?_) (fun h9 => ?_)
                  ·
                    exact yL.rf
                  ·
                    refine yL.eq (y_ts (c := 9) (lo' := 10) kc_9 (by decide)) ?_
                    refine yL.ite (fun h10 => ?_) (fun h10 => ?_)
                    ·
                      exact yL.rf
                    ·
                      refine yL.eq (y_ts (c := 10) (lo' := 11) kc_10 (by decide)) ?_
                      refine yL.ite (fun h11 => ?_) (fun h11 => ?_)
                      ·
                        exact yL.rf
                      ·
                        refine yL.eq (y_ts (c := 11) (lo' := 12) kc_11 (by decide)) ?_
                        refine yL.ite (fun h12 => ?_) (fun h12 => ?_)
                        ·
                          exact yL.rf
                        ·
                          refine yL.eq (y_ts (c := 12) (lo' := 13) kc_12 (by decide)) ?_
                          refine yL.ite (fun h13 => ?_) (fun h13 => ?_)
                          ·
                            exact yL.rf
                          ·
                            refine yL.eq (y_ts (c := 13) (lo' := 14) kc_13 (by decide)) ?_
                            refine yL.ite (fun h14 => ?_) (fun h14 => ?_)
                            ·
                              exact yL.rf
                            ·
                              refine yL.eq (y_ts (c := 14) (lo' := 15) kc_14 (by decide)) ?_
                              refine yL.ite (fun h15 => ?_) (fun h15 => ?_)
                              ·
                                exact yL.rf
                              ·
                                refine yL.eq (y_ts (c := 15) (lo' := 16) kc_15 (by decide)) ?_
                                refine yL.ite (fun h16 => ?_) (fun h16 => ?_)
                                ·
                                  exact yL.rf
                                ·
                                  refine yL.eq (y_ts (c := 16) (lo' := 17) kc_16 (by decide)) ?_
                                  refine yL.ite (fun h17 => ?_) (fun h17 => ?_)
                                  ·
                                    exact yL.rf
                                  ·
                                    refine yL.eq (y_ts (c := 17) (lo' := 18) kc_17 (by decide)) ?_
                                    refine yL.ite (fun h18 => ?_) (fun h18 => ?_)
                                    ·
                                      exact yL.rf
                                    ·
                                      refine yL.eq (y_ts (c := 18) (lo' := 19) kc_18 (by decide)) ?_
                                      refine yL.ite (fun h19 => ?_) (fun h19 => ?_)
                                      ·
                                        exact yL.rf
                                      ·
                                        refine yL.eq (y_ts (c := 19) (lo' := 20) kc_19 (by decide)) ?_
                                        refine yL.ite (fun h20 => ?_) (fun h20 => ?_)
                                        ·
                                          exact yL.rf
                                        ·
                                          refine yL.eq (y_ts (c := 20) (lo' := 21) kc_20 (by decide)) ?_
                                          refine yL.ite (fun h21 => ?_) (fun h21 => ?_)
                                          ·
                                            exact yL.rf
                                          ·
                                            refine yL.eq (y_ts (c := 21) (lo' := 22) kc_21 (by decide)) ?_
                                            refine yL.ite (fun h22 => ?_) (fun h22 => ?_)
                                            ·
                                              exact yL.rf
                                            ·
                                              refine yL.eq (y_ts (c := 22) (lo' := 23) kc_22 (by decide)) ?_
                                              refine yL.ite (fun h23 => ?_) (fun h23 => ?_)
                                              ·
                                                exact yL.rf
                                              ·
                                                refine yL.eq y_tsn ?_
                                                exact yL.rf
set_option maxRecDepth 20000 in
set_option maxHeartbeats 4000000 in
theorem e142_116 {o1 : Option Value} {x2 : Int32} {o3 : Option Value} {M : yM} : yL (yCj false (yX 117 0 [some (.ref 7), some (.int (1 + (x2 % 6000))), none] [] M 0 0) fun v2 M1 => yJr v2 M1) (yX 142 116 [some (.ref 7), o1, some (.int x2), o3] [] M 0 0) := by
  refine yL.eq (y_aload_n (pc := 116) (x := 7) d142_116 rfl) ?_
  refine yL.eq (y_iconst (pc := 117) (v := 1) d142_117 kc_1) ?_
  refine yL.eq (y_iload_n (pc := 118) (x := x2) d142_118 rfl) ?_
  refine yL.eq (y_sipush (pc := 119) (v := 6000) d142_119 ks_6000) ?_
  refine yL.eq (y_imodc (pc := 122) d142_122 nzI_6000) ?_
  refine yL.eq (y_iadd (pc := 123) d142_123) ?_
  refine y_calls_j (pc := 124) (n := 2) (n' := 3) (nc' := 3) (ns' := 18) [.ref 7, .int (1 + (x2 % 6000))] [] false d142_124 q142_152 rfl rfl rfl (Nat.le_of_ble_eq_true rfl) (Nat.le_of_ble_eq_true rfl) rfl (by decide +kernel) (by decide +kernel) (fun v2 M1 => ?_)
  exact yL.eq (y_lret (pc := 127) d142_127 mr_142) yL.rf
set_option maxRecDepth 20000 in
set_option maxHeartbeats 4000000 in
theorem e142_128 {o1 : Option Value} {x2 : Int32} {x3 : Int32} {M : yM} : yL (if ((x3 / 5) % 2) = 0 then yCj false (yX 120 0 [some (.ref 7), some (.int (1 + (x2 % 30))), some (.int ((x3 % 5) - 1)), some (.int 1), none] [] M 0 0) fun v3 M2 => yJr v3 M2 else yCj false (yX 120 0 [some (.ref 7), some (.int (1 + (x2 % 30))), some (.int ((x3 % 5) - 1)), some (.int 0), none] [] M 0 0) fun v5 M4 => yJr v5 M4) (yX 142 128 [some (.ref 7), o1, some (.int x2), some (.int x3)] [] M 0 0) := by
  refine yL.eq (y_aload_n (pc := 128) (x := 7) d142_128 rfl) ?_
  refine yL.eq (y_iconst (pc := 129) (v := 1) d142_129 kc_1) ?_
  refine yL.eq (y_iload_n (pc := 130) (x := x2) d142_130 rfl) ?_
  refine yL.eq (y_bipush (pc := 131) (v := 30) d142_131 kb_30) ?_
  refine yL.eq (y_imodc (pc := 133) d142_133 nzI_30) ?_
  refine yL.eq (y_iadd (pc := 134) d142_134) ?_
  refine yL.eq (y_iload_n (pc := 135) (x := x3) d142_135 rfl) ?_
  refine yL.eq (y_iconst (pc := 136) (v := 5) d142_136 kc_5) ?_
  refine yL.eq (y_imodc (pc := 137) d142_137 nzI_5) ?_
  refine yL.eq (y_iconst (pc := 138) (v := 1) d142_138 kc_1) ?_
  refine yL.eq (y_isub (pc := 139) d142_139) ?_
  refine yL.eq (y_iload_n (pc := 140) (x := x3) d142_140 rfl) ?_
  refine yL.eq (y_iconst (pc := 141) (v := 5) d142_141 kc_5) ?_
  refine yL.eq (y_idivc (pc := 142) d142_142 nzI_5) ?_
  refine yL.eq (y_iconst (pc := 143) (v := 2) d142_143 kc_2) ?_
  refine yL.eq (y_imodc (pc := 144) d142_144 nzI_2) ?_
  refine yL.eq (y_if_ne (pc := 145) (t := 152) d142_145 (by decide)) ?_
  refine yL.ite (fun h1 => ?_) (fun h1 => ?_)
  ·
    refine yL.eq (y_iconst (pc := 148) (v := 1) d142_148 kc_1) ?_
    refine yL.eq (y_goto (pc := 149) (t := 153) d142_149 (by decide)) ?_
    refine y_calls_j (pc := 153) (n := 4) (n' := 5) (nc' := 3) (ns' := 18) [.ref 7, .int (1 + (x2 % 30)), .int ((x3 % 5) - 1), .int 1] [] false d142_153 q142_156 rfl rfl rfl (Nat.le_of_ble_eq_true rfl) (Nat.le_of_ble_eq_true rfl) rfl (by decide +kernel) (by decide +kernel) (fun v3 M2 => ?_)
    exact yL.eq (y_lret (pc := 156) d142_156 mr_142) yL.rf
  ·
    refine yL.eq (y_iconst (pc := 152) (v := 0) d142_152 kc_0) ?_
    refine y_calls_j (pc := 153) (n := 4) (n' := 5) (nc' := 3) (ns' := 18) [.ref 7, .int (1 + (x2 % 30)), .int ((x3 % 5) - 1), .int 0] [] false d142_153 q142_156 rfl rfl rfl (Nat.le_of_ble_eq_true rfl) (Nat.le_of_ble_eq_true rfl) rfl (by decide +kernel) (by decide +kernel) (fun v5 M4 => ?_)
    exact yL.eq (y_lret (pc := 156) d142_156 mr_142) yL.rf
set_option maxRecDepth 20000 in
set_option maxHeartbeats 4000000 in
theorem e142_157 {o1 : Option Value} {x2 : Int32} {x3 : Int32} {M : yM} : yL (yCj false (yX 119 0 [some (.ref 7), some (.int (1 + (x2 % 24))), some (.int (1 + (x3 % 24))), none] [] M 0 0) fun v2 M1 => yJr v2 M1) (yX 142 157 [some (.ref 7), o1, some (.int x2), some (.int x3)] [] M 0 0) := by
  refine yL.eq (y_aload_n (pc := 157) (x := 7) d142_157 rfl) ?_
  refine yL.eq (y_iconst (pc := 158) (v := 1) d142_158 kc_1) ?_
  refine yL.eq (y_iload_n (pc := 159) (x := x2) d142_159 rfl) ?_
  refine yL.eq (y_bipush (pc := 160) (v := 24) d142_160 kb_24) ?_
  refine yL.eq (y_imodc (pc := 162) d142_162 nzI_24) ?_
  refine yL.eq (y_iadd (pc := 163) d142_163) ?_
  refine yL.eq (y_iconst (pc := 164) (v := 1) d142_164 kc_1) ?_
  refine yL.eq (y_iload_n (pc := 165) (x := x3) d142_165 rfl) ?_
  refine yL.eq (y_bipush (pc := 166) (v := 24) d142_166 kb_24) ?_
  refine yL.eq (y_imodc (pc := 168) d142_168 nzI_24) ?_
  refine yL.eq (y_iadd (pc := 169) d142_169) ?_
  refine y_calls_j (pc := 170) (n := 3) (n' := 4) (nc' := 3) (ns' := 18) [.ref 7, .int (1 + (x2 % 24)), .int (1 + (x3 % 24))] [] false d142_170 q142_154 rfl rfl rfl (Nat.le_of_ble_eq_true rfl) (Nat.le_of_ble_eq_true rfl) rfl (by decide +kernel) (by decide +kernel) (fun v2 M1 => ?_)
  exact yL.eq (y_lret (pc := 173) d142_173 mr_142) yL.rf
set_option maxRecDepth 20000 in
set_option maxHeartbeats 4000000 in
theorem e142_174 {o1 : Option Value} {x2 : Int32} {x3 : Int32} {M : yM} : yL (if ((x3 / 12) % 4) ≤ 0 then yCj false (yX 122 0 [some (.ref 7), some (.int (x2 % 14)), some (.int (x3 % 12)), some (.int 0), none] [] M 0 0) fun v3 M2 => yJr v3 M2 else yCj false (yX 122 0 [some (.ref 7), some (.int (x2 % 14)), some (.int (x3 % 12)), some (.int 1), none] [] M 0 0) fun v5 M4 => yJr v5 M4) (yX 142 174 [some (.ref 7), o1, some (.int x2), some (.int x3)] [] M 0 0) := by
  refine yL.eq (y_aload_n (pc := 174) (x := 7) d142_174 rfl) ?_
  refine yL.eq (y_iload_n (pc := 175) (x := x2) d142_175 rfl) ?_
  refine yL.eq (y_bipush (pc := 176) (v := 14) d142_176 kb_14) ?_
  refine yL.eq (y_imodc (pc := 178) d142_178 nzI_14) ?_
  refine yL.eq (y_iload_n (pc := 179) (x := x3) d142_179 rfl) ?_
  refine yL.eq (y_bipush (pc := 180) (v := 12) d142_180 kb_12) ?_
  refine yL.eq (y_imodc (pc := 182) d142_182 nzI_12) ?_
  refine yL.eq (y_iload_n (pc := 183) (x := x3) d142_183 rfl) ?_
  refine yL.eq (y_bipush (pc := 184) (v := 12) d142_184 kb_12) ?_
  refine yL.eq (y_idivc (pc := 186) d142_186 nzI_12) ?_
  refine yL.eq (y_iconst (pc := 187) (v := 4) d142_187 kc_4) ?_
  refine yL.eq (y_imodc (pc := 188) d142_188 nzI_4) ?_
  refine yL.eq (y_if_le (pc := 189) (t := 196) d142_189 (by decide)) ?_
  refine yL.ite (fun h1 => ?_) (fun h1 => ?_)
  ·
    refine yL.eq (y_iconst (pc := 196) (v := 0) d142_196 kc_0) ?_
    refine y_calls_j (pc := 197) (n := 4) (n' := 5) (nc' := 3) (ns' := 18) [.ref 7, .int (x2 % 14), .int (x3 % 12), .int 0] [] false d142_197 q142_146 rfl rfl rfl (Nat.le_of_ble_eq_true rfl) (Nat.le_of_ble_eq_true rfl) rfl (by decide +kernel) (by decide +kernel) (fun v3 M2 => ?_)
    exact yL.eq (y_lret (pc := 200) d142_200 mr_142) yL.rf
  ·
    refine yL.eq (y_iconst (pc := 192) (v := 1) d142_192 kc_1) ?_
    refine yL.eq (y_goto (pc := 193) (t := 197) d142_193 (by decide)) ?_
    refine y_calls_j (pc := 197) (n := 4) (n' := 5) (nc' := 3) (ns' := 18) [.ref 7, .int (x2 % 14), .int (x3 % 12), .int 1] [] false d142_197 q142_146 rfl rfl rfl (Nat.le_of_ble_eq_true rfl) (Nat.le_of_ble_eq_true rfl) rfl (by decide +kernel) (by decide +kernel) (fun v5 M4 => ?_)
    exact yL.eq (y_lret (pc := 200) d142_200 mr_142) yL.rf
set_option maxRecDepth 20000 in
set_option maxHeartbeats 4000000 in
theorem e142_201 {o1 : Option Value} {x2 : Int32} {x3 : Int32} {M : yM} : yL (if ((x3 / 14) % 4) ≤ 0 then yCj false (yX 123 0 [some (.ref 7), some (.int (x2 % 14)), some (.int (x3 % 14)), some (.int 0), none] [] M 0 0) fun v3 M2 => yJr v3 M2 else yCj false (yX 123 0 [some (.ref 7), some (.int (x2 % 14)), some (.int (x3 % 14)), some (.int 1), none] [] M 0 0) fun v5 M4 => yJr v5 M4) (yX 142 201 [some (.ref 7), o1, some (.int x2), some (.int x3)] [] M 0 0) := by
  refine yL.eq (y_aload_n (pc := 201) (x := 7) d142_201 rfl) ?_
  refine yL.eq (y_iload_n (pc := 202) (x := x2) d142_202 rfl) ?_
  refine yL.eq (y_bipush (pc := 203) (v := 14) d142_203 kb_14) ?_
  refine yL.eq (y_imodc (pc := 205) d142_205 nzI_14) ?_
  refine yL.eq (y_iload_n (pc := 206) (x := x3) d142_206 rfl) ?_
  refine yL.eq (y_bipush (pc := 207) (v := 14) d142_207 kb_14) ?_
  refine yL.eq (y_imodc (pc := 209) d142_209 nzI_14) ?_
  refine yL.eq (y_iload_n (pc := 210) (x := x3) d142_210 rfl) ?_
  refine yL.eq (y_bipush (pc := 211) (v := 14) d142_211 kb_14) ?_
  refine yL.eq (y_idivc (pc := 213) d142_213 nzI_14) ?_
  refine yL.eq (y_iconst (pc := 214) (v := 4) d142_214 kc_4) ?_
  refine yL.eq (y_imodc (pc := 215) d142_215 nzI_4) ?_
  refine yL.eq (y_if_le (pc := 216) (t := 223) d142_216 (by decide)) ?_
  refine yL.ite (fun h1 => ?_) (fun h1 => ?_)
  ·
    refine yL.eq (y_iconst (pc := 223) (v := 0) d142_223 kc_0) ?_
    refine y_calls_j (pc := 224) (n := 4) (n' := 5) (nc' := 3) (ns' := 18) [.ref 7, .int (x2 % 14), .int (x3 % 14), .int 0] [] false d142_224 q142_143 rfl rfl rfl (Nat.le_of_ble_eq_true rfl) (Nat.le_of_ble_eq_true rfl) rfl (by decide +kernel) (by decide +kernel) (fun v3 M2 => ?_)
    exact yL.eq (y_lret (pc := 227) d142_227 mr_142) yL.rf
  ·
    refine yL.eq (y_iconst (pc := 219) (v := 1) d142_219 kc_1) ?_
    refine yL.eq (y_goto (pc := 220) (t := 224) d142_220 (by decide)) ?_
    refine y_calls_j (pc := 224) (n := 4) (n' := 5) (nc' := 3) (ns' := 18) [.ref 7, .int (x2 % 14), .int (x3 % 14), .int 1] [] false d142_224 q142_143 rfl rfl rfl (Nat.le_of_ble_eq_true rfl) (Nat.le_of_ble_eq_true rfl) rfl (by decide +kernel) (by decide +kernel) (fun v5 M4 => ?_)
    exact yL.eq (y_lret (pc := 227) d142_227 mr_142) yL.rf
set_option maxRecDepth 20000 in
set_option maxHeartbeats 4000000 in
theorem e142_228 {o1 : Option Value} {x2 : Int32} {x3 : Int32} {M : yM} : yL (yCj false (yX 124 0 [some (.ref 7), some (.int (x2 % 4)), some (.int (x3 % 4)), none] [] M 0 0) fun v2 M1 => yJr v2 M1) (yX 142 228 [some (.ref 7), o1, some (.int x2), some (.int x3)] [] M 0 0) := by
  refine yL.eq (y_aload_n (pc := 228) (x := 7) d142_228 rfl) ?_
  refine yL.eq (y_iload_n (pc := 229) (x := x2) d142_229 rfl) ?_
  refine yL.eq (y_iconst (pc := 230) (v := 4) d142_230 kc_4) ?_
  refine yL.eq (y_imodc (pc := 231) d142_231 nzI_4) ?_
  refine yL.eq (y_iload_n (pc := 232) (x := x3) d142_232 rfl) ?_
  refine yL.eq (y_iconst (pc := 233) (v := 4) d142_233 kc_4) ?_
  refine yL.eq (y_imodc (pc := 234) d142_234 nzI_4) ?_
  refine y_calls_j (pc := 235) (n := 3) (n' := 4) (nc' := 3) (ns' := 18) [.ref 7, .int (x2 % 4), .int (x3 % 4)] [] false d142_235 q142_158 rfl rfl rfl (Nat.le_of_ble_eq_true rfl) (Nat.le_of_ble_eq_true rfl) rfl (by decide +kernel) (by decide +kernel) (fun v2 M1 => ?_)
  exact yL.eq (y_lret (pc := 238) d142_238 mr_142) yL.rf
set_option maxRecDepth 20000 in
set_option maxHeartbeats 4000000 in
theorem e142_239 {o1 : Option Value} {x2 : Int32} {x3 : Int32} {M : yM} : yL (yCj false (yX 125 0 [some (.ref 7), some (.int (x2 % 5)), some (.int (x3 % 16)), none] [] M 0 0) fun v2 M1 => yJr v2 M1) (yX 142 239 [some (.ref 7), o1, some (.int x2), some (.int x3)] [] M 0 0) := by
  refine yL.eq (y_aload_n (pc := 239) (x := 7) d142_239 rfl) ?_
  refine yL.eq (y_iload_n (pc := 240) (x := x2) d142_240 rfl) ?_
  refine yL.eq (y_iconst (pc := 241) (v := 5) d142_241 kc_5) ?_
  refine yL.eq (y_imodc (pc := 242) d142_242 nzI_5) ?_
  refine yL.eq (y_iload_n (pc := 243) (x := x3) d142_243 rfl) ?_
  refine yL.eq (y_bipush (pc := 244) (v := 16) d142_244 kb_16) ?_
  refine yL.eq (y_imodc (pc := 246) d142_246 nzI_16) ?_
  refine y_calls_j (pc := 247) (n := 3) (n' := 4) (nc' := 3) (ns' := 18) [.ref 7, .int (x2 % 5), .int (x3 % 16)] [] false d142_247 q142_160 rfl rfl rfl (Nat.le_of_ble_eq_true rfl) (Nat.le_of_ble_eq_true rfl) rfl (by decide +kernel) (by decide +kernel) (fun v2 M1 => ?_)
  exact yL.eq (y_lret (pc := 250) d142_250 mr_142) yL.rf
set_option maxRecDepth 20000 in
set_option maxHeartbeats 4000000 in
theorem e142_251 {o1 : Option Value} {x2 : Int32} {x3 : Int32} {M : yM} : yL (yCj false (yX 121 0 [some (.ref 7), some (.int (x2 % 14)), some (.int (1 + (x3 % 90))), none] [] M 0 0) fun v2 M1 => yJr v2 M1) (yX 142 251 [some (.ref 7), o1, some (.int x2), some (.int x3)] [] M 0 0) := by
  refine yL.eq (y_aload_n (pc := 251) (x := 7) d142_251 rfl) ?_
  refine yL.eq (y_iload_n (pc := 252) (x := x2) d142_252 rfl) ?_
  refine yL.eq (y_bipush (pc := 253) (v := 14) d142_253 kb_14) ?_
  refine yL.eq (y_imodc (pc := 255) d142_255 nzI_14) ?_
  refine yL.eq (y_iconst (pc := 256) (v := 1) d142_256 kc_1) ?_
  refine yL.eq (y_iload_n (pc := 257) (x := x3) d142_257 rfl) ?_
  refine yL.eq (y_bipush (pc := 258) (v := 90) d142_258 kb_90) ?_
  refine yL.eq (y_imodc (pc := 260) d142_260 nzI_90) ?_
  refine yL.eq (y_iadd (pc := 261) d142_261) ?_
  refine y_calls_j (pc := 262) (n := 3) (n' := 4) (nc' := 3) (ns' := 18) [.ref 7, .int (x2 % 14), .int (1 + (x3 % 90))] [] false d142_262 q142_141 rfl rfl rfl (Nat.le_of_ble_eq_true rfl) (Nat.le_of_ble_eq_true rfl) rfl (by decide +kernel) (by decide +kernel) (fun v2 M1 => ?_)
  exact yL.eq (y_lret (pc := 265) d142_265 mr_142) yL.rf
set_option maxRecDepth 20000 in
set_option maxHeartbeats 4000000 in
theorem e142_266 {o1 : Option Value} {x2 : Int32} {x3 : Int32} {M : yM} : yL (yCj false (yX 118 0 [some (.ref 7), some (.int (x2 % 12)), some (.int (1 + (x3 % 9000))), none] [] M 0 0) fun v2 M1 => yJr v2 M1) (yX 142 266 [some (.ref 7), o1, some (.int x2), some (.int x3)] [] M 0 0) := by
  refine yL.eq (y_aload_n (pc := 266) (x := 7) d142_266 rfl) ?_
  refine yL.eq (y_iload_n (pc := 267) (x := x2) d142_267 rfl) ?_
  refine yL.eq (y_bipush (pc := 268) (v := 12) d142_268 kb_12) ?_
  refine yL.eq (y_imodc (pc := 270) d142_270 nzI_12) ?_
  refine yL.eq (y_iconst (pc := 271) (v := 1) d142_271 kc_1) ?_
  refine yL.eq (y_iload_n (pc := 272) (x := x3) d142_272 rfl) ?_
  refine yL.eq (y_sipush (pc := 273) (v := 9000) d142_273 ks_9000) ?_
  refine yL.eq (y_imodc (pc := 276) d142_276 nzI_9000) ?_
  refine yL.eq (y_iadd (pc := 277) d142_277) ?_
  refine y_calls_j (pc := 278) (n := 3) (n' := 4) (nc' := 3) (ns' := 18) [.ref 7, .int (x2 % 12), .int (1 + (x3 % 9000))] [] false d142_278 q142_139 rfl rfl rfl (Nat.le_of_ble_eq_true rfl) (Nat.le_of_ble_eq_true rfl) rfl (by decide +kernel) (by decide +kernel) (fun v2 M1 => ?_)
  exact yL.eq (y_lret (pc := 281) d142_281 mr_142) yL.rf
set_option maxRecDepth 20000 in
set_option maxHeartbeats 4000000 in
theorem e142_282 {o1 : Option Value} {o2 : Option Value} {o3 : Option Value} {M : yM} : yL (yCj false (yX 126 0 [some (.ref 7), none] [] M 0 0) fun v2 M1 => yJr v2 M1) (yX 142 282 [some (.ref 7), o1, o2, o3] [] M 0 0) := by
  refine yL.eq (y_aload_n (pc := 282) (x := 7) d142_282 rfl) ?_
  refine y_calls_j (pc := 283) (n := 1) (n' := 2) (nc' := 1) (ns' := 6) [.ref 7] [] false d142_283 q142_205 rfl rfl rfl (Nat.le_of_ble_eq_true rfl) (Nat.le_of_ble_eq_true rfl) rfl (by decide +kernel) (by decide +kernel) (fun v2 M1 => ?_)
  exact yL.eq (y_lret (pc := 286) d142_286 mr_142) yL.rf
set_option maxRecDepth 20000 in
set_option maxHeartbeats 4000000 in
theorem e142_287 {o1 : Option Value} {o2 : Option Value} {x3 : Int32} {M : yM} : yL (if (x3 % 2) = 0 then yCj false (yX 133 0 [some (.ref 7), some (.int ((x3 / 2) &&& 1)), none] [] M 0 0) fun v3 M2 => yJr v3 M2 else yCj false (yX 134 0 [some (.ref 7), some (.int ((x3 / 2) &&& 1)), none] [] M 0 0) fun v5 M4 => yJr v5 M4) (yX 142 287 [some (.ref 7), o1, o2, some (.int x3)] [] M 0 0) := by
  refine yL.eq (y_iload_n (pc := 287) (x := x3) d142_287 rfl) ?_
  refine yL.eq (y_iconst (pc := 288) (v := 2) d142_288 kc_2) ?_
  refine yL.eq (y_imodc (pc := 289) d142_289 nzI_2) ?_
  refine yL.eq (y_if_ne (pc := 290) (t := 305) d142_290 (by decide)) ?_
  refine yL.ite (fun h1 => ?_) (fun h1 => ?_)
  ·
    refine yL.eq (y_aload_n (pc := 293) (x := 7) d142_293 rfl) ?_
    refine yL.eq (y_iload_n (pc := 294) (x := x3) d142_294 rfl) ?_
    refine yL.eq (y_iconst (pc := 295) (v := 2) d142_295 kc_2) ?_
    refine yL.eq (y_idivc (pc := 296) d142_296 nzI_2) ?_
    refine yL.eq (y_iconst (pc := 297) (v := 1) d142_297 kc_1) ?_
    refine yL.eq (y_iand (pc := 298) d142_298) ?_
    refine y_calls_j (pc := 299) (n := 2) (n' := 3) (nc' := 1) (ns' := 6) [.ref 7, .int ((x3 / 2) &&& 1)] [] false d142_299 q142_179 rfl rfl rfl (Nat.le_of_ble_eq_true rfl) (Nat.le_of_ble_eq_true rfl) rfl (by decide +kernel) (by decide +kernel) (fun v3 M2 => ?_)
    refine yL.eq (y_goto (pc := 302) (t := 314) d142_302 (by decide)) ?_
    exact yL.eq (y_lret (pc := 314) d142_314 mr_142) yL.rf
  ·
    refine yL.eq (y_aload_n (pc := 305) (x := 7) d142_305 rfl) ?_
    refine yL.eq (y_iload_n (pc := 306) (x := x3) d142_306 rfl) ?_
    refine yL.eq (y_iconst (pc := 307) (v := 2) d142_307 kc_2) ?_
    refine yL.eq (y_idivc (pc := 308) d142_308 nzI_2) ?_
    refine yL.eq (y_iconst (pc := 309) (v := 1) d142_309 kc_1) ?_
    refine yL.eq (y_iand (pc := 310) d142_310) ?_
    refine y_calls_j (pc := 311) (n := 2) (n' := 3) (nc' := 2) (ns' := 12) [.ref 7, .int ((x3 / 2) &&& 1)] [] false d142_311 q142_181 rfl rfl rfl (Nat.le_of_ble_eq_true rfl) (Nat.le_of_ble_eq_true rfl) rfl (by decide +kernel) (by decide +kernel) (fun v5 M4 => ?_)
    exact yL.eq (y_lret (pc := 314) d142_314 mr_142) yL.rf
