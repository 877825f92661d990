set_option maxRecDepth 20000 in
set_option maxHeartbeats 4000000 in
theorem h139 {a2 : Int32} {M : yM} : yL (yCj false (yX 135 0 [some (.ref 7), none, none, none, none] [] M 0 0) fun v2 M1 => yCj false (yX 135 0 [some (.ref 190), none, none, none, none] [] M1 0 0) fun v4 M3 => if v2 = v4 then yCi false (yX 60 0 [some (.ref 7)] [] M3 0 0) fun v7 M6 => yCi false (yX 60 0 [some (.ref 190)] [] M6 0 0) fun v9 M8 => if v7 = v9 then yX 139 23 [some (.ref 7), some (.ref 190), some (.int a2)] [] M8 800 4800 else yI 0 M8 else yI 0 M3) (yX 139 0 [some (.ref 7), some (.ref 190), some (.int a2)] [] M 0 0) := by
  refine yL.eq (y_aload_n (pc := 0) (x := 7) d139_0 rfl) ?_
  refine y_calls_j (pc := 1) (n := 1) (n' := 5) (nc' := 400) (ns' := 2400) [.ref 7] [] false d139_1 q139_133 rfl rfl rfl (Nat.le_of_ble_eq_true rfl) (Nat.le_of_ble_eq_true rfl) rfl (by decide +kernel) (by decide +kernel) (fun v2 M1 => ?_)
  refine yL.eq (y_aload_n (pc := 4) (x := 190) d139_4 rfl) ?_
  refine y_calls_j (pc := 5) (n := 1) (n' := 5) (nc' := 800) (ns' := 4800) [.ref 190] [.long v2] false d139_5 q139_133 rfl rfl rfl (Nat.le_of_ble_eq_true rfl) (Nat.le_of_ble_eq_true rfl) rfl (by decide +kernel) (by decide +kernel) (fun v4 M3 => ?_)
  refine yL.eq (y_lcmp (pc := 8) d139_8) ?_
  refine yL.eq (y_lif_ne (pc := 9) (t := 146) d139_9 (by decide)) ?_
  refine yL.ite (fun h5 => ?_) (fun h5 => ?_)
  ·
    refine yL.eq (y_aload_n (pc := 12) (x := 7) d139_12 rfl) ?_
    refine y_callv_i (pc := 13) (n := 1) (n' := 1) (nc' := 800) (ns' := 4800) [] [] false d139_13 q139_212 mk_60 s_t_7 rfl rfl (Nat.le_of_ble_eq_true rfl) (Nat.le_of_ble_eq_true rfl) rfl (by decide +kernel) (by decide +kernel) (fun v7 M6 => ?_)
    refine yL.eq (y_aload_n (pc := 16) (x := 190) d139_16 rfl) ?_
    refine y_callv_i (pc := 17) (n := 1) (n' := 1) (nc' := 800) (ns' := 4800) [] [.int v7] false d139_17 q139_212 mk_60 s_t_190 rfl rfl (Nat.le_of_ble_eq_true rfl) (Nat.le_of_ble_eq_true rfl) rfl (by decide +kernel) (by decide +kernel) (fun v9 M8 => ?_)
    refine yL.eq (y_icmp_ne (pc := 20) (t := 146) d139_20 (by decide)) ?_
    refine yL.ite (fun h10 => ?_) (fun h10 => ?_)
    ·
      exact yL.rf
    ·
      refine yL.eq (y_iconst (pc := 146) (v := 0) d139_146 kc_0) ?_
      exact yL.eq (y_iretz (pc := 147) d139_147 mr_139) (yL.eq yZ_0 yL.rf)
  ·
    refine yL.eq (y_iconst (pc := 146) (v := 0) d139_146 kc_0) ?_
    exact yL.eq (y_iretz (pc := 147) d139_147 mr_139) (yL.eq yZ_0 yL.rf)
set_option maxRecDepth 20000 in
set_option maxHeartbeats 4000000 in
theorem h139_23 {x2 : Int32} {M : yM} : yL (yCi false (yX 83 0 [some (.ref 7), none, none, none, none, none, none, none] [] M 0 0) fun v2 M1 => yCi false (yX 83 0 [some (.ref 190), none, none, none, none, none, none, none] [] M1 0 0) fun v4 M3 => if v2 = v4 then yCj false (yX 128 0 [some (.ref 7), some (.int (1 + (x2 % 24))), some (.int 0), none] [] M3 0 0) fun v7 M6 => yCj false (yX 128 0 [some (.ref 190), some (.int (1 + (x2 % 24))), some (.int 0), none] [] M6 0 0) fun v9 M8 => if v7 = v9 then yX 139 60 [some (.ref 7), some (.ref 190), some (.int x2)] [] M8 802 4812 else yI 0 M8 else yI 0 M3) (yX 139 23 [some (.ref 7), some (.ref 190), some (.int x2)] [] M 800 4800) := by
  refine yL.eq (y_aload_n (pc := 23) (x := 7) d139_23 rfl) ?_
  refine y_callv_i (pc := 24) (n := 1) (n' := 8) (nc' := 800) (ns' := 4800) [] [] false d139_24 q139_207 mk_83 s_t_7 rfl rfl (Nat.le_of_ble_eq_true rfl) (Nat.le_of_ble_eq_true rfl) rfl (by decide +kernel) (by decide +kernel) (fun v2 M1 => ?_)
  refine yL.eq (y_aload_n (pc := 27) (x := 190) d139_27 rfl) ?_
  refine y_callv_i (pc := 28) (n := 1) (n' := 8) (nc' := 800) (ns' := 4800) [] [.int v2] false d139_28 q139_207 mk_83 s_t_190 rfl rfl (Nat.le_of_ble_eq_true rfl) (Nat.le_of_ble_eq_true rfl) rfl (by decide +kernel) (by decide +kernel) (fun v4 M3 => ?_)
  refine yL.eq (y_icmp_ne (pc := 31) (t := 146) d139_31 (by decide)) ?_
  refine yL.ite (fun h5 => ?_) (fun h5 => ?_)
  ·
    refine yL.eq (y_aload_n (pc := 34) (x := 7) d139_34 rfl) ?_
    refine yL.eq (y_iconst (pc := 35) (v := 1) d139_35 kc_1) ?_
    refine yL.eq (y_iload_n (pc := 36) (x := x2) d139_36 rfl) ?_
    refine yL.eq (y_bipush (pc := 37) (v := 24) d139_37 kb_24) ?_
    refine yL.eq (y_imodc (pc := 39) d139_39 nzI_24) ?_
    refine yL.eq (y_iadd (pc := 40) d139_40) ?_
    refine yL.eq (y_iconst (pc := 41) (v := 0) d139_41 kc_0) ?_
    refine y_calls_j (pc := 42) (n := 3) (n' := 4) (nc' := 801) (ns' := 4806) [.ref 7, .int (1 + (x2 % 24)), .int 0] [] false d139_42 q139_164 rfl rfl rfl (Nat.le_of_ble_eq_true rfl) (Nat.le_of_ble_eq_true rfl) rfl (by decide +kernel) (by decide +kernel) (fun v7 M6 => ?_)
    refine yL.eq (y_aload_n (pc := 45) (x := 190) d139_45 rfl) ?_
    refine yL.eq (y_iconst (pc := 46) (v := 1) d139_46 kc_1) ?_
    refine yL.eq (y_iload_n (pc := 47) (x := x2) d139_47 rfl) ?_
    refine yL.eq (y_bipush (pc := 48) (v := 24) d139_48 kb_24) ?_
    refine yL.eq (y_imodc (pc := 50) d139_50 nzI_24) ?_
    refine yL.eq (y_iadd (pc := 51) d139_51) ?_
    refine yL.eq (y_iconst (pc := 52) (v := 0) d139_52 kc_0) ?_
    refine y_calls_j (pc := 53) (n := 3) (n' := 4) (nc' := 802) (ns' := 4812) [.ref 190, .int (1 + (x2 % 24)), .int 0] [.long v7] false d139_53 q139_164 rfl rfl rfl (Nat.le_of_ble_eq_true rfl) (Nat.le_of_ble_eq_true rfl) rfl (by decide +kernel) (by decide +kernel) (fun v9 M8 => ?_)
    refine yL.eq (y_lcmp (pc := 56) d139_56) ?_
    refine yL.eq (y_lif_ne (pc := 57) (t := 146) d139_57 (by decide)) ?_
    refine yL.ite (fun h10 => ?_) (fun h10 => ?_)
    ·
      exact yL.rf
    ·
      refine yL.eq (y_iconst (pc := 146) (v := 0) d139_146 kc_0) ?_
      exact yL.eq (y_iretz (pc := 147) d139_147 mr_139) (yL.eq yZ_0 yL.rf)
  ·
    refine yL.eq (y_iconst (pc := 146) (v := 0) d139_146 kc_0) ?_
    exact yL.eq (y_iretz (pc := 147) d139_147 mr_139) (yL.eq yZ_0 yL.rf)
set_option maxRecDepth 20000 in
set_option maxHeartbeats 4000000 in
theorem h139_60 {x2 : Int32} {M : yM} : yL (yCj false (yX 116 0 [some (.ref 7), some (.int (x2 % 200)), some (.int (x2 % 10)), none] [] M 0 0) fun v2 M1 => yCj false (yX 116 0 [some (.ref 190), some (.int (x2 % 200)), some (.int (x2 % 10)), none] [] M1 0 0) fun v4 M3 => if v2 = v4 then yCj false (yX 132 0 [some (.ref 7), some (.long x2.toInt64), none, some (.int 5), none] [] M3 0 0) fun v7 M6 => yCj false (yX 132 0 [some (.ref 190), some (.long x2.toInt64), none, some (.int 5), none] [] M6 0 0) fun v9 M8 => if v7 = v9 then yX 139 108 [some (.ref 7), some (.ref 190), some (.int x2)] [] M8 806 4836 else yI 0 M8 else yI 0 M3) (yX 139 60 [some (.ref 7), some (.ref 190), some (.int x2)] [] M 802 4812) := by
  refine yL.eq (y_aload_n (pc := 60) (x := 7) d139_60 rfl) ?_
  refine yL.eq (y_iload_n (pc := 61) (x := x2) d139_61 rfl) ?_
  refine yL.eq (y_sipush (pc := 62) (v := 200) d139_62 ks_200) ?_
  refine yL.eq (y_imodc (pc := 65) d139_65 nzI_200) ?_
  refine yL.eq (y_iload_n (pc := 66) (x := x2) d139_66 rfl) ?_
  refine yL.eq (y_bipush (pc := 67) (v := 10) d139_67 kb_10) ?_
  refine yL.eq (y_imodc (pc := 69) d139_69 nzI_10) ?_
  refine y_calls_j (pc := 70) (n := 3) (n' := 4) (nc' := 803) (ns' := 4818) [.ref 7, .int (x2 % 200), .int (x2 % 10)] [] false d139_70 q139_150 rfl rfl rfl (Nat.le_of_ble_eq_true rfl) (Nat.le_of_ble_eq_true rfl) rfl (by decide +kernel) (by decide +kernel) (fun v2 M1 => ?_)
  refine yL.eq (y_aload_n (pc := 73) (x := 190) d139_73 rfl) ?_
  refine yL.eq (y_iload_n (pc := 74) (x := x2) d139_74 rfl) ?_
  refine yL.eq (y_sipush (pc := 75) (v := 200) d139_75 ks_200) ?_
  refine yL.eq (y_imodc (pc := 78) d139_78 nzI_200) ?_
  refine yL.eq (y_iload_n (pc := 79) (x := x2) d139_79 rfl) ?_
  refine yL.eq (y_bipush (pc := 80) (v := 10) d139_80 kb_10) ?_
  refine yL.eq (y_imodc (pc := 82) d139_82 nzI_10) ?_
  refine y_calls_j (pc := 83) (n := 3) (n' := 4) (nc' := 804) (ns' := 4824) [.ref 190, .int (x2 % 200), .int (x2 % 10)] [.long v2] false d139_83 q139_150 rfl rfl rfl (Nat.le_of_ble_eq_true rfl) (Nat.le_of_ble_eq_true rfl) rfl (by decide +kernel) (by decide +kernel) (fun v4 M3 => ?_)
  refine yL.eq (y_lcmp (pc := 86) d139_86) ?_
  refine yL.eq (y_lif_ne (pc := 87) (t := 146) d139_87 (by decide)) ?_
  refine yL.ite (fun h5 => ?_) (fun h5 => ?_)
  ·
    refine yL.eq (y_aload_n (pc := 90) (x := 7) d139_90 rfl) ?_
    refine yL.eq (y_iload_n (pc := 91) (x := x2) d139_91 rfl) ?_
    refine yL.eq (y_i2l (pc := 92) d139_92) ?_
    refine yL.eq (y_iconst (pc := 93) (v := 5) d139_93 kc_5) ?_
    refine y_calls_j (pc := 94) (n := 3) (n' := 5) (nc' := 805) (ns' := 4830) [.ref 7, .long x2.toInt64, .int 5] [] false d139_94 q139_176 rfl rfl rfl (Nat.le_of_ble_eq_true rfl) (Nat.le_of_ble_eq_true rfl) rfl (by decide +kernel) (by decide +kernel) (fun v7 M6 => ?_)
    refine yL.eq (y_aload_n (pc := 97) (x := 190) d139_97 rfl) ?_
    refine yL.eq (y_iload_n (pc := 98) (x := x2) d139_98 rfl) ?_
    refine yL.eq (y_i2l (pc := 99) d139_99) ?_
    refine yL.eq (y_iconst (pc := 100) (v := 5) d139_100 kc_5) ?_
    refine y_calls_j (pc := 101) (n := 3) (n' := 5) (nc' := 806) (ns' := 4836) [.ref 190, .long x2.toInt64, .int 5] [.long v7] false d139_101 q139_176 rfl rfl rfl (Nat.le_of_ble_eq_true rfl) (Nat.le_of_ble_eq_true rfl) rfl (by decide +kernel) (by decide +kernel) (fun v9 M8 => ?_)
    refine yL.eq (y_lcmp (pc := 104) d139_104) ?_
    refine yL.eq (y_lif_ne (pc := 105) (t := 146) d139_105 (by decide)) ?_
    refine yL.ite (fun h10 => ?_) (fun h10 => ?_)
    ·
      exact yL.rf
    ·
      refine yL.eq (y_iconst (pc := 146) (v := 0) d139_146 kc_0) ?_
      exact yL.eq (y_iretz (pc := 147) d139_147 mr_139) (yL.eq yZ_0 yL.rf)
  ·
    refine yL.eq (y_iconst (pc := 146) (v := 0) d139_146 kc_0) ?_
    exact yL.eq (y_iretz (pc := 147) d139_147 mr_139) (yL.eq yZ_0 yL.rf)
set_option maxRecDepth 20000 in
set_option maxHeartbeats 4000000 in
theorem h139_108 {x2 : Int32} {M : yM} : yL (yCj false (yX 131 0 [some (.ref 7), some (.int 2), some (.long (102030700000 + ((x2 % 900).toInt64))), none, none] [] M 0 0) fun v2 M1 => yCj false (yX 131 0 [some (.ref 190), some (.int 2), some (.long (102030700000 + ((x2 % 900).toInt64))), none, none] [] M1 0 0) fun v4 M3 => if v2 = v4 then yI 1 M3 else yI 0 M3) (yX 139 108 [some (.ref 7), some (.ref 190), some (.int x2)] [] M 806 4836) := by
  refine yL.eq (y_aload_n (pc := 108) (x := 7) d139_108 rfl) ?_
  refine yL.eq (y_iconst (pc := 109) (v := 2) d139_109 kc_2) ?_
  refine yL.eq (y_ldc2_w (pc := 110) (v := 102030700000) d139_110 q139_215) ?_
  refine yL.eq (y_iload_n (pc := 113) (x := x2) d139_113 rfl) ?_
  refine yL.eq (y_sipush (pc := 114) (v := 900) d139_114 ks_900) ?_
  refine yL.eq (y_imodc (pc := 117) d139_117 nzI_900) ?_
  refine yL.eq (y_i2l (pc := 118) d139_118) ?_
  refine yL.eq (y_ladd (pc := 119) d139_119) ?_
  refine y_calls_j (pc := 120) (n := 3) (n' := 5) (nc' := 808) (ns' := 4848) [.ref 7, .int 2, .long (102030700000 + ((x2 % 900).toInt64))] [] false d139_120 q139_170 rfl rfl rfl (Nat.le_of_ble_eq_true rfl) (Nat.le_of_ble_eq_true rfl) rfl (by decide +kernel) (by decide +kernel) (fun v2 M1 => ?_)
  refine yL.eq (y_aload_n (pc := 123) (x := 190) d139_123 rfl) ?_
  refine yL.eq (y_iconst (pc := 124) (v := 2) d139_124 kc_2) ?_
  refine yL.eq (y_ldc2_w (pc := 125) (v := 102030700000) d139_125 q139_215) ?_
  refine yL.eq (y_iload_n (pc := 128) (x := x2) d139_128 rfl) ?_
  refine yL.eq (y_sipush (pc := 129) (v := 900) d139_129 ks_900) ?_
  refine yL.eq (y_imodc (pc := 132) d139_132 nzI_900) ?_
  refine yL.eq (y_i2l (pc := 133) d139_133) ?_
  refine yL.eq (y_ladd (pc := 134) d139_134) ?_
  refine y_calls_j (pc := 135) (n := 3) (n' := 5) (nc' := 810) (ns' := 4860) [.ref 190, .int 2, .long (102030700000 + ((x2 % 900).toInt64))] [.long v2] false d139_135 q139_170 rfl rfl rfl (Nat.le_of_ble_eq_true rfl) (Nat.le_of_ble_eq_true rfl) rfl (by decide +kernel) (by decide +kernel) (fun v4 M3 => ?_)
  refine yL.eq (y_lcmp (pc := 138) d139_138) ?_
  refine yL.eq (y_lif_ne (pc := 139) (t := 146) d139_139 (by decide)) ?_
  refine yL.ite (fun h5 => ?_) (fun h5 => ?_)
  ·
    refine yL.eq (y_iconst (pc := 142) (v := 1) d139_142 kc_1) ?_
    refine yL.eq (y_goto (pc := 143) (t := 147) d139_143 (by decide)) ?_
    exact yL.eq (y_iretz (pc := 147) d139_147 mr_139) (yL.eq yZ_1 yL.rf)
  ·
    refine yL.eq (y_iconst (pc := 146) (v := 0) d139_146 kc_0) ?_
    exact yL.eq (y_iretz (pc := 147) d139_147 mr_139) (yL.eq yZ_0 yL.rf)
