set_option maxRecDepth 20000 in
set_option maxHeartbeats 4000000 in
theorem e139 {a2 : Int32} {M : yM} {nc ns : Nat} (hn : nc + 1600 ≤ 1000 ∧ ns + 9600 ≤ 6000) : yL (yCj false (yX 135 0 [some (.ref 7), none, none, none, none] [] M 0 0) fun v2 M1 => yCj false (yX 135 0 [some (.ref 190), none, none, none, none] [] M1 0 0) fun v4 M3 => if v2 = v4 then yCi false (yX 60 0 [some (.ref 7)] [] M3 0 0) fun v7 M6 => yCi false (yX 60 0 [some (.ref 190)] [] M6 0 0) fun v9 M8 => if v7 = v9 then yX 139 23 [some (.ref 7), some (.ref 190), some (.int a2)] [] M8 (nc + 800) (ns + 4800) else yI 0 M8 else yI 0 M3) (yX 139 0 [some (.ref 7), some (.ref 190), some (.int a2)] [] M nc ns) := by
  refine yL.eq (y_aload_n (pc := 0) (x := 7) d139_0 rfl) ?_
  refine y_calls_j (pc := 1) (n := 1) (n' := 5) (nc' := nc + 400) (ns' := ns + 2400) [.ref 7] [] false d139_1 q139_133 rfl rfl rfl (Nat.le_of_ble_eq_true rfl) (Nat.le_of_ble_eq_true rfl) rfl (by decide +kernel) (y_rmc mcs_135 mcs_139 hn (by decide)) (fun v2 M1 => ?_)
  refine yL.eq (y_aload_n (pc := 4) (x := 190) d139_4 rfl) ?_
  refine y_calls_j (pc := 5) (n := 1) (n' := 5) (nc' := nc + 800) (ns' := ns + 4800) [.ref 190] [.long v2] false d139_5 q139_133 rfl rfl rfl (Nat.le_of_ble_eq_true rfl) (Nat.le_of_ble_eq_true rfl) rfl (by decide +kernel) (y_rme (c1 := 800) (s1 := 4800) mcs_135 mcs_139 hn (by decide)) (fun v4 M3 => ?_)
  refine yL.eq (y_lcmp (pc := 8) d139_8) ?_
  refine yL.eq (y_lif_ne (pc := 9) (t := 146) d139_9 (by decide)) ?_
  refine yL.ite (fun h5 => ?_) (fun h5 => ?_)
  ·
    refine yL.eq (y_aload_n (pc := 12) (x := 7) d139_12 rfl) ?_
    refine y_callv_i (pc := 13) (n := 1) (n' := 1) (nc' := nc + 800) (ns' := ns + 4800) [] [] false d139_13 q139_212 mk_60 s_t_7 rfl rfl (Nat.le_of_ble_eq_true rfl) (Nat.le_of_ble_eq_true rfl) rfl (by decide +kernel) (y_rmd mcs_60 mcs_139 hn (by decide)) (fun v7 M6 => ?_)
    refine yL.eq (y_aload_n (pc := 16) (x := 190) d139_16 rfl) ?_
    refine y_callv_i (pc := 17) (n := 1) (n' := 1) (nc' := nc + 800) (ns' := ns + 4800) [] [.int v7] false d139_17 q139_212 mk_60 s_t_190 rfl rfl (Nat.le_of_ble_eq_true rfl) (Nat.le_of_ble_eq_true rfl) rfl (by decide +kernel) (y_rmd mcs_60 mcs_139 hn (by decide)) (fun v9 M8 => ?_)
    refine yL.eq (y_icmp_ne (pc := 20) (t := 146) d139_20 (by decide)) ?_
    refine yL.ite (fun h10 => ?_) (fun h10 => ?_)
    ·
      exact yL.rf
    ·
      refine yL.eq (y_iconst (pc := 146) (v := 0) d139_146 kc_0) ?_
      exact yL.eq (y_iretz (pc := 147) d139_147 mr_139) (yL.eq yZ_0 yL.rf)
  ·
    refine yL.eq (y_iconst (pc := 146) (v := 0) d139_146 kc_0) ?_
    exact yL.eq (y_iretz (pc := 147) d139_147 mr_139) (yL.eq yZ_0 yL.rf)
set_option maxRecDepth 20000 in
set_option maxHeartbeats 4000000 in
theorem e139_23 {x2 : Int32} {M : yM} {nc ns : Nat} (hn : nc + 1600 ≤ 1000 ∧ ns + 9600 ≤ 6000) : yL (yCi false (yX 83 0 [some (.ref 7), none, none, none, none, none, none, none] [] M 0 0) fun v2 M1 => yCi false (yX 83 0 [some (.ref 190), none, none, none, none, none, none, none] [] M1 0 0) fun v4 M3 => if v2 = v4 then yCj false (yX 128 0 [some (.ref 7), some (.int (1 + (x2 % 24))), some (.int 0), none] [] M3 0 0) fun v7 M6 => yCj false (yX 128 0 [some (.ref 190), some (.int (1 + (x2 % 24))), some (.int 0), none] [] M6 0 0) fun v9 M8 => if v7 = v9 then yX 139 60 [some (.ref 7), some (.ref 190), some (.int x2)] [] M8 (nc + 2) (ns + 12) else yI 0 M8 else yI 0 M3) (yX 139 23 [some (.ref 7), some (.ref 190), some (.int x2)] [] M nc ns) := by
  refine yL.eq (y_aload_n (pc := 23) (x := 7) d139_23 rfl) ?_
  refine y_callv_i (pc := 24) (n := 1) (n' := 8) (nc' := nc) (ns' := ns) [] [] false d139_24 q139_207 mk_83 s_t_7 rfl rfl (Nat.le_of_ble_eq_true rfl) (Nat.le_of_ble_eq_true rfl) rfl (by decide +kernel) (y_rm0 mcs_83 mcs_139 hn) (fun v2 M1 => ?_)
  refine yL.eq (y_aload_n (pc := 27) (x := 190) d139_27 rfl) ?_
  refine y_callv_i (pc := 28) (n := 1) (n' := 8) (nc' := nc) (ns' := ns) [] [.int v2] false d139_28 q139_207 mk_83 s_t_190 rfl rfl (Nat.le_of_ble_eq_true rfl) (Nat.le_of_ble_eq_true rfl) rfl (by decide +kernel) (y_rm0 mcs_83 mcs_139 hn) (fun v4 M3 => ?_)
  refine yL.eq (y_icmp_ne (pc := 31) (t := 146) d139_31 (by decide)) ?_
  refine yL.ite (fun h5 => ?_) (fun h5 => ?_)
  ·
    refine yL.eq (y_aload_n (pc := 34) (x := 7) d139_34 rfl) ?_
    refine yL.eq (y_iconst (pc := 35) (v := 1) d139_35 kc_1) ?_
    refine yL.eq (y_iload_n (pc := 36) (x := x2) d139_36 rfl) ?_
    refine yL.eq (y_bipush (pc := 37) (v := 24) d139_37 kb_24) ?_
    refine yL.eq (y_imodc (pc := 39) d139_39 nzI_24) ?_
    refine yL.eq (y_iadd (pc := 40) d139_40) ?_
    refine yL.eq (y_iconst (pc := 41) (v := 0) d139_41 kc_0) ?_
    refine y_calls_j (pc := 42) (n := 3) (n' := 4) (nc' := nc + 1) (ns' := ns + 6) [.ref 7, .int (1 + (x2 % 24)), .int 0] [] false d139_42 q139_164 rfl rfl rfl (Nat.le_of_ble_eq_true rfl) (Nat.le_of_ble_eq_true rfl) rfl (by decide +kernel) (y_rmc mcs_128 mcs_139 hn (by decide)) (fun v7 M6 => ?_)
    refine yL.eq (y_aload_n (pc := 45) (x := 190) d139_45 rfl) ?_
    refine yL.eq (y_iconst (pc := 46) (v := 1) d139_46 kc_1) ?_
    refine yL.eq (y_iload_n (pc := 47) (x := x2) d139_47 rfl) ?_
    refine yL.eq (y_bipush (pc := 48) (v := 24) d139_48 kb_24) ?_
    refine yL.eq (y_imodc (pc := 50) d139_50 nzI_24) ?_
    refine yL.eq (y_iadd (pc := 51) d139_51) ?_
    refine yL.eq (y_iconst (pc := 52) (v := 0) d139_52 kc_0) ?_
    refine y_calls_j (pc := 53) (n := 3) (n' := 4) (nc' := nc + 2) (ns' := ns + 12) [.ref 190, .int (1 + (x2 % 24)), .int 0] [.long v7] false d139_53 q139_164 rfl rfl rfl (Nat.le_of_ble_eq_true rfl) (Nat.le_of_ble_eq_true rfl) rfl (by decide +kernel) (y_rme (c1 := 2) (s1 := 12) mcs_128 mcs_139 hn (by decide)) (fun v9 M8 => ?_)
    refine yL.eq (y_lcmp (pc := 56) d139_56) ?_
    refine yL.eq (y_lif_ne (pc := 57) (t := 146) d139_57 (by decide)) ?_
    refine yL.ite (fun h10 => ?_) (fun h10 => ?_)
    ·
      exact yL.rf
    ·
      refine yL.eq (y_iconst (pc := 146) (v := 0) d139_146 kc_0) ?_
      exact yL.eq (y_iretz (pc := 147) d139_147 mr_139) (yL.eq yZ_0 yL.rf)
  ·
    refine yL.eq (y_iconst (pc := 146) (v := 0) d139_146 kc_0) ?_
    exact yL.eq (y_iretz (pc := 147) d139_147 mr_139) (yL.eq yZ_0 yL.rf)
set_option maxRecDepth 20000 in
set_option maxHeartbeats 4000000 in
theorem e139_60 {x2 : Int32} {M : yM} {nc ns : Nat} (hn : nc + 1600 ≤ 1000 ∧ ns + 9600 ≤ 6000) : yL (yCj false (yX 116 0 [some (.ref 7), some (.int (x2 % 200)), some (.int (x2 % 10)), none] [] M 0 0) fun v2 M1 => yCj false (yX 116 0 [some (.ref 190), some (.int (x2 % 200)), some (.int (x2 % 10)), none] [] M1 0 0) fun v4 M3 => if v2 = v4 then yCj false (yX 132 0 [some (.ref 7), some (.long x2.toInt64), none, some (.int 5), none] [] M3 0 0) fun v7 M6 => yCj false (yX 132 0 [some (.ref 190), some (.long x2.toInt64), none, some (.int 5), none] [] M6 0 0) fun v9 M8 => if v7 = v9 then yX 139 108 [some (.ref 7), some (.ref 190), some (.int x2)] [] M8 (nc + 4) (ns + 24) else yI 0 M8 else yI 0 M3) (yX 139 60 [some (.ref 7), some (.ref 190), some (.int x2)] [] M nc ns) := by
  refine yL.eq (y_aload_n (pc := 60) (x := 7) d139_60 rfl) ?_
  refine yL.eq (y_iload_n (pc := 61) (x := x2) d139_61 rfl) ?_
  refine yL.eq (y_sipush (pc := 62) (v := 200) d139_62 ks_200) ?_
  refine yL.eq (y_imodc (pc := 65) d139_65 nzI_200) ?_
  refine yL.eq (y_iload_n (pc := 66) (x := x2) d139_66 rfl) ?_
  refine yL.eq (y_bipush (pc := 67) (v := 10) d139_67 kb_10) ?_
  refine yL.eq (y_imodc (pc := 69) d139_69 nzI_10) ?_
  refine y_calls_j (pc := 70) (n := 3) (n' := 4) (nc' := nc + 1) (ns' := ns + 6) [.ref 7, .int (x2 % 200), .int (x2 % 10)] [] false d139_70 q139_150 rfl rfl rfl (Nat.le_of_ble_eq_true rfl) (Nat.le_of_ble_eq_true rfl) rfl (by decide +kernel) (y_rmc mcs_116 mcs_139 hn (by decide)) (fun v2 M1 => ?_)
  refine yL.eq (y_aload_n (pc := 73) (x := 190) d139_73 rfl) ?_
  refine yL.eq (y_iload_n (pc := 74) (x := x2) d139_74 rfl) ?_
  refine yL.eq (y_sipush (pc := 75) (v := 200) d139_75 ks_200) ?_
  refine yL.eq (y_imodc (pc := 78) d139_78 nzI_200) ?_
  refine yL.eq (y_iload_n (pc := 79) (x := x2) d139_79 rfl) ?_
  refine yL.eq (y_bipush (pc := 80) (v := 10) d139_80 kb_10) ?_
  refine yL.eq (y_imodc (pc := 82) d139_82 nzI_10) ?_
  refine y_calls_j (pc := 83) (n := 3) (n' := 4) (nc' := nc + 2) (ns' := ns + 12) [.ref 190, .int (x2 % 200), .int (x2 % 10)] [.long v2] false d139_83 q139_150 rfl rfl rfl (Nat.le_of_ble_eq_true rfl) (Nat.le_of_ble_eq_true rfl) rfl (by decide +kernel) (y_rme (c1 := 2) (s1 := 12) mcs_116 mcs_139 hn (by decide)) (fun v4 M3 => ?_)
  refine yL.eq (y_lcmp (pc := 86) d139_86) ?_
  refine yL.eq (y_lif_ne (pc := 87) (t := 146) d139_87 (by decide)) ?_
  refine yL.ite (fun h5 => ?_) (fun h5 => ?_)
  ·
    refine yL.eq (y_aload_n (pc := 90) (x := 7) d139_90 rfl) ?_
    refine yL.eq (y_iload_n (pc := 91) (x := x2) d139_91 rfl) ?_
    refine yL.eq (y_i2l (pc := 92) d139_92) ?_
    refine yL.eq (y_iconst (pc := 93) (v := 5) d139_93 kc_5) ?_
    refine y_calls_j (pc := 94) (n := 3) (n' := 5) (nc' := nc + 3) (ns' := ns + 18) [.ref 7, .long x2.toInt64, .int 5] [] false d139_94 q139_176 rfl rfl rfl (Nat.le_of_ble_eq_true rfl) (Nat.le_of_ble_eq_true rfl) rfl (by decide +kernel) (y_rme (c1 := 3) (s1 := 18) mcs_132 mcs_139 hn (by decide)) (fun v7 M6 => ?_)
    refine yL.eq (y_aload_n (pc := 97) (x := 190) d139_97 rfl) ?_
    refine yL.eq (y_iload_n (pc := 98) (x := x2) d139_98 rfl) ?_
    refine yL.eq (y_i2l (pc := 99) d139_99) ?_
    refine yL.eq (y_iconst (pc := 100) (v := 5) d139_100 kc_5) ?_
    refine y_calls_j (pc := 101) (n := 3) (n' := 5) (nc' := nc + 4) (ns' := ns + 24) [.ref 190, .long x2.toInt64, .int 5] [.long v7] false d139_101 q139_176 rfl rfl rfl (Nat.le_of_ble_eq_true rfl) (Nat.le_of_ble_eq_true rfl) rfl (by decide +kernel) (y_rme (c1 := 4) (s1 := 24) mcs_132 mcs_139 hn (by decide)) (fun v9 M8 => ?_)
    refine yL.eq (y_lcmp (pc := 104) d139_104) ?_
    refine yL.eq (y_lif_ne (pc := 105) (t := 146) d139_105 (by decide)) ?_
    refine yL.ite (fun h10 => ?_) (fun h10 => ?_)
    ·
      exact yL.rf
    ·
      refine yL.eq (y_iconst (pc := 146) (v := 0) d139_146 kc_0) ?_
      exact yL.eq (y_iretz (pc := 147) d139_147 mr_139) (yL.eq yZ_0 yL.rf)
  ·
    refine yL.eq (y_iconst (pc := 146) (v := 0) d139_146 kc_0) ?_
    exact yL.eq (y_iretz (pc := 147) d139_147 mr_139) (yL.eq yZ_0 yL.rf)
set_option maxRecDepth 20000 in
set_option maxHeartbeats 4000000 in
theorem e139_108 {x2 : Int32} {M : yM} {nc ns : Nat} (hn : nc + 1600 ≤ 1000 ∧ ns + 9600 ≤ 6000) : yL (yCj false (yX 131 0 [some (.ref 7), some (.int 2), some (.long (102030700000 + ((x2 % 900).toInt64))), none, none] [] M 0 0) fun v2 M1 => yCj false (yX 131 0 [some (.ref 190), some (.int 2), some (.long (102030700000 + ((x2 % 900).toInt64))), none, none] [] M1 0 0) fun v4 M3 => if v2 = v4 then yI 1 M3 else yI 0 M3) (yX 139 108 [some (.ref 7), some (.ref 190), some (.int x2)] [] M nc ns) := by
  refine yL.eq (y_aload_n (pc := 108) (x := 7) d139_108 rfl) ?_
  refine yL.eq (y_iconst (pc := 109) (v := 2) d139_109 kc_2) ?_
  refine yL.eq (y_ldc2_w (pc := 110) (v := 102030700000) d139_110 q139_215) ?_
  refine yL.eq (y_iload_n (pc := 113) (x := x2) d139_113 rfl) ?_
  refine yL.eq (y_sipush (pc := 114) (v := 900) d139_114 ks_900) ?_
  refine yL.eq (y_imodc (pc := 117) d139_117 nzI_900) ?_
  refine yL.eq (y_i2l (pc := 118) d139_118) ?_
  refine yL.eq (y_ladd (pc := 119) d139_119) ?_
  refine y_calls_j (pc := 120) (n := 3) (n' := 5) (nc' := nc + 2) (ns' := ns + 12) [.ref 7, .int 2, .long (102030700000 + ((x2 % 900).toInt64))] [] false d139_120 q139_170 rfl rfl rfl (Nat.le_of_ble_eq_true rfl) (Nat.le_of_ble_eq_true rfl) rfl (by decide +kernel) (y_rmc mcs_131 mcs_139 hn (by decide)) (fun v2 M1 => ?_)
  refine yL.eq (y_aload_n (pc := 123) (x := 190) d139_123 rfl) ?_
  refine yL.eq (y_iconst (pc := 124) (v := 2) d139_124 kc_2) ?_
  refine yL.eq (y_ldc2_w (pc := 125) (v := 102030700000) d139_125 q139_215) ?_
  refine yL.eq (y_iload_n (pc := 128) (x := x2) d139_128 rfl) ?_
  refine yL.eq (y_sipush (pc := 129) (v := 900) d139_129 ks_900) ?_
  refine yL.eq (y_imodc (pc := 132) d139_132 nzI_900) ?_
  refine yL.eq (y_i2l (pc := 133) d139_133) ?_
  refine yL.eq (y_ladd (pc := 134) d139_134) ?_
  refine y_calls_j (pc := 135) (n := 3) (n' := 5) (nc' := nc + 4) (ns' := ns + 24) [.ref 190, .int 2, .long (102030700000 + ((x2 % 900).toInt64))] [.long v2] false d139_135 q139_170 rfl rfl rfl (Nat.le_of_ble_eq_true rfl) (Nat.le_of_ble_eq_true rfl) rfl (by decide +kernel) (y_rme (c1 := 4) (s1 := 24) mcs_131 mcs_139 hn (by decide)) (fun v4 M3 => ?_)
  refine yL.eq (y_lcmp (pc := 138) d139_138) ?_
  refine yL.eq (y_lif_ne (pc := 139) (t := 146) d139_139 (by decide)) ?_
  refine yL.ite (fun h5 => ?_) (fun h5 => ?_)
  ·
    refine yL.eq (y_iconst (pc := 142) (v := 1) d139_142 kc_1) ?_
    refine yL.eq (y_goto (pc := 143) (t := 147) d139_143 (by decide)) ?_
    exact yL.eq (y_iretz (pc := 147) d139_147 mr_139) (yL.eq yZ_1 yL.rf)
  ·
    refine yL.eq (y_iconst (pc := 146) (v := 0) d139_146 kc_0) ?_
    exact yL.eq (y_iretz (pc := 147) d139_147 mr_139) (yL.eq yZ_0 yL.rf)
set_option maxRecDepth 20000 in
set_option maxHeartbeats 4000000 in
theorem e141 {a1 : Int32} {M : yM} {nc ns : Nat} (hn : nc + 60 ≤ 300 ∧ ns + 360 ≤ 1800) : yL (yCi false (yX 59 0 [some (.ref 7), none] [] M 0 0) fun v2 M1 => if v2 < 0 then yX 141 26 [some (.ref 7), some (.int a1), some (.int 0), some (.int 0), none] [] M1 nc ns else yCj false (yX 107 0 [some (.ref 7), some (.int 67), none] [] M1 0 0) fun v5 M4 => if v5 ≤ 0 then yX 141 26 [some (.ref 7), some (.int a1), some (.int 0), some (.int 0), none] [] M4 (nc + 2) (ns + 12) else yX 141 26 [some (.ref 7), some (.int a1), some (.int 1), some (.int 0), none] [] M4 (nc + 2) (ns + 12)) (yX 141 0 [some (.ref 7), some (.int a1), none, none, none] [] M nc ns) := by
  refine yL.eq (y_aload_n (pc := 0) (x := 7) d141_0 rfl) ?_
  refine y_callv_i (pc := 1) (n := 1) (n' := 2) (nc' := nc) (ns' := ns) [] [] false d141_1 q141_217 mk_59 s_t_7 rfl rfl (Nat.le_of_ble_eq_true rfl) (Nat.le_of_ble_eq_true rfl) rfl (by decide +kernel) (y_rm0 mcs_59 mcs_141 hn) (fun v2 M1 => ?_)
  refine yL.eq (y_if_lt (pc := 4) (t := 22) d141_4 (by decide)) ?_
  refine yL.ite (fun h3 => ?_) (fun h3 => ?_)
  ·
    refine yL.eq (y_iconst (pc := 22) (v := 0) d141_22 kc_0) ?_
    refine yL.eq (y_istore_n (pc := 23) (ls' := [some (.ref 7), some (.int a1), some (.int 0), none, none]) d141_23 rfl rfl) ?_
    refine yL.eq (y_iconst (pc := 24) (v := 0) d141_24 kc_0) ?_
    refine yL.eq (y_istore_n (pc := 25) (ls' := [some (.ref 7), some (.int a1), some (.int 0), some (.int 0), none]) d141_25 rfl rfl) ?_
    exact yL.rf
  ·
    refine yL.eq (y_aload_n (pc := 7) (x := 7) d141_7 rfl) ?_
    refine yL.eq (y_bipush (pc := 8) (v := 67) d141_8 kb_67) ?_
    refine y_calls_j (pc := 10) (n := 2) (n' := 3) (nc' := nc + 2) (ns' := ns + 12) [.ref 7, .int 67] [] false d141_10 q141_183 rfl rfl rfl (Nat.le_of_ble_eq_true rfl) (Nat.le_of_ble_eq_true rfl) rfl (by decide +kernel) (y_rmc mcs_107 mcs_141 hn (by decide)) (fun v5 M4 => ?_)
    refine yL.eq (y_lconst (pc := 13) (v := 0) d141_13 kl_0) ?_
    refine yL.eq (y_lcmp (pc := 14) d141_14) ?_
    refine yL.eq (y_lif_le (pc := 15) (t := 22) d141_15 (by decide)) ?_
    refine yL.ite (fun h6 => ?_) (fun h6 => ?_)
    ·
      refine yL.eq (y_iconst (pc := 22) (v := 0) d141_22 kc_0) ?_
      refine yL.eq (y_istore_n (pc := 23) (ls' := [some (.ref 7), some (.int a1), some (.int 0), none, none]) d141_23 rfl rfl) ?_
      refine yL.eq (y_iconst (pc := 24) (v := 0) d141_24 kc_0) ?_
      refine yL.eq (y_istore_n (pc := 25) (ls' := [some (.ref 7), some (.int a1), some (.int 0), some (.int 0), none]) d141_25 rfl rfl) ?_
      exact yL.rf
    ·
      refine yL.eq (y_iconst (pc := 18) (v := 1) d141_18 kc_1) ?_
      refine yL.eq (y_goto (pc := 19) (t := 23) d141_19 (by decide)) ?_
      refine yL.eq (y_istore_n (pc := 23) (ls' := [some (.ref 7), some (.int a1), some (.int 1), none, none]) d141_23 rfl rfl) ?_
      refine yL.eq (y_iconst (pc := 24) (v := 0) d141_24 kc_0) ?_
      refine yL.eq (y_istore_n (pc := 25) (ls' := [some (.ref 7), some (.int a1), some (.int 1), some (.int 0), none]) d141_25 rfl rfl) ?_
      exact yL.rf
set_option maxRecDepth 20000 in
set_option maxHeartbeats 4000000 in
theorem e141_26 {x1 : Int32} {x2 : Int32} {x3 : Int32} {o4 : Option Value} {M : yM} {nc ns : Nat} (hn : nc + 60 ≤ 300 ∧ ns + 360 ≤ 1800) : yL (if x3 < (1 + (x1 % 4)) then if x2 = 0 then yX 141 221 [some (.ref 7), some (.int x1), some (.int x2), some (.int x3), o4] [] M nc ns else yCi false (yX 140 0 [some (.ref 7), some (.int 105), some (.int (48 + ((x1 >>> (x3 &&& 31)) % 3))), some (.int (48 + ((x1 >>> (x3 &&& 31)) % 10))), some (.int 116)] [] M 0 0) fun v4 M3 => if v4 = 0 then yX 141 26 [some (.ref 7), some (.int x1), some (.int 0), some (.int (x3 + 1)), some (.int (x1 >>> (x3 &&& 31)))] [] M3 (nc + 8) (ns + 48) else yCi false (yX 140 0 [some (.ref 7), some (.int 115), some (.int (48 + ((x1 >>> (x3 &&& 31)) % 9))), some (.int (49 + ((x1 >>> (x3 &&& 31)) % 9))), some (.int (48 + ((x1 >>> (x3 &&& 31)) % 5)))] [] M3 0 0) fun v7 M6 => if v7 = 0 then yX 141 26 [some (.ref 7), some (.int x1), some (.int 0), some (.int (x3 + 1)), some (.int (x1 >>> (x3 &&& 31)))] [] M6 (nc + 16) (ns + 96) else yCi false (yX 140 0 [some (.ref 7), some (.int (48 + ((x1 >>> (x3 &&& 31)) % 2))), some (.int 117), some (.int 48), some (.int (48 + ((x1 >>> (x3 &&& 31)) % 4)))] [] M6 0 0) fun v10 M9 => if v10 = 0 then yX 141 26 [some (.ref 7), some (.int x1), some (.int 0), some (.int (x3 + 1)), some (.int (x1 >>> (x3 &&& 31)))] [] M9 (nc + 24) (ns + 144) else yCi false (yX 140 0 [some (.ref 7), some (.int 48), some (.int (48 + ((x1 >>> (x3 &&& 31)) % 3))), some (.int 110), some (.int 48)] [] M9 0 0) fun v13 M12 => if v13 = 0 then yX 141 26 [some (.ref 7), some (.int x1), some (.int 0), some (.int (x3 + 1)), some (.int (x1 >>> (x3 &&& 31)))] [] M12 (nc + 32) (ns + 192) else yCi false (yX 140 0 [some (.ref 7), some (.int (48 + ((x1 >>> (x3 &&& 31)) % 4))), some (.int 48), some (.int (48 + (((x1 >>> (x3 &&& 31)) / 4) % 4))), some (.int 107)] [] M12 0 0) fun v16 M15 => if v16 = 0 then yX 141 26 [some (.ref 7), some (.int x1), some (.int 0), some (.int (x3 + 1)), some (.int (x1 >>> (x3 &&& 31)))] [] M15 (nc + 40) (ns + 240) else yCj false (yX 107 0 [some (.ref 7), some (.int (48 + ((x1 >>> (x3 &&& 31)) % 4))), none] [] M15 0 0) fun v19 M18 => if v19 ≤ 0 then yX 141 26 [some (.ref 7), some (.int x1), some (.int 0), some (.int (x3 + 1)), some (.int (x1 >>> (x3 &&& 31)))] [] M18 (nc + 42) (ns + 252) else yCj false (yX 107 0 [some (.ref 7), some (.int (48 + (((x1 >>> (x3 &&& 31)) / 7) % 4))), none] [] M18 0 0) fun v22 M21 => if v22 ≤ 0 then yX 141 26 [some (.ref 7), some (.int x1), some (.int 0), some (.int (x3 + 1)), some (.int (x1 >>> (x3 &&& 31)))] [] M21 (nc + 44) (ns + 264) else yX 141 26 [some (.ref 7), some (.int x1), some (.int 1), some (.int (x3 + 1)), some (.int (x1 >>> (x3 &&& 31)))] [] M21 (nc + 44) (ns + 264) else yX 141 221 [some (.ref 7), some (.int x1), some (.int x2), some (.int x3), o4] [] M nc ns) (yX 141 26 [some (.ref 7), some (.int x1), some (.int x2), some (.int x3), o4] [] M nc ns) := by
  refine yL.eq (y_iload_n (pc := 26) (x := x3) d141_26 rfl) ?_
  refine yL.eq (y_iconst (pc := 27) (v := 1) d141_27 kc_1) ?_
  refine yL.eq (y_iload_n (pc := 28) (x := x1) d141_28 rfl) ?_
  refine yL.eq (y_iconst (pc := 29) (v := 4) d141_29 kc_4) ?_
  refine yL.eq (y_imodc (pc := 30) d141_30 nzI_4) ?_
  refine yL.eq (y_iadd (pc := 31) d141_31) ?_
  refine yL.eq (y_icmp_ge (pc := 32) (t := 221) d141_32 (by decide)) ?_
  refine yL.ite (fun h1 => ?_) (fun h1 => ?_)
  ·
    refine yL.eq (y_iload_n (pc := 35) (x := x2) d141_35 rfl) ?_
    refine yL.eq (y_if_eq (pc := 36) (t := 221) d141_36 (by decide)) ?_
    refine yL.ite (fun h2 => ?_) (fun h2 => ?_)
    ·
      exact yL.rf
    ·
      refine yL.eq (y_iload_n (pc := 39) (x := x1) d141_39 rfl) ?_
      refine yL.eq (y_iload_n (pc := 40) (x := x3) d141_40 rfl) ?_
      refine yL.eq (y_ishr (pc := 41) d141_41) ?_
      refine yL.eq (y_istore (pc := 42) (ls' := [some (.ref 7), some (.int x1), some (.int x2), some (.int x3), some (.int (x1 >>> (x3 &&& 31)))]) d141_42 rfl rfl) ?_
      refine yL.eq (y_aload_n (pc := 44) (x := 7) d141_44 rfl) ?_
      refine yL.eq (y_bipush (pc := 45) (v := 105) d141_45 kb_105) ?_
      refine yL.eq (y_bipush (pc := 47) (v := 48) d141_47 kb_48) ?_
      refine yL.eq (y_iload (pc := 49) (x := (x1 >>> (x3 &&& 31))) d141_49 rfl) ?_
      refine yL.eq (y_iconst (pc := 51) (v := 3) d141_51 kc_3) ?_
      refine yL.eq (y_imodc (pc := 52) d141_52 nzI_3) ?_
      refine yL.eq (y_iadd (pc := 53) d141_53) ?_
      refine yL.eq (y_bipush (pc := 54) (v := 48) d141_54 kb_48) ?_
      refine yL.eq (y_iload (pc := 56) (x := (x1 >>> (x3 &&& 31))) d141_56 rfl) ?_
      refine yL.eq (y_bipush (pc := 58) (v := 10) d141_58 kb_10) ?_
      refine yL.eq (y_imodc (pc := 60) d141_60 nzI_10) ?_
      refine yL.eq (y_iadd (pc := 61) d141_61) ?_
      refine yL.eq (y_bipush (pc := 62) (v := 116) d141_62 kb_116) ?_
      refine y_calls_i (pc := 64) (n := 5) (n' := 5) (nc' := nc + 8) (ns' := ns + 48) [.ref 7, .int 105, .int (48 + ((x1 >>> (x3 &&& 31)) % 3)), .int (48 + ((x1 >>> (x3 &&& 31)) % 10)), .int 116] [] false d141_64 q141_220 rfl rfl rfl (Nat.le_of_ble_eq_true rfl) (Nat.le_of_ble_eq_true rfl) rfl (by decide +kernel) (y_rmc mcs_140 mcs_141 hn (by decide)) (fun v4 M3 => ?_)
      refine yL.eq (y_if_eq (pc := 67) (t := 213) d141_67 (by decide)) ?_
      refine yL.ite (fun h5 => ?_) (fun h5 => ?_)
      ·
        refine yL.eq (y_iconst (pc := 213) (v := 0) d141_213 kc_0) ?_
        refine yL.eq (y_istore_n (pc := 214) (ls' := [some (.ref 7), some (.int x1), some (.int 0), some (.int x3), some (.int (x1 >>> (x3 &&& 31)))]) d141_214 rfl rfl) ?_
        refine yL.eq (y_iinc (pc := 215) (v := 1) (x := x3) (ls' := [some (.ref 7), some (.int x1), some (.int 0), some (.int (x3 + 1)), some (.int (x1 >>> (x3 &&& 31)))]) d141_215 kc_1 rfl (Nat.le_of_ble_eq_true rfl) rfl) ?_
        refine yL.eq (y_goto (pc := 218) (t := 26) d141_218 (by decide)) ?_
        exact yL.rf
      ·
        refine yL.eq (y_aload_n (pc := 70) (x := 7) d141_70 rfl) ?_
        refine yL.eq (y_bipush (pc := 71) (v := 115) d141_71 kb_115) ?_
        refine yL.eq (y_bipush (pc := 73) (v := 48) d141_73 kb_48) ?_
        refine yL.eq (y_iload (pc := 75) (x := (x1 >>> (x3 &&& 31))) d141_75 rfl) ?_
        refine yL.eq (y_bipush (pc := 77) (v := 9) d141_77 kb_9) ?_
        refine yL.eq (y_imodc (pc := 79) d141_79 nzI_9) ?_
        refine yL.eq (y_iadd (pc := 80) d141_80) ?_
        refine yL.eq (y_bipush (pc := 81) (v := 49) d141_81 kb_49) ?_
        refine yL.eq (y_iload (pc := 83) (x := (x1 >>> (x3 &&& 31))) d141_83 rfl) ?_
        refine yL.eq (y_bipush (pc := 85) (v := 9) d141_85 kb_9) ?_
        refine yL.eq (y_imodc (pc := 87) d141_87 nzI_9) ?_
        refine yL.eq (y_iadd (pc := 88) d141_88) ?_
        refine yL.eq (y_bipush (pc := 89) (v := 48) d141_89 kb_48) ?_
        refine yL.eq (y_iload (pc := 91) (x := (x1 >>> (x3 &&& 31))) d141_91 rfl) ?_
        refine yL.eq (y_iconst (pc := 93) (v := 5) d141_93 kc_5) ?_
        refine yL.eq (y_imodc (pc := 94) d141_94 nzI_5) ?_
        refine yL.eq (y_iadd (pc := 95) d141_95) ?_
        refine y_calls_i (pc := 96) (n := 5) (n' := 5) (nc' := nc + 16) (ns' := ns + 96) [.ref 7, .int 115, .int (48 + ((x1 >>> (x3 &&& 31)) % 9)), .int (49 + ((x1 >>> (x3 &&& 31)) % 9)), .int (48 + ((x1 >>> (x3 &&& 31)) % 5))] [] false d141_96 q141_220 rfl rfl rfl (Nat.le_of_ble_eq_true rfl) (Nat.le_of_ble_eq_true rfl) rfl (by decide +kernel) (y_rme (c1 := 16) (s1 := 96) mcs_140 mcs_141 hn (by decide)) (fun v7 M6 => ?_)
        refine yL.eq (y_if_eq (pc := 99) (t := 213) d141_99 (by decide)) ?_
        refine yL.ite (fun h8 => ?_) (fun h8 => ?_)
        ·
          refine yL.eq (y_iconst (pc := 213) (v := 0) d141_213 kc_0) ?_
          refine yL.eq (y_istore_n (pc := 214) (ls' := [some (.ref 7), some (.int x1), some (.int 0), some (.int x3), some (.int (x1 >>> (x3 &&& 31)))]) d141_214 rfl rfl) ?_
          refine yL.eq (y_iinc (pc := 215) (v := 1) (x := x3) (ls' := [some (.ref 7), some (.int x1), some (.int 0), some (.int (x3 + 1)), some (.int (x1 >>> (x3 &&& 31)))]) d141_215 kc_1 rfl (Nat.le_of_ble_eq_true rfl) rfl) ?_
          refine yL.eq (y_goto (pc := 218) (t := 26) d141_218 (by decide)) ?_
          exact yL.rf
        ·
          refine yL.eq (y_aload_n (pc := 102) (x := 7) d141_102 rfl) ?_
          refine yL.eq (y_bipush (pc := 103) (v := 48) d141_103 kb_48) ?_
          refine yL.eq (y_iload (pc := 105) (x := (x1 >>> (x3 &&& 31))) d141_105 rfl) ?_
          refine yL.eq (y_iconst (pc := 107) (v := 2) d141_107 kc_2) ?_
          refine yL.eq (y_imodc (pc := 108) d141_108 nzI_2) ?_
          refine yL.eq (y_iadd (pc := 109) d141_109) ?_
          refine yL.eq (y_bipush (pc := 110) (v := 117) d141_110 kb_117) ?_
          refine yL.eq (y_bipush (pc := 112) (v := 48) d141_112 kb_48) ?_
          refine yL.eq (y_bipush (pc := 114) (v := 48) d141_114 kb_48) ?_
          refine yL.eq (y_iload (pc := 116) (x := (x1 >>> (x3 &&& 31))) d141_116 rfl) ?_
          refine yL.eq (y_iconst (pc := 118) (v := 4) d141_118 kc_4) ?_
          refine yL.eq (y_imodc (pc := 119) d141_119 nzI_4) ?_
          refine yL.eq (y_iadd (pc := 120) d141_120) ?_
          refine y_calls_i (pc := 121) (n := 5) (n' := 5) (nc' := nc + 24) (ns' := ns + 144) [.ref 7, .int (48 + ((x1 >>> (x3 &&& 31)) % 2)), .int 117, .int 48, .int (48 + ((x1 >>> (x3 &&& 31)) % 4))] [] false d141_121 q141_220 rfl rfl rfl (Nat.le_of_ble_eq_true rfl) (Nat.le_of_ble_eq_true rfl) rfl (by decide +kernel) (y_rme (c1 := 24) (s1 := 144) mcs_140 mcs_141 hn (by decide)) (fun v10 M9 => ?_)
          refine yL.eq (y_if_eq (pc := 124) (t := 213) d141_124 (by decide)) ?_
          refine yL.ite (fun h11 => ?_) (fun h11 => ?_)
          ·
            refine yL.eq (y_iconst (pc := 213) (v := 0) d141_213 kc_0) ?_
            refine yL.eq (y_istore_n (pc := 214) (ls' := [some (.ref 7), some (.int x1), some (.int 0), some (.int x3), some (.int (x1 >>> (x3 &&& 31)))]) d141_214 rfl rfl) ?_
            refine yL.eq (y_iinc (pc := 215) (v := 1) (x := x3) (ls' := [some (.ref 7), some (.int x1), some (.int 0), some (.int (x3 + 1)), some (.int (x1 >>> (x3 &&& 31)))]) d141_215 kc_1 rfl (Nat.le_of_ble_eq_true rfl) rfl) ?_
            refine yL.eq (y_goto (pc := 218) (t := 26) d141_218 (by decide)) ?_
            exact yL.rf
          ·
            refine yL.eq (y_aload_n (pc := 127) (x := 7) d141_127 rfl) ?_
            refine yL.eq (y_bipush (pc := 128) (v := 48) d141_128 kb_48) ?_
            refine yL.eq (y_bipush (pc := 130) (v := 48) d141_130 kb_48) ?_
            refine yL.eq (y_iload (pc := 132) (x := (x1 >>> (x3 &&& 31))) d141_132 rfl) ?_
            refine yL.eq (y_iconst (pc := 134) (v := 3) d141_134 kc_3) ?_
            refine yL.eq (y_imodc (pc := 135) d141_135 nzI_3) ?_
            refine yL.eq (y_iadd (pc := 136) d141_136) ?_
            refine yL.eq (y_bipush (pc := 137) (v := 110) d141_137 kb_110) ?_
            refine yL.eq (y_bipush (pc := 139) (v := 48) d141_139 kb_48) ?_
            refine y_calls_i (pc := 141) (n := 5) (n' := 5) (nc' := nc + 32) (ns' := ns + 192) [.ref 7, .int 48, .int (48 + ((x1 >>> (x3 &&& 31)) % 3)), .int 110, .int 48] [] false d141_141 q141_220 rfl rfl rfl (Nat.le_of_ble_eq_true rfl) (Nat.le_of_ble_eq_true rfl) rfl (by decide +kernel) (y_rme (c1 := 32) (s1 := 192) mcs_140 mcs_141 hn (by decide)) (fun v13 M12 => ?_)
            refine yL.eq (y_if_eq (pc := 144) (t := 213) d141_144 (by decide)) ?_
            refine yL.ite (fun h14 => ?_) (fun h14 => ?_)
            ·
              refine yL.eq (y_iconst (pc := 213) (v := 0) d141_213 kc_0) ?_
              refine yL.eq (y_istore_n (pc := 214) (ls' := [some (.ref 7), some (.int x1), some (.int 0), some (.int x3), some (.int (x1 >>> (x3 &&& 31)))]) d141_214 rfl rfl) ?_
              refine yL.eq (y_iinc (pc := 215) (v := 1) (x := x3) (ls' := [some (.ref 7), some (.int x1), some (.int 0), some (.int (x3 + 1)), some (.int (x1 >>> (x3 &&& 31)))]) d141_215 kc_1 rfl (Nat.le_of_ble_eq_true rfl) rfl) ?_
              refine yL.eq (y_goto (pc := 218) (t := 26) d141_218 (by decide)) ?_
              exact yL.rf
            ·
              refine yL.eq (y_aload_n (pc := 147) (x := 7) d141_147 rfl) ?_
              refine yL.eq (y_bipush (pc := 148) (v := 48) d141_148 kb_48) ?_
              refine yL.eq (y_iload (pc := 150) (x := (x1 >>> (x3 &&& 31))) d141_150 rfl) ?_
              refine yL.eq (y_iconst (pc := 152) (v := 4) d141_152 kc_4) ?_
              refine yL.eq (y_imodc (pc := 153) d141_153 nzI_4) ?_
              refine yL.eq (y_iadd (pc := 154) d141_154) ?_
              refine yL.eq (y_bipush (pc := 155) (v := 48) d141_155 kb_48) ?_
              refine yL.eq (y_bipush (pc := 157) (v := 48) d141_157 kb_48) ?_
              refine yL.eq (y_iload (pc := 159) (x := (x1 >>> (x3 &&& 31))) d141_159 rfl) ?_
              refine yL.eq (y_iconst (pc := 161) (v := 4) d141_161 kc_4) ?_
              refine yL.eq (y_idivc (pc := 162) d141_162 nzI_4) ?_
              refine yL.eq (y_iconst (pc := 163) (v := 4) d141_163 kc_4) ?_
              refine yL.eq (y_imodc (pc := 164) d141_164 nzI_4) ?_
              refine yL.eq (y_iadd (pc := 165) d141_165) ?_
              refine yL.eq (y_bipush (pc := 166) (v := 107) d141_166 kb_107) ?_
              refine y_calls_i (pc := 168) (n := 5) (n' := 5) (nc' := nc + 40) (ns' := ns + 240) [.ref 7, .int (48 + ((x1 >>> (x3 &&& 31)) % 4)), .int 48, .int (48 + (((x1 >>> (x3 &&& 31)) / 4) % 4)), .int 107] [] false d141_168 q141_220 rfl rfl rfl (Nat.le_of_ble_eq_true rfl) (Nat.le_of_ble_eq_true rfl) rfl (by decide +kernel) (y_rme (c1 := 40) (s1 := 240) mcs_140 mcs_141 hn (by decide)) (fun v16 M15 => ?_)
              refine yL.eq (y_if_eq (pc := 171) (t := 213) d141_171 (by decide)) ?_
              refine yL.ite (fun h17 => ?_) (fun h17 => ?_)
              ·
                refine yL.eq (y_iconst (pc := 213) (v := 0) d141_213 kc_0) ?_
                refine yL.eq (y_istore_n (pc := 214) (ls' := [some (.ref 7), some (.int x1), some (.int 0), some (.int x3), some (.int (x1 >>> (x3 &&& 31)))]) d141_214 rfl rfl) ?_
                refine yL.eq (y_iinc (pc := 215) (v := 1) (x := x3) (ls' := [some (.ref 7), some (.int x1), some (.int 0), some (.int (x3 + 1)), some (.int (x1 >>> (x3 &&& 31)))]) d141_215 kc_1 rfl (Nat.le_of_ble_eq_true rfl) rfl) ?_
                refine yL.eq (y_goto (pc := 218) (t := 26) d141_218 (by decide)) ?_
                exact yL.rf
              ·
                refine yL.eq (y_aload_n (pc := 174) (x := 7) d141_174 rfl) ?_
                refine yL.eq (y_bipush (pc := 175) (v := 48) d141_175 kb_48) ?_
                refine yL.eq (y_iload (pc := 177) (x := (x1 >>> (x3 &&& 31))) d141_177 rfl) ?_
                refine yL.eq (y_iconst (pc := 179) (v := 4) d141_179 kc_4) ?_
                refine yL.eq (y_imodc (pc := 180) d141_180 nzI_4) ?_
                refine yL.eq (y_iadd (pc := 181) d141_181) ?_
                refine y_calls_j (pc := 182) (n := 2) (n' := 3) (nc' := nc + 42) (ns' := ns + 252) [.ref 7, .int (48 + ((x1 >>> (x3 &&& 31)) % 4))] [] false d141_182 q141_183 rfl rfl rfl (Nat.le_of_ble_eq_true rfl) (Nat.le_of_ble_eq_true rfl) rfl (by decide +kernel) (y_rme (c1 := 42) (s1 := 252) mcs_107 mcs_141 hn (by decide)) (fun v19 M18 => ?_)
                refine yL.eq (y_lconst (pc := 185) (v := 0) d141_185 kl_0) ?_
                refine yL.eq (y_lcmp (pc := 186) d141_186) ?_
                refine yL.eq (y_lif_le (pc := 187) (t := 213) d141_187 (by decide)) ?_
                refine yL.ite (fun h20 => ?_) (fun h20 => ?_)
                ·
                  refine yL.eq (y_iconst (pc := 213) (v := 0) d141_213 kc_0) ?_
                  refine yL.eq (y_istore_n (pc := 214) (ls' := [some (.ref 7), some (.int x1), some (.int 0), some (.int x3), some (.int (x1 >>> (x3 &&& 31)))]) d141_214 rfl rfl) ?_
                  refine yL.eq (y_iinc (pc := 215) (v := 1) (x := x3) (ls' := [some (.ref 7), some (.int x1), some (.int 0), some (.int (x3 + 1)), some (.int (x1 >>> (x3 &&& 31)))]) d141_215 kc_1 rfl (Nat.le_of_ble_eq_true rfl) rfl) ?_
                  refine yL.eq (y_goto (pc := 218) (t := 26) d141_218 (by decide)) ?_
                  exact yL.rf
                ·
                  refine yL.eq (y_aload_n (pc := 190) (x := 7) d141_190 rfl) ?_
                  refine yL.eq (y_bipush (pc := 191) (v := 48) d141_191 kb_48) ?_
                  refine yL.eq (y_iload (pc := 193) (x := (x1 >>> (x3 &&& 31))) d141_193 rfl) ?_
                  refine yL.eq (y_bipush (pc := 195) (v := 7) d141_195 kb_7) ?_
                  refine yL.eq (y_idivc (pc := 197) d141_197 nzI_7) ?_
                  refine yL.eq (y_iconst (pc := 198) (v := 4) d141_198 kc_4) ?_
                  refine yL.eq (y_imodc (pc := 199) d141_199 nzI_4) ?_
                  refine yL.eq (y_iadd (pc := 200) d141_200) ?_
                  refine y_calls_j (pc := 201) (n := 2) (n' := 3) (nc' := nc + 44) (ns' := ns + 264) [.ref 7, .int (48 + (((x1 >>> (x3 &&& 31)) / 7) % 4))] [] false d141_201 q141_183 rfl rfl rfl (Nat.le_of_ble_eq_true rfl) (Nat.le_of_ble_eq_true rfl) rfl (by decide +kernel) (y_rme (c1 := 44) (s1 := 264) mcs_107 mcs_141 hn (by decide)) (fun v22 M21 => ?_)
                  refine yL.eq (y_lconst (pc := 204) (v := 0) d141_204 kl_0) ?_
                  refine yL.eq (y_lcmp (pc := 205) d141_205) ?_
                  refine yL.eq (y_lif_le (pc := 206) (t := 213) d141_206 (by decide)) ?_
                  refine yL.ite (fun h23 => ?_) (fun h23 => ?_)
                  ·
                    refine yL.eq (y_iconst (pc := 213) (v := 0) d141_213 kc_0) ?_
                    refine yL.eq (y_istore_n (pc := 214) (ls' := [some (.ref 7), some (.int x1), some (.int 0), some (.int x3), some (.int (x1 >>> (x3 &&& 31)))]) d141_214 rfl rfl) ?_
                    refine yL.eq (y_iinc (pc := 215) (v := 1) (x := x3) (ls' := [some (.ref 7), some (.int x1), some (.int 0), some (.int (x3 + 1)), some (.int (x1 >>> (x3 &&& 31)))]) d141_215 kc_1 rfl (Nat.le_of_ble_eq_true rfl) rfl) ?_
                    refine yL.eq (y_goto (pc := 218) (t := 26) d141_218 (by decide)) ?_
                    exact yL.rf
                  ·
                    refine yL.eq (y_iconst (pc := 209) (v := 1) d141_209 kc_1) ?_
                    refine yL.eq (y_goto (pc := 210) (t := 214) d141_210 (by decide)) ?_
                    refine yL.eq (y_istore_n (pc := 214) (ls' := [some (.ref 7), some (.int x1), some (.int 1), some (.int x3), some (.int (x1 >>> (x3 &&& 31)))]) d141_214 rfl rfl) ?_
                    refine yL.eq (y_iinc (pc := 215) (v := 1) (x := x3) (ls' := [some (.ref 7), some (.int x1), some (.int 1), some (.int (x3 + 1)), some (.int (x1 >>> (x3 &&& 31)))]) d141_215 kc_1 rfl (Nat.le_of_ble_eq_true rfl) rfl) ?_
                    refine yL.eq (y_goto (pc := 218) (t := 26) d141_218 (by decide)) ?_
                    exact yL.rf
  ·
    exact yL.rf
set_option maxRecDepth 20000 in
set_option maxHeartbeats 4000000 in
theorem e141_221 {x1 : Int32} {x2 : Int32} {o3 : Option Value} {o4 : Option Value} {M : yM} {nc ns : Nat} (hn : nc + 60 ≤ 300 ∧ ns + 360 ≤ 1800) : yL (if x2 = 0 then yI 0 M else yCi false (yX 140 0 [some (.ref 7), some (.int 118), some (.int 49), some (.int (48 + (x1 % 10))), some (.int 114)] [] M 0 0) fun v3 M2 => if v3 = 0 then yI 0 M2 else yCj false (yX 107 0 [some (.ref 7), some (.int (48 + (x1 % 4))), none] [] M2 0 0) fun v6 M5 => if v6 ≤ 0 then yI 0 M5 else yCi false (yX 60 0 [some (.ref 7)] [] M5 0 0) fun v9 M8 => if v9 = (-1) then yI 1 M8 else yI 0 M8) (yX 141 221 [some (.ref 7), some (.int x1), some (.int x2), o3, o4] [] M nc ns) := by
  refine yL.eq (y_iload_n (pc := 221) (x := x2) d141_221 rfl) ?_
  refine yL.eq (y_if_eq (pc := 222) (t := 272) d141_222 (by decide)) ?_
  refine yL.ite (fun h1 => ?_) (fun h1 => ?_)
  ·
    refine yL.eq (y_iconst (pc := 272) (v := 0) d141_272 kc_0) ?_
    exact yL.eq (y_iretz (pc := 273) d141_273 mr_141) (yL.eq yZ_0 yL.rf)
  ·
    refine yL.eq (y_aload_n (pc := 225) (x := 7) d141_225 rfl) ?_
    refine yL.eq (y_bipush (pc := 226) (v := 118) d141_226 kb_118) ?_
    refine yL.eq (y_bipush (pc := 228) (v := 49) d141_228 kb_49) ?_
    refine yL.eq (y_bipush (pc := 230) (v := 48) d141_230 kb_48) ?_
    refine yL.eq (y_iload_n (pc := 232) (x := x1) d141_232 rfl) ?_
    refine yL.eq (y_bipush (pc := 233) (v := 10) d141_233 kb_10) ?_
    refine yL.eq (y_imodc (pc := 235) d141_235 nzI_10) ?_
    refine yL.eq (y_iadd (pc := 236) d141_236) ?_
    refine yL.eq (y_bipush (pc := 237) (v := 114) d141_237 kb_114) ?_
    refine y_calls_i (pc := 239) (n := 5) (n' := 5) (nc' := nc + 8) (ns' := ns + 48) [.ref 7, .int 118, .int 49, .int (48 + (x1 % 10)), .int 114] [] false d141_239 q141_220 rfl rfl rfl (Nat.le_of_ble_eq_true rfl) (Nat.le_of_ble_eq_true rfl) rfl (by decide +kernel) (y_rmc mcs_140 mcs_141 hn (by decide)) (fun v3 M2 => ?_)
    refine yL.eq (y_if_eq (pc := 242) (t := 272) d141_242 (by decide)) ?_
    refine yL.ite (fun h4 => ?_) (fun h4 => ?_)
    ·
      refine yL.eq (y_iconst (pc := 272) (v := 0) d141_272 kc_0) ?_
      exact yL.eq (y_iretz (pc := 273) d141_273 mr_141) (yL.eq yZ_0 yL.rf)
    ·
      refine yL.eq (y_aload_n (pc := 245) (x := 7) d141_245 rfl) ?_
      refine yL.eq (y_bipush (pc := 246) (v := 48) d141_246 kb_48) ?_
      refine yL.eq (y_iload_n (pc := 248) (x := x1) d141_248 rfl) ?_
      refine yL.eq (y_iconst (pc := 249) (v := 4) d141_249 kc_4) ?_
      refine yL.eq (y_imodc (pc := 250) d141_250 nzI_4) ?_
      refine yL.eq (y_iadd (pc := 251) d141_251) ?_
      refine y_calls_j (pc := 252) (n := 2) (n' := 3) (nc' := nc + 10) (ns' := ns + 60) [.ref 7, .int (48 + (x1 % 4))] [] false d141_252 q141_183 rfl rfl rfl (Nat.le_of_ble_eq_true rfl) (Nat.le_of_ble_eq_true rfl) rfl (by decide +kernel) (y_rme (c1 := 10) (s1 := 60) mcs_107 mcs_141 hn (by decide)) (fun v6 M5 => ?_)
      refine yL.eq (y_lconst (pc := 255) (v := 0) d141_255 kl_0) ?_
      refine yL.eq (y_lcmp (pc := 256) d141_256) ?_
      refine yL.eq (y_lif_le (pc := 257) (t := 272) d141_257 (by decide)) ?_
      refine yL.ite (fun h7 => ?_) (fun h7 => ?_)
      ·
        refine yL.eq (y_iconst (pc := 272) (v := 0) d141_272 kc_0) ?_
        exact yL.eq (y_iretz (pc := 273) d141_273 mr_141) (yL.eq yZ_0 yL.rf)
      ·
        refine yL.eq (y_aload_n (pc := 260) (x := 7) d141_260 rfl) ?_
        refine y_callv_i (pc := 261) (n := 1) (n' := 1) (nc' := nc + 10) (ns' := ns + 60) [] [] false d141_261 q141_212 mk_60 s_t_7 rfl rfl (Nat.le_of_ble_eq_true rfl) (Nat.le_of_ble_eq_true rfl) rfl (by decide +kernel) (y_rmd mcs_60 mcs_141 hn (by decide)) (fun v9 M8 => ?_)
        refine yL.eq (y_iconst (pc := 264) (v := (-1)) d141_264 kc_m1) ?_
        refine yL.eq (y_icmp_ne (pc := 265) (t := 272) d141_265 (by decide)) ?_
        refine yL.ite (fun h10 => ?_) (fun h10 => ?_)
        ·
          refine yL.eq (y_iconst (pc := 268) (v := 1) d141_268 kc_1) ?_
          refine yL.eq (y_goto (pc := 269) (t := 273) d141_269 (by decide)) ?_
          exact yL.eq (y_iretz (pc := 273) d141_273 mr_141) (yL.eq yZ_1 yL.rf)
        ·
          refine yL.eq (y_iconst (pc := 272) (v := 0) d141_272 kc_0) ?_
          exact yL.eq (y_iretz (pc := 273) d141_273 mr_141) (yL.eq yZ_0 yL.rf)
set_option maxRecDepth 20000 in
set_option maxHeartbeats 4000000 in
theorem e143_16 {o3 : Option Value} {o4 : Option Value} {o5 : Option Value} {o6 : Option Value} {M : yM} {nc ns : Nat} (hn : nc + 14500 ≤ 600130 ∧ ns + 87000 ≤ 7301079) : yL (yCi false (yX 105 0 [some (.ref 0), some (.int 0)] [] M 0 0) fun v2 M1 => yCi false (yX 139 0 [some (.ref 7), some (.ref 190), some (.int v2)] [] M1 0 0) fun v4 M3 => if v4 = 0 then yX 143 52 [some (.ref 0), some (.ref 7), some (.ref 190), some (.int 0), some (.int 0), o5, o6] [] M3 (nc + 1000) (ns + 6000) else yCi false (yX 136 0 [some (.ref 7), none, none, none, none, none] [] M3 0 0) fun v7 M6 => if v7 = 0 then yX 143 52 [some (.ref 0), some (.ref 7), some (.ref 190), some (.int 0), some (.int 0), o5, o6] [] M6 (nc + 2500) (ns + 15000) else yCi false (yX 137 0 [some (.ref 7), none, none, none, none, none, none, none, none, none, none, none, none, none, none, none, none, none, none, none] [] M6 0 0) fun v10 M9 => if v10 = 0 then yX 143 52 [some (.ref 0), some (.ref 7), some (.ref 190), some (.int 0), some (.int 0), o5, o6] [] M9 (nc + 8500) (ns + 51000) else yX 143 52 [some (.ref 0), some (.ref 7), some (.ref 190), some (.int 1), some (.int 0), o5, o6] [] M9 (nc + 8500) (ns + 51000)) (yX 143 16 [some (.ref 0), some (.ref 7), some (.ref 190), o3, o4, o5, o6] [] M nc ns) := by
  refine yL.eq (y_aload_n (pc := 16) (x := 7) d143_16 rfl) ?_
  refine yL.eq (y_aload_n (pc := 17) (x := 190) d143_17 rfl) ?_
  refine yL.eq (y_aload_n (pc := 18) (x := 0) d143_18 rfl) ?_
  refine yL.eq (y_iconst (pc := 19) (v := 0) d143_19 kc_0) ?_
  refine y_calls_i (pc := 20) (n := 2) (n' := 2) (nc' := nc) (ns' := ns) [.ref 0, .int 0] [.ref 190, .ref 7] false d143_20 q143_225 rfl rfl rfl (Nat.le_of_ble_eq_true rfl) (Nat.le_of_ble_eq_true rfl) rfl (by decide +kernel) (y_rm0 mcs_105 mcs_143 hn) (fun v2 M1 => ?_)
  refine y_calls_i (pc := 23) (n := 3) (n' := 3) (nc' := nc + 1000) (ns' := ns + 6000) [.ref 7, .ref 190, .int v2] [] false d143_23 q143_229 rfl rfl rfl (Nat.le_of_ble_eq_true rfl) (Nat.le_of_ble_eq_true rfl) rfl (by decide +kernel) (y_rmc mcs_139 mcs_143 hn (by decide)) (fun v4 M3 => ?_)
  refine yL.eq (y_if_eq (pc := 26) (t := 47) d143_26 (by decide)) ?_
  refine yL.ite (fun h5 => ?_) (fun h5 => ?_)
  ·
    refine yL.eq (y_iconst (pc := 47) (v := 0) d143_47 kc_0) ?_
    refine yL.eq (y_istore_n (pc := 48) (ls' := [some (.ref 0), some (.ref 7), some (.ref 190), some (.int 0), o4, o5, o6]) d143_48 rfl rfl) ?_
    refine yL.eq (y_iconst (pc := 49) (v := 0) d143_49 kc_0) ?_
    refine yL.eq (y_istore (pc := 50) (ls' := [some (.ref 0), some (.ref 7), some (.ref 190), some (.int 0), some (.int 0), o5, o6]) d143_50 rfl rfl) ?_
    exact yL.rf
  ·
    refine yL.eq (y_aload_n (pc := 29) (x := 7) d143_29 rfl) ?_
    refine y_calls_i (pc := 30) (n := 1) (n' := 6) (nc' := nc + 2500) (ns' := ns + 15000) [.ref 7] [] false d143_30 q143_233 rfl rfl rfl (Nat.le_of_ble_eq_true rfl) (Nat.le_of_ble_eq_true rfl) rfl (by decide +kernel) (y_rme (c1 := 2500) (s1 := 15000) mcs_136 mcs_143 hn (by decide)) (fun v7 M6 => ?_)
    refine yL.eq (y_if_eq (pc := 33) (t := 47) d143_33 (by decide)) ?_
    refine yL.ite (fun h8 => ?_) (fun h8 => ?_)
    ·
      refine yL.eq (y_iconst (pc := 47) (v := 0) d143_47 kc_0) ?_
      refine yL.eq (y_istore_n (pc := 48) (ls' := [some (.ref 0), some (.ref 7), some (.ref 190), some (.int 0), o4, o5, o6]) d143_48 rfl rfl) ?_
      refine yL.eq (y_iconst (pc := 49) (v := 0) d143_49 kc_0) ?_
      refine yL.eq (y_istore (pc := 50) (ls' := [some (.ref 0), some (.ref 7), some (.ref 190), some (.int 0), some (.int 0), o5, o6]) d143_50 rfl rfl) ?_
      exact yL.rf
    ·
      refine yL.eq (y_aload_n (pc := 36) (x := 7) d143_36 rfl) ?_
      refine y_calls_i (pc := 37) (n := 1) (n' := 20) (nc' := nc + 8500) (ns' := ns + 51000) [.ref 7] [] false d143_37 q143_237 rfl rfl rfl (Nat.le_of_ble_eq_true rfl) (Nat.le_of_ble_eq_true rfl) rfl (by decide +kernel) (y_rme (c1 := 8500) (s1 := 51000) mcs_137 mcs_143 hn (by decide)) (fun v10 M9 => ?_)
      refine yL.eq (y_if_eq (pc := 40) (t := 47) d143_40 (by decide)) ?_
      refine yL.ite (fun h11 => ?_) (fun h11 => ?_)
      ·
        refine yL.eq (y_iconst (pc := 47) (v := 0) d143_47 kc_0) ?_
        refine yL.eq (y_istore_n (pc := 48) (ls' := [some (.ref 0), some (.ref 7), some (.ref 190), some (.int 0), o4, o5, o6]) d143_48 rfl rfl) ?_
        refine yL.eq (y_iconst (pc := 49) (v := 0) d143_49 kc_0) ?_
        refine yL.eq (y_istore (pc := 50) (ls' := [some (.ref 0), some (.ref 7), some (.ref 190), some (.int 0), some (.int 0), o5, o6]) d143_50 rfl rfl) ?_
        exact yL.rf
      ·
        refine yL.eq (y_iconst (pc := 43) (v := 1) d143_43 kc_1) ?_
        refine yL.eq (y_goto (pc := 44) (t := 48) d143_44 (by decide)) ?_
        refine yL.eq (y_istore_n (pc := 48) (ls' := [some (.ref 0), some (.ref 7), some (.ref 190), some (.int 1), o4, o5, o6]) d143_48 rfl rfl) ?_
        refine yL.eq (y_iconst (pc := 49) (v := 0) d143_49 kc_0) ?_
        refine yL.eq (y_istore (pc := 50) (ls' := [some (.ref 0), some (.ref 7), some (.ref 190), some (.int 1), some (.int 0), o5, o6]) d143_50 rfl rfl) ?_
        exact yL.rf
set_option maxRecDepth 20000 in
set_option maxHeartbeats 4000000 in
theorem e143_52 {x3 : Int32} {x4 : Int32} {o5 : Option Value} {o6 : Option Value} {M : yM} {nc ns : Nat} (hn : nc + 14500 ≤ 600130 ∧ ns + 87000 ≤ 7301079) : yL (if x4 < 40 then if x3 = 0 then if x3 = 0 then yI 0 M else yCi false (yX 139 0 [some (.ref 7), some (.ref 190), some (.int 10799)] [] M 0 0) fun v5 M4 => if v5 = 0 then yI 0 M4 else yI 1 M4 else yCi false (yX 105 0 [some (.ref 0), some (.int (2 * x4))] [] M 0 0) fun v8 M7 => yCi false (yX 105 0 [some (.ref 0), some (.int ((2 * x4) + 1))] [] M7 0 0) fun v10 M9 => if x4 = 0 then yCi false (yX 141 0 [some (.ref 7), some (.int v8), none, none, none] [] M9 0 0) fun v13 M12 => if v13 = 0 then yX 143 52 [some (.ref 0), some (.ref 7), some (.ref 190), some (.int 0), some (.int (x4 + 1)), some (.int v8), some (.int v10)] [] M12 (nc + 300) (ns + 1800) else yCi false (yX 141 0 [some (.ref 190), some (.int v8), none, none, none] [] M12 0 0) fun v16 M15 => if v16 = 0 then yX 143 52 [some (.ref 0), some (.ref 7), some (.ref 190), some (.int 0), some (.int (x4 + 1)), some (.int v8), some (.int v10)] [] M15 (nc + 600) (ns + 3600) else yCj false (yX 108 0 [some (.ref 7), none] [] M15 0 0) fun v19 M18 => yCj false (yX 108 0 [some (.ref 190), none] [] M18 0 0) fun v21 M20 => if v19 = v21 then yX 143 52 [some (.ref 0), some (.ref 7), some (.ref 190), some (.int 1), some (.int (x4 + 1)), some (.int v8), some (.int v10)] [] M20 (nc + 602) (ns + 3612) else yX 143 52 [some (.ref 0), some (.ref 7), some (.ref 190), some (.int 0), some (.int (x4 + 1)), some (.int v8), some (.int v10)] [] M20 (nc + 602) (ns + 3612) else yCj false (yX 142 0 [some (.ref 7), some (.int v8), some (.int v10), none] [] M9 0 0) fun v24 M23 => yCj false (yX 142 0 [some (.ref 190), some (.int v8), some (.int v10), none] [] M23 0 0) fun v26 M25 => if v24 = v26 then if (x4 % 8) = 3 then yCi false (yX 136 0 [some (.ref 190), none, none, none, none, none] [] M25 0 0) fun v30 M29 => if v30 = 0 then yX 143 188 [some (.ref 0), some (.ref 7), some (.ref 190), some (.int 0), some (.int x4), some (.int v8), some (.int v10)] [] M29 (nc + 1562) (ns + 9372) else yCi false (yX 137 0 [some (.ref 190), none, none, none, none, none, none, none, none, none, none, none, none, none, none, none, none, none, none, none] [] M29 0 0) fun v33 M32 => if v33 = 0 then yX 143 188 [some (.ref 0), some (.ref 7), some (.ref 190), some (.int 0), some (.int x4), some (.int v8), some (.int v10)] [] M32 (nc + 7562) (ns + 45372) else yX 143 188 [some (.ref 0), some (.ref 7), some (.ref 190), some (.int 1), some (.int x4), some (.int v8), some (.int v10)] [] M32 (nc + 7562) (ns + 45372) else yX 143 188 [some (.ref 0), some (.ref 7), some (.ref 190), some (.int 1), some (.int x4), some (.int v8), some (.int v10)] [] M25 (nc + 62) (ns + 372) else if (x4 % 8) = 3 then yX 143 188 [some (.ref 0), some (.ref 7), some (.ref 190), some (.int 0), some (.int x4), some (.int v8), some (.int v10)] [] M25 (nc + 62) (ns + 372) else yX 143 188 [some (.ref 0), some (.ref 7), some (.ref 190), some (.int 0), some (.int x4), some (.int v8), some (.int v10)] [] M25 (nc + 62) (ns + 372) else if x3 = 0 then yI 0 M else yCi false (yX 139 0 [some (.ref 7), some (.ref 190), some (.int 10799)] [] M 0 0) fun v38 M37 => if v38 = 0 then yI 0 M37 else yI 1 M37) (yX 143 52 [some (.ref 0), some (.ref 7), some (.ref 190), some (.int x3), some (.int x4), o5, o6] [] M nc ns) := by
  refine yL.eq (y_iload (pc := 52) (x := x4) d143_52 rfl) ?_
  refine yL.eq (y_bipush (pc := 54) (v := 40) d143_54 kb_40) ?_
  refine yL.eq (y_icmp_ge (pc := 56) (t := 271) d143_56 (by decide)) ?_
  refine yL.ite (fun h1 => ?_) (fun h1 => ?_)
  ·
    refine yL.eq (y_iload_n (pc := 59) (x := x3) d143_59 rfl) ?_
    refine yL.eq (y_if_eq (pc := 60) (t := 271) d143_60 (by decide)) ?_
    refine yL.ite (fun h2 => ?_) (fun h2 => ?_)
    ·
      refine yL.eq (y_iload_n (pc := 271) (x := x3) d143_271 rfl) ?_
      refine yL.eq (y_if_eq (pc := 272) (t := 290) d143_272 (by decide)) ?_
      refine yL.ite (fun h3 => ?_) (fun h3 => ?_)
      ·
        refine yL.eq (y_iconst (pc := 290) (v := 0) d143_290 kc_0) ?_
        exact yL.eq (y_iretz (pc := 291) d143_291 mr_143) (yL.eq yZ_0 yL.rf)
      ·
        refine yL.eq (y_aload_n (pc := 275) (x := 7) d143_275 rfl) ?_
        refine yL.eq (y_aload_n (pc := 276) (x := 190) d143_276 rfl) ?_
        refine yL.eq (y_sipush (pc := 277) (v := 10799) d143_277 ks_10799) ?_
        refine y_calls_i (pc := 280) (n := 3) (n' := 3) (nc' := nc + 1000) (ns' := ns + 6000) [.ref 7, .ref 190, .int 10799] [] false d143_280 q143_229 rfl rfl rfl (Nat.le_of_ble_eq_true rfl) (Nat.le_of_ble_eq_true rfl) rfl (by decide +kernel) (y_rmc mcs_139 mcs_143 hn (by decide)) (fun v5 M4 => ?_)
        refine yL.eq (y_if_eq (pc := 283) (t := 290) d143_283 (by decide)) ?_
        refine yL.ite (fun h6 => ?_) (fun h6 => ?_)
        ·
          refine yL.eq (y_iconst (pc := 290) (v := 0) d143_290 kc_0) ?_
          exact yL.eq (y_iretz (pc := 291) d143_291 mr_143) (yL.eq yZ_0 yL.rf)
        ·
          refine yL.eq (y_iconst (pc := 286) (v := 1) d143_286 kc_1) ?_
          refine yL.eq (y_goto (pc := 287) (t := 291) d143_287 (by decide)) ?_
          exact yL.eq (y_iretz (pc := 291) d143_291 mr_143) (yL.eq yZ_1 yL.rf)
    ·
      refine yL.eq (y_aload_n (pc := 63) (x := 0) d143_63 rfl) ?_
      refine yL.eq (y_iconst (pc := 64) (v := 2) d143_64 kc_2) ?_
      refine yL.eq (y_iload (pc := 65) (x := x4) d143_65 rfl) ?_
      refine yL.eq (y_imul (pc := 67) d143_67) ?_
      refine y_calls_i (pc := 68) (n := 2) (n' := 2) (nc' := nc) (ns' := ns) [.ref 0, .int (2 * x4)] [] false d143_68 q143_225 rfl rfl rfl (Nat.le_of_ble_eq_true rfl) (Nat.le_of_ble_eq_true rfl) rfl (by decide +kernel) (y_rm0 mcs_105 mcs_143 hn) (fun v8 M7 => ?_)
      refine yL.eq (y_istore (pc := 71) (ls' := [some (.ref 0), some (.ref 7), some (.ref 190), some (.int x3), some (.int x4), some (.int v8), o6]) d143_71 rfl rfl) ?_
      refine yL.eq (y_aload_n (pc := 73) (x := 0) d143_73 rfl) ?_
      refine yL.eq (y_iconst (pc := 74) (v := 2) d143_74 kc_2) ?_
      refine yL.eq (y_iload (pc := 75) (x := x4) d143_75 rfl) ?_
      refine yL.eq (y_imul (pc := 77) d143_77) ?_
      refine yL.eq (y_iconst (pc := 78) (v := 1) d143_78 kc_1) ?_
      refine yL.eq (y_iadd (pc := 79) d143_79) ?_
      refine y_calls_i (pc := 80) (n := 2) (n' := 2) (nc' := nc) (ns' := ns) [.ref 0, .int ((2 * x4) + 1)] [] false d143_80 q143_225 rfl rfl rfl (Nat.le_of_ble_eq_true rfl) (Nat.le_of_ble_eq_true rfl) rfl (by decide +kernel) (y_rm0 mcs_105 mcs_143 hn) (fun v10 M9 => ?_)
      refine yL.eq (y_istore (pc := 83) (ls' := [some (.ref 0), some (.ref 7), some (.ref 190), some (.int x3), some (.int x4), some (.int v8), some (.int v10)]) d143_83 rfl rfl) ?_
      refine yL.eq (y_iload (pc := 85) (x := x4) d143_85 rfl) ?_
      refine yL.eq (y_if_ne (pc := 87) (t := 129) d143_87 (by decide)) ?_
      refine yL.ite (fun h11 => ?_) (fun h11 => ?_)
      ·
        refine yL.eq (y_aload_n (pc := 90) (x := 7) d143_90 rfl) ?_
        refine yL.eq (y_iload (pc := 91) (x := v8) d143_91 rfl) ?_
        refine y_calls_i (pc := 93) (n := 2) (n' := 5) (nc' := nc + 300) (ns' := ns + 1800) [.ref 7, .int v8] [] false d143_93 q143_240 rfl rfl rfl (Nat.le_of_ble_eq_true rfl) (Nat.le_of_ble_eq_true rfl) rfl (by decide +kernel) (y_rmc mcs_141 mcs_143 hn (by decide)) (fun v13 M12 => ?_)
        refine yL.eq (y_if_eq (pc := 96) (t := 124) d143_96 (by decide)) ?_
        refine yL.ite (fun h14 => ?_) (fun h14 => ?_)
        ·
          refine yL.eq (y_iconst (pc := 124) (v := 0) d143_124 kc_0) ?_
          refine yL.eq (y_istore_n (pc := 125) (ls' := [some (.ref 0), some (.ref 7), some (.ref 190), some (.int 0), some (.int x4), some (.int v8), some (.int v10)]) d143_125 rfl rfl) ?_
          refine yL.eq (y_goto (pc := 126) (t := 265) d143_126 (by decide)) ?_
          refine yL.eq (y_iinc (pc := 265) (v := 1) (x := x4) (ls' := [some (.ref 0), some (.ref 7), some (.ref 190), some (.int 0), some (.int (x4 + 1)), some (.int v8), some (.int v10)]) d143_265 kc_1 rfl (Nat.le_of_ble_eq_true rfl) rfl) ?_
          refine yL.eq (y_goto (pc := 268) (t := 52) d143_268 (by decide)) ?_
          exact yL.rf
        ·
          refine yL.eq (y_aload_n (pc := 99) (x := 190) d143_99 rfl) ?_
          refine yL.eq (y_iload (pc := 100) (x := v8) d143_100 rfl) ?_
          refine y_calls_i (pc := 102) (n := 2) (n' := 5) (nc' := nc + 600) (ns' := ns + 3600) [.ref 190, .int v8] [] false d143_102 q143_240 rfl rfl rfl (Nat.le_of_ble_eq_true rfl) (Nat.le_of_ble_eq_true rfl) rfl (by decide +kernel) (y_rme (c1 := 600) (s1 := 3600) mcs_141 mcs_143 hn (by decide)) (fun v16 M15 => ?_)
          refine yL.eq (y_if_eq (pc := 105) (t := 124) d143_105 (by decide)) ?_
          refine yL.ite (fun h17 => ?_) (fun h17 => ?_)
          ·
            refine yL.eq (y_iconst (pc := 124) (v := 0) d143_124 kc_0) ?_
            refine yL.eq (y_istore_n (pc := 125) (ls' := [some (.ref 0), some (.ref 7), some (.ref 190), some (.int 0), some (.int x4), some (.int v8), some (.int v10)]) d143_125 rfl rfl) ?_
            refine yL.eq (y_goto (pc := 126) (t := 265) d143_126 (by decide)) ?_
            refine yL.eq (y_iinc (pc := 265) (v := 1) (x := x4) (ls' := [some (.ref 0), some (.ref 7), some (.ref 190), some (.int 0), some (.int (x4 + 1)), some (.int v8), some (.int v10)]) d143_265 kc_1 rfl (Nat.le_of_ble_eq_true rfl) rfl) ?_
            refine yL.eq (y_goto (pc := 268) (t := 52) d143_268 (by decide)) ?_
            exact yL.rf
          ·
            refine yL.eq (y_aload_n (pc := 108) (x := 7) d143_108 rfl) ?_
            refine y_calls_j (pc := 109) (n := 1) (n' := 2) (nc' := nc + 601) (ns' := ns + 3606) [.ref 7] [] false d143_109 q143_244 rfl rfl rfl (Nat.le_of_ble_eq_true rfl) (Nat.le_of_ble_eq_true rfl) rfl (by decide +kernel) (y_rme (c1 := 601) (s1 := 3606) mcs_108 mcs_143 hn (by decide)) (fun v19 M18 => ?_)
            refine yL.eq (y_aload_n (pc := 112) (x := 190) d143_112 rfl) ?_
            refine y_calls_j (pc := 113) (n := 1) (n' := 2) (nc' := nc + 602) (ns' := ns + 3612) [.ref 190] [.long v19] false d143_113 q143_244 rfl rfl rfl (Nat.le_of_ble_eq_true rfl) (Nat.le_of_ble_eq_true rfl) rfl (by decide +kernel) (y_rme (c1 := 602) (s1 := 3612) mcs_108 mcs_143 hn (by decide)) (fun v21 M20 => ?_)
            refine yL.eq (y_lcmp (pc := 116) d143_116) ?_
            refine yL.eq (y_lif_ne (pc := 117) (t := 124) d143_117 (by decide)) ?_
            refine yL.ite (fun h22 => ?_) (fun h22 => ?_)
            ·
              refine yL.eq (y_iconst (pc := 120) (v := 1) d143_120 kc_1) ?_
              refine yL.eq (y_goto (pc := 121) (t := 125) d143_121 (by decide)) ?_
              refine yL.eq (y_istore_n (pc := 125) (ls' := [some (.ref 0), some (.ref 7), some (.ref 190), some (.int 1), some (.int x4), some (.int v8), some (.int v10)]) d143_125 rfl rfl) ?_
              refine yL.eq (y_goto (pc := 126) (t := 265) d143_126 (by decide)) ?_
              refine yL.eq (y_iinc (pc := 265) (v := 1) (x := x4) (ls' := [some (.ref 0), some (.ref 7), some (.ref 190), some (.int 1), some (.int (x4 + 1)), some (.int v8), some (.int v10)]) d143_265 kc_1 rfl (Nat.le_of_ble_eq_true rfl) rfl) ?_
              refine yL.eq (y_goto (pc := 268) (t := 52) d143_268 (by decide)) ?_
              exact yL.rf
            ·
              refine yL.eq (y_iconst (pc := 124) (v := 0) d143_124 kc_0) ?_
              refine yL.eq (y_istore_n (pc := 125) (ls' := [some (.ref 0), some (.ref 7), some (.ref 190), some (.int 0), some (.int x4), some (.int v8), some (.int v10)]) d143_125 rfl rfl) ?_
              refine yL.eq (y_goto (pc := 126) (t := 265) d143_126 (by decide)) ?_
              refine yL.eq (y_iinc (pc := 265) (v := 1) (x := x4) (ls' := [some (.ref 0), some (.ref 7), some (.ref 190), some (.int 0), some (.int (x4 + 1)), some (.int v8), some (.int v10)]) d143_265 kc_1 rfl (Nat.le_of_ble_eq_true rfl) rfl) ?_
              refine yL.eq (y_goto (pc := 268) (t := 52) d143_268 (by decide)) ?_
              exact yL.rf
      ·
        refine yL.eq (y_aload_n (pc := 129) (x := 7) d143_129 rfl) ?_
        refine yL.eq (y_iload (pc := 130) (x := v8) d143_130 rfl) ?_
        refine yL.eq (y_iload (pc := 132) (x := v10) d143_132 rfl) ?_
        refine y_calls_j (pc := 134) (n := 3) (n' := 4) (nc' := nc + 31) (ns' := ns + 186) [.ref 7, .int v8, .int v10] [] false d143_134 q143_246 rfl rfl rfl (Nat.le_of_ble_eq_true rfl) (Nat.le_of_ble_eq_true rfl) rfl (by decide +kernel) (y_rmc mcs_142 mcs_143 hn (by decide)) (fun v24 M23 => ?_)
        refine yL.eq (y_aload_n (pc := 137) (x := 190) d143_137 rfl) ?_
        refine yL.eq (y_iload (pc := 138) (x := v8) d143_138 rfl) ?_
        refine yL.eq (y_iload (pc := 140) (x := v10) d143_140 rfl) ?_
        refine y_calls_j (pc := 142) (n := 3) (n' := 4) (nc' := nc + 62) (ns' := ns + 372) [.ref 190, .int v8, .int v10] [.long v24] false d143_142 q143_246 rfl rfl rfl (Nat.le_of_ble_eq_true rfl) (Nat.le_of_ble_eq_true rfl) rfl (by decide +kernel) (y_rme (c1 := 62) (s1 := 372) mcs_142 mcs_143 hn (by decide)) (fun v26 M25 => ?_)
        refine yL.eq (y_lcmp (pc := 145) d143_145) ?_
        refine yL.eq (y_lif_ne (pc := 146) (t := 153) d143_146 (by decide)) ?_
        refine yL.ite (fun h27 => ?_) (fun h27 => ?_)
        ·
          refine yL.eq (y_iconst (pc := 149) (v := 1) d143_149 kc_1) ?_
          refine yL.eq (y_goto (pc := 150) (t := 154) d143_150 (by decide)) ?_
          refine yL.eq (y_istore_n (pc := 154) (ls' := [some (.ref 0), some (.ref 7), some (.ref 190), some (.int 1), some (.int x4), some (.int v8), some (.int v10)]) d143_154 rfl rfl) ?_
          refine yL.eq (y_iload (pc := 155) (x := x4) d143_155 rfl) ?_
          refine yL.eq (y_bipush (pc := 157) (v := 8) d143_157 kb_8) ?_
          refine yL.eq (y_imodc (pc := 159) d143_159 nzI_8) ?_
          refine yL.eq (y_iconst (pc := 160) (v := 3) d143_160 kc_3) ?_
          refine yL.eq (y_icmp_ne (pc := 161) (t := 188) d143_161 (by decide)) ?_
          refine yL.ite (fun h28 => ?_) (fun h28 => ?_)
          ·
            refine yL.eq (y_iload_n (pc := 164) (x := 1) d143_164 rfl) ?_
            refine yL.eq (y_if_eq (pc := 165) (t := 186) d143_165 (by decide)) ?_
            refine yL.eq (if_neg cn_Int32_1_eq_0) ?_
            refine yL.eq (y_aload_n (pc := 168) (x := 190) d143_168 rfl) ?_
            refine y_calls_i (pc := 169) (n := 1) (n' := 6) (nc' := nc + 1562) (ns' := ns + 9372) [.ref 190] [] false d143_169 q143_233 rfl rfl rfl (Nat.le_of_ble_eq_true rfl) (Nat.le_of_ble_eq_true rfl) rfl (by decide +kernel) (y_rme (c1 := 1562) (s1 := 9372) mcs_136 mcs_143 hn (by decide)) (fun v30 M29 => ?_)
            refine yL.eq (y_if_eq (pc := 172) (t := 186) d143_172 (by decide)) ?_
            refine yL.ite (fun h31 => ?_) (fun h31 => ?_)
            ·
              refine yL.eq (y_iconst (pc := 186) (v := 0) d143_186 kc_0) ?_
              refine yL.eq (y_istore_n (pc := 187) (ls' := [some (.ref 0), some (.ref 7), some (.ref 190), some (.int 0), some (.int x4), some (.int v8), some (.int v10)]) d143_187 rfl rfl) ?_
              exact yL.rf
            ·
              refine yL.eq (y_aload_n (pc := 175) (x := 190) d143_175 rfl) ?_
              refine y_calls_i (pc := 176) (n := 1) (n' := 20) (nc' := nc + 7562) (ns' := ns + 45372) [.ref 190] [] false d143_176 q143_237 rfl rfl rfl (Nat.le_of_ble_eq_true rfl) (Nat.le_of_ble_eq_true rfl) rfl (by decide +kernel) (y_rme (c1 := 7562) (s1 := 45372) mcs_137 mcs_143 hn (by decide)) (fun v33 M32 => ?_)
              refine yL.eq (y_if_eq (pc := 179) (t := 186) d143_179 (by decide)) ?_
              refine yL.ite (fun h34 => ?_) (fun h34 => ?_)
              ·
                refine yL.eq (y_iconst (pc := 186) (v := 0) d143_186 kc_0) ?_
                refine yL.eq (y_istore_n (pc := 187) (ls' := [some (.ref 0), some (.ref 7), some (.ref 190), some (.int 0), some (.int x4), some (.int v8), some (.int v10)]) d143_187 rfl rfl) ?_
                exact yL.rf
              ·
                refine yL.eq (y_iconst (pc := 182) (v := 1) d143_182 kc_1) ?_
                refine yL.eq (y_goto (pc := 183) (t := 187) d143_183 (by decide)) ?_
                refine yL.eq (y_istore_n (pc := 187) (ls' := [some (.ref 0), some (.ref 7), some (.ref 190), some (.int 1), some (.int x4), some (.int v8), some (.int v10)]) d143_187 rfl rfl) ?_
                exact yL.rf
          ·
            exact yL.rf
        ·
          refine yL.eq (y_iconst (pc := 153) (v := 0) d143_153 kc_0) ?_
          refine yL.eq (y_istore_n (pc := 154) (ls' := [some (.ref 0), some (.ref 7), some (.ref 190), some (.int 0), some (.int x4), some (.int v8), some (.int v10)]) d143_154 rfl rfl) ?_
          refine yL.eq (y_iload (pc := 155) (x := x4) d143_155 rfl) ?_
          refine yL.eq (y_bipush (pc := 157) (v := 8) d143_157 kb_8) ?_
          refine yL.eq (y_imodc (pc := 159) d143_159 nzI_8) ?_
          refine yL.eq (y_iconst (pc := 160) (v := 3) d143_160 kc_3) ?_
          refine yL.eq (y_icmp_ne (pc := 161) (t := 188) d143_161 (by decide)) ?_
          refine yL.ite (fun h35 => ?_) (fun h35 => ?_)
          ·
            refine yL.eq (y_iload_n (pc := 164) (x := 0) d143_164 rfl) ?_
            refine yL.eq (y_if_eq (pc := 165) (t := 186) d143_165 (by decide)) ?_
            refine yL.eq (if_pos cp_Int32_0_eq_0) ?_
            refine yL.eq (y_iconst (pc := 186) (v := 0) d143_186 kc_0) ?_
            refine yL.eq (y_istore_n (pc := 187) (ls' := [some (.ref 0), some (.ref 7), some (.ref 190), some (.int 0), some (.int x4), some (.int v8), some (.int v10)]) d143_187 rfl rfl) ?_
            exact yL.rf
          ·
            exact yL.rf
  ·
    refine yL.eq (y_iload_n (pc := 271) (x := x3) d143_271 rfl) ?_
    refine yL.eq (y_if_eq (pc := 272) (t := 290) d143_272 (by decide)) ?_
    refine yL.ite (fun h36 => ?_) (fun h36 => ?_)
    ·
      refine yL.eq (y_iconst (pc := 290) (v := 0) d143_290 kc_0) ?_
      exact yL.eq (y_iretz (pc := 291) d143_291 mr_143) (yL.eq yZ_0 yL.rf)
    ·
      refine yL.eq (y_aload_n (pc := 275) (x := 7) d143_275 rfl) ?_
      refine yL.eq (y_aload_n (pc := 276) (x := 190) d143_276 rfl) ?_
      refine yL.eq (y_sipush (pc := 277) (v := 10799) d143_277 ks_10799) ?_
      refine y_calls_i (pc := 280) (n := 3) (n' := 3) (nc' := nc + 1000) (ns' := ns + 6000) [.ref 7, .ref 190, .int 10799] [] false d143_280 q143_229 rfl rfl rfl (Nat.le_of_ble_eq_true rfl) (Nat.le_of_ble_eq_true rfl) rfl (by decide +kernel) (y_rmc mcs_139 mcs_143 hn (by decide)) (fun v38 M37 => ?_)
      refine yL.eq (y_if_eq (pc := 283) (t := 290) d143_283 (by decide)) ?_
      refine yL.ite (fun h39 => ?_) (fun h39 => ?_)
      ·
        refine yL.eq (y_iconst (pc := 290) (v := 0) d143_290 kc_0) ?_
        exact yL.eq (y_iretz (pc := 291) d143_291 mr_143) (yL.eq yZ_0 yL.rf)
      ·
        refine yL.eq (y_iconst (pc := 286) (v := 1) d143_286 kc_1) ?_
        refine yL.eq (y_goto (pc := 287) (t := 291) d143_287 (by decide)) ?_
        exact yL.eq (y_iretz (pc := 291) d143_291 mr_143) (yL.eq yZ_1 yL.rf)
set_option maxRecDepth 20000 in
set_option maxHeartbeats 4000000 in
theorem e143_188 {x3 : Int32} {x4 : Int32} {o5 : Option Value} {x6 : Int32} {M : yM} {nc ns : Nat} (hn : nc + 14500 ≤ 600130 ∧ ns + 87000 ≤ 7301079) : yL (if (x4 % 14) = 13 then if x3 = 0 then yX 143 237 [some (.ref 0), some (.ref 7), some (.ref 190), some (.int 0), some (.int x4), o5, some (.int x6)] [] M nc ns else yCi false (yX 138 0 [some (.ref 190), some (.int x6), none, none, none, none, none, none, none, none, none, none, none, none, none, none, none, none, none, none, none, none] [] M 0 0) fun v4 M3 => if v4 = 0 then yX 143 237 [some (.ref 0), some (.ref 7), some (.ref 190), some (.int 0), some (.int x4), o5, some (.int x6)] [] M3 (nc + 5000) (ns + 30000) else yCj false (yX 133 0 [some (.ref 7), some (.int 1), none] [] M3 0 0) fun v7 M6 => if v7 < 0 then yX 143 237 [some (.ref 0), some (.ref 7), some (.ref 190), some (.int 0), some (.int x4), o5, some (.int x6)] [] M6 (nc + 5001) (ns + 30006) else yCj false (yX 134 0 [some (.ref 7), some (.int 1), none] [] M6 0 0) fun v10 M9 => if v10 < 0 then yX 143 237 [some (.ref 0), some (.ref 7), some (.ref 190), some (.int 0), some (.int x4), o5, some (.int x6)] [] M9 (nc + 5003) (ns + 30018) else yX 143 237 [some (.ref 0), some (.ref 7), some (.ref 190), some (.int 1), some (.int x4), o5, some (.int x6)] [] M9 (nc + 5003) (ns + 30018) else yX 143 237 [some (.ref 0), some (.ref 7), some (.ref 190), some (.int x3), some (.int x4), o5, some (.int x6)] [] M nc ns) (yX 143 188 [some (.ref 0), some (.ref 7), some (.ref 190), some (.int x3), some (.int x4), o5, some (.int x6)] [] M nc ns) := by
  refine yL.eq (y_iload (pc := 188) (x := x4) d143_188 rfl) ?_
  refine yL.eq (y_bipush (pc := 190) (v := 14) d143_190 kb_14) ?_
  refine yL.eq (y_imodc (pc := 192) d143_192 nzI_14) ?_
  refine yL.eq (y_bipush (pc := 193) (v := 13) d143_193 kb_13) ?_
  refine yL.eq (y_icmp_ne (pc := 195) (t := 237) d143_195 (by decide)) ?_
  refine yL.ite (fun h1 => ?_) (fun h1 => ?_)
  ·
    refine yL.eq (y_iload_n (pc := 198) (x := x3) d143_198 rfl) ?_
    refine yL.eq (y_if_eq (pc := 199) (t := 235) d143_199 (by decide)) ?_
    refine yL.ite (fun h2 => ?_) (fun h2 => ?_)
    ·
      refine yL.eq (y_iconst (pc := 235) (v := 0) d143_235 kc_0) ?_
      refine yL.eq (y_istore_n (pc := 236) (ls' := [some (.ref 0), some (.ref 7), some (.ref 190), some (.int 0), some (.int x4), o5, some (.int x6)]) d143_236 rfl rfl) ?_
      exact yL.rf
    ·
      refine yL.eq (y_aload_n (pc := 202) (x := 190) d143_202 rfl) ?_
      refine yL.eq (y_iload (pc := 203) (x := x6) d143_203 rfl) ?_
      refine y_calls_i (pc := 205) (n := 2) (n' := 22) (nc' := nc + 5000) (ns' := ns + 30000) [.ref 190, .int x6] [] false d143_205 q143_249 rfl rfl rfl (Nat.le_of_ble_eq_true rfl) (Nat.le_of_ble_eq_true rfl) rfl (by decide +kernel) (y_rmc mcs_138 mcs_143 hn (by decide)) (fun v4 M3 => ?_)
      refine yL.eq (y_if_eq (pc := 208) (t := 235) d143_208 (by decide)) ?_
      refine yL.ite (fun h5 => ?_) (fun h5 => ?_)
      ·
        refine yL.eq (y_iconst (pc := 235) (v := 0) d143_235 kc_0) ?_
        refine yL.eq (y_istore_n (pc := 236) (ls' := [some (.ref 0), some (.ref 7), some (.ref 190), some (.int 0), some (.int x4), o5, some (.int x6)]) d143_236 rfl rfl) ?_
        exact yL.rf
      ·
        refine yL.eq (y_aload_n (pc := 211) (x := 7) d143_211 rfl) ?_
        refine yL.eq (y_iconst (pc := 212) (v := 1) d143_212 kc_1) ?_
        refine y_calls_j (pc := 213) (n := 2) (n' := 3) (nc' := nc + 5001) (ns' := ns + 30006) [.ref 7, .int 1] [] false d143_213 q143_179 rfl rfl rfl (Nat.le_of_ble_eq_true rfl) (Nat.le_of_ble_eq_true rfl) rfl (by decide +kernel) (y_rme (c1 := 5001) (s1 := 30006) mcs_133 mcs_143 hn (by decide)) (fun v7 M6 => ?_)
        refine yL.eq (y_lconst (pc := 216) (v := 0) d143_216 kl_0) ?_
        refine yL.eq (y_lcmp (pc := 217) d143_217) ?_
        refine yL.eq (y_lif_lt (pc := 218) (t := 235) d143_218 (by decide)) ?_
        refine yL.ite (fun h8 => ?_) (fun h8 => ?_)
        ·
          refine yL.eq (y_iconst (pc := 235) (v := 0) d143_235 kc_0) ?_
          refine yL.eq (y_istore_n (pc := 236) (ls' := [some (.ref 0), some (.ref 7), some (.ref 190), some (.int 0), some (.int x4), o5, some (.int x6)]) d143_236 rfl rfl) ?_
          exact yL.rf
        ·
          refine yL.eq (y_aload_n (pc := 221) (x := 7) d143_221 rfl) ?_
          refine yL.eq (y_iconst (pc := 222) (v := 1) d143_222 kc_1) ?_
          refine y_calls_j (pc := 223) (n := 2) (n' := 3) (nc' := nc + 5003) (ns' := ns + 30018) [.ref 7, .int 1] [] false d143_223 q143_181 rfl rfl rfl (Nat.le_of_ble_eq_true rfl) (Nat.le_of_ble_eq_true rfl) rfl (by decide +kernel) (y_rme (c1 := 5003) (s1 := 30018) mcs_134 mcs_143 hn (by decide)) (fun v10 M9 => ?_)
          refine yL.eq (y_lconst (pc := 226) (v := 0) d143_226 kl_0) ?_
          refine yL.eq (y_lcmp (pc := 227) d143_227) ?_
          refine yL.eq (y_lif_lt (pc := 228) (t := 235) d143_228 (by decide)) ?_
          refine yL.ite (fun h11 => ?_) (fun h11 => ?_)
          ·
            refine yL.eq (y_iconst (pc := 235) (v := 0) d143_235 kc_0) ?_
            refine yL.eq (y_istore_n (pc := 236) (ls' := [some (.ref 0), some (.ref 7), some (.ref 190), some (.int 0), some (.int x4), o5, some (.int x6)]) d143_236 rfl rfl) ?_
            exact yL.rf
          ·
            refine yL.eq (y_iconst (pc := 231) (v := 1) d143_231 kc_1) ?_
            refine yL.eq (y_goto (pc := 232) (t := 236) d143_232 (by decide)) ?_
            refine yL.eq (y_istore_n (pc := 236) (ls' := [some (.ref 0), some (.ref 7), some (.ref 190), some (.int 1), some (.int x4), o5, some (.int x6)]) d143_236 rfl rfl) ?_
            exact yL.rf
  ·
    exact yL.rf
set_option maxRecDepth 20000 in
set_option maxHeartbeats 4000000 in
theorem e143_237 {x3 : Int32} {x4 : Int32} {o5 : Option Value} {x6 : Int32} {M : yM} {nc ns : Nat} (hn : nc + 14500 ≤ 600130 ∧ ns + 87000 ≤ 7301079) : yL (if x3 = 0 then yX 143 52 [some (.ref 0), some (.ref 7), some (.ref 190), some (.int 0), some (.int (x4 + 1)), o5, some (.int x6)] [] M nc ns else if (x4 % 10) ≤ 0 then yCi false (yX 139 0 [some (.ref 7), some (.ref 190), some (.int x6)] [] M 0 0) fun v4 M3 => if v4 = 0 then yX 143 52 [some (.ref 0), some (.ref 7), some (.ref 190), some (.int 0), some (.int (x4 + 1)), o5, some (.int x6)] [] M3 (nc + 1000) (ns + 6000) else yX 143 52 [some (.ref 0), some (.ref 7), some (.ref 190), some (.int 1), some (.int (x4 + 1)), o5, some (.int x6)] [] M3 (nc + 1000) (ns + 6000) else yX 143 52 [some (.ref 0), some (.ref 7), some (.ref 190), some (.int 1), some (.int (x4 + 1)), o5, some (.int x6)] [] M nc ns) (yX 143 237 [some (.ref 0), some (.ref 7), some (.ref 190), some (.int x3), some (.int x4), o5, some (.int x6)] [] M nc ns) := by
  refine yL.eq (y_iload_n (pc := 237) (x := x3) d143_237 rfl) ?_
  refine yL.eq (y_if_eq (pc := 238) (t := 263) d143_238 (by decide)) ?_
  refine yL.ite (fun h1 => ?_) (fun h1 => ?_)
  ·
    refine yL.eq (y_iconst (pc := 263) (v := 0) d143_263 kc_0) ?_
    refine yL.eq (y_istore_n (pc := 264) (ls' := [some (.ref 0), some (.ref 7), some (.ref 190), some (.int 0), some (.int x4), o5, some (.int x6)]) d143_264 rfl rfl) ?_
    refine yL.eq (y_iinc (pc := 265) (v := 1) (x := x4) (ls' := [some (.ref 0), some (.ref 7), some (.ref 190), some (.int 0), some (.int (x4 + 1)), o5, some (.int x6)]) d143_265 kc_1 rfl (Nat.le_of_ble_eq_true rfl) rfl) ?_
    refine yL.eq (y_goto (pc := 268) (t := 52) d143_268 (by decide)) ?_
    exact yL.rf
  ·
    refine yL.eq (y_iload (pc := 241) (x := x4) d143_241 rfl) ?_
    refine yL.eq (y_bipush (pc := 243) (v := 10) d143_243 kb_10) ?_
    refine yL.eq (y_imodc (pc := 245) d143_245 nzI_10) ?_
    refine yL.eq (y_if_gt (pc := 246) (t := 259) d143_246 (by decide)) ?_
    refine yL.ite (fun h2 => ?_) (fun h2 => ?_)
    ·
      refine yL.eq (y_aload_n (pc := 249) (x := 7) d143_249 rfl) ?_
      refine yL.eq (y_aload_n (pc := 250) (x := 190) d143_250 rfl) ?_
      refine yL.eq (y_iload (pc := 251) (x := x6) d143_251 rfl) ?_
      refine y_calls_i (pc := 253) (n := 3) (n' := 3) (nc' := nc + 1000) (ns' := ns + 6000) [.ref 7, .ref 190, .int x6] [] false d143_253 q143_229 rfl rfl rfl (Nat.le_of_ble_eq_true rfl) (Nat.le_of_ble_eq_true rfl) rfl (by decide +kernel) (y_rmc mcs_139 mcs_143 hn (by decide)) (fun v4 M3 => ?_)
      refine yL.eq (y_if_eq (pc := 256) (t := 263) d143_256 (by decide)) ?_
      refine yL.ite (fun h5 => ?_) (fun h5 => ?_)
      ·
        refine yL.eq (y_iconst (pc := 263) (v := 0) d143_263 kc_0) ?_
        refine yL.eq (y_istore_n (pc := 264) (ls' := [some (.ref 0), some (.ref 7), some (.ref 190), some (.int 0), some (.int x4), o5, some (.int x6)]) d143_264 rfl rfl) ?_
        refine yL.eq (y_iinc (pc := 265) (v := 1) (x := x4) (ls' := [some (.ref 0), some (.ref 7), some (.ref 190), some (.int 0), some (.int (x4 + 1)), o5, some (.int x6)]) d143_265 kc_1 rfl (Nat.le_of_ble_eq_true rfl) rfl) ?_
        refine yL.eq (y_goto (pc := 268) (t := 52) d143_268 (by decide)) ?_
        exact yL.rf
      ·
        refine yL.eq (y_iconst (pc := 259) (v := 1) d143_259 kc_1) ?_
        refine yL.eq (y_goto (pc := 260) (t := 264) d143_260 (by decide)) ?_
        refine yL.eq (y_istore_n (pc := 264) (ls' := [some (.ref 0), some (.ref 7), some (.ref 190), some (.int 1), some (.int x4), o5, some (.int x6)]) d143_264 rfl rfl) ?_
        refine yL.eq (y_iinc (pc := 265) (v := 1) (x := x4) (ls' := [some (.ref 0), some (.ref 7), some (.ref 190), some (.int 1), some (.int (x4 + 1)), o5, some (.int x6)]) d143_265 kc_1 rfl (Nat.le_of_ble_eq_true rfl) rfl) ?_
        refine yL.eq (y_goto (pc := 268) (t := 52) d143_268 (by decide)) ?_
        exact yL.rf
    ·
      refine yL.eq (y_iconst (pc := 259) (v := 1) d143_259 kc_1) ?_
      refine yL.eq (y_goto (pc := 260) (t := 264) d143_260 (by decide)) ?_
      refine yL.eq (y_istore_n (pc := 264) (ls' := [some (.ref 0), some (.ref 7), some (.ref 190), some (.int 1), some (.int x4), o5, some (.int x6)]) d143_264 rfl rfl) ?_
      refine yL.eq (y_iinc (pc := 265) (v := 1) (x := x4) (ls' := [some (.ref 0), some (.ref 7), some (.ref 190), some (.int 1), some (.int (x4 + 1)), o5, some (.int x6)]) d143_265 kc_1 rfl (Nat.le_of_ble_eq_true rfl) rfl) ?_
      refine yL.eq (y_goto (pc := 268) (t := 52) d143_268 (by decide)) ?_
      exact yL.rf
