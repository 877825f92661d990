set_option maxRecDepth 20000 in
set_option maxHeartbeats 4000000 in
theorem e155 {a1 : Int32} {M : yM} : yL (yCi false (yX 108 0 [some (.long a1.toInt64), none, some (.long 0), none, some (.long 255), none] [] M 0 0) fun v2 M1 => if v2 = 0 then yCi false (yX 107 0 [some (.ref 190), some (.int 1)] [] M1 0 0) fun v5 M4 => if v5 = 0 then if yinB (M4 190 14) 120 = true then yLet (yU M4 201 (yx (M4 190 14)) a1) fun M7 => yLet (yU M7 190 14 ((M7 190 14) + 1)) fun M9 => yI (M9 190 14) M9 else none else yI 0 M4 else if (M1 190 14) = 120 then yCi false (yX 107 0 [some (.ref 190), some (.int 2)] [] M1 0 0) fun v12 M11 => if v12 = 0 then if yinB (M11 190 14) 120 = true then yLet (yU M11 201 (yx (M11 190 14)) a1) fun M14 => yLet (yU M14 190 14 ((M14 190 14) + 1)) fun M16 => yI (M16 190 14) M16 else none else yI 0 M11 else yCi false (yX 107 0 [some (.ref 190), some (.int 0)] [] M1 0 0) fun v18 M17 => if v18 = 0 then if yinB (M17 190 14) 120 = true then yLet (yU M17 201 (yx (M17 190 14)) a1) fun M20 => yLet (yU M20 190 14 ((M20 190 14) + 1)) fun M22 => yI (M22 190 14) M22 else none else yI 0 M17) (yX 155 0 [some (.ref 190), some (.int a1)] [] M 0 0) := by
  refine yL.eq (y_aload_n (pc := 0) (x := 190) d155_0 rfl) ?_
  refine yL.eq (y_iload_n (pc := 1) (x := a1) d155_1 rfl) ?_
  refine yL.eq (y_i2l (pc := 2) d155_2) ?_
  refine yL.eq (y_lconst (pc := 3) (v := 0) d155_3 kl_0) ?_
  refine yL.eq (y_ldc2_w (pc := 4) (v := 255) d155_4 q155_154) ?_
  refine y_calls_i (pc := 7) (n := 3) (n' := 6) (nc' := 0) (ns' := 0) [.long a1.toInt64, .long 0, .long 255] [.ref 190] false d155_7 q155_58 rfl rfl rfl (Nat.le_of_ble_eq_true rfl) (Nat.le_of_ble_eq_true rfl) rfl (by decide +kernel) (by decide +kernel) (fun v2 M1 => ?_)
  refine yL.eq (y_if_ne (pc := 10) (t := 17) d155_10 (by decide)) ?_
  refine yL.ite (fun h3 => ?_) (fun h3 => ?_)
  ·
    refine yL.eq (y_iconst (pc := 13) (v := 1) d155_13 kc_1) ?_
    refine yL.eq (y_goto (pc := 14) (t := 31) d155_14 (by decide)) ?_
    refine y_callv_i (pc := 31) (n := 2) (n' := 2) (nc' := 0) (ns' := 0) [.int 1] [] false d155_31 q155_159 mk_107 s_t_190 rfl rfl (Nat.le_of_ble_eq_true rfl) (Nat.le_of_ble_eq_true rfl) rfl (by decide +kernel) (by decide +kernel) (fun v5 M4 => ?_)
    refine yL.eq (y_if_eq (pc := 34) (t := 39) d155_34 (by decide)) ?_
    refine yL.ite (fun h6 => ?_) (fun h6 => ?_)
    ·
      refine yL.eq (y_aload_n (pc := 39) (x := 190) d155_39 rfl) ?_
      refine yL.eq (y_getr (pc := 40) (r := 201) d155_40 q155_41 s_r_190_13) ?_
      refine yL.eq (y_aload_n (pc := 43) (x := 190) d155_43 rfl) ?_
      refine yL.eq (y_geti (pc := 44) d155_44 q155_156 s_i_190_14) ?_
      refine yL.eq (y_iload_n (pc := 47) (x := a1) d155_47 rfl) ?_
      refine y_iastL (pc := 48) (n := 120) d155_48 s_a_201 (fun h8 M7 => ?_)
      refine yL.eq (y_aload_n (pc := 49) (x := 190) d155_49 rfl) ?_
      refine yL.eq (y_dup (pc := 50) d155_50 rfl) ?_
      refine yL.eq (y_geti (pc := 51) d155_51 q155_156 s_i_190_14) ?_
      refine yL.eq (y_iconst (pc := 54) (v := 1) d155_54 kc_1) ?_
      refine yL.eq (y_iadd (pc := 55) d155_55) ?_
      refine y_putiL (pc := 56) d155_56 q155_156 s_i_190_14 rfl (fun M9 => ?_)
      refine yL.eq (y_aload_n (pc := 59) (x := 190) d155_59 rfl) ?_
      refine yL.eq (y_geti (pc := 60) d155_60 q155_156 s_i_190_14) ?_
      exact yL.eq (y_ireti (pc := 63) d155_63 mr_155) yL.rf
    ·
      refine yL.eq (y_iconst (pc := 37) (v := 0) d155_37 kc_0) ?_
      exact yL.eq (y_ireti (pc := 38) d155_38 mr_155) yL.rf
  ·
    refine yL.eq (y_aload_n (pc := 17) (x := 190) d155_17 rfl) ?_
    refine yL.eq (y_geti (pc := 18) d155_18 q155_156 s_i_190_14) ?_
    refine yL.eq (y_bipush (pc := 21) (v := 120) d155_21 kb_120) ?_
    refine yL.eq (y_icmp_ne (pc := 23) (t := 30) d155_23 (by decide)) ?_
    refine yL.ite (fun h10 => ?_) (fun h10 => ?_)
    ·
      refine yL.eq (y_iconst (pc := 26) (v := 2) d155_26 kc_2) ?_
      refine yL.eq (y_goto (pc := 27) (t := 31) d155_27 (by decide)) ?_
      refine y_callv_i (pc := 31) (n := 2) (n' := 2) (nc' := 0) (ns' := 0) [.int 2] [] false d155_31 q155_159 mk_107 s_t_190 rfl rfl (Nat.le_of_ble_eq_true rfl) (Nat.le_of_ble_eq_true rfl) rfl (by decide +kernel) (by decide +kernel) (fun v12 M11 => ?_)
      refine yL.eq (y_if_eq (pc := 34) (t := 39) d155_34 (by decide)) ?_
      refine yL.ite (fun h13 => ?_) (fun h13 => ?_)
      ·
        refine yL.eq (y_aload_n (pc := 39) (x := 190) d155_39 rfl) ?_
        refine yL.eq (y_getr (pc := 40) (r := 201) d155_40 q155_41 s_r_190_13) ?_
        refine yL.eq (y_aload_n (pc := 43) (x := 190) d155_43 rfl) ?_
        refine yL.eq (y_geti (pc := 44) d155_44 q155_156 s_i_190_14) ?_
        refine yL.eq (y_iload_n (pc := 47) (x := a1) d155_47 rfl) ?_
        refine y_iastL (pc := 48) (n := 120) d155_48 s_a_201 (fun h15 M14 => ?_)
        refine yL.eq (y_aload_n (pc := 49) (x := 190) d155_49 rfl) ?_
        refine yL.eq (y_dup (pc := 50) d155_50 rfl) ?_
        refine yL.eq (y_geti (pc := 51) d155_51 q155_156 s_i_190_14) ?_
        refine yL.eq (y_iconst (pc := 54) (v := 1) d155_54 kc_1) ?_
        refine yL.eq (y_iadd (pc := 55) d155_55) ?_
        refine y_putiL (pc := 56) d155_56 q155_156 s_i_190_14 rfl (fun M16 => ?_)
        refine yL.eq (y_aload_n (pc := 59) (x := 190) d155_59 rfl) ?_
        refine yL.eq (y_geti (pc := 60) d155_60 q155_156 s_i_190_14) ?_
        exact yL.eq (y_ireti (pc := 63) d155_63 mr_155) yL.rf
      ·
        refine yL.eq (y_iconst (pc := 37) (v := 0) d155_37 kc_0) ?_
        exact yL.eq (y_ireti (pc := 38) d155_38 mr_155) yL.rf
    ·
      refine yL.eq (y_iconst (pc := 30) (v := 0) d155_30 kc_0) ?_
      refine y_callv_i (pc := 31) (n := 2) (n' := 2) (nc' := 0) (ns' := 0) [.int 0] [] false d155_31 q155_159 mk_107 s_t_190 rfl rfl (Nat.le_of_ble_eq_true rfl) (Nat.le_of_ble_eq_true rfl) rfl (by decide +kernel) (by decide +kernel) (fun v18 M17 => ?_)
      refine yL.eq (y_if_eq (pc := 34) (t := 39) d155_34 (by decide)) ?_
      refine yL.ite (fun h19 => ?_) (fun h19 => ?_)
      ·
        refine yL.eq (y_aload_n (pc := 39) (x := 190) d155_39 rfl) ?_
        refine yL.eq (y_getr (pc := 40) (r := 201) d155_40 q155_41 s_r_190_13) ?_
        refine yL.eq (y_aload_n (pc := 43) (x := 190) d155_43 rfl) ?_
        refine yL.eq (y_geti (pc := 44) d155_44 q155_156 s_i_190_14) ?_
        refine yL.eq (y_iload_n (pc := 47) (x := a1) d155_47 rfl) ?_
        refine y_iastL (pc := 48) (n := 120) d155_48 s_a_201 (fun h21 M20 => ?_)
        refine yL.eq (y_aload_n (pc := 49) (x := 190) d155_49 rfl) ?_
        refine yL.eq (y_dup (pc := 50) d155_50 rfl) ?_
        refine yL.eq (y_geti (pc := 51) d155_51 q155_156 s_i_190_14) ?_
        refine yL.eq (y_iconst (pc := 54) (v := 1) d155_54 kc_1) ?_
        refine yL.eq (y_iadd (pc := 55) d155_55) ?_
        refine y_putiL (pc := 56) d155_56 q155_156 s_i_190_14 rfl (fun M22 => ?_)
        refine yL.eq (y_aload_n (pc := 59) (x := 190) d155_59 rfl) ?_
        refine yL.eq (y_geti (pc := 60) d155_60 q155_156 s_i_190_14) ?_
        exact yL.eq (y_ireti (pc := 63) d155_63 mr_155) yL.rf
      ·
        refine yL.eq (y_iconst (pc := 37) (v := 0) d155_37 kc_0) ?_
        exact yL.eq (y_ireti (pc := 38) d155_38 mr_155) yL.rf
set_option maxRecDepth 20000 in
set_option maxHeartbeats 4000000 in
theorem e156  {M : yM} : yL (yLet (yU M 190 0 0) fun M1 => yLet (yU M1 190 14 0) fun M2 => yI (M1 190 14) M2) (yX 156 0 [some (.ref 190), none] [] M 0 0) := by
  refine yL.eq (y_aload_n (pc := 0) (x := 190) d156_0 rfl) ?_
  refine yL.eq (y_iconst (pc := 1) (v := 0) d156_1 kc_0) ?_
  refine y_putiL (pc := 2) d156_2 q156_48 s_i_190_0 rfl (fun M1 => ?_)
  refine yL.eq (y_aload_n (pc := 5) (x := 190) d156_5 rfl) ?_
  refine yL.eq (y_geti (pc := 6) d156_6 q156_156 s_i_190_14) ?_
  refine yL.eq (y_istore_n (pc := 9) (ls' := [some (.ref 190), some (.int (M1 190 14))]) d156_9 rfl rfl) ?_
  refine yL.eq (y_aload_n (pc := 10) (x := 190) d156_10 rfl) ?_
  refine yL.eq (y_iconst (pc := 11) (v := 0) d156_11 kc_0) ?_
  refine y_putiL (pc := 12) d156_12 q156_156 s_i_190_14 rfl (fun M2 => ?_)
  refine yL.eq (y_iload_n (pc := 15) (x := (M1 190 14)) d156_15 rfl) ?_
  exact yL.eq (y_ireti (pc := 16) d156_16 mr_156) yL.rf
set_option maxRecDepth 20000 in
set_option maxHeartbeats 4000000 in
theorem e157  {M : yM} : yL (if (M 190 15) < (M 190 14) then if yinB (M 190 15) 120 = true then yI (M 201 (yx (M 190 15))) M else none else yI (-1) M) (yX 157 0 [some (.ref 190)] [] M 0 0) := by
  refine yL.eq (y_aload_n (pc := 0) (x := 190) d157_0 rfl) ?_
  refine yL.eq (y_geti (pc := 1) d157_1 q157_162 s_i_190_15) ?_
  refine yL.eq (y_aload_n (pc := 4) (x := 190) d157_4 rfl) ?_
  refine yL.eq (y_geti (pc := 5) d157_5 q157_156 s_i_190_14) ?_
  refine yL.eq (y_icmp_ge (pc := 8) (t := 23) d157_8 (by decide)) ?_
  refine yL.ite (fun h1 => ?_) (fun h1 => ?_)
  ·
    refine yL.eq (y_aload_n (pc := 11) (x := 190) d157_11 rfl) ?_
    refine yL.eq (y_getr (pc := 12) (r := 201) d157_12 q157_41 s_r_190_13) ?_
    refine yL.eq (y_aload_n (pc := 15) (x := 190) d157_15 rfl) ?_
    refine yL.eq (y_geti (pc := 16) d157_16 q157_162 s_i_190_15) ?_
    refine yL.eq (y_iald (pc := 19) (n := 120) d157_19 s_a_201) ?_
    refine yL.gd (fun h2 => ?_)
    refine yL.eq (y_goto (pc := 20) (t := 24) d157_20 (by decide)) ?_
    exact yL.eq (y_ireti (pc := 24) d157_24 mr_157) yL.rf
  ·
    refine yL.eq (y_iconst (pc := 23) (v := (-1)) d157_23 kc_m1) ?_
    exact yL.eq (y_ireti (pc := 24) d157_24 mr_157) yL.rf
set_option maxRecDepth 20000 in
set_option maxHeartbeats 4000000 in
theorem e158 {a1 : Int32} {M : yM} : yL (if (M 190 16) = 0 then yLet (yU M 190 16 0) fun M2 => if (M2 190 16) = 0 then yLet (yU M2 190 15 ((M2 190 15) + 0)) fun M4 => yV M4 else yLet (yU M2 190 15 ((M2 190 15) + 1)) fun M5 => yV M5 else if a1 = 0 then yLet (yU M 190 16 0) fun M7 => if (M7 190 16) = 0 then yLet (yU M7 190 15 ((M7 190 15) + 0)) fun M9 => yV M9 else yLet (yU M7 190 15 ((M7 190 15) + 1)) fun M10 => yV M10 else yLet (yU M 190 16 1) fun M11 => if (M11 190 16) = 0 then yLet (yU M11 190 15 ((M11 190 15) + 0)) fun M13 => yV M13 else yLet (yU M11 190 15 ((M11 190 15) + 1)) fun M14 => yV M14) (yX 158 0 [some (.ref 190), some (.int a1)] [] M 0 0) := by
  refine yL.eq (y_aload_n (pc := 0) (x := 190) d158_0 rfl) ?_
  refine yL.eq (y_aload_n (pc := 1) (x := 190) d158_1 rfl) ?_
  refine yL.eq (y_geti (pc := 2) d158_2 q158_165 s_i_190_16) ?_
  refine yL.eq (y_if_eq (pc := 5) (t := 16) d158_5 (by decide)) ?_
  refine yL.ite (fun h1 => ?_) (fun h1 => ?_)
  ·
    refine yL.eq (y_iconst (pc := 16) (v := 0) d158_16 kc_0) ?_
    refine y_putiL (pc := 17) d158_17 q158_165 s_i_190_16 rfl (fun M2 => ?_)
    refine yL.eq (y_aload_n (pc := 20) (x := 190) d158_20 rfl) ?_
    refine yL.eq (y_dup (pc := 21) d158_21 rfl) ?_
    refine yL.eq (y_geti (pc := 22) d158_22 q158_162 s_i_190_15) ?_
    refine yL.eq (y_aload_n (pc := 25) (x := 190) d158_25 rfl) ?_
    refine yL.eq (y_geti (pc := 26) d158_26 q158_165 s_i_190_16) ?_
    refine yL.eq (y_if_eq (pc := 29) (t := 36) d158_29 (by decide)) ?_
    refine yL.ite (fun h3 => ?_) (fun h3 => ?_)
    ·
      refine yL.eq (y_iconst (pc := 36) (v := 0) d158_36 kc_0) ?_
      refine yL.eq (y_iadd (pc := 37) d158_37) ?_
      refine y_putiL (pc := 38) d158_38 q158_162 s_i_190_15 rfl (fun M4 => ?_)
      exact yL.eq (y_ret (pc := 41) d158_41 mr_158) yL.rf
    ·
      refine yL.eq (y_iconst (pc := 32) (v := 1) d158_32 kc_1) ?_
      refine yL.eq (y_goto (pc := 33) (t := 37) d158_33 (by decide)) ?_
      refine yL.eq (y_iadd (pc := 37) d158_37) ?_
      refine y_putiL (pc := 38) d158_38 q158_162 s_i_190_15 rfl (fun M5 => ?_)
      exact yL.eq (y_ret (pc := 41) d158_41 mr_158) yL.rf
  ·
    refine yL.eq (y_iload_n (pc := 8) (x := a1) d158_8 rfl) ?_
    refine yL.eq (y_if_eq (pc := 9) (t := 16) d158_9 (by decide)) ?_
    refine yL.ite (fun h6 => ?_) (fun h6 => ?_)
    ·
      refine yL.eq (y_iconst (pc := 16) (v := 0) d158_16 kc_0) ?_
      refine y_putiL (pc := 17) d158_17 q158_165 s_i_190_16 rfl (fun M7 => ?_)
      refine yL.eq (y_aload_n (pc := 20) (x := 190) d158_20 rfl) ?_
      refine yL.eq (y_dup (pc := 21) d158_21 rfl) ?_
      refine yL.eq (y_geti (pc := 22) d158_22 q158_162 s_i_190_15) ?_
      refine yL.eq (y_aload_n (pc := 25) (x := 190) d158_25 rfl) ?_
      refine yL.eq (y_geti (pc := 26) d158_26 q158_165 s_i_190_16) ?_
      refine yL.eq (y_if_eq (pc := 29) (t := 36) d158_29 (by decide)) ?_
      refine yL.ite (fun h8 => ?_) (fun h8 => ?_)
      ·
        refine yL.eq (y_iconst (pc := 36) (v := 0) d158_36 kc_0) ?_
        refine yL.eq (y_iadd (pc := 37) d158_37) ?_
        refine y_putiL (pc := 38) d158_38 q158_162 s_i_190_15 rfl (fun M9 => ?_)
        exact yL.eq (y_ret (pc := 41) d158_41 mr_158) yL.rf
      ·
        refine yL.eq (y_iconst (pc := 32) (v := 1) d158_32 kc_1) ?_
        refine yL.eq (y_goto (pc := 33) (t := 37) d158_33 (by decide)) ?_
        refine yL.eq (y_iadd (pc := 37) d158_37) ?_
        refine y_putiL (pc := 38) d158_38 q158_162 s_i_190_15 rfl (fun M10 => ?_)
        exact yL.eq (y_ret (pc := 41) d158_41 mr_158) yL.rf
    ·
      refine yL.eq (y_iconst (pc := 12) (v := 1) d158_12 kc_1) ?_
      refine yL.eq (y_goto (pc := 13) (t := 17) d158_13 (by decide)) ?_
      refine y_putiL (pc := 17) d158_17 q158_165 s_i_190_16 rfl (fun M11 => ?_)
      refine yL.eq (y_aload_n (pc := 20) (x := 190) d158_20 rfl) ?_
      refine yL.eq (y_dup (pc := 21) d158_21 rfl) ?_
      refine yL.eq (y_geti (pc := 22) d158_22 q158_162 s_i_190_15) ?_
      refine yL.eq (y_aload_n (pc := 25) (x := 190) d158_25 rfl) ?_
      refine yL.eq (y_geti (pc := 26) d158_26 q158_165 s_i_190_16) ?_
      refine yL.eq (y_if_eq (pc := 29) (t := 36) d158_29 (by decide)) ?_
      refine yL.ite (fun h12 => ?_) (fun h12 => ?_)
      ·
        refine yL.eq (y_iconst (pc := 36) (v := 0) d158_36 kc_0) ?_
        refine yL.eq (y_iadd (pc := 37) d158_37) ?_
        refine y_putiL (pc := 38) d158_38 q158_162 s_i_190_15 rfl (fun M13 => ?_)
        exact yL.eq (y_ret (pc := 41) d158_41 mr_158) yL.rf
      ·
        refine yL.eq (y_iconst (pc := 32) (v := 1) d158_32 kc_1) ?_
        refine yL.eq (y_goto (pc := 33) (t := 37) d158_33 (by decide)) ?_
        refine yL.eq (y_iadd (pc := 37) d158_37) ?_
        refine y_putiL (pc := 38) d158_38 q158_162 s_i_190_15 rfl (fun M14 => ?_)
        exact yL.eq (y_ret (pc := 41) d158_41 mr_158) yL.rf
set_option maxRecDepth 20000 in
set_option maxHeartbeats 4000000 in
theorem e159 {a1 : Int32} {a2 : Int32} {M : yM} : yL (yCi false (yX 157 0 [some (.ref 190)] [] M 0 0) fun v2 M1 => yCi false (yX 108 0 [some (.long ((v2 - 48).toInt64)), none, some (.long a1.toInt64), none, some (.long a2.toInt64), none] [] M1 0 0) fun v4 M3 => yCv false (yX 158 0 [some (.ref 190), some (.int v4)] [] M3 0 0) fun M5 => if (M5 190 16) = 0 then yI a1 M5 else yI (v2 - 48) M5) (yX 159 0 [some (.ref 190), some (.int a1), some (.int a2), none] [] M 0 0) := by
  refine yL.eq (y_aload_n (pc := 0) (x := 190) d159_0 rfl) ?_
  refine y_callv_i (pc := 1) (n := 1) (n' := 1) (nc' := 0) (ns' := 0) [] [] false d159_1 q159_169 mk_157 s_t_190 rfl rfl (Nat.le_of_ble_eq_true rfl) (Nat.le_of_ble_eq_true rfl) rfl (by decide +kernel) (by decide +kernel) (fun v2 M1 => ?_)
  refine yL.eq (y_bipush (pc := 4) (v := 48) d159_4 kb_48) ?_
  refine yL.eq (y_isub (pc := 6) d159_6) ?_
  refine yL.eq (y_istore_n (pc := 7) (ls' := [some (.ref 190), some (.int a1), some (.int a2), some (.int (v2 - 48))]) d159_7 rfl rfl) ?_
  refine yL.eq (y_aload_n (pc := 8) (x := 190) d159_8 rfl) ?_
  refine yL.eq (y_iload_n (pc := 9) (x := (v2 - 48)) d159_9 rfl) ?_
  refine yL.eq (y_i2l (pc := 10) d159_10) ?_
  refine yL.eq (y_iload_n (pc := 11) (x := a1) d159_11 rfl) ?_
  refine yL.eq (y_i2l (pc := 12) d159_12) ?_
  refine yL.eq (y_iload_n (pc := 13) (x := a2) d159_13 rfl) ?_
  refine yL.eq (y_i2l (pc := 14) d159_14) ?_
  refine y_calls_i (pc := 15) (n := 3) (n' := 6) (nc' := 0) (ns' := 0) [.long ((v2 - 48).toInt64), .long a1.toInt64, .long a2.toInt64] [.ref 190] false d159_15 q159_58 rfl rfl rfl (Nat.le_of_ble_eq_true rfl) (Nat.le_of_ble_eq_true rfl) rfl (by decide +kernel) (by decide +kernel) (fun v4 M3 => ?_)
  refine y_callv_v (pc := 18) (n := 2) (n' := 2) (nc' := 0) (ns' := 0) [.int v4] [] false d159_18 q159_173 mk_158 s_t_190 rfl rfl (Nat.le_of_ble_eq_true rfl) (Nat.le_of_ble_eq_true rfl) rfl (by decide +kernel) (by decide +kernel) (fun M5 => ?_)
  refine yL.eq (y_aload_n (pc := 21) (x := 190) d159_21 rfl) ?_
  refine yL.eq (y_geti (pc := 22) d159_22 q159_165 s_i_190_16) ?_
  refine yL.eq (y_if_eq (pc := 25) (t := 32) d159_25 (by decide)) ?_
  refine yL.ite (fun h6 => ?_) (fun h6 => ?_)
  ·
    refine yL.eq (y_iload_n (pc := 32) (x := a1) d159_32 rfl) ?_
    exact yL.eq (y_ireti (pc := 33) d159_33 mr_159) yL.rf
  ·
    refine yL.eq (y_iload_n (pc := 28) (x := (v2 - 48)) d159_28 rfl) ?_
    refine yL.eq (y_goto (pc := 29) (t := 33) d159_29 (by decide)) ?_
    exact yL.eq (y_ireti (pc := 33) d159_33 mr_159) yL.rf
set_option maxRecDepth 20000 in
set_option maxHeartbeats 4000000 in
theorem e160 {a1 : Int32} {a2 : Int32} {M : yM} : yL (yCi false (yX 159 0 [some (.ref 190), some (.int (a1 / 10)), some (.int (a2 / 10)), none] [] M 0 0) fun v2 M1 => if v2 = (a1 / 10) then if v2 = (a2 / 10) then yCi false (yX 159 0 [some (.ref 190), some (.int (a1 % 10)), some (.int (a2 % 10)), none] [] M1 0 0) fun v6 M5 => yI ((10 * v2) + v6) M5 else yCi false (yX 159 0 [some (.ref 190), some (.int (a1 % 10)), some (.int 9), none] [] M1 0 0) fun v8 M7 => yI ((10 * v2) + v8) M7 else if v2 = (a2 / 10) then yCi false (yX 159 0 [some (.ref 190), some (.int 0), some (.int (a2 % 10)), none] [] M1 0 0) fun v11 M10 => yI ((10 * v2) + v11) M10 else yCi false (yX 159 0 [some (.ref 190), some (.int 0), some (.int 9), none] [] M1 0 0) fun v13 M12 => yI ((10 * v2) + v13) M12) (yX 160 0 [some (.ref 190), some (.int a1), some (.int a2), none] [] M 0 0) := by
  refine yL.eq (y_aload_n (pc := 0) (x := 190) d160_0 rfl) ?_
  refine yL.eq (y_iload_n (pc := 1) (x := a1) d160_1 rfl) ?_
  refine yL.eq (y_bipush (pc := 2) (v := 10) d160_2 kb_10) ?_
  refine yL.eq (y_idivc (pc := 4) d160_4 nzI_10) ?_
  refine yL.eq (y_iload_n (pc := 5) (x := a2) d160_5 rfl) ?_
  refine yL.eq (y_bipush (pc := 6) (v := 10) d160_6 kb_10) ?_
  refine yL.eq (y_idivc (pc := 8) d160_8 nzI_10) ?_
  refine y_callv_i (pc := 9) (n := 3) (n' := 4) (nc' := 0) (ns' := 0) [.int (a1 / 10), .int (a2 / 10)] [] false d160_9 q160_177 mk_159 s_t_190 rfl rfl (Nat.le_of_ble_eq_true rfl) (Nat.le_of_ble_eq_true rfl) rfl (by decide +kernel) (by decide +kernel) (fun v2 M1 => ?_)
  refine yL.eq (y_istore_n (pc := 12) (ls' := [some (.ref 190), some (.int a1), some (.int a2), some (.int v2)]) d160_12 rfl rfl) ?_
  refine yL.eq (y_bipush (pc := 13) (v := 10) d160_13 kb_10) ?_
  refine yL.eq (y_iload_n (pc := 15) (x := v2) d160_15 rfl) ?_
  refine yL.eq (y_imul (pc := 16) d160_16) ?_
  refine yL.eq (y_aload_n (pc := 17) (x := 190) d160_17 rfl) ?_
  refine yL.eq (y_iload_n (pc := 18) (x := v2) d160_18 rfl) ?_
  refine yL.eq (y_iload_n (pc := 19) (x := a1) d160_19 rfl) ?_
  refine yL.eq (y_bipush (pc := 20) (v := 10) d160_20 kb_10) ?_
  refine yL.eq (y_idivc (pc := 22) d160_22 nzI_10) ?_
  refine yL.eq (y_icmp_ne (pc := 23) (t := 33) d160_23 (by decide)) ?_
  refine yL.ite (fun h3 => ?_) (fun h3 => ?_)
  ·
    refine yL.eq (y_iload_n (pc := 26) (x := a1) d160_26 rfl) ?_
    refine yL.eq (y_bipush (pc := 27) (v := 10) d160_27 kb_10) ?_
    refine yL.eq (y_imodc (pc := 29) d160_29 nzI_10) ?_
    refine yL.eq (y_goto (pc := 30) (t := 34) d160_30 (by decide)) ?_
    refine yL.eq (y_iload_n (pc := 34) (x := v2) d160_34 rfl) ?_
    refine yL.eq (y_iload_n (pc := 35) (x := a2) d160_35 rfl) ?_
    refine yL.eq (y_bipush (pc := 36) (v := 10) d160_36 kb_10) ?_
    refine yL.eq (y_idivc (pc := 38) d160_38 nzI_10) ?_
    refine yL.eq (y_icmp_ne (pc := 39) (t := 49) d160_39 (by decide)) ?_
    refine yL.ite (fun h4 => ?_) (fun h4 => ?_)
    ·
      refine yL.eq (y_iload_n (pc := 42) (x := a2) d160_42 rfl) ?_
      refine yL.eq (y_bipush (pc := 43) (v := 10) d160_43 kb_10) ?_
      refine yL.eq (y_imodc (pc := 45) d160_45 nzI_10) ?_
      refine yL.eq (y_goto (pc := 46) (t := 51) d160_46 (by decide)) ?_
      refine y_callv_i (pc := 51) (n := 3) (n' := 4) (nc' := 0) (ns' := 0) [.int (a1 % 10), .int (a2 % 10)] [.int (10 * v2)] false d160_51 q160_177 mk_159 s_t_190 rfl rfl (Nat.le_of_ble_eq_true rfl) (Nat.le_of_ble_eq_true rfl) rfl (by decide +kernel) (by decide +kernel) (fun v6 M5 => ?_)
      refine yL.eq (y_iadd (pc := 54) d160_54) ?_
      exact yL.eq (y_ireti (pc := 55) d160_55 mr_160) yL.rf
    ·
      refine yL.eq (y_bipush (pc := 49) (v := 9) d160_49 kb_9) ?_
      refine y_callv_i (pc := 51) (n := 3) (n' := 4) (nc' := 0) (ns' := 0) [.int (a1 % 10), .int 9] [.int (10 * v2)] false d160_51 q160_177 mk_159 s_t_190 rfl rfl (Nat.le_of_ble_eq_true rfl) (Nat.le_of_ble_eq_true rfl) rfl (by decide +kernel) (by decide +kernel) (fun v8 M7 => ?_)
      refine yL.eq (y_iadd (pc := 54) d160_54) ?_
      exact yL.eq (y_ireti (pc := 55) d160_55 mr_160) yL.rf
  ·
    refine yL.eq (y_iconst (pc := 33) (v := 0) d160_33 kc_0) ?_
    refine yL.eq (y_iload_n (pc := 34) (x := v2) d160_34 rfl) ?_
    refine yL.eq (y_iload_n (pc := 35) (x := a2) d160_35 rfl) ?_
    refine yL.eq (y_bipush (pc := 36) (v := 10) d160_36 kb_10) ?_
    refine yL.eq (y_idivc (pc := 38) d160_38 nzI_10) ?_
    refine yL.eq (y_icmp_ne (pc := 39) (t := 49) d160_39 (by decide)) ?_
    refine yL.ite (fun h9 => ?_) (fun h9 => ?_)
    ·
      refine yL.eq (y_iload_n (pc := 42) (x := a2) d160_42 rfl) ?_
      refine yL.eq (y_bipush (pc := 43) (v := 10) d160_43 kb_10) ?_
      refine yL.eq (y_imodc (pc := 45) d160_45 nzI_10) ?_
      refine yL.eq (y_goto (pc := 46) (t := 51) d160_46 (by decide)) ?_
      refine y_callv_i (pc := 51) (n := 3) (n' := 4) (nc' := 0) (ns' := 0) [.int 0, .int (a2 % 10)] [.int (10 * v2)] false d160_51 q160_177 mk_159 s_t_190 rfl rfl (Nat.le_of_ble_eq_true rfl) (Nat.le_of_ble_eq_true rfl) rfl (by decide +kernel) (by decide +kernel) (fun v11 M10 => ?_)
      refine yL.eq (y_iadd (pc := 54) d160_54) ?_
      exact yL.eq (y_ireti (pc := 55) d160_55 mr_160) yL.rf
    ·
      refine yL.eq (y_bipush (pc := 49) (v := 9) d160_49 kb_9) ?_
      refine y_callv_i (pc := 51) (n := 3) (n' := 4) (nc' := 0) (ns' := 0) [.int 0, .int 9] [.int (10 * v2)] false d160_51 q160_177 mk_159 s_t_190 rfl rfl (Nat.le_of_ble_eq_true rfl) (Nat.le_of_ble_eq_true rfl) rfl (by decide +kernel) (by decide +kernel) (fun v13 M12 => ?_)
      refine yL.eq (y_iadd (pc := 54) d160_54) ?_
      exact yL.eq (y_ireti (pc := 55) d160_55 mr_160) yL.rf
set_option maxRecDepth 20000 in
set_option maxHeartbeats 4000000 in
theorem e161 {a1 : Int32} {M : yM} : yL (if (M 190 16) = 0 then yLet (yU M 190 17 ((M 190 17) + 0)) fun M2 => if (M2 190 16) = 0 then yI 0 M2 else if a1 = 0 then yI 0 M2 else yI 1 M2 else if a1 = 0 then yLet (yU M 190 17 ((M 190 17) + 1)) fun M6 => if (M6 190 16) = 0 then yI 0 M6 else if a1 = 0 then yI 0 M6 else yI 1 M6 else yLet (yU M 190 17 ((M 190 17) + 0)) fun M9 => if (M9 190 16) = 0 then yI 0 M9 else if a1 = 0 then yI 0 M9 else yI 1 M9) (yX 161 0 [some (.ref 190), some (.int a1)] [] M 0 0) := by
  refine yL.eq (y_aload_n (pc := 0) (x := 190) d161_0 rfl) ?_
  refine yL.eq (y_dup (pc := 1) d161_1 rfl) ?_
  refine yL.eq (y_geti (pc := 2) d161_2 q161_180 s_i_190_17) ?_
  refine yL.eq (y_aload_n (pc := 5) (x := 190) d161_5 rfl) ?_
  refine yL.eq (y_geti (pc := 6) d161_6 q161_165 s_i_190_16) ?_
  refine yL.eq (y_if_eq (pc := 9) (t := 20) d161_9 (by decide)) ?_
  refine yL.ite (fun h1 => ?_) (fun h1 => ?_)
  ·
    refine yL.eq (y_iconst (pc := 20) (v := 0) d161_20 kc_0) ?_
    refine yL.eq (y_iadd (pc := 21) d161_21) ?_
    refine y_putiL (pc := 22) d161_22 q161_180 s_i_190_17 rfl (fun M2 => ?_)
    refine yL.eq (y_aload_n (pc := 25) (x := 190) d161_25 rfl) ?_
    refine yL.eq (y_geti (pc := 26) d161_26 q161_165 s_i_190_16) ?_
    refine yL.eq (y_if_eq (pc := 29) (t := 40) d161_29 (by decide)) ?_
    refine yL.ite (fun h3 => ?_) (fun h3 => ?_)
    ·
      refine yL.eq (y_iconst (pc := 40) (v := 0) d161_40 kc_0) ?_
      exact yL.eq (y_iretz (pc := 41) d161_41 mr_161) (yL.eq yZ_0 yL.rf)
    ·
      refine yL.eq (y_iload_n (pc := 32) (x := a1) d161_32 rfl) ?_
      refine yL.eq (y_if_eq (pc := 33) (t := 40) d161_33 (by decide)) ?_
      refine yL.ite (fun h4 => ?_) (fun h4 => ?_)
      ·
        refine yL.eq (y_iconst (pc := 40) (v := 0) d161_40 kc_0) ?_
        exact yL.eq (y_iretz (pc := 41) d161_41 mr_161) (yL.eq yZ_0 yL.rf)
      ·
        refine yL.eq (y_iconst (pc := 36) (v := 1) d161_36 kc_1) ?_
        refine yL.eq (y_goto (pc := 37) (t := 41) d161_37 (by decide)) ?_
        exact yL.eq (y_iretz (pc := 41) d161_41 mr_161) (yL.eq yZ_1 yL.rf)
  ·
    refine yL.eq (y_iload_n (pc := 12) (x := a1) d161_12 rfl) ?_
    refine yL.eq (y_if_ne (pc := 13) (t := 20) d161_13 (by decide)) ?_
    refine yL.ite (fun h5 => ?_) (fun h5 => ?_)
    ·
      refine yL.eq (y_iconst (pc := 16) (v := 1) d161_16 kc_1) ?_
      refine yL.eq (y_goto (pc := 17) (t := 21) d161_17 (by decide)) ?_
      refine yL.eq (y_iadd (pc := 21) d161_21) ?_
      refine y_putiL (pc := 22) d161_22 q161_180 s_i_190_17 rfl (fun M6 => ?_)
      refine yL.eq (y_aload_n (pc := 25) (x := 190) d161_25 rfl) ?_
      refine yL.eq (y_geti (pc := 26) d161_26 q161_165 s_i_190_16) ?_
      refine yL.eq (y_if_eq (pc := 29) (t := 40) d161_29 (by decide)) ?_
      refine yL.ite (fun h7 => ?_) (fun h7 => ?_)
      ·
        refine yL.eq (y_iconst (pc := 40) (v := 0) d161_40 kc_0) ?_
        exact yL.eq (y_iretz (pc := 41) d161_41 mr_161) (yL.eq yZ_0 yL.rf)
      ·
        refine yL.eq (y_iload_n (pc := 32) (x := a1) d161_32 rfl) ?_
        refine yL.eq (y_if_eq (pc := 33) (t := 40) d161_33 (by decide)) ?_
        refine yL.ite (fun h8 => ?_) (fun h8 => ?_)
        ·
          refine yL.eq (y_iconst (pc := 40) (v := 0) d161_40 kc_0) ?_
          exact yL.eq (y_iretz (pc := 41) d161_41 mr_161) (yL.eq yZ_0 yL.rf)
        ·
          refine yL.eq (y_iconst (pc := 36) (v := 1) d161_36 kc_1) ?_
          refine yL.eq (y_goto (pc := 37) (t := 41) d161_37 (by decide)) ?_
          exact yL.eq (y_iretz (pc := 41) d161_41 mr_161) (yL.eq yZ_1 yL.rf)
    ·
      refine yL.eq (y_iconst (pc := 20) (v := 0) d161_20 kc_0) ?_
      refine yL.eq (y_iadd (pc := 21) d161_21) ?_
      refine y_putiL (pc := 22) d161_22 q161_180 s_i_190_17 rfl (fun M9 => ?_)
      refine yL.eq (y_aload_n (pc := 25) (x := 190) d161_25 rfl) ?_
      refine yL.eq (y_geti (pc := 26) d161_26 q161_165 s_i_190_16) ?_
      refine yL.eq (y_if_eq (pc := 29) (t := 40) d161_29 (by decide)) ?_
      refine yL.ite (fun h10 => ?_) (fun h10 => ?_)
      ·
        refine yL.eq (y_iconst (pc := 40) (v := 0) d161_40 kc_0) ?_
        exact yL.eq (y_iretz (pc := 41) d161_41 mr_161) (yL.eq yZ_0 yL.rf)
      ·
        refine yL.eq (y_iload_n (pc := 32) (x := a1) d161_32 rfl) ?_
        refine yL.eq (y_if_eq (pc := 33) (t := 40) d161_33 (by decide)) ?_
        refine yL.ite (fun h11 => ?_) (fun h11 => ?_)
        ·
          refine yL.eq (y_iconst (pc := 40) (v := 0) d161_40 kc_0) ?_
          exact yL.eq (y_iretz (pc := 41) d161_41 mr_161) (yL.eq yZ_0 yL.rf)
        ·
          refine yL.eq (y_iconst (pc := 36) (v := 1) d161_36 kc_1) ?_
          refine yL.eq (y_goto (pc := 37) (t := 41) d161_37 (by decide)) ?_
          exact yL.eq (y_iretz (pc := 41) d161_41 mr_161) (yL.eq yZ_1 yL.rf)
set_option maxRecDepth 20000 in
set_option maxHeartbeats 4000000 in
theorem e162 {a0 : Int32} {M : yM} : yL (if a0 = 112 then yI 0 M else if a0 = 116 then yI 1 M else if a0 = 84 then yI 2 M else if a0 = 99 then yI 3 M else yI (-1) M) (yX 162 0 [some (.int a0)] [] M 0 0) := by
  refine yL.eq (y_iload_n (pc := 0) (x := a0) d162_0 rfl) ?_
  refine yL.eq (y_bipush (pc := 1) (v := 112) d162_1 kb_112) ?_
  refine yL.eq (y_icmp_ne (pc := 3) (t := 10) d162_3 (by decide)) ?_
  refine yL.ite (fun h1 => ?_) (fun h1 => ?_)
  ·
    refine yL.eq (y_iconst (pc := 6) (v := 0) d162_6 kc_0) ?_
    refine yL.eq (y_goto (pc := 7) (t := 41) d162_7 (by decide)) ?_
    exact yL.eq (y_ireti (pc := 41) d162_41 mr_162) yL.rf
  ·
    refine yL.eq (y_iload_n (pc := 10) (x := a0) d162_10 rfl) ?_
    refine yL.eq (y_bipush (pc := 11) (v := 116) d162_11 kb_116) ?_
    refine yL.eq (y_icmp_ne (pc := 13) (t := 20) d162_13 (by decide)) ?_
    refine yL.ite (fun h2 => ?_) (fun h2 => ?_)
    ·
      refine yL.eq (y_iconst (pc := 16) (v := 1) d162_16 kc_1) ?_
      refine yL.eq (y_goto (pc := 17) (t := 41) d162_17 (by decide)) ?_
      exact yL.eq (y_ireti (pc := 41) d162_41 mr_162) yL.rf
    ·
      refine yL.eq (y_iload_n (pc := 20) (x := a0) d162_20 rfl) ?_
      refine yL.eq (y_bipush (pc := 21) (v := 84) d162_21 kb_84) ?_
      refine yL.eq (y_icmp_ne (pc := 23) (t := 30) d162_23 (by decide)) ?_
      refine yL.ite (fun h3 => ?_) (fun h3 => ?_)
      ·
        refine yL.eq (y_iconst (pc := 26) (v := 2) d162_26 kc_2) ?_
        refine yL.eq (y_goto (pc := 27) (t := 41) d162_27 (by decide)) ?_
        exact yL.eq (y_ireti (pc := 41) d162_41 mr_162) yL.rf
      ·
        refine yL.eq (y_iload_n (pc := 30) (x := a0) d162_30 rfl) ?_
        refine yL.eq (y_bipush (pc := 31) (v := 99) d162_31 kb_99) ?_
        refine yL.eq (y_icmp_ne (pc := 33) (t := 40) d162_33 (by decide)) ?_
        refine yL.ite (fun h4 => ?_) (fun h4 => ?_)
        ·
          refine yL.eq (y_iconst (pc := 36) (v := 3) d162_36 kc_3) ?_
          refine yL.eq (y_goto (pc := 37) (t := 41) d162_37 (by decide)) ?_
          exact yL.eq (y_ireti (pc := 41) d162_41 mr_162) yL.rf
        ·
          refine yL.eq (y_iconst (pc := 40) (v := (-1)) d162_40 kc_m1) ?_
          exact yL.eq (y_ireti (pc := 41) d162_41 mr_162) yL.rf
set_option maxRecDepth 20000 in
set_option maxHeartbeats 4000000 in
theorem e163  {M : yM} : yL (yCi false (yX 160 0 [some (.ref 190), some (.int 0), some (.int 99), none] [] M 0 0) fun v2 M1 => if (M1 190 16) = 0 then yX 163 83 [some (.ref 190), some (.int v2), some (.int 0), some (.int 1), none, none] [] M1 0 0 else yCi false (yX 157 0 [some (.ref 190)] [] M1 0 0) fun v5 M4 => if v5 = 43 then yLet (yU M4 190 15 ((M4 190 15) + 1)) fun M7 => yCi false (yX 159 0 [some (.ref 190), some (.int 1), some (.int 7), none] [] M7 0 0) fun v9 M8 => yCi false (yX 157 0 [some (.ref 190)] [] M8 0 0) fun v11 M10 => if v11 = 47 then yCv false (yX 158 0 [some (.ref 190), some (.int 1)] [] M10 0 0) fun M13 => if v9 < 1 then yCi false (yX 159 0 [some (.ref 190), some (.int 2), some (.int 8), none] [] M13 0 0) fun v16 M15 => yX 163 83 [some (.ref 190), some (.int v2), some (.int v9), some (.int v16), none, none] [] M15 0 0 else yCi false (yX 159 0 [some (.ref 190), some (.int (v9 + 1)), some (.int 8), none] [] M13 0 0) fun v18 M17 => yX 163 83 [some (.ref 190), some (.int v2), some (.int v9), some (.int v18), none, none] [] M17 0 0 else yCv false (yX 158 0 [some (.ref 190), some (.int 0)] [] M10 0 0) fun M19 => if v9 < 1 then yCi false (yX 159 0 [some (.ref 190), some (.int 2), some (.int 8), none] [] M19 0 0) fun v22 M21 => yX 163 83 [some (.ref 190), some (.int v2), some (.int v9), some (.int v22), none, none] [] M21 0 0 else yCi false (yX 159 0 [some (.ref 190), some (.int (v9 + 1)), some (.int 8), none] [] M19 0 0) fun v24 M23 => yX 163 83 [some (.ref 190), some (.int v2), some (.int v9), some (.int v24), none, none] [] M23 0 0 else yX 163 83 [some (.ref 190), some (.int v2), some (.int 0), some (.int 1), none, none] [] M4 0 0) (yX 163 0 [some (.ref 190), none, none, none, none, none] [] M 0 0) := by
  refine yL.eq (y_aload_n (pc := 0) (x := 190) d163_0 rfl) ?_
  refine yL.eq (y_iconst (pc := 1) (v := 0) d163_1 kc_0) ?_
  refine yL.eq (y_bipush (pc := 2) (v := 99) d163_2 kb_99) ?_
  refine y_callv_i (pc := 4) (n := 3) (n' := 4) (nc' := 0) (ns' := 0) [.int 0, .int 99] [] false d163_4 q163_183 mk_160 s_t_190 rfl rfl (Nat.le_of_ble_eq_true rfl) (Nat.le_of_ble_eq_true rfl) rfl (by decide +kernel) (by decide +kernel) (fun v2 M1 => ?_)
  refine yL.eq (y_istore_n (pc := 7) (ls' := [some (.ref 190), some (.int v2), none, none, none, none]) d163_7 rfl rfl) ?_
  refine yL.eq (y_iconst (pc := 8) (v := 0) d163_8 kc_0) ?_
  refine yL.eq (y_istore_n (pc := 9) (ls' := [some (.ref 190), some (.int v2), some (.int 0), none, none, none]) d163_9 rfl rfl) ?_
  refine yL.eq (y_iconst (pc := 10) (v := 1) d163_10 kc_1) ?_
  refine yL.eq (y_istore_n (pc := 11) (ls' := [some (.ref 190), some (.int v2), some (.int 0), some (.int 1), none, none]) d163_11 rfl rfl) ?_
  refine yL.eq (y_aload_n (pc := 12) (x := 190) d163_12 rfl) ?_
  refine yL.eq (y_geti (pc := 13) d163_13 q163_165 s_i_190_16) ?_
  refine yL.eq (y_if_eq (pc := 16) (t := 83) d163_16 (by decide)) ?_
  refine yL.ite (fun h3 => ?_) (fun h3 => ?_)
  ·
    exact yL.rf
  ·
    refine yL.eq (y_aload_n (pc := 19) (x := 190) d163_19 rfl) ?_
    refine y_callv_i (pc := 20) (n := 1) (n' := 1) (nc' := 0) (ns' := 0) [] [] false d163_20 q163_169 mk_157 s_t_190 rfl rfl (Nat.le_of_ble_eq_true rfl) (Nat.le_of_ble_eq_true rfl) rfl (by decide +kernel) (by decide +kernel) (fun v5 M4 => ?_)
    refine yL.eq (y_bipush (pc := 23) (v := 43) d163_23 kb_43) ?_
    refine yL.eq (y_icmp_ne (pc := 25) (t := 83) d163_25 (by decide)) ?_
    refine yL.ite (fun h6 => ?_) (fun h6 => ?_)
    ·
      refine yL.eq (y_aload_n (pc := 28) (x := 190) d163_28 rfl) ?_
      refine yL.eq (y_dup (pc := 29) d163_29 rfl) ?_
      refine yL.eq (y_geti (pc := 30) d163_30 q163_162 s_i_190_15) ?_
      refine yL.eq (y_iconst (pc := 33) (v := 1) d163_33 kc_1) ?_
      refine yL.eq (y_iadd (pc := 34) d163_34) ?_
      refine y_putiL (pc := 35) d163_35 q163_162 s_i_190_15 rfl (fun M7 => ?_)
      refine yL.eq (y_aload_n (pc := 38) (x := 190) d163_38 rfl) ?_
      refine yL.eq (y_iconst (pc := 39) (v := 1) d163_39 kc_1) ?_
      refine yL.eq (y_bipush (pc := 40) (v := 7) d163_40 kb_7) ?_
      refine y_callv_i (pc := 42) (n := 3) (n' := 4) (nc' := 0) (ns' := 0) [.int 1, .int 7] [] false d163_42 q163_177 mk_159 s_t_190 rfl rfl (Nat.le_of_ble_eq_true rfl) (Nat.le_of_ble_eq_true rfl) rfl (by decide +kernel) (by decide +kernel) (fun v9 M8 => ?_)
      refine yL.eq (y_istore_n (pc := 45) (ls' := [some (.ref 190), some (.int v2), some (.int v9), some (.int 1), none, none]) d163_45 rfl rfl) ?_
      refine yL.eq (y_aload_n (pc := 46) (x := 190) d163_46 rfl) ?_
      refine yL.eq (y_aload_n (pc := 47) (x := 190) d163_47 rfl) ?_
      refine y_callv_i (pc := 48) (n := 1) (n' := 1) (nc' := 0) (ns' := 0) [] [.ref 190] false d163_48 q163_169 mk_157 s_t_190 rfl rfl (Nat.le_of_ble_eq_true rfl) (Nat.le_of_ble_eq_true rfl) rfl (by decide +kernel) (by decide +kernel) (fun v11 M10 => ?_)
      refine yL.eq (y_bipush (pc := 51) (v := 47) d163_51 kb_47) ?_
      refine yL.eq (y_icmp_ne (pc := 53) (t := 60) d163_53 (by decide)) ?_
      refine yL.ite (fun h12 => ?_) (fun h12 => ?_)
      ·
        refine yL.eq (y_iconst (pc := 56) (v := 1) d163_56 kc_1) ?_
        refine yL.eq (y_goto (pc := 57) (t := 61) d163_57 (by decide)) ?_
        refine y_callv_v (pc := 61) (n := 2) (n' := 2) (nc' := 0) (ns' := 0) [.int 1] [] false d163_61 q163_173 mk_158 s_t_190 rfl rfl (Nat.le_of_ble_eq_true rfl) (Nat.le_of_ble_eq_true rfl) rfl (by decide +kernel) (by decide +kernel) (fun M13 => ?_)
        refine yL.eq (y_aload_n (pc := 64) (x := 190) d163_64 rfl) ?_
        refine yL.eq (y_iload_n (pc := 65) (x := v9) d163_65 rfl) ?_
        refine yL.eq (y_iconst (pc := 66) (v := 1) d163_66 kc_1) ?_
        refine yL.eq (y_icmp_ge (pc := 67) (t := 74) d163_67 (by decide)) ?_
        refine yL.ite (fun h14 => ?_) (fun h14 => ?_)
        ·
          refine yL.eq (y_iconst (pc := 70) (v := 2) d163_70 kc_2) ?_
          refine yL.eq (y_goto (pc := 71) (t := 77) d163_71 (by decide)) ?_
          refine yL.eq (y_bipush (pc := 77) (v := 8) d163_77 kb_8) ?_
          refine y_callv_i (pc := 79) (n := 3) (n' := 4) (nc' := 0) (ns' := 0) [.int 2, .int 8] [] false d163_79 q163_177 mk_159 s_t_190 rfl rfl (Nat.le_of_ble_eq_true rfl) (Nat.le_of_ble_eq_true rfl) rfl (by decide +kernel) (by decide +kernel) (fun v16 M15 => ?_)
          refine yL.eq (y_istore_n (pc := 82) (ls' := [some (.ref 190), some (.int v2), some (.int v9), some (.int v16), none, none]) d163_82 rfl rfl) ?_
          exact yL.rf
        ·
          refine yL.eq (y_iload_n (pc := 74) (x := v9) d163_74 rfl) ?_
          refine yL.eq (y_iconst (pc := 75) (v := 1) d163_75 kc_1) ?_
          refine yL.eq (y_iadd (pc := 76) d163_76) ?_
          refine yL.eq (y_bipush (pc := 77) (v := 8) d163_77 kb_8) ?_
          refine y_callv_i (pc := 79) (n := 3) (n' := 4) (nc' := 0) (ns' := 0) [.int (v9 + 1), .int 8] [] false d163_79 q163_177 mk_159 s_t_190 rfl rfl (Nat.le_of_ble_eq_true rfl) (Nat.le_of_ble_eq_true rfl) rfl (by decide +kernel) (by decide +kernel) (fun v18 M17 => ?_)
          refine yL.eq (y_istore_n (pc := 82) (ls' := [some (.ref 190), some (.int v2), some (.int v9), some (.int v18), none, none]) d163_82 rfl rfl) ?_
          exact yL.rf
      ·
        refine yL.eq (y_iconst (pc := 60) (v := 0) d163_60 kc_0) ?_
        refine y_callv_v (pc := 61) (n := 2) (n' := 2) (nc' := 0) (ns' := 0) [.int 0] [] false d163_61 q163_173 mk_158 s_t_190 rfl rfl (Nat.le_of_ble_eq_true rfl) (Nat.le_of_ble_eq_true rfl) rfl (by decide +kernel) (by decide +kernel) (fun M19 => ?_)
        refine yL.eq (y_aload_n (pc := 64) (x := 190) d163_64 rfl) ?_
        refine yL.eq (y_iload_n (pc := 65) (x := v9) d163_65 rfl) ?_
        refine yL.eq (y_iconst (pc := 66) (v := 1) d163_66 kc_1) ?_
        refine yL.eq (y_icmp_ge (pc := 67) (t := 74) d163_67 (by decide)) ?_
        refine yL.ite (fun h20 => ?_) (fun h20 => ?_)
        ·
          refine yL.eq (y_iconst (pc := 70) (v := 2) d163_70 kc_2) ?_
          refine yL.eq (y_goto (pc := 71) (t := 77) d163_71 (by decide)) ?_
          refine yL.eq (y_bipush (pc := 77) (v := 8) d163_77 kb_8) ?_
          refine y_callv_i (pc := 79) (n := 3) (n' := 4) (nc' := 0) (ns' := 0) [.int 2, .int 8] [] false d163_79 q163_177 mk_159 s_t_190 rfl rfl (Nat.le_of_ble_eq_true rfl) (Nat.le_of_ble_eq_true rfl) rfl (by decide +kernel) (by decide +kernel) (fun v22 M21 => ?_)
          refine yL.eq (y_istore_n (pc := 82) (ls' := [some (.ref 190), some (.int v2), some (.int v9), some (.int v22), none, none]) d163_82 rfl rfl) ?_
          exact yL.rf
        ·
          refine yL.eq (y_iload_n (pc := 74) (x := v9) d163_74 rfl) ?_
          refine yL.eq (y_iconst (pc := 75) (v := 1) d163_75 kc_1) ?_
          refine yL.eq (y_iadd (pc := 76) d163_76) ?_
          refine yL.eq (y_bipush (pc := 77) (v := 8) d163_77 kb_8) ?_
          refine y_callv_i (pc := 79) (n := 3) (n' := 4) (nc' := 0) (ns' := 0) [.int (v9 + 1), .int 8] [] false d163_79 q163_177 mk_159 s_t_190 rfl rfl (Nat.le_of_ble_eq_true rfl) (Nat.le_of_ble_eq_true rfl) rfl (by decide +kernel) (by decide +kernel) (fun v24 M23 => ?_)
          refine yL.eq (y_istore_n (pc := 82) (ls' := [some (.ref 190), some (.int v2), some (.int v9), some (.int v24), none, none]) d163_82 rfl rfl) ?_
          exact yL.rf
    ·
      exact yL.rf
set_option maxRecDepth 20000 in
set_option maxHeartbeats 4000000 in
theorem e163_83 {x1 : Int32} {x2 : Int32} {x3 : Int32} {o4 : Option Value} {o5 : Option Value} {M : yM} : yL (yCi false (yX 157 0 [some (.ref 190)] [] M 0 0) fun v2 M1 => yCi false (yX 162 0 [some (.int v2)] [] M1 0 0) fun v4 M3 => if v4 = (-1) then yCv false (yX 158 0 [some (.ref 190), some (.int 0)] [] M3 0 0) fun M6 => if (M6 190 16) = 0 then yV M6 else yCi false (yX 122 0 [some (.int v4)] [] M6 0 0) fun v9 M8 => yCi false (yX 122 0 [some (.int v4)] [] M8 0 0) fun v11 M10 => if x3 = 0 then none else yCi false (yX 117 0 [some (.int ((v9 * x1) + ((v11 * x2) / x3)))] [] M10 0 0) fun v14 M13 => if v14 = 0 then yCi false (yX 161 0 [some (.ref 190), some (.int 0)] [] M13 0 0) fun v17 M16 => if v17 = 0 then yV M16 else yCi false (yX 147 0 [some (.ref 193), some (.int ((v9 * x1) + ((v11 * x2) / x3)))] [] M16 0 0) fun v20 M19 => yV M19 else if (M13 193 0) < 12 then yCi false (yX 161 0 [some (.ref 190), some (.int 1)] [] M13 0 0) fun v23 M22 => if v23 = 0 then yV M22 else yCi false (yX 147 0 [some (.ref 193), some (.int ((v9 * x1) + ((v11 * x2) / x3)))] [] M22 0 0) fun v26 M25 => yV M25 else yCi false (yX 161 0 [some (.ref 190), some (.int 0)] [] M13 0 0) fun v28 M27 => if v28 = 0 then yV M27 else yCi false (yX 147 0 [some (.ref 193), some (.int ((v9 * x1) + ((v11 * x2) / x3)))] [] M27 0 0) fun v31 M30 => yV M30 else yCv false (yX 158 0 [some (.ref 190), some (.int 1)] [] M3 0 0) fun M32 => if (M32 190 16) = 0 then yV M32 else yCi false (yX 122 0 [some (.int v4)] [] M32 0 0) fun v35 M34 => yCi false (yX 122 0 [some (.int v4)] [] M34 0 0) fun v37 M36 => if x3 = 0 then none else yCi false (yX 117 0 [some (.int ((v35 * x1) + ((v37 * x2) / x3)))] [] M36 0 0) fun v40 M39 => if v40 = 0 then yCi false (yX 161 0 [some (.ref 190), some (.int 0)] [] M39 0 0) fun v43 M42 => if v43 = 0 then yV M42 else yCi false (yX 147 0 [some (.ref 193), some (.int ((v35 * x1) + ((v37 * x2) / x3)))] [] M42 0 0) fun v46 M45 => yV M45 else if (M39 193 0) < 12 then yCi false (yX 161 0 [some (.ref 190), some (.int 1)] [] M39 0 0) fun v49 M48 => if v49 = 0 then yV M48 else yCi false (yX 147 0 [some (.ref 193), some (.int ((v35 * x1) + ((v37 * x2) / x3)))] [] M48 0 0) fun v52 M51 => yV M51 else yCi false (yX 161 0 [some (.ref 190), some (.int 0)] [] M39 0 0) fun v54 M53 => if v54 = 0 then yV M53 else yCi false (yX 147 0 [some (.ref 193), some (.int ((v35 * x1) + ((v37 * x2) / x3)))] [] M53 0 0) fun v57 M56 => yV M56) (yX 163 83 [some (.ref 190), some (.int x1), some (.int x2), some (.int x3), o4, o5] [] M 0 0) := by
  refine yL.eq (y_aload_n (pc := 83) (x := 190) d163_83 rfl) ?_
  refine y_callv_i (pc := 84) (n := 1) (n' := 1) (nc' := 0) (ns' := 0) [] [] false d163_84 q163_169 mk_157 s_t_190 rfl rfl (Nat.le_of_ble_eq_true rfl) (Nat.le_of_ble_eq_true rfl) rfl (by decide +kernel) (by decide +kernel) (fun v2 M1 => ?_)
  refine y_calls_i (pc := 87) (n := 1) (n' := 1) (nc' := 0) (ns' := 0) [.int v2] [] false d163_87 q163_186 rfl rfl rfl (Nat.le_of_ble_eq_true rfl) (Nat.le_of_ble_eq_true rfl) rfl (by decide +kernel) (by decide +kernel) (fun v4 M3 => ?_)
  refine yL.eq (y_istore (pc := 90) (ls' := [some (.ref 190), some (.int x1), some (.int x2), some (.int x3), some (.int v4), o5]) d163_90 rfl rfl) ?_
  refine yL.eq (y_aload_n (pc := 92) (x := 190) d163_92 rfl) ?_
  refine yL.eq (y_iload (pc := 93) (x := v4) d163_93 rfl) ?_
  refine yL.eq (y_iconst (pc := 95) (v := (-1)) d163_95 kc_m1) ?_
  refine yL.eq (y_icmp_eq (pc := 96) (t := 103) d163_96 (by decide)) ?_
  refine yL.ite (fun h5 => ?_) (fun h5 => ?_)
  ·
    refine yL.eq (y_iconst (pc := 103) (v := 0) d163_103 kc_0) ?_
    refine y_callv_v (pc := 104) (n := 2) (n' := 2) (nc' := 0) (ns' := 0) [.int 0] [] false d163_104 q163_173 mk_158 s_t_190 rfl rfl (Nat.le_of_ble_eq_true rfl) (Nat.le_of_ble_eq_true rfl) rfl (by decide +kernel) (by decide +kernel) (fun M6 => ?_)
    refine yL.eq (y_aload_n (pc := 107) (x := 190) d163_107 rfl) ?_
    refine yL.eq (y_geti (pc := 108) d163_108 q163_165 s_i_190_16) ?_
    refine yL.eq (y_if_eq (pc := 111) (t := 174) d163_111 (by decide)) ?_
    refine yL.ite (fun h7 => ?_) (fun h7 => ?_)
    ·
      exact yL.eq (y_ret (pc := 174) d163_174 mr_163) yL.rf
    ·
      refine yL.eq (y_iload (pc := 114) (x := v4) d163_114 rfl) ?_
      refine y_calls_i (pc := 116) (n := 1) (n' := 1) (nc' := 0) (ns' := 0) [.int v4] [] false d163_116 q163_76 rfl rfl rfl (Nat.le_of_ble_eq_true rfl) (Nat.le_of_ble_eq_true rfl) rfl (by decide +kernel) (by decide +kernel) (fun v9 M8 => ?_)
      refine yL.eq (y_iload_n (pc := 119) (x := x1) d163_119 rfl) ?_
      refine yL.eq (y_imul (pc := 120) d163_120) ?_
      refine yL.eq (y_iload (pc := 121) (x := v4) d163_121 rfl) ?_
      refine y_calls_i (pc := 123) (n := 1) (n' := 1) (nc' := 0) (ns' := 0) [.int v4] [.int (v9 * x1)] false d163_123 q163_76 rfl rfl rfl (Nat.le_of_ble_eq_true rfl) (Nat.le_of_ble_eq_true rfl) rfl (by decide +kernel) (by decide +kernel) (fun v11 M10 => ?_)
      refine yL.eq (y_iload_n (pc := 126) (x := x2) d163_126 rfl) ?_
      refine yL.eq (y_imul (pc := 127) d163_127) ?_
      refine yL.eq (y_iload_n (pc := 128) (x := x3) d163_128 rfl) ?_
      refine yL.eq (y_idiv (pc := 129) d163_129) ?_
      refine yL.gn (fun h12 => ?_)
      refine yL.eq (y_iadd (pc := 130) d163_130) ?_
      refine yL.eq (y_istore (pc := 131) (ls' := [some (.ref 190), some (.int x1), some (.int x2), some (.int x3), some (.int v4), some (.int ((v9 * x1) + ((v11 * x2) / x3)))]) d163_131 rfl rfl) ?_
      refine yL.eq (y_aload_n (pc := 133) (x := 190) d163_133 rfl) ?_
      refine yL.eq (y_iload (pc := 134) (x := ((v9 * x1) + ((v11 * x2) / x3))) d163_134 rfl) ?_
      refine y_calls_i (pc := 136) (n := 1) (n' := 1) (nc' := 0) (ns' := 0) [.int ((v9 * x1) + ((v11 * x2) / x3))] [.ref 190] false d163_136 q163_189 rfl rfl rfl (Nat.le_of_ble_eq_true rfl) (Nat.le_of_ble_eq_true rfl) rfl (by decide +kernel) (by decide +kernel) (fun v14 M13 => ?_)
      refine yL.eq (y_if_eq (pc := 139) (t := 157) d163_139 (by decide)) ?_
      refine yL.ite (fun h15 => ?_) (fun h15 => ?_)
      ·
        refine yL.eq (y_iconst (pc := 157) (v := 0) d163_157 kc_0) ?_
        refine y_callv_i (pc := 158) (n := 2) (n' := 2) (nc' := 0) (ns' := 0) [.int 0] [] false d163_158 q163_192 mk_161 s_t_190 rfl rfl (Nat.le_of_ble_eq_true rfl) (Nat.le_of_ble_eq_true rfl) rfl (by decide +kernel) (by decide +kernel) (fun v17 M16 => ?_)
        refine yL.eq (y_if_eq (pc := 161) (t := 174) d163_161 (by decide)) ?_
        refine yL.ite (fun h18 => ?_) (fun h18 => ?_)
        ·
          exact yL.eq (y_ret (pc := 174) d163_174 mr_163) yL.rf
        ·
          refine yL.eq (y_aload_n (pc := 164) (x := 190) d163_164 rfl) ?_
          refine yL.eq (y_getr (pc := 165) (r := 193) d163_165 q163_16 s_r_190_3) ?_
          refine yL.eq (y_iload (pc := 168) (x := ((v9 * x1) + ((v11 * x2) / x3))) d163_168 rfl) ?_
          refine y_calls_i (pc := 170) (n := 2) (n' := 2) (nc' := 0) (ns' := 0) [.ref 193, .int ((v9 * x1) + ((v11 * x2) / x3))] [] false d163_170 q163_196 rfl rfl rfl (Nat.le_of_ble_eq_true rfl) (Nat.le_of_ble_eq_true rfl) rfl (by decide +kernel) (by decide +kernel) (fun v20 M19 => ?_)
          refine yL.eq (y_pop (pc := 173) d163_173 rfl) ?_
          exact yL.eq (y_ret (pc := 174) d163_174 mr_163) yL.rf
      ·
        refine yL.eq (y_aload_n (pc := 142) (x := 190) d163_142 rfl) ?_
        refine yL.eq (y_getr (pc := 143) (r := 193) d163_143 q163_16 s_r_190_3) ?_
        refine yL.eq (y_iconst (pc := 146) (v := 0) d163_146 kc_0) ?_
        refine yL.eq (y_iald (pc := 147) (n := 95) d163_147 (yR_a yR193)) ?_
        refine yL.eq (if_pos in_0_95) ?_
        show yL _ (yX 163 148 [some (.ref 190), some (.int x1), some (.int x2), some (.int x3), some (.int v4), some (.int ((v9 * x1) + ((v11 * x2) / x3)))] ([.int (M13 193 0), .ref 190]) M13 0 0)
        refine yL.eq (y_bipush (pc := 148) (v := 12) d163_148 kb_12) ?_
        refine yL.eq (y_icmp_ge (pc := 150) (t := 157) d163_150 (by decide)) ?_
        refine yL.ite (fun h21 => ?_) (fun h21 => ?_)
        ·
          refine yL.eq (y_iconst (pc := 153) (v := 1) d163_153 kc_1) ?_
          refine yL.eq (y_goto (pc := 154) (t := 158) d163_154 (by decide)) ?_
          refine y_callv_i (pc := 158) (n := 2) (n' := 2) (nc' := 0) (ns' := 0) [.int 1] [] false d163_158 q163_192 mk_161 s_t_190 rfl rfl (Nat.le_of_ble_eq_true rfl) (Nat.le_of_ble_eq_true rfl) rfl (by decide +kernel) (by decide +kernel) (fun v23 M22 => ?_)
          refine yL.eq (y_if_eq (pc := 161) (t := 174) d163_161 (by decide)) ?_
          refine yL.ite (fun h24 => ?_) (fun h24 => ?_)
          ·
            exact yL.eq (y_ret (pc := 174) d163_174 mr_163) yL.rf
          ·
            refine yL.eq (y_aload_n (pc := 164) (x := 190) d163_164 rfl) ?_
            refine yL.eq (y_getr (pc := 165) (r := 193) d163_165 q163_16 s_r_190_3) ?_
            refine yL.eq (y_iload (pc := 168) (x := ((v9 * x1) + ((v11 * x2) / x3))) d163_168 rfl) ?_
            refine y_calls_i (pc := 170) (n := 2) (n' := 2) (nc' := 0) (ns' := 0) [.ref 193, .int ((v9 * x1) + ((v11 * x2) / x3))] [] false d163_170 q163_196 rfl rfl rfl (Nat.le_of_ble_eq_true rfl) (Nat.le_of_ble_eq_true rfl) rfl (by decide +kernel) (by decide +kernel) (fun v26 M25 => ?_)
            refine yL.eq (y_pop (pc := 173) d163_173 rfl) ?_
            exact yL.eq (y_ret (pc := 174) d163_174 mr_163) yL.rf
        ·
          refine yL.eq (y_iconst (pc := 157) (v := 0) d163_157 kc_0) ?_
          refine y_callv_i (pc := 158) (n := 2) (n' := 2) (nc' := 0) (ns' := 0) [.int 0] [] false d163_158 q163_192 mk_161 s_t_190 rfl rfl (Nat.le_of_ble_eq_true rfl) (Nat.le_of_ble_eq_true rfl) rfl (by decide +kernel) (by decide +kernel) (fun v28 M27 => ?_)
          refine yL.eq (y_if_eq (pc := 161) (t := 174) d163_161 (by decide)) ?_
          refine yL.ite (fun h29 => ?_) (fun h29 => ?_)
          ·
            exact yL.eq (y_ret (pc := 174) d163_174 mr_163) yL.rf
          ·
            refine yL.eq (y_aload_n (pc := 164) (x := 190) d163_164 rfl) ?_
            refine yL.eq (y_getr (pc := 165) (r := 193) d163_165 q163_16 s_r_190_3) ?_
            refine yL.eq (y_iload (pc := 168) (x := ((v9 * x1) + ((v11 * x2) / x3))) d163_168 rfl) ?_
            refine y_calls_i (pc := 170) (n := 2) (n' := 2) (nc' := 0) (ns' := 0) [.ref 193, .int ((v9 * x1) + ((v11 * x2) / x3))] [] false d163_170 q163_196 rfl rfl rfl (Nat.le_of_ble_eq_true rfl) (Nat.le_of_ble_eq_true rfl) rfl (by decide +kernel) (by decide +kernel) (fun v31 M30 => ?_)
            refine yL.eq (y_pop (pc := 173) d163_173 rfl) ?_
            exact yL.eq (y_ret (pc := 174) d163_174 mr_163) yL.rf
  ·
    refine yL.eq (y_iconst (pc := 99) (v := 1) d163_99 kc_1) ?_
    refine yL.eq (y_goto (pc := 100) (t := 104) d163_100 (by decide)) ?_
    refine y_callv_v (pc := 104) (n := 2) (n' := 2) (nc' := 0) (ns' := 0) [.int 1] [] false d163_104 q163_173 mk_158 s_t_190 rfl rfl (Nat.le_of_ble_eq_true rfl) (Nat.le_of_ble_eq_true rfl) rfl (by decide +kernel) (by decide +kernel) (fun M32 => ?_)
    refine yL.eq (y_aload_n (pc := 107) (x := 190) d163_107 rfl) ?_
    refine yL.eq (y_geti (pc := 108) d163_108 q163_165 s_i_190_16) ?_
    refine yL.eq (y_if_eq (pc := 111) (t := 174) d163_111 (by decide)) ?_
    refine yL.ite (fun h33 => ?_) (fun h33 => ?_)
    ·
      exact yL.eq (y_ret (pc := 174) d163_174 mr_163) yL.rf
    ·
      refine yL.eq (y_iload (pc := 114) (x := v4) d163_114 rfl) ?_
      refine y_calls_i (pc := 116) (n := 1) (n' := 1) (nc' := 0) (ns' := 0) [.int v4] [] false d163_116 q163_76 rfl rfl rfl (Nat.le_of_ble_eq_true rfl) (Nat.le_of_ble_eq_true rfl) rfl (by decide +kernel) (by decide +kernel) (fun v35 M34 => ?_)
      refine yL.eq (y_iload_n (pc := 119) (x := x1) d163_119 rfl) ?_
      refine yL.eq (y_imul (pc := 120) d163_120) ?_
      refine yL.eq (y_iload (pc := 121) (x := v4) d163_121 rfl) ?_
      refine y_calls_i (pc := 123) (n := 1) (n' := 1) (nc' := 0) (ns' := 0) [.int v4] [.int (v35 * x1)] false d163_123 q163_76 rfl rfl rfl (Nat.le_of_ble_eq_true rfl) (Nat.le_of_ble_eq_true rfl) rfl (by decide +kernel) (by decide +kernel) (fun v37 M36 => ?_)
      refine yL.eq (y_iload_n (pc := 126) (x := x2) d163_126 rfl) ?_
      refine yL.eq (y_imul (pc := 127) d163_127) ?_
      refine yL.eq (y_iload_n (pc := 128) (x := x3) d163_128 rfl) ?_
      refine yL.eq (y_idiv (pc := 129) d163_129) ?_
      refine yL.gn (fun h38 => ?_)
      refine yL.eq (y_iadd (pc := 130) d163_130) ?_
      refine yL.eq (y_istore (pc := 131) (ls' := [some (.ref 190), some (.int x1), some (.int x2), some (.int x3), some (.int v4), some (.int ((v35 * x1) + ((v37 * x2) / x3)))]) d163_131 rfl rfl) ?_
      refine yL.eq (y_aload_n (pc := 133) (x := 190) d163_133 rfl) ?_
      refine yL.eq (y_iload (pc := 134) (x := ((v35 * x1) + ((v37 * x2) / x3))) d163_134 rfl) ?_
      refine y_calls_i (pc := 136) (n := 1) (n' := 1) (nc' := 0) (ns' := 0) [.int ((v35 * x1) + ((v37 * x2) / x3))] [.ref 190] false d163_136 q163_189 rfl rfl rfl (Nat.le_of_ble_eq_true rfl) (Nat.le_of_ble_eq_true rfl) rfl (by decide +kernel) (by decide +kernel) (fun v40 M39 => ?_)
      refine yL.eq (y_if_eq (pc := 139) (t := 157) d163_139 (by decide)) ?_
      refine yL.ite (fun h41 => ?_) (fun h41 => ?_)
      ·
        refine yL.eq (y_iconst (pc := 157) (v := 0) d163_157 kc_0) ?_
        refine y_callv_i (pc := 158) (n := 2) (n' := 2) (nc' := 0) (ns' := 0) [.int 0] [] false d163_158 q163_192 mk_161 s_t_190 rfl rfl (Nat.le_of_ble_eq_true rfl) (Nat.le_of_ble_eq_true rfl) rfl (by decide +kernel) (by decide +kernel) (fun v43 M42 => ?_)
        refine yL.eq (y_if_eq (pc := 161) (t := 174) d163_161 (by decide)) ?_
        refine yL.ite (fun h44 => ?_) (fun h44 => ?_)
        ·
          exact yL.eq (y_ret (pc := 174) d163_174 mr_163) yL.rf
        ·
          refine yL.eq (y_aload_n (pc := 164) (x := 190) d163_164 rfl) ?_
          refine yL.eq (y_getr (pc := 165) (r := 193) d163_165 q163_16 s_r_190_3) ?_
          refine yL.eq (y_iload (pc := 168) (x := ((v35 * x1) + ((v37 * x2) / x3))) d163_168 rfl) ?_
          refine y_calls_i (pc := 170) (n := 2) (n' := 2) (nc' := 0) (ns' := 0) [.ref 193, .int ((v35 * x1) + ((v37 * x2) / x3))] [] false d163_170 q163_196 rfl rfl rfl (Nat.le_of_ble_eq_true rfl) (Nat.le_of_ble_eq_true rfl) rfl (by decide +kernel) (by decide +kernel) (fun v46 M45 => ?_)
          refine yL.eq (y_pop (pc := 173) d163_173 rfl) ?_
          exact yL.eq (y_ret (pc := 174) d163_174 mr_163) yL.rf
      ·
        refine yL.eq (y_aload_n (pc := 142) (x := 190) d163_142 rfl) ?_
        refine yL.eq (y_getr (pc := 143) (r := 193) d163_143 q163_16 s_r_190_3) ?_
        refine yL.eq (y_iconst (pc := 146) (v := 0) d163_146 kc_0) ?_
        refine yL.eq (y_iald (pc := 147) (n := 95) d163_147 (yR_a yR193)) ?_
        refine yL.eq (if_pos in_0_95) ?_
        show yL _ (yX 163 148 [some (.ref 190), some (.int x1), some (.int x2), some (.int x3), some (.int v4), some (.int ((v35 * x1) + ((v37 * x2) / x3)))] ([.int (M39 193 0), .ref 190]) M39 0 0)
        refine yL.eq (y_bipush (pc := 148) (v := 12) d163_148 kb_12) ?_
        refine yL.eq (y_icmp_ge (pc := 150) (t := 157) d163_150 (by decide)) ?_
        refine yL.ite (fun h47 => ?_) (fun h47 => ?_)
        ·
          refine yL.eq (y_iconst (pc := 153) (v := 1) d163_153 kc_1) ?_
          refine yL.eq (y_goto (pc := 154) (t := 158) d163_154 (by decide)) ?_
          refine y_callv_i (pc := 158) (n := 2) (n' := 2) (nc' := 0) (ns' := 0) [.int 1] [] false d163_158 q163_192 mk_161 s_t_190 rfl rfl (Nat.le_of_ble_eq_true rfl) (Nat.le_of_ble_eq_true rfl) rfl (by decide +kernel) (by decide +kernel) (fun v49 M48 => ?_)
          refine yL.eq (y_if_eq (pc := 161) (t := 174) d163_161 (by decide)) ?_
          refine yL.ite (fun h50 => ?_) (fun h50 => ?_)
          ·
            exact yL.eq (y_ret (pc := 174) d163_174 mr_163) yL.rf
          ·
            refine yL.eq (y_aload_n (pc := 164) (x := 190) d163_164 rfl) ?_
            refine yL.eq (y_getr (pc := 165) (r := 193) d163_165 q163_16 s_r_190_3) ?_
            refine yL.eq (y_iload (pc := 168) (x := ((v35 * x1) + ((v37 * x2) / x3))) d163_168 rfl) ?_
            refine y_calls_i (pc := 170) (n := 2) (n' := 2) (nc' := 0) (ns' := 0) [.ref 193, .int ((v35 * x1) + ((v37 * x2) / x3))] [] false d163_170 q163_196 rfl rfl rfl (Nat.le_of_ble_eq_true rfl) (Nat.le_of_ble_eq_true rfl) rfl (by decide +kernel) (by decide +kernel) (fun v52 M51 => ?_)
            refine yL.eq (y_pop (pc := 173) d163_173 rfl) ?_
            exact yL.eq (y_ret (pc := 174) d163_174 mr_163) yL.rf
        ·
          refine yL.eq (y_iconst (pc := 157) (v := 0) d163_157 kc_0) ?_
          refine y_callv_i (pc := 158) (n := 2) (n' := 2) (nc' := 0) (ns' := 0) [.int 0] [] false d163_158 q163_192 mk_161 s_t_190 rfl rfl (Nat.le_of_ble_eq_true rfl) (Nat.le_of_ble_eq_true rfl) rfl (by decide +kernel) (by decide +kernel) (fun v54 M53 => ?_)
          refine yL.eq (y_if_eq (pc := 161) (t := 174) d163_161 (by decide)) ?_
          refine yL.ite (fun h55 => ?_) (fun h55 => ?_)
          ·
            exact yL.eq (y_ret (pc := 174) d163_174 mr_163) yL.rf
          ·
            refine yL.eq (y_aload_n (pc := 164) (x := 190) d163_164 rfl) ?_
            refine yL.eq (y_getr (pc := 165) (r := 193) d163_165 q163_16 s_r_190_3) ?_
            refine yL.eq (y_iload (pc := 168) (x := ((v35 * x1) + ((v37 * x2) / x3))) d163_168 rfl) ?_
            refine y_calls_i (pc := 170) (n := 2) (n' := 2) (nc' := 0) (ns' := 0) [.ref 193, .int ((v35 * x1) + ((v37 * x2) / x3))] [] false d163_170 q163_196 rfl rfl rfl (Nat.le_of_ble_eq_true rfl) (Nat.le_of_ble_eq_true rfl) rfl (by decide +kernel) (by decide +kernel) (fun v57 M56 => ?_)
            refine yL.eq (y_pop (pc := 173) d163_173 rfl) ?_
            exact yL.eq (y_ret (pc := 174) d163_174 mr_163) yL.rf
set_option maxRecDepth 20000 in
set_option maxHeartbeats 4000000 in
theorem e164  {M : yM} : yL (yCi false (yX 160 0 [some (.ref 190), some (.int 1), some (.int 90), none] [] M 0 0) fun v2 M1 => yCi false (yX 159 0 [some (.ref 190), some (.int 0), some (.int 4), none] [] M1 0 0) fun v4 M3 => yCi false (yX 159 0 [some (.ref 190), some (.int 0), some (.int 1), none] [] M3 0 0) fun v6 M5 => if (M5 193 15) < 14 then yCi false (yX 161 0 [some (.ref 190), some (.int 1)] [] M5 0 0) fun v9 M8 => if v9 = 0 then yV M8 else if v4 = 4 then if v6 = 1 then yCi false (yX 150 0 [some (.ref 193), some (.int v2), some (.int (-1)), some (.int 1), none] [] M8 0 0) fun v14 M13 => yV M13 else yCi false (yX 150 0 [some (.ref 193), some (.int v2), some (.int (-1)), some (.int 0), none] [] M8 0 0) fun v16 M15 => yV M15 else if v6 = 1 then yCi false (yX 150 0 [some (.ref 193), some (.int v2), some (.int v4), some (.int 1), none] [] M8 0 0) fun v19 M18 => yV M18 else yCi false (yX 150 0 [some (.ref 193), some (.int v2), some (.int v4), some (.int 0), none] [] M8 0 0) fun v21 M20 => yV M20 else yCi false (yX 161 0 [some (.ref 190), some (.int 0)] [] M5 0 0) fun v23 M22 => if v23 = 0 then yV M22 else if v4 = 4 then if v6 = 1 then yCi false (yX 150 0 [some (.ref 193), some (.int v2), some (.int (-1)), some (.int 1), none] [] M22 0 0) fun v28 M27 => yV M27 else yCi false (yX 150 0 [some (.ref 193), some (.int v2), some (.int (-1)), some (.int 0), none] [] M22 0 0) fun v30 M29 => yV M29 else if v6 = 1 then yCi false (yX 150 0 [some (.ref 193), some (.int v2), some (.int v4), some (.int 1), none] [] M22 0 0) fun v33 M32 => yV M32 else yCi false (yX 150 0 [some (.ref 193), some (.int v2), some (.int v4), some (.int 0), none] [] M22 0 0) fun v35 M34 => yV M34) (yX 164 0 [some (.ref 190), none, none, none] [] M 0 0) := by
  refine yL.eq (y_aload_n (pc := 0) (x := 190) d164_0 rfl) ?_
  refine yL.eq (y_iconst (pc := 1) (v := 1) d164_1 kc_1) ?_
  refine yL.eq (y_bipush (pc := 2) (v := 90) d164_2 kb_90) ?_
  refine y_callv_i (pc := 4) (n := 3) (n' := 4) (nc' := 0) (ns' := 0) [.int 1, .int 90] [] false d164_4 q164_183 mk_160 s_t_190 rfl rfl (Nat.le_of_ble_eq_true rfl) (Nat.le_of_ble_eq_true rfl) rfl (by decide +kernel) (by decide +kernel) (fun v2 M1 => ?_)
  refine yL.eq (y_istore_n (pc := 7) (ls' := [some (.ref 190), some (.int v2), none, none]) d164_7 rfl rfl) ?_
  refine yL.eq (y_aload_n (pc := 8) (x := 190) d164_8 rfl) ?_
  refine yL.eq (y_iconst (pc := 9) (v := 0) d164_9 kc_0) ?_
  refine yL.eq (y_iconst (pc := 10) (v := 4) d164_10 kc_4) ?_
  refine y_callv_i (pc := 11) (n := 3) (n' := 4) (nc' := 0) (ns' := 0) [.int 0, .int 4] [] false d164_11 q164_177 mk_159 s_t_190 rfl rfl (Nat.le_of_ble_eq_true rfl) (Nat.le_of_ble_eq_true rfl) rfl (by decide +kernel) (by decide +kernel) (fun v4 M3 => ?_)
  refine yL.eq (y_istore_n (pc := 14) (ls' := [some (.ref 190), some (.int v2), some (.int v4), none]) d164_14 rfl rfl) ?_
  refine yL.eq (y_aload_n (pc := 15) (x := 190) d164_15 rfl) ?_
  refine yL.eq (y_iconst (pc := 16) (v := 0) d164_16 kc_0) ?_
  refine yL.eq (y_iconst (pc := 17) (v := 1) d164_17 kc_1) ?_
  refine y_callv_i (pc := 18) (n := 3) (n' := 4) (nc' := 0) (ns' := 0) [.int 0, .int 1] [] false d164_18 q164_177 mk_159 s_t_190 rfl rfl (Nat.le_of_ble_eq_true rfl) (Nat.le_of_ble_eq_true rfl) rfl (by decide +kernel) (by decide +kernel) (fun v6 M5 => ?_)
  refine yL.eq (y_istore_n (pc := 21) (ls' := [some (.ref 190), some (.int v2), some (.int v4), some (.int v6)]) d164_21 rfl rfl) ?_
  refine yL.eq (y_aload_n (pc := 22) (x := 190) d164_22 rfl) ?_
  refine yL.eq (y_aload_n (pc := 23) (x := 190) d164_23 rfl) ?_
  refine yL.eq (y_getr (pc := 24) (r := 193) d164_24 q164_16 s_r_190_3) ?_
  refine yL.eq (y_bipush (pc := 27) (v := 15) d164_27 kb_15) ?_
  refine yL.eq (y_iald (pc := 29) (n := 95) d164_29 (yR_a yR193)) ?_
  refine yL.eq (if_pos in_15_95) ?_
  show yL _ (yX 164 30 [some (.ref 190), some (.int v2), some (.int v4), some (.int v6)] ([.int (M5 193 15), .ref 190]) M5 0 0)
  refine yL.eq (y_bipush (pc := 30) (v := 14) d164_30 kb_14) ?_
  refine yL.eq (y_icmp_ge (pc := 32) (t := 39) d164_32 (by decide)) ?_
  refine yL.ite (fun h7 => ?_) (fun h7 => ?_)
  ·
    refine yL.eq (y_iconst (pc := 35) (v := 1) d164_35 kc_1) ?_
    refine yL.eq (y_goto (pc := 36) (t := 40) d164_36 (by decide)) ?_
    refine y_callv_i (pc := 40) (n := 2) (n' := 2) (nc' := 0) (ns' := 0) [.int 1] [] false d164_40 q164_192 mk_161 s_t_190 rfl rfl (Nat.le_of_ble_eq_true rfl) (Nat.le_of_ble_eq_true rfl) rfl (by decide +kernel) (by decide +kernel) (fun v9 M8 => ?_)
    refine yL.eq (y_if_eq (pc := 43) (t := 75) d164_43 (by decide)) ?_
    refine yL.ite (fun h10 => ?_) (fun h10 => ?_)
    ·
      exact yL.eq (y_ret (pc := 75) d164_75 mr_164) yL.rf
    ·
      refine yL.eq (y_aload_n (pc := 46) (x := 190) d164_46 rfl) ?_
      refine yL.eq (y_getr (pc := 47) (r := 193) d164_47 q164_16 s_r_190_3) ?_
      refine yL.eq (y_iload_n (pc := 50) (x := v2) d164_50 rfl) ?_
      refine yL.eq (y_iload_n (pc := 51) (x := v4) d164_51 rfl) ?_
      refine yL.eq (y_iconst (pc := 52) (v := 4) d164_52 kc_4) ?_
      refine yL.eq (y_icmp_ne (pc := 53) (t := 60) d164_53 (by decide)) ?_
      refine yL.ite (fun h11 => ?_) (fun h11 => ?_)
      ·
        refine yL.eq (y_iconst (pc := 56) (v := (-1)) d164_56 kc_m1) ?_
        refine yL.eq (y_goto (pc := 57) (t := 61) d164_57 (by decide)) ?_
        refine yL.eq (y_iload_n (pc := 61) (x := v6) d164_61 rfl) ?_
        refine yL.eq (y_iconst (pc := 62) (v := 1) d164_62 kc_1) ?_
        refine yL.eq (y_icmp_ne (pc := 63) (t := 70) d164_63 (by decide)) ?_
        refine yL.ite (fun h12 => ?_) (fun h12 => ?_)
        ·
          refine yL.eq (y_iconst (pc := 66) (v := 1) d164_66 kc_1) ?_
          refine yL.eq (y_goto (pc := 67) (t := 71) d164_67 (by decide)) ?_
          refine y_calls_i (pc := 71) (n := 4) (n' := 5) (nc' := 0) (ns' := 0) [.ref 193, .int v2, .int (-1), .int 1] [] false d164_71 q164_199 rfl rfl rfl (Nat.le_of_ble_eq_true rfl) (Nat.le_of_ble_eq_true rfl) rfl (by decide +kernel) (by decide +kernel) (fun v14 M13 => ?_)
          refine yL.eq (y_pop (pc := 74) d164_74 rfl) ?_
          exact yL.eq (y_ret (pc := 75) d164_75 mr_164) yL.rf
        ·
          refine yL.eq (y_iconst (pc := 70) (v := 0) d164_70 kc_0) ?_
          refine y_calls_i (pc := 71) (n := 4) (n' := 5) (nc' := 0) (ns' := 0) [.ref 193, .int v2, .int (-1), .int 0] [] false d164_71 q164_199 rfl rfl rfl (Nat.le_of_ble_eq_true rfl) (Nat.le_of_ble_eq_true rfl) rfl (by decide +kernel) (by decide +kernel) (fun v16 M15 => ?_)
          refine yL.eq (y_pop (pc := 74) d164_74 rfl) ?_
          exact yL.eq (y_ret (pc := 75) d164_75 mr_164) yL.rf
      ·
        refine yL.eq (y_iload_n (pc := 60) (x := v4) d164_60 rfl) ?_
        refine yL.eq (y_iload_n (pc := 61) (x := v6) d164_61 rfl) ?_
        refine yL.eq (y_iconst (pc := 62) (v := 1) d164_62 kc_1) ?_
        refine yL.eq (y_icmp_ne (pc := 63) (t := 70) d164_63 (by decide)) ?_
        refine yL.ite (fun h17 => ?_) (fun h17 => ?_)
        ·
          refine yL.eq (y_iconst (pc := 66) (v := 1) d164_66 kc_1) ?_
          refine yL.eq (y_goto (pc := 67) (t := 71) d164_67 (by decide)) ?_
          refine y_calls_i (pc := 71) (n := 4) (n' := 5) (nc' := 0) (ns' := 0) [.ref 193, .int v2, .int v4, .int 1] [] false d164_71 q164_199 rfl rfl rfl (Nat.le_of_ble_eq_true rfl) (Nat.le_of_ble_eq_true rfl) rfl (by decide +kernel) (by decide +kernel) (fun v19 M18 => ?_)
          refine yL.eq (y_pop (pc := 74) d164_74 rfl) ?_
          exact yL.eq (y_ret (pc := 75) d164_75 mr_164) yL.rf
        ·
          refine yL.eq (y_iconst (pc := 70) (v := 0) d164_70 kc_0) ?_
          refine y_calls_i (pc := 71) (n := 4) (n' := 5) (nc' := 0) (ns' := 0) [.ref 193, .int v2, .int v4, .int 0] [] false d164_71 q164_199 rfl rfl rfl (Nat.le_of_ble_eq_true rfl) (Nat.le_of_ble_eq_true rfl) rfl (by decide +kernel) (by decide +kernel) (fun v21 M20 => ?_)
          refine yL.eq (y_pop (pc := 74) d164_74 rfl) ?_
          exact yL.eq (y_ret (pc := 75) d164_75 mr_164) yL.rf
  ·
    refine yL.eq (y_iconst (pc := 39) (v := 0) d164_39 kc_0) ?_
    refine y_callv_i (pc := 40) (n := 2) (n' := 2) (nc' := 0) (ns' := 0) [.int 0] [] false d164_40 q164_192 mk_161 s_t_190 rfl rfl (Nat.le_of_ble_eq_true rfl) (Nat.le_of_ble_eq_true rfl) rfl (by decide +kernel) (by decide +kernel) (fun v23 M22 => ?_)
    refine yL.eq (y_if_eq (pc := 43) (t := 75) d164_43 (by decide)) ?_
    refine yL.ite (fun h24 => ?_) (fun h24 => ?_)
    ·
      exact yL.eq (y_ret (pc := 75) d164_75 mr_164) yL.rf
    ·
      refine yL.eq (y_aload_n (pc := 46) (x := 190) d164_46 rfl) ?_
      refine yL.eq (y_getr (pc := 47) (r := 193) d164_47 q164_16 s_r_190_3) ?_
      refine yL.eq (y_iload_n (pc := 50) (x := v2) d164_50 rfl) ?_
      refine yL.eq (y_iload_n (pc := 51) (x := v4) d164_51 rfl) ?_
      refine yL.eq (y_iconst (pc := 52) (v := 4) d164_52 kc_4) ?_
      refine yL.eq (y_icmp_ne (pc := 53) (t := 60) d164_53 (by decide)) ?_
      refine yL.ite (fun h25 => ?_) (fun h25 => ?_)
      ·
        refine yL.eq (y_iconst (pc := 56) (v := (-1)) d164_56 kc_m1) ?_
        refine yL.eq (y_goto (pc := 57) (t := 61) d164_57 (by decide)) ?_
        refine yL.eq (y_iload_n (pc := 61) (x := v6) d164_61 rfl) ?_
        refine yL.eq (y_iconst (pc := 62) (v := 1) d164_62 kc_1) ?_
        refine yL.eq (y_icmp_ne (pc := 63) (t := 70) d164_63 (by decide)) ?_
        refine yL.ite (fun h26 => ?_) (fun h26 => ?_)
        ·
          refine yL.eq (y_iconst (pc := 66) (v := 1) d164_66 kc_1) ?_
          refine yL.eq (y_goto (pc := 67) (t := 71) d164_67 (by decide)) ?_
          refine y_calls_i (pc := 71) (n := 4) (n' := 5) (nc' := 0) (ns' := 0) [.ref 193, .int v2, .int (-1), .int 1] [] false d164_71 q164_199 rfl rfl rfl (Nat.le_of_ble_eq_true rfl) (Nat.le_of_ble_eq_true rfl) rfl (by decide +kernel) (by decide +kernel) (fun v28 M27 => ?_)
          refine yL.eq (y_pop (pc := 74) d164_74 rfl) ?_
          exact yL.eq (y_ret (pc := 75) d164_75 mr_164) yL.rf
        ·
          refine yL.eq (y_iconst (pc := 70) (v := 0) d164_70 kc_0) ?_
          refine y_calls_i (pc := 71) (n := 4) (n' := 5) (nc' := 0) (ns' := 0) [.ref 193, .int v2, .int (-1), .int 0] [] false d164_71 q164_199 rfl rfl rfl (Nat.le_of_ble_eq_true rfl) (Nat.le_of_ble_eq_true rfl) rfl (by decide +kernel) (by decide +kernel) (fun v30 M29 => ?_)
          refine yL.eq (y_pop (pc := 74) d164_74 rfl) ?_
          exact yL.eq (y_ret (pc := 75) d164_75 mr_164) yL.rf
      ·
        refine yL.eq (y_iload_n (pc := 60) (x := v4) d164_60 rfl) ?_
        refine yL.eq (y_iload_n (pc := 61) (x := v6) d164_61 rfl) ?_
        refine yL.eq (y_iconst (pc := 62) (v := 1) d164_62 kc_1) ?_
        refine yL.eq (y_icmp_ne (pc := 63) (t := 70) d164_63 (by decide)) ?_
        refine yL.ite (fun h31 => ?_) (fun h31 => ?_)
        ·
          refine yL.eq (y_iconst (pc := 66) (v := 1) d164_66 kc_1) ?_
          refine yL.eq (y_goto (pc := 67) (t := 71) d164_67 (by decide)) ?_
          refine y_calls_i (pc := 71) (n := 4) (n' := 5) (nc' := 0) (ns' := 0) [.ref 193, .int v2, .int v4, .int 1] [] false d164_71 q164_199 rfl rfl rfl (Nat.le_of_ble_eq_true rfl) (Nat.le_of_ble_eq_true rfl) rfl (by decide +kernel) (by decide +kernel) (fun v33 M32 => ?_)
          refine yL.eq (y_pop (pc := 74) d164_74 rfl) ?_
          exact yL.eq (y_ret (pc := 75) d164_75 mr_164) yL.rf
        ·
          refine yL.eq (y_iconst (pc := 70) (v := 0) d164_70 kc_0) ?_
          refine y_calls_i (pc := 71) (n := 4) (n' := 5) (nc' := 0) (ns' := 0) [.ref 193, .int v2, .int v4, .int 0] [] false d164_71 q164_199 rfl rfl rfl (Nat.le_of_ble_eq_true rfl) (Nat.le_of_ble_eq_true rfl) rfl (by decide +kernel) (by decide +kernel) (fun v35 M34 => ?_)
          refine yL.eq (y_pop (pc := 74) d164_74 rfl) ?_
          exact yL.eq (y_ret (pc := 75) d164_75 mr_164) yL.rf
set_option maxRecDepth 20000 in
set_option maxHeartbeats 4000000 in
theorem e165  {M : yM} : yL (yCi false (yX 160 0 [some (.ref 190), some (.int 0), some (.int 13), none] [] M 0 0) fun v2 M1 => yCi false (yX 160 0 [some (.ref 190), some (.int 0), some (.int 11), none] [] M1 0 0) fun v4 M3 => yCi false (yX 115 0 [some (.ref 193), some (.int v2)] [] M3 0 0) fun v6 M5 => if v6 = 0 then yCi false (yX 161 0 [some (.ref 190), some (.int 0)] [] M5 0 0) fun v9 M8 => if v9 = 0 then yV M8 else yCi false (yX 151 0 [some (.ref 193), some (.int v2), some (.int v4), some (.int 1), none] [] M8 0 0) fun v12 M11 => yV M11 else yCi false (yX 114 0 [some (.ref 193), some (.int v4)] [] M5 0 0) fun v14 M13 => if v14 = 0 then yCi false (yX 161 0 [some (.ref 190), some (.int 0)] [] M13 0 0) fun v17 M16 => if v17 = 0 then yV M16 else yCi false (yX 151 0 [some (.ref 193), some (.int v2), some (.int v4), some (.int 1), none] [] M16 0 0) fun v20 M19 => yV M19 else yCi false (yX 161 0 [some (.ref 190), some (.int 1)] [] M13 0 0) fun v22 M21 => if v22 = 0 then yV M21 else yCi false (yX 151 0 [some (.ref 193), some (.int v2), some (.int v4), some (.int 1), none] [] M21 0 0) fun v25 M24 => yV M24) (yX 165 0 [some (.ref 190), none, none] [] M 0 0) := by
  refine yL.eq (y_aload_n (pc := 0) (x := 190) d165_0 rfl) ?_
  refine yL.eq (y_iconst (pc := 1) (v := 0) d165_1 kc_0) ?_
  refine yL.eq (y_bipush (pc := 2) (v := 13) d165_2 kb_13) ?_
  refine y_callv_i (pc := 4) (n := 3) (n' := 4) (nc' := 0) (ns' := 0) [.int 0, .int 13] [] false d165_4 q165_183 mk_160 s_t_190 rfl rfl (Nat.le_of_ble_eq_true rfl) (Nat.le_of_ble_eq_true rfl) rfl (by decide +kernel) (by decide +kernel) (fun v2 M1 => ?_)
  refine yL.eq (y_istore_n (pc := 7) (ls' := [some (.ref 190), some (.int v2), none]) d165_7 rfl rfl) ?_
  refine yL.eq (y_aload_n (pc := 8) (x := 190) d165_8 rfl) ?_
  refine yL.eq (y_iconst (pc := 9) (v := 0) d165_9 kc_0) ?_
  refine yL.eq (y_bipush (pc := 10) (v := 11) d165_10 kb_11) ?_
  refine y_callv_i (pc := 12) (n := 3) (n' := 4) (nc' := 0) (ns' := 0) [.int 0, .int 11] [] false d165_12 q165_183 mk_160 s_t_190 rfl rfl (Nat.le_of_ble_eq_true rfl) (Nat.le_of_ble_eq_true rfl) rfl (by decide +kernel) (by decide +kernel) (fun v4 M3 => ?_)
  refine yL.eq (y_istore_n (pc := 15) (ls' := [some (.ref 190), some (.int v2), some (.int v4)]) d165_15 rfl rfl) ?_
  refine yL.eq (y_aload_n (pc := 16) (x := 190) d165_16 rfl) ?_
  refine yL.eq (y_aload_n (pc := 17) (x := 190) d165_17 rfl) ?_
  refine yL.eq (y_getr (pc := 18) (r := 193) d165_18 q165_16 s_r_190_3) ?_
  refine yL.eq (y_iload_n (pc := 21) (x := v2) d165_21 rfl) ?_
  refine y_calls_i (pc := 22) (n := 2) (n' := 2) (nc' := 0) (ns' := 0) [.ref 193, .int v2] [.ref 190] false d165_22 q165_203 rfl rfl rfl (Nat.le_of_ble_eq_true rfl) (Nat.le_of_ble_eq_true rfl) rfl (by decide +kernel) (by decide +kernel) (fun v6 M5 => ?_)
  refine yL.eq (y_if_eq (pc := 25) (t := 43) d165_25 (by decide)) ?_
  refine yL.ite (fun h7 => ?_) (fun h7 => ?_)
  ·
    refine yL.eq (y_iconst (pc := 43) (v := 0) d165_43 kc_0) ?_
    refine y_callv_i (pc := 44) (n := 2) (n' := 2) (nc' := 0) (ns' := 0) [.int 0] [] false d165_44 q165_192 mk_161 s_t_190 rfl rfl (Nat.le_of_ble_eq_true rfl) (Nat.le_of_ble_eq_true rfl) rfl (by decide +kernel) (by decide +kernel) (fun v9 M8 => ?_)
    refine yL.eq (y_if_eq (pc := 47) (t := 61) d165_47 (by decide)) ?_
    refine yL.ite (fun h10 => ?_) (fun h10 => ?_)
    ·
      exact yL.eq (y_ret (pc := 61) d165_61 mr_165) yL.rf
    ·
      refine yL.eq (y_aload_n (pc := 50) (x := 190) d165_50 rfl) ?_
      refine yL.eq (y_getr (pc := 51) (r := 193) d165_51 q165_16 s_r_190_3) ?_
      refine yL.eq (y_iload_n (pc := 54) (x := v2) d165_54 rfl) ?_
      refine yL.eq (y_iload_n (pc := 55) (x := v4) d165_55 rfl) ?_
      refine yL.eq (y_iconst (pc := 56) (v := 1) d165_56 kc_1) ?_
      refine y_calls_i (pc := 57) (n := 4) (n' := 5) (nc' := 0) (ns' := 0) [.ref 193, .int v2, .int v4, .int 1] [] false d165_57 q165_210 rfl rfl rfl (Nat.le_of_ble_eq_true rfl) (Nat.le_of_ble_eq_true rfl) rfl (by decide +kernel) (by decide +kernel) (fun v12 M11 => ?_)
      refine yL.eq (y_pop (pc := 60) d165_60 rfl) ?_
      exact yL.eq (y_ret (pc := 61) d165_61 mr_165) yL.rf
  ·
    refine yL.eq (y_aload_n (pc := 28) (x := 190) d165_28 rfl) ?_
    refine yL.eq (y_getr (pc := 29) (r := 193) d165_29 q165_16 s_r_190_3) ?_
    refine yL.eq (y_iload_n (pc := 32) (x := v4) d165_32 rfl) ?_
    refine y_calls_i (pc := 33) (n := 2) (n' := 2) (nc' := 0) (ns' := 0) [.ref 193, .int v4] [.ref 190] false d165_33 q165_207 rfl rfl rfl (Nat.le_of_ble_eq_true rfl) (Nat.le_of_ble_eq_true rfl) rfl (by decide +kernel) (by decide +kernel) (fun v14 M13 => ?_)
    refine yL.eq (y_if_eq (pc := 36) (t := 43) d165_36 (by decide)) ?_
    refine yL.ite (fun h15 => ?_) (fun h15 => ?_)
    ·
      refine yL.eq (y_iconst (pc := 43) (v := 0) d165_43 kc_0) ?_
      refine y_callv_i (pc := 44) (n := 2) (n' := 2) (nc' := 0) (ns' := 0) [.int 0] [] false d165_44 q165_192 mk_161 s_t_190 rfl rfl (Nat.le_of_ble_eq_true rfl) (Nat.le_of_ble_eq_true rfl) rfl (by decide +kernel) (by decide +kernel) (fun v17 M16 => ?_)
      refine yL.eq (y_if_eq (pc := 47) (t := 61) d165_47 (by decide)) ?_
      refine yL.ite (fun h18 => ?_) (fun h18 => ?_)
      ·
        exact yL.eq (y_ret (pc := 61) d165_61 mr_165) yL.rf
      ·
        refine yL.eq (y_aload_n (pc := 50) (x := 190) d165_50 rfl) ?_
        refine yL.eq (y_getr (pc := 51) (r := 193) d165_51 q165_16 s_r_190_3) ?_
        refine yL.eq (y_iload_n (pc := 54) (x := v2) d165_54 rfl) ?_
        refine yL.eq (y_iload_n (pc := 55) (x := v4) d165_55 rfl) ?_
        refine yL.eq (y_iconst (pc := 56) (v := 1) d165_56 kc_1) ?_
        refine y_calls_i (pc := 57) (n := 4) (n' := 5) (nc' := 0) (ns' := 0) [.ref 193, .int v2, .int v4, .int 1] [] false d165_57 q165_210 rfl rfl rfl (Nat.le_of_ble_eq_true rfl) (Nat.le_of_ble_eq_true rfl) rfl (by decide +kernel) (by decide +kernel) (fun v20 M19 => ?_)
        refine yL.eq (y_pop (pc := 60) d165_60 rfl) ?_
        exact yL.eq (y_ret (pc := 61) d165_61 mr_165) yL.rf
    ·
      refine yL.eq (y_iconst (pc := 39) (v := 1) d165_39 kc_1) ?_
      refine yL.eq (y_goto (pc := 40) (t := 44) d165_40 (by decide)) ?_
      refine y_callv_i (pc := 44) (n := 2) (n' := 2) (nc' := 0) (ns' := 0) [.int 1] [] false d165_44 q165_192 mk_161 s_t_190 rfl rfl (Nat.le_of_ble_eq_true rfl) (Nat.le_of_ble_eq_true rfl) rfl (by decide +kernel) (by decide +kernel) (fun v22 M21 => ?_)
      refine yL.eq (y_if_eq (pc := 47) (t := 61) d165_47 (by decide)) ?_
      refine yL.ite (fun h23 => ?_) (fun h23 => ?_)
      ·
        exact yL.eq (y_ret (pc := 61) d165_61 mr_165) yL.rf
      ·
        refine yL.eq (y_aload_n (pc := 50) (x := 190) d165_50 rfl) ?_
        refine yL.eq (y_getr (pc := 51) (r := 193) d165_51 q165_16 s_r_190_3) ?_
        refine yL.eq (y_iload_n (pc := 54) (x := v2) d165_54 rfl) ?_
        refine yL.eq (y_iload_n (pc := 55) (x := v4) d165_55 rfl) ?_
        refine yL.eq (y_iconst (pc := 56) (v := 1) d165_56 kc_1) ?_
        refine y_calls_i (pc := 57) (n := 4) (n' := 5) (nc' := 0) (ns' := 0) [.ref 193, .int v2, .int v4, .int 1] [] false d165_57 q165_210 rfl rfl rfl (Nat.le_of_ble_eq_true rfl) (Nat.le_of_ble_eq_true rfl) rfl (by decide +kernel) (by decide +kernel) (fun v25 M24 => ?_)
        refine yL.eq (y_pop (pc := 60) d165_60 rfl) ?_
        exact yL.eq (y_ret (pc := 61) d165_61 mr_165) yL.rf
set_option maxRecDepth 20000 in
set_option maxHeartbeats 4000000 in
theorem e166  {M : yM} : yL (yCi false (yX 160 0 [some (.ref 190), some (.int 0), some (.int 13), none] [] M 0 0) fun v2 M1 => yCi false (yX 160 0 [some (.ref 190), some (.int 0), some (.int 13), none] [] M1 0 0) fun v4 M3 => yCi false (yX 115 0 [some (.ref 193), some (.int v2)] [] M3 0 0) fun v6 M5 => if v6 = 0 then yX 166 42 [some (.ref 190), some (.int v2), some (.int v4), none] [] M5 0 0 else yCi false (yX 115 0 [some (.ref 193), some (.int v4)] [] M5 0 0) fun v9 M8 => if v9 = 0 then yX 166 42 [some (.ref 190), some (.int v2), some (.int v4), none] [] M8 0 0 else yCi false (yX 152 0 [some (.ref 193), some (.int v2), some (.int v4), some (.int 1)] [] M8 0 0) fun v12 M11 => if v12 = 0 then yCi false (yX 161 0 [some (.ref 190), some (.int 0)] [] M11 0 0) fun v15 M14 => if v15 = 0 then yV M14 else yCi false (yX 153 0 [some (.ref 193), some (.int v2), some (.int v4), some (.int 1), none] [] M14 0 0) fun v18 M17 => yV M17 else yCi false (yX 161 0 [some (.ref 190), some (.int 1)] [] M11 0 0) fun v20 M19 => if v20 = 0 then yV M19 else yCi false (yX 153 0 [some (.ref 193), some (.int v2), some (.int v4), some (.int 1), none] [] M19 0 0) fun v23 M22 => yV M22) (yX 166 0 [some (.ref 190), none, none, none] [] M 0 0) := by
  refine yL.eq (y_aload_n (pc := 0) (x := 190) d166_0 rfl) ?_
  refine yL.eq (y_iconst (pc := 1) (v := 0) d166_1 kc_0) ?_
  refine yL.eq (y_bipush (pc := 2) (v := 13) d166_2 kb_13) ?_
  refine y_callv_i (pc := 4) (n := 3) (n' := 4) (nc' := 0) (ns' := 0) [.int 0, .int 13] [] false d166_4 q166_183 mk_160 s_t_190 rfl rfl (Nat.le_of_ble_eq_true rfl) (Nat.le_of_ble_eq_true rfl) rfl (by decide +kernel) (by decide +kernel) (fun v2 M1 => ?_)
  refine yL.eq (y_istore_n (pc := 7) (ls' := [some (.ref 190), some (.int v2), none, none]) d166_7 rfl rfl) ?_
  refine yL.eq (y_aload_n (pc := 8) (x := 190) d166_8 rfl) ?_
  refine yL.eq (y_iconst (pc := 9) (v := 0) d166_9 kc_0) ?_
  refine yL.eq (y_bipush (pc := 10) (v := 13) d166_10 kb_13) ?_
  refine y_callv_i (pc := 12) (n := 3) (n' := 4) (nc' := 0) (ns' := 0) [.int 0, .int 13] [] false d166_12 q166_183 mk_160 s_t_190 rfl rfl (Nat.le_of_ble_eq_true rfl) (Nat.le_of_ble_eq_true rfl) rfl (by decide +kernel) (by decide +kernel) (fun v4 M3 => ?_)
  refine yL.eq (y_istore_n (pc := 15) (ls' := [some (.ref 190), some (.int v2), some (.int v4), none]) d166_15 rfl rfl) ?_
  refine yL.eq (y_aload_n (pc := 16) (x := 190) d166_16 rfl) ?_
  refine yL.eq (y_getr (pc := 17) (r := 193) d166_17 q166_16 s_r_190_3) ?_
  refine yL.eq (y_iload_n (pc := 20) (x := v2) d166_20 rfl) ?_
  refine y_calls_i (pc := 21) (n := 2) (n' := 2) (nc' := 0) (ns' := 0) [.ref 193, .int v2] [] false d166_21 q166_203 rfl rfl rfl (Nat.le_of_ble_eq_true rfl) (Nat.le_of_ble_eq_true rfl) rfl (by decide +kernel) (by decide +kernel) (fun v6 M5 => ?_)
  refine yL.eq (y_if_eq (pc := 24) (t := 42) d166_24 (by decide)) ?_
  refine yL.ite (fun h7 => ?_) (fun h7 => ?_)
  ·
    exact yL.rf
  ·
    refine yL.eq (y_aload_n (pc := 27) (x := 190) d166_27 rfl) ?_
    refine yL.eq (y_getr (pc := 28) (r := 193) d166_28 q166_16 s_r_190_3) ?_
    refine yL.eq (y_iload_n (pc := 31) (x := v4) d166_31 rfl) ?_
    refine y_calls_i (pc := 32) (n := 2) (n' := 2) (nc' := 0) (ns' := 0) [.ref 193, .int v4] [] false d166_32 q166_203 rfl rfl rfl (Nat.le_of_ble_eq_true rfl) (Nat.le_of_ble_eq_true rfl) rfl (by decide +kernel) (by decide +kernel) (fun v9 M8 => ?_)
    refine yL.eq (y_if_eq (pc := 35) (t := 42) d166_35 (by decide)) ?_
    refine yL.ite (fun h10 => ?_) (fun h10 => ?_)
    ·
      exact yL.rf
    ·
      refine yL.eq (y_iconst (pc := 38) (v := 1) d166_38 kc_1) ?_
      refine yL.eq (y_goto (pc := 39) (t := 43) d166_39 (by decide)) ?_
      refine yL.eq (y_istore_n (pc := 43) (ls' := [some (.ref 190), some (.int v2), some (.int v4), some (.int 1)]) d166_43 rfl rfl) ?_
      refine yL.eq (y_aload_n (pc := 44) (x := 190) d166_44 rfl) ?_
      refine yL.eq (y_iload_n (pc := 45) (x := 1) d166_45 rfl) ?_
      refine yL.eq (y_if_eq (pc := 46) (t := 66) d166_46 (by decide)) ?_
      refine yL.eq (if_neg cn_Int32_1_eq_0) ?_
      refine yL.eq (y_aload_n (pc := 49) (x := 190) d166_49 rfl) ?_
      refine yL.eq (y_getr (pc := 50) (r := 193) d166_50 q166_16 s_r_190_3) ?_
      refine yL.eq (y_iload_n (pc := 53) (x := v2) d166_53 rfl) ?_
      refine yL.eq (y_iload_n (pc := 54) (x := v4) d166_54 rfl) ?_
      refine yL.eq (y_iconst (pc := 55) (v := 1) d166_55 kc_1) ?_
      refine y_calls_i (pc := 56) (n := 4) (n' := 4) (nc' := 0) (ns' := 0) [.ref 193, .int v2, .int v4, .int 1] [.ref 190] false d166_56 q166_213 rfl rfl rfl (Nat.le_of_ble_eq_true rfl) (Nat.le_of_ble_eq_true rfl) rfl (by decide +kernel) (by decide +kernel) (fun v12 M11 => ?_)
      refine yL.eq (y_if_eq (pc := 59) (t := 66) d166_59 (by decide)) ?_
      refine yL.ite (fun h13 => ?_) (fun h13 => ?_)
      ·
        refine yL.eq (y_iconst (pc := 66) (v := 0) d166_66 kc_0) ?_
        refine y_callv_i (pc := 67) (n := 2) (n' := 2) (nc' := 0) (ns' := 0) [.int 0] [] false d166_67 q166_192 mk_161 s_t_190 rfl rfl (Nat.le_of_ble_eq_true rfl) (Nat.le_of_ble_eq_true rfl) rfl (by decide +kernel) (by decide +kernel) (fun v15 M14 => ?_)
        refine yL.eq (y_if_eq (pc := 70) (t := 84) d166_70 (by decide)) ?_
        refine yL.ite (fun h16 => ?_) (fun h16 => ?_)
        ·
          exact yL.eq (y_ret (pc := 84) d166_84 mr_166) yL.rf
        ·
          refine yL.eq (y_aload_n (pc := 73) (x := 190) d166_73 rfl) ?_
          refine yL.eq (y_getr (pc := 74) (r := 193) d166_74 q166_16 s_r_190_3) ?_
          refine yL.eq (y_iload_n (pc := 77) (x := v2) d166_77 rfl) ?_
          refine yL.eq (y_iload_n (pc := 78) (x := v4) d166_78 rfl) ?_
          refine yL.eq (y_iconst (pc := 79) (v := 1) d166_79 kc_1) ?_
          refine y_calls_i (pc := 80) (n := 4) (n' := 5) (nc' := 0) (ns' := 0) [.ref 193, .int v2, .int v4, .int 1] [] false d166_80 q166_217 rfl rfl rfl (Nat.le_of_ble_eq_true rfl) (Nat.le_of_ble_eq_true rfl) rfl (by decide +kernel) (by decide +kernel) (fun v18 M17 => ?_)
          refine yL.eq (y_pop (pc := 83) d166_83 rfl) ?_
          exact yL.eq (y_ret (pc := 84) d166_84 mr_166) yL.rf
      ·
        refine yL.eq (y_iconst (pc := 62) (v := 1) d166_62 kc_1) ?_
        refine yL.eq (y_goto (pc := 63) (t := 67) d166_63 (by decide)) ?_
        refine y_callv_i (pc := 67) (n := 2) (n' := 2) (nc' := 0) (ns' := 0) [.int 1] [] false d166_67 q166_192 mk_161 s_t_190 rfl rfl (Nat.le_of_ble_eq_true rfl) (Nat.le_of_ble_eq_true rfl) rfl (by decide +kernel) (by decide +kernel) (fun v20 M19 => ?_)
        refine yL.eq (y_if_eq (pc := 70) (t := 84) d166_70 (by decide)) ?_
        refine yL.ite (fun h21 => ?_) (fun h21 => ?_)
        ·
          exact yL.eq (y_ret (pc := 84) d166_84 mr_166) yL.rf
        ·
          refine yL.eq (y_aload_n (pc := 73) (x := 190) d166_73 rfl) ?_
          refine yL.eq (y_getr (pc := 74) (r := 193) d166_74 q166_16 s_r_190_3) ?_
          refine yL.eq (y_iload_n (pc := 77) (x := v2) d166_77 rfl) ?_
          refine yL.eq (y_iload_n (pc := 78) (x := v4) d166_78 rfl) ?_
          refine yL.eq (y_iconst (pc := 79) (v := 1) d166_79 kc_1) ?_
          refine y_calls_i (pc := 80) (n := 4) (n' := 5) (nc' := 0) (ns' := 0) [.ref 193, .int v2, .int v4, .int 1] [] false d166_80 q166_217 rfl rfl rfl (Nat.le_of_ble_eq_true rfl) (Nat.le_of_ble_eq_true rfl) rfl (by decide +kernel) (by decide +kernel) (fun v23 M22 => ?_)
          refine yL.eq (y_pop (pc := 83) d166_83 rfl) ?_
          exact yL.eq (y_ret (pc := 84) d166_84 mr_166) yL.rf
set_option maxRecDepth 20000 in
set_option maxHeartbeats 4000000 in
theorem e166_42 {x1 : Int32} {x2 : Int32} {o3 : Option Value} {M : yM} : yL (yCi false (yX 161 0 [some (.ref 190), some (.int 0)] [] M 0 0) fun v2 M1 => if v2 = 0 then yV M1 else yCi false (yX 153 0 [some (.ref 193), some (.int x1), some (.int x2), some (.int 1), none] [] M1 0 0) fun v5 M4 => yV M4) (yX 166 42 [some (.ref 190), some (.int x1), some (.int x2), o3] [] M 0 0) := by
  refine yL.eq (y_iconst (pc := 42) (v := 0) d166_42 kc_0) ?_
  refine yL.eq (y_istore_n (pc := 43) (ls' := [some (.ref 190), some (.int x1), some (.int x2), some (.int 0)]) d166_43 rfl rfl) ?_
  refine yL.eq (y_aload_n (pc := 44) (x := 190) d166_44 rfl) ?_
  refine yL.eq (y_iload_n (pc := 45) (x := 0) d166_45 rfl) ?_
  refine yL.eq (y_if_eq (pc := 46) (t := 66) d166_46 (by decide)) ?_
  refine yL.eq (if_pos cp_Int32_0_eq_0) ?_
  refine yL.eq (y_iconst (pc := 66) (v := 0) d166_66 kc_0) ?_
  refine y_callv_i (pc := 67) (n := 2) (n' := 2) (nc' := 0) (ns' := 0) [.int 0] [] false d166_67 q166_192 mk_161 s_t_190 rfl rfl (Nat.le_of_ble_eq_true rfl) (Nat.le_of_ble_eq_true rfl) rfl (by decide +kernel) (by decide +kernel) (fun v2 M1 => ?_)
  refine yL.eq (y_if_eq (pc := 70) (t := 84) d166_70 (by decide)) ?_
  refine yL.ite (fun h3 => ?_) (fun h3 => ?_)
  ·
    exact yL.eq (y_ret (pc := 84) d166_84 mr_166) yL.rf
  ·
    refine yL.eq (y_aload_n (pc := 73) (x := 190) d166_73 rfl) ?_
    refine yL.eq (y_getr (pc := 74) (r := 193) d166_74 q166_16 s_r_190_3) ?_
    refine yL.eq (y_iload_n (pc := 77) (x := x1) d166_77 rfl) ?_
    refine yL.eq (y_iload_n (pc := 78) (x := x2) d166_78 rfl) ?_
    refine yL.eq (y_iconst (pc := 79) (v := 1) d166_79 kc_1) ?_
    refine y_calls_i (pc := 80) (n := 4) (n' := 5) (nc' := 0) (ns' := 0) [.ref 193, .int x1, .int x2, .int 1] [] false d166_80 q166_217 rfl rfl rfl (Nat.le_of_ble_eq_true rfl) (Nat.le_of_ble_eq_true rfl) rfl (by decide +kernel) (by decide +kernel) (fun v5 M4 => ?_)
    refine yL.eq (y_pop (pc := 83) d166_83 rfl) ?_
    exact yL.eq (y_ret (pc := 84) d166_84 mr_166) yL.rf
set_option maxRecDepth 20000 in
set_option maxHeartbeats 4000000 in
theorem e167 {a1 : Int32} {M : yM} : yL (if a1 = 107 then yCi false (yX 159 0 [some (.ref 190), some (.int 0), some (.int 3), none] [] M 0 0) fun v3 M2 => yCi false (yX 159 0 [some (.ref 190), some (.int 0), some (.int 3), none] [] M2 0 0) fun v5 M4 => if (M4 190 16) = 0 then yV M4 else if yinB (86 + v3) 95 = true then yLet (yU M4 193 (yx (86 + v3)) v5) fun M7 => yV M7 else none else if a1 = 118 then yCi false (yX 160 0 [some (.ref 190), some (.int 1), some (.int 24), none] [] M 0 0) fun v11 M10 => if (M10 190 16) = 0 then yV M10 else if yinB 14 95 = true then yLet (yU M10 193 (yx 14) v11) fun M13 => yV M13 else none else yCi false (yX 159 0 [some (.ref 190), some (.int 0), some (.int 3), none] [] M 0 0) fun v16 M15 => if (M15 190 16) = 0 then yV M15 else if yinB 94 95 = true then yLet (yU M15 193 (yx 94) v16) fun M18 => yV M18 else none) (yX 167 0 [some (.ref 190), some (.int a1), none, none] [] M 0 0) := by
  refine yL.eq (y_iload_n (pc := 0) (x := a1) d167_0 rfl) ?_
  refine yL.eq (y_lsw (pc := 1) (ps := [(107, 28), (118, 62)]) (d := 88) d167_1 (by decide +kernel) lsw167_1) ?_
  refine yL.eq y_ls ?_
  refine yL.ite (fun h1 => ?_) (fun h1 => ?_)
  ·
    refine yL.eq (y_aload_n (pc := 28) (x := 190) d167_28 rfl) ?_
    refine yL.eq (y_iconst (pc := 29) (v := 0) d167_29 kc_0) ?_
    refine yL.eq (y_iconst (pc := 30) (v := 3) d167_30 kc_3) ?_
    refine y_callv_i (pc := 31) (n := 3) (n' := 4) (nc' := 0) (ns' := 0) [.int 0, .int 3] [] false d167_31 q167_177 mk_159 s_t_190 rfl rfl (Nat.le_of_ble_eq_true rfl) (Nat.le_of_ble_eq_true rfl) rfl (by decide +kernel) (by decide +kernel) (fun v3 M2 => ?_)
    refine yL.eq (y_istore_n (pc := 34) (ls' := [some (.ref 190), some (.int a1), some (.int v3), none]) d167_34 rfl rfl) ?_
    refine yL.eq (y_aload_n (pc := 35) (x := 190) d167_35 rfl) ?_
    refine yL.eq (y_iconst (pc := 36) (v := 0) d167_36 kc_0) ?_
    refine yL.eq (y_iconst (pc := 37) (v := 3) d167_37 kc_3) ?_
    refine y_callv_i (pc := 38) (n := 3) (n' := 4) (nc' := 0) (ns' := 0) [.int 0, .int 3] [] false d167_38 q167_177 mk_159 s_t_190 rfl rfl (Nat.le_of_ble_eq_true rfl) (Nat.le_of_ble_eq_true rfl) rfl (by decide +kernel) (by decide +kernel) (fun v5 M4 => ?_)
    refine yL.eq (y_istore_n (pc := 41) (ls' := [some (.ref 190), some (.int a1), some (.int v3), some (.int v5)]) d167_41 rfl rfl) ?_
    refine yL.eq (y_aload_n (pc := 42) (x := 190) d167_42 rfl) ?_
    refine yL.eq (y_geti (pc := 43) d167_43 q167_165 s_i_190_16) ?_
    refine yL.eq (y_if_eq (pc := 46) (t := 110) d167_46 (by decide)) ?_
    refine yL.ite (fun h6 => ?_) (fun h6 => ?_)
    ·
      exact yL.eq (y_ret (pc := 110) d167_110 mr_167) yL.rf
    ·
      refine yL.eq (y_aload_n (pc := 49) (x := 190) d167_49 rfl) ?_
      refine yL.eq (y_getr (pc := 50) (r := 193) d167_50 q167_16 s_r_190_3) ?_
      refine yL.eq (y_bipush (pc := 53) (v := 86) d167_53 kb_86) ?_
      refine yL.eq (y_iload_n (pc := 55) (x := v3) d167_55 rfl) ?_
      refine yL.eq (y_iadd (pc := 56) d167_56) ?_
      refine yL.eq (y_iload_n (pc := 57) (x := v5) d167_57 rfl) ?_
      refine y_iastL (pc := 58) (n := 95) d167_58 (yR_a yR193) (fun h8 M7 => ?_)
      refine yL.eq (y_goto (pc := 59) (t := 110) d167_59 (by decide)) ?_
      exact yL.eq (y_ret (pc := 110) d167_110 mr_167) yL.rf
  ·
    refine yL.eq y_ls ?_
    refine yL.ite (fun h9 => ?_) (fun h9 => ?_)
    ·
      refine yL.eq (y_aload_n (pc := 62) (x := 190) d167_62 rfl) ?_
      refine yL.eq (y_iconst (pc := 63) (v := 1) d167_63 kc_1) ?_
      refine yL.eq (y_bipush (pc := 64) (v := 24) d167_64 kb_24) ?_
      refine y_callv_i (pc := 66) (n := 3) (n' := 4) (nc' := 0) (ns' := 0) [.int 1, .int 24] [] false d167_66 q167_183 mk_160 s_t_190 rfl rfl (Nat.le_of_ble_eq_true rfl) (Nat.le_of_ble_eq_true rfl) rfl (by decide +kernel) (by decide +kernel) (fun v11 M10 => ?_)
      refine yL.eq (y_istore_n (pc := 69) (ls' := [some (.ref 190), some (.int a1), none, some (.int v11)]) d167_69 rfl rfl) ?_
      refine yL.eq (y_aload_n (pc := 70) (x := 190) d167_70 rfl) ?_
      refine yL.eq (y_geti (pc := 71) d167_71 q167_165 s_i_190_16) ?_
      refine yL.eq (y_if_eq (pc := 74) (t := 110) d167_74 (by decide)) ?_
      refine yL.ite (fun h12 => ?_) (fun h12 => ?_)
      ·
        exact yL.eq (y_ret (pc := 110) d167_110 mr_167) yL.rf
      ·
        refine yL.eq (y_aload_n (pc := 77) (x := 190) d167_77 rfl) ?_
        refine yL.eq (y_getr (pc := 78) (r := 193) d167_78 q167_16 s_r_190_3) ?_
        refine yL.eq (y_bipush (pc := 81) (v := 14) d167_81 kb_14) ?_
        refine yL.eq (y_iload_n (pc := 83) (x := v11) d167_83 rfl) ?_
        refine y_iastL (pc := 84) (n := 95) d167_84 (yR_a yR193) (fun h14 M13 => ?_)
        refine yL.eq (y_goto (pc := 85) (t := 110) d167_85 (by decide)) ?_
        exact yL.eq (y_ret (pc := 110) d167_110 mr_167) yL.rf
    ·
      refine yL.eq y_lsn ?_
      refine yL.eq (y_aload_n (pc := 88) (x := 190) d167_88 rfl) ?_
      refine yL.eq (y_iconst (pc := 89) (v := 0) d167_89 kc_0) ?_
      refine yL.eq (y_iconst (pc := 90) (v := 3) d167_90 kc_3) ?_
      refine y_callv_i (pc := 91) (n := 3) (n' := 4) (nc' := 0) (ns' := 0) [.int 0, .int 3] [] false d167_91 q167_177 mk_159 s_t_190 rfl rfl (Nat.le_of_ble_eq_true rfl) (Nat.le_of_ble_eq_true rfl) rfl (by decide +kernel) (by decide +kernel) (fun v16 M15 => ?_)
      refine yL.eq (y_istore_n (pc := 94) (ls' := [some (.ref 190), some (.int a1), none, some (.int v16)]) d167_94 rfl rfl) ?_
      refine yL.eq (y_aload_n (pc := 95) (x := 190) d167_95 rfl) ?_
      refine yL.eq (y_geti (pc := 96) d167_96 q167_165 s_i_190_16) ?_
      refine yL.eq (y_if_eq (pc := 99) (t := 110) d167_99 (by decide)) ?_
      refine yL.ite (fun h17 => ?_) (fun h17 => ?_)
      ·
        exact yL.eq (y_ret (pc := 110) d167_110 mr_167) yL.rf
      ·
        refine yL.eq (y_aload_n (pc := 102) (x := 190) d167_102 rfl) ?_
        refine yL.eq (y_getr (pc := 103) (r := 193) d167_103 q167_16 s_r_190_3) ?_
        refine yL.eq (y_bipush (pc := 106) (v := 94) d167_106 kb_94) ?_
        refine yL.eq (y_iload_n (pc := 108) (x := v16) d167_108 rfl) ?_
        refine y_iastL (pc := 109) (n := 95) d167_109 (yR_a yR193) (fun h19 M18 => ?_)
        exact yL.eq (y_ret (pc := 110) d167_110 mr_167) yL.rf
set_option maxRecDepth 20000 in
set_option maxHeartbeats 4000000 in
theorem e168  {M : yM} : yL (yCi false (yX 157 0 [some (.ref 190)] [] M 0 0) fun v2 M1 => if v2 = 105 then yCv false (yX 158 0 [some (.ref 190), some (.int 1)] [] M1 0 0) fun M4 => if (M4 190 16) = 0 then yV M4 else if v2 = 105 then yCv false (yX 163 0 [some (.ref 190), none, none, none, none, none] [] M4 0 0) fun M7 => yV M7 else if v2 = 110 then yCv false (yX 166 0 [some (.ref 190), none, none, none] [] M4 0 0) fun M9 => yV M9 else if v2 = 115 then yCv false (yX 164 0 [some (.ref 190), none, none, none] [] M4 0 0) fun M11 => yV M11 else if v2 = 117 then yCv false (yX 165 0 [some (.ref 190), none, none] [] M4 0 0) fun M13 => yV M13 else yCv false (yX 167 0 [some (.ref 190), some (.int v2), none, none] [] M4 0 0) fun M14 => yV M14 else if v2 = 115 then yCv false (yX 158 0 [some (.ref 190), some (.int 1)] [] M1 0 0) fun M16 => if (M16 190 16) = 0 then yV M16 else if v2 = 105 then yCv false (yX 163 0 [some (.ref 190), none, none, none, none, none] [] M16 0 0) fun M19 => yV M19 else if v2 = 110 then yCv false (yX 166 0 [some (.ref 190), none, none, none] [] M16 0 0) fun M21 => yV M21 else if v2 = 115 then yCv false (yX 164 0 [some (.ref 190), none, none, none] [] M16 0 0) fun M23 => yV M23 else if v2 = 117 then yCv false (yX 165 0 [some (.ref 190), none, none] [] M16 0 0) fun M25 => yV M25 else yCv false (yX 167 0 [some (.ref 190), some (.int v2), none, none] [] M16 0 0) fun M26 => yV M26 else if v2 = 117 then yCv false (yX 158 0 [some (.ref 190), some (.int 1)] [] M1 0 0) fun M28 => if (M28 190 16) = 0 then yV M28 else if v2 = 105 then yCv false (yX 163 0 [some (.ref 190), none, none, none, none, none] [] M28 0 0) fun M31 => yV M31 else if v2 = 110 then yCv false (yX 166 0 [some (.ref 190), none, none, none] [] M28 0 0) fun M33 => yV M33 else if v2 = 115 then yCv false (yX 164 0 [some (.ref 190), none, none, none] [] M28 0 0) fun M35 => yV M35 else if v2 = 117 then yCv false (yX 165 0 [some (.ref 190), none, none] [] M28 0 0) fun M37 => yV M37 else yCv false (yX 167 0 [some (.ref 190), some (.int v2), none, none] [] M28 0 0) fun M38 => yV M38 else if v2 = 110 then yCv false (yX 158 0 [some (.ref 190), some (.int 1)] [] M1 0 0) fun M40 => if (M40 190 16) = 0 then yV M40 else if v2 = 105 then yCv false (yX 163 0 [some (.ref 190), none, none, none, none, none] [] M40 0 0) fun M43 => yV M43 else if v2 = 110 then yCv false (yX 166 0 [some (.ref 190), none, none, none] [] M40 0 0) fun M45 => yV M45 else if v2 = 115 then yCv false (yX 164 0 [some (.ref 190), none, none, none] [] M40 0 0) fun M47 => yV M47 else if v2 = 117 then yCv false (yX 165 0 [some (.ref 190), none, none] [] M40 0 0) fun M49 => yV M49 else yCv false (yX 167 0 [some (.ref 190), some (.int v2), none, none] [] M40 0 0) fun M50 => yV M50 else if v2 = 107 then yCv false (yX 158 0 [some (.ref 190), some (.int 1)] [] M1 0 0) fun M52 => if (M52 190 16) = 0 then yV M52 else if v2 = 105 then yCv false (yX 163 0 [some (.ref 190), none, none, none, none, none] [] M52 0 0) fun M55 => yV M55 else if v2 = 110 then yCv false (yX 166 0 [some (.ref 190), none, none, none] [] M52 0 0) fun M57 => yV M57 else if v2 = 115 then yCv false (yX 164 0 [some (.ref 190), none, none, none] [] M52 0 0) fun M59 => yV M59 else if v2 = 117 then yCv false (yX 165 0 [some (.ref 190), none, none] [] M52 0 0) fun M61 => yV M61 else yCv false (yX 167 0 [some (.ref 190), some (.int v2), none, none] [] M52 0 0) fun M62 => yV M62 else if v2 = 118 then yCv false (yX 158 0 [some (.ref 190), some (.int 1)] [] M1 0 0) fun M64 => if (M64 190 16) = 0 then yV M64 else if v2 = 105 then yCv false (yX 163 0 [some (.ref 190), none, none, none, none, none] [] M64 0 0) fun M67 => yV M67 else if v2 = 110 then yCv false (yX 166 0 [some (.ref 190), none, none, none] [] M64 0 0) fun M69 => yV M69 else if v2 = 115 then yCv false (yX 164 0 [some (.ref 190), none, none, none] [] M64 0 0) fun M71 => yV M71 else if v2 = 117 then yCv false (yX 165 0 [some (.ref 190), none, none] [] M64 0 0) fun M73 => yV M73 else yCv false (yX 167 0 [some (.ref 190), some (.int v2), none, none] [] M64 0 0) fun M74 => yV M74 else if v2 = 114 then yCv false (yX 158 0 [some (.ref 190), some (.int 1)] [] M1 0 0) fun M76 => if (M76 190 16) = 0 then yV M76 else if v2 = 105 then yCv false (yX 163 0 [some (.ref 190), none, none, none, none, none] [] M76 0 0) fun M79 => yV M79 else if v2 = 110 then yCv false (yX 166 0 [some (.ref 190), none, none, none] [] M76 0 0) fun M81 => yV M81 else if v2 = 115 then yCv false (yX 164 0 [some (.ref 190), none, none, none] [] M76 0 0) fun M83 => yV M83 else if v2 = 117 then yCv false (yX 165 0 [some (.ref 190), none, none] [] M76 0 0) fun M85 => yV M85 else yCv false (yX 167 0 [some (.ref 190), some (.int v2), none, none] [] M76 0 0) fun M86 => yV M86 else yCv false (yX 158 0 [some (.ref 190), some (.int 0)] [] M1 0 0) fun M87 => if (M87 190 16) = 0 then yV M87 else if v2 = 105 then yCv false (yX 163 0 [some (.ref 190), none, none, none, none, none] [] M87 0 0) fun M90 => yV M90 else if v2 = 110 then yCv false (yX 166 0 [some (.ref 190), none, none, none] [] M87 0 0) fun M92 => yV M92 else if v2 = 115 then yCv false (yX 164 0 [some (.ref 190), none, none, none] [] M87 0 0) fun M94 => yV M94 else if v2 = 117 then yCv false (yX 165 0 [some (.ref 190), none, none] [] M87 0 0) fun M96 => yV M96 else yCv false (yX 167 0 [some (.ref 190), some (.int v2), none, none] [] M87 0 0) fun M97 => yV M97) (yX 168 0 [some (.ref 190), none] [] M 0 0) := by
  refine yL.eq (y_aload_n (pc := 0) (x := 190) d168_0 rfl) ?_
  refine y_callv_i (pc := 1) (n := 1) (n' := 1) (nc' := 0) (ns' := 0) [] [] false d168_1 q168_169 mk_157 s_t_190 rfl rfl (Nat.le_of_ble_eq_true rfl) (Nat.le_of_ble_eq_true rfl) rfl (by decide +kernel) (by decide +kernel) (fun v2 M1 => ?_)
  refine yL.eq (y_istore_n (pc := 4) (ls' := [some (.ref 190), some (.int v2)]) d168_4 rfl rfl) ?_
  refine yL.eq (y_aload_n (pc := 5) (x := 190) d168_5 rfl) ?_
  refine yL.eq (y_iload_n (pc := 6) (x := v2) d168_6 rfl) ?_
  refine yL.eq (y_bipush (pc := 7) (v := 105) d168_7 kb_105) ?_
  refine yL.eq (y_icmp_eq (pc := 9) (t := 48) d168_9 (by decide)) ?_
  refine yL.ite (fun h3 => ?_) (fun h3 => ?_)
  ·
    refine yL.eq (y_iconst (pc := 48) (v := 1) d168_48 kc_1) ?_
    refine yL.eq (y_goto (pc := 49) (t := 53) d168_49 (by decide)) ?_
    refine y_callv_v (pc := 53) (n := 2) (n' := 2) (nc' := 0) (ns' := 0) [.int 1] [] false d168_53 q168_173 mk_158 s_t_190 rfl rfl (Nat.le_of_ble_eq_true rfl) (Nat.le_of_ble_eq_true rfl) rfl (by decide +kernel) (by decide +kernel) (fun M4 => ?_)
    refine yL.eq (y_aload_n (pc := 56) (x := 190) d168_56 rfl) ?_
    refine yL.eq (y_geti (pc := 57) d168_57 q168_165 s_i_190_16) ?_
    refine yL.eq (y_if_ne (pc := 60) (t := 64) d168_60 (by decide)) ?_
    refine yL.ite (fun h5 => ?_) (fun h5 => ?_)
    ·
      exact yL.eq (y_ret (pc := 63) d168_63 mr_168) yL.rf
    ·
      refine yL.eq (y_iload_n (pc := 64) (x := v2) d168_64 rfl) ?_
      refine yL.eq (y_lsw (pc := 65) (ps := [(105, 108), (110, 129), (115, 115), (117, 122)]) (d := 136) d168_65 (by decide +kernel) lsw168_65) ?_
      refine yL.eq y_ls ?_
      refine yL.ite (fun h6 => ?_) (fun h6 => ?_)
      ·
        refine yL.eq (y_aload_n (pc := 108) (x := 190) d168_108 rfl) ?_
        refine y_callv_v (pc := 109) (n := 1) (n' := 6) (nc' := 0) (ns' := 0) [] [] false d168_109 q168_220 mk_163 s_t_190 rfl rfl (Nat.le_of_ble_eq_true rfl) (Nat.le_of_ble_eq_true rfl) rfl (by decide +kernel) (by decide +kernel) (fun M7 => ?_)
        refine yL.eq (y_goto (pc := 112) (t := 141) d168_112 (by decide)) ?_
        exact yL.eq (y_ret (pc := 141) d168_141 mr_168) yL.rf
      ·
        refine yL.eq y_ls ?_
        refine yL.ite (fun h8 => ?_) (fun h8 => ?_)
        ·
          refine yL.eq (y_aload_n (pc := 129) (x := 190) d168_129 rfl) ?_
          refine y_callv_v (pc := 130) (n := 1) (n' := 4) (nc' := 0) (ns' := 0) [] [] false d168_130 q168_229 mk_166 s_t_190 rfl rfl (Nat.le_of_ble_eq_true rfl) (Nat.le_of_ble_eq_true rfl) rfl (by decide +kernel) (by decide +kernel) (fun M9 => ?_)
          refine yL.eq (y_goto (pc := 133) (t := 141) d168_133 (by decide)) ?_
          exact yL.eq (y_ret (pc := 141) d168_141 mr_168) yL.rf
        ·
          refine yL.eq y_ls ?_
          refine yL.ite (fun h10 => ?_) (fun h10 => ?_)
          ·
            refine yL.eq (y_aload_n (pc := 115) (x := 190) d168_115 rfl) ?_
            refine y_callv_v (pc := 116) (n := 1) (n' := 4) (nc' := 0) (ns' := 0) [] [] false d168_116 q168_223 mk_164 s_t_190 rfl rfl (Nat.le_of_ble_eq_true rfl) (Nat.le_of_ble_eq_true rfl) rfl (by decide +kernel) (by decide +kernel) (fun M11 => ?_)
            refine yL.eq (y_goto (pc := 119) (t := 141) d168_119 (by decide)) ?_
            exact yL.eq (y_ret (pc := 141) d168_141 mr_168) yL.rf
          ·
            refine yL.eq y_ls ?_
            refine yL.ite (fun h12 => ?_) (fun h12 => ?_)
            ·
              refine yL.eq (y_aload_n (pc := 122) (x := 190) d168_122 rfl) ?_
              refine y_callv_v (pc := 123) (n := 1) (n' := 3) (nc' := 0) (ns' := 0) [] [] false d168_123 q168_226 mk_165 s_t_190 rfl rfl (Nat.le_of_ble_eq_true rfl) (Nat.le_of_ble_eq_true rfl) rfl (by decide +kernel) (by decide +kernel) (fun M13 => ?_)
              refine yL.eq (y_goto (pc := 126) (t := 141) d168_126 (by decide)) ?_
              exact yL.eq (y_ret (pc := 141) d168_141 mr_168) yL.rf
            ·
              refine yL.eq y_lsn ?_
              refine yL.eq (y_aload_n (pc := 136) (x := 190) d168_136 rfl) ?_
              refine yL.eq (y_iload_n (pc := 137) (x := v2) d168_137 rfl) ?_
              refine y_callv_v (pc := 138) (n := 2) (n' := 4) (nc' := 0) (ns' := 0) [.int v2] [] false d168_138 q168_232 mk_167 s_t_190 rfl rfl (Nat.le_of_ble_eq_true rfl) (Nat.le_of_ble_eq_true rfl) rfl (by decide +kernel) (by decide +kernel) (fun M14 => ?_)
              exact yL.eq (y_ret (pc := 141) d168_141 mr_168) yL.rf
  ·
    refine yL.eq (y_iload_n (pc := 12) (x := v2) d168_12 rfl) ?_
    refine yL.eq (y_bipush (pc := 13) (v := 115) d168_13 kb_115) ?_
    refine yL.eq (y_icmp_eq (pc := 15) (t := 48) d168_15 (by decide)) ?_
    refine yL.ite (fun h15 => ?_) (fun h15 => ?_)
    ·
      refine yL.eq (y_iconst (pc := 48) (v := 1) d168_48 kc_1) ?_
      refine yL.eq (y_goto (pc := 49) (t := 53) d168_49 (by decide)) ?_
      refine y_callv_v (pc := 53) (n := 2) (n' := 2) (nc' := 0) (ns' := 0) [.int 1] [] false d168_53 q168_173 mk_158 s_t_190 rfl rfl (Nat.le_of_ble_eq_true rfl) (Nat.le_of_ble_eq_true rfl) rfl (by decide +kernel) (by decide +kernel) (fun M16 => ?_)
      refine yL.eq (y_aload_n (pc := 56) (x := 190) d168_56 rfl) ?_
      refine yL.eq (y_geti (pc := 57) d168_57 q168_165 s_i_190_16) ?_
      refine yL.eq (y_if_ne (pc := 60) (t := 64) d168_60 (by decide)) ?_
      refine yL.ite (fun h17 => ?_) (fun h17 => ?_)
      ·
        exact yL.eq (y_ret (pc := 63) d168_63 mr_168) yL.rf
      ·
        refine yL.eq (y_iload_n (pc := 64) (x := v2) d168_64 rfl) ?_
        refine yL.eq (y_lsw (pc := 65) (ps := [(105, 108), (110, 129), (115, 115), (117, 122)]) (d := 136) d168_65 (by decide +kernel) lsw168_65) ?_
        refine yL.eq y_ls ?_
        refine yL.ite (fun h18 => ?_) (fun h18 => ?_)
        ·
          refine yL.eq (y_aload_n (pc := 108) (x := 190) d168_108 rfl) ?_
          refine y_callv_v (pc := 109) (n := 1) (n' := 6) (nc' := 0) (ns' := 0) [] [] false d168_109 q168_220 mk_163 s_t_190 rfl rfl (Nat.le_of_ble_eq_true rfl) (Nat.le_of_ble_eq_true rfl) rfl (by decide +kernel) (by decide +kernel) (fun M19 => ?_)
          refine yL.eq (y_goto (pc := 112) (t := 141) d168_112 (by decide)) ?_
          exact yL.eq (y_ret (pc := 141) d168_141 mr_168) yL.rf
        ·
          refine yL.eq y_ls ?_
          refine yL.ite (fun h20 => ?_) (fun h20 => ?_)
          ·
            refine yL.eq (y_aload_n (pc := 129) (x := 190) d168_129 rfl) ?_
            refine y_callv_v (pc := 130) (n := 1) (n' := 4) (nc' := 0) (ns' := 0) [] [] false d168_130 q168_229 mk_166 s_t_190 rfl rfl (Nat.le_of_ble_eq_true rfl) (Nat.le_of_ble_eq_true rfl) rfl (by decide +kernel) (by decide +kernel) (fun M21 => ?_)
            refine yL.eq (y_goto (pc := 133) (t := 141) d168_133 (by decide)) ?_
            exact yL.eq (y_ret (pc := 141) d168_141 mr_168) yL.rf
          ·
            refine yL.eq y_ls ?_
            refine yL.ite (fun h22 => ?_) (fun h22 => ?_)
            ·
              refine yL.eq (y_aload_n (pc := 115) (x := 190) d168_115 rfl) ?_
              refine y_callv_v (pc := 116) (n := 1) (n' := 4) (nc' := 0) (ns' := 0) [] [] false d168_116 q168_223 mk_164 s_t_190 rfl rfl (Nat.le_of_ble_eq_true rfl) (Nat.le_of_ble_eq_true rfl) rfl (by decide +kernel) (by decide +kernel) (fun M23 => ?_)
              refine yL.eq (y_goto (pc := 119) (t := 141) d168_119 (by decide)) ?_
              exact yL.eq (y_ret (pc := 141) d168_141 mr_168) yL.rf
            ·
              refine yL.eq y_ls ?_
              refine yL.ite (fun h24 => ?_) (fun h24 => ?_)
              ·
                refine yL.eq (y_aload_n (pc := 122) (x := 190) d168_122 rfl) ?_
                refine y_callv_v (pc := 123) (n := 1) (n' := 3) (nc' := 0) (ns' := 0) [] [] false d168_123 q168_226 mk_165 s_t_190 rfl rfl (Nat.le_of_ble_eq_true rfl) (Nat.le_of_ble_eq_true rfl) rfl (by decide +kernel) (by decide +kernel) (fun M25 => ?_)
                refine yL.eq (y_goto (pc := 126) (t := 141) d168_126 (by decide)) ?_
                exact yL.eq (y_ret (pc := 141) d168_141 mr_168) yL.rf
              ·
                refine yL.eq y_lsn ?_
                refine yL.eq (y_aload_n (pc := 136) (x := 190) d168_136 rfl) ?_
                refine yL.eq (y_iload_n (pc := 137) (x := v2) d168_137 rfl) ?_
                refine y_callv_v (pc := 138) (n := 2) (n' := 4) (nc' := 0) (ns' := 0) [.int v2] [] false d168_138 q168_232 mk_167 s_t_190 rfl rfl (Nat.le_of_ble_eq_true rfl) (Nat.le_of_ble_eq_true rfl) rfl (by decide +kernel) (by decide +kernel) (fun M26 => ?_)
                exact yL.eq (y_ret (pc := 141) d168_141 mr_168) yL.rf
    ·
      refine yL.eq (y_iload_n (pc := 18) (x := v2) d168_18 rfl) ?_
      refine yL.eq (y_bipush (pc := 19) (v := 117) d168_19 kb_117) ?_
      refine yL.eq (y_icmp_eq (pc := 21) (t := 48) d168_21 (by decide)) ?_
      refine yL.ite (fun h27 => ?_) (fun h27 => ?_)
      ·
        refine yL.eq (y_iconst (pc := 48) (v := 1) d168_48 kc_1) ?_
        refine yL.eq (y_goto (pc := 49) (t := 53) d168_49 (by decide)) ?_
        refine y_callv_v (pc := 53) (n := 2) (n' := 2) (nc' := 0) (ns' := 0) [.int 1] [] false d168_53 q168_173 mk_158 s_t_190 rfl rfl (Nat.le_of_ble_eq_true rfl) (Nat.le_of_ble_eq_true rfl) rfl (by decide +kernel) (by decide +kernel) (fun M28 => ?_)
        refine yL.eq (y_aload_n (pc := 56) (x := 190) d168_56 rfl) ?_
        refine yL.eq (y_geti (pc := 57) d168_57 q168_165 s_i_190_16) ?_
        refine yL.eq (y_if_ne (pc := 60) (t := 64) d168_60 (by decide)) ?_
        refine yL.ite (fun h29 => ?_) (fun h29 => ?_)
        ·
          exact yL.eq (y_ret (pc := 63) d168_63 mr_168) yL.rf
        ·
          refine yL.eq (y_iload_n (pc := 64) (x := v2) d168_64 rfl) ?_
          refine yL.eq (y_lsw (pc := 65) (ps := [(105, 108), (110, 129), (115, 115), (117, 122)]) (d := 136) d168_65 (by decide +kernel) lsw168_65) ?_
          refine yL.eq y_ls ?_
          refine yL.ite (fun h30 => ?_) (fun h30 => ?_)
          ·
            refine yL.eq (y_aload_n (pc := 108) (x := 190) d168_108 rfl) ?_
            refine y_callv_v (pc := 109) (n := 1) (n' := 6) (nc' := 0) (ns' := 0) [] [] false d168_109 q168_220 mk_163 s_t_190 rfl rfl (Nat.le_of_ble_eq_true rfl) (Nat.le_of_ble_eq_true rfl) rfl (by decide +kernel) (by decide +kernel) (fun M31 => ?_)
            refine yL.eq (y_goto (pc := 112) (t := 141) d168_112 (by decide)) ?_
            exact yL.eq (y_ret (pc := 141) d168_141 mr_168) yL.rf
          ·
            refine yL.eq y_ls ?_
            refine yL.ite (fun h32 => ?_) (fun h32 => ?_)
            ·
              refine yL.eq (y_aload_n (pc := 129) (x := 190) d168_129 rfl) ?_
              refine y_callv_v (pc := 130) (n := 1) (n' := 4) (nc' := 0) (ns' := 0) [] [] false d168_130 q168_229 mk_166 s_t_190 rfl rfl (Nat.le_of_ble_eq_true rfl) (Nat.le_of_ble_eq_true rfl) rfl (by decide +kernel) (by decide +kernel) (fun M33 => ?_)
              refine yL.eq (y_goto (pc := 133) (t := 141) d168_133 (by decide)) ?_
              exact yL.eq (y_ret (pc := 141) d168_141 mr_168) yL.rf
            ·
              refine yL.eq y_ls ?_
              refine yL.ite (fun h34 => ?_) (fun h34 => ?_)
              ·
                refine yL.eq (y_aload_n (pc := 115) (x := 190) d168_115 rfl) ?_
                refine y_callv_v (pc := 116) (n := 1) (n' := 4) (nc' := 0) (ns' := 0) [] [] false d168_116 q168_223 mk_164 s_t_190 rfl rfl (Nat.le_of_ble_eq_true rfl) (Nat.le_of_ble_eq_true rfl) rfl (by decide +kernel) (by decide +kernel) (fun M35 => ?_)
                refine yL.eq (y_goto (pc := 119) (t := 141) d168_119 (by decide)) ?_
                exact yL.eq (y_ret (pc := 141) d168_141 mr_168) yL.rf
              ·
                refine yL.eq y_ls ?_
                refine yL.ite (fun h36 => ?_) (fun h36 => ?_)
                ·
                  refine yL.eq (y_aload_n (pc := 122) (x := 190) d168_122 rfl) ?_
                  refine y_callv_v (pc := 123) (n := 1) (n' := 3) (nc' := 0) (ns' := 0) [] [] false d168_123 q168_226 mk_165 s_t_190 rfl rfl (Nat.le_of_ble_eq_true rfl) (Nat.le_of_ble_eq_true rfl) rfl (by decide +kernel) (by decide +kernel) (fun M37 => ?_)
                  refine yL.eq (y_goto (pc := 126) (t := 141) d168_126 (by decide)) ?_
                  exact yL.eq (y_ret (pc := 141) d168_141 mr_168) yL.rf
                ·
                  refine yL.eq y_lsn ?_
                  refine yL.eq (y_aload_n (pc := 136) (x := 190) d168_136 rfl) ?_
                  refine yL.eq (y_iload_n (pc := 137) (x := v2) d168_137 rfl) ?_
                  refine y_callv_v (pc := 138) (n := 2) (n' := 4) (nc' := 0) (ns' := 0) [.int v2] [] false d168_138 q168_232 mk_167 s_t_190 rfl rfl (Nat.le_of_ble_eq_true rfl) (Nat.le_of_ble_eq_true rfl) rfl (by decide +kernel) (by decide +kernel) (fun M38 => ?_)
                  exact yL.eq (y_ret (pc := 141) d168_141 mr_168) yL.rf
      ·
        refine yL.eq (y_iload_n (pc := 24) (x := v2) d168_24 rfl) ?_
        refine yL.eq (y_bipush (pc := 25) (v := 110) d168_25 kb_110) ?_
        refine yL.eq (y_icmp_eq (pc := 27) (t := 48) d168_27 (by decide)) ?_
        refine yL.ite (fun h39 => ?_) (fun h39 => ?_)
        ·
          refine yL.eq (y_iconst (pc := 48) (v := 1) d168_48 kc_1) ?_
          refine yL.eq (y_goto (pc := 49) (t := 53) d168_49 (by decide)) ?_
          refine y_callv_v (pc := 53) (n := 2) (n' := 2) (nc' := 0) (ns' := 0) [.int 1] [] false d168_53 q168_173 mk_158 s_t_190 rfl rfl (Nat.le_of_ble_eq_true rfl) (Nat.le_of_ble_eq_true rfl) rfl (by decide +kernel) (by decide +kernel) (fun M40 => ?_)
          refine yL.eq (y_aload_n (pc := 56) (x := 190) d168_56 rfl) ?_
          refine yL.eq (y_geti (pc := 57) d168_57 q168_165 s_i_190_16) ?_
          refine yL.eq (y_if_ne (pc := 60) (t := 64) d168_60 (by decide)) ?_
          refine yL.ite (fun h41 => ?_) (fun h41 => ?_)
          ·
            exact yL.eq (y_ret (pc := 63) d168_63 mr_168) yL.rf
          ·
            refine yL.eq (y_iload_n (pc := 64) (x := v2) d168_64 rfl) ?_
            refine yL.eq (y_lsw (pc := 65) (ps := [(105, 108), (110, 129), (115, 115), (117, 122)]) (d := 136) d168_65 (by decide +kernel) lsw168_65) ?_
            refine yL.eq y_ls ?_
            refine yL.ite (fun h42 => ?_) (fun h42 => ?_)
            ·
              refine yL.eq (y_aload_n (pc := 108) (x := 190) d168_108 rfl) ?_
              refine y_callv_v (pc := 109) (n := 1) (n' := 6) (nc' := 0) (ns' := 0) [] [] false d168_109 q168_220 mk_163 s_t_190 rfl rfl (Nat.le_of_ble_eq_true rfl) (Nat.le_of_ble_eq_true rfl) rfl (by decide +kernel) (by decide +kernel) (fun M43 => ?_)
              refine yL.eq (y_goto (pc := 112) (t := 141) d168_112 (by decide)) ?_
              exact yL.eq (y_ret (pc := 141) d168_141 mr_168) yL.rf
            ·
              refine yL.eq y_ls ?_
              refine yL.ite (fun h44 => ?_) (fun h44 => ?_)
              ·
                refine yL.eq (y_aload_n (pc := 129) (x := 190) d168_129 rfl) ?_
                refine y_callv_v (pc := 130) (n := 1) (n' := 4) (nc' := 0) (ns' := 0) [] [] false d168_130 q168_229 mk_166 s_t_190 rfl rfl (Nat.le_of_ble_eq_true rfl) (Nat.le_of_ble_eq_true rfl) rfl (by decide +kernel) (by decide +kernel) (fun M45 => ?_)
                refine yL.eq (y_goto (pc := 133) (t := 141) d168_133 (by decide)) ?_
                exact yL.eq (y_ret (pc := 141) d168_141 mr_168) yL.rf
              ·
                refine yL.eq y_ls ?_
                refine yL.ite (fun h46 => ?_) (fun h46 => ?_)
                ·
                  refine yL.eq (y_aload_n (pc := 115) (x := 190) d168_115 rfl) ?_
                  refine y_callv_v (pc := 116) (n := 1) (n' := 4) (nc' := 0) (ns' := 0) [] [] false d168_116 q168_223 mk_164 s_t_190 rfl rfl (Nat.le_of_ble_eq_true rfl) (Nat.le_of_ble_eq_true rfl) rfl (by decide +kernel) (by decide +kernel) (fun M47 => ?_)
                  refine yL.eq (y_goto (pc := 119) (t := 141) d168_119 (by decide)) ?_
                  exact yL.eq (y_ret (pc := 141) d168_141 mr_168) yL.rf
                ·
                  refine yL.eq y_ls ?_
                  refine yL.ite (fun h48 => ?_) (fun h48 => ?_)
                  ·
                    refine yL.eq (y_aload_n (pc := 122) (x := 190) d168_122 rfl) ?_
                    refine y_callv_v (pc := 123) (n := 1) (n' := 3) (nc' := 0) (ns' := 0) [] [] false d168_123 q168_226 mk_165 s_t_190 rfl rfl (Nat.le_of_ble_eq_true rfl) (Nat.le_of_ble_eq_true rfl) rfl (by decide +kernel) (by decide +kernel) (fun M49 => ?_)
                    refine yL.eq (y_goto (pc := 126) (t := 141) d168_126 (by decide)) ?_
                    exact yL.eq (y_ret (pc := 141) d168_141 mr_168) yL.rf
                  ·
                    refine yL.eq y_lsn ?_
                    refine yL.eq (y_aload_n (pc := 136) (x := 190) d168_136 rfl) ?_
                    refine yL.eq (y_iload_n (pc := 137) (x := v2) d168_137 rfl) ?_
                    refine y_callv_v (pc := 138) (n := 2) (n' := 4) (nc' := 0) (ns' := 0) [.int v2] [] false d168_138 q168_232 mk_167 s_t_190 rfl rfl (Nat.le_of_ble_eq_true rfl) (Nat.le_of_ble_eq_true rfl) rfl (by decide +kernel) (by decide +kernel) (fun M50 => ?_)
                    exact yL.eq (y_ret (pc := 141) d168_141 mr_168) yL.rf
        ·
          refine yL.eq (y_iload_n (pc := 30) (x := v2) d168_30 rfl) ?_
          refine yL.eq (y_bipush (pc := 31) (v := 107) d168_31 kb_107) ?_
          refine yL.eq (y_icmp_eq (pc := 33) (t := 48) d168_33 (by decide)) ?_
          refine yL.ite (fun h51 => ?_) (fun h51 => ?_)
          ·
            refine yL.eq (y_iconst (pc := 48) (v := 1) d168_48 kc_1) ?_
            refine yL.eq (y_goto (pc := 49) (t := 53) d168_49 (by decide)) ?_
            refine y_callv_v (pc := 53) (n := 2) (n' := 2) (nc' := 0) (ns' := 0) [.int 1] [] false d168_53 q168_173 mk_158 s_t_190 rfl rfl (Nat.le_of_ble_eq_true rfl) (Nat.le_of_ble_eq_true rfl) rfl (by decide +kernel) (by decide +kernel) (fun M52 => ?_)
            refine yL.eq (y_aload_n (pc := 56) (x := 190) d168_56 rfl) ?_
            refine yL.eq (y_geti (pc := 57) d168_57 q168_165 s_i_190_16) ?_
            refine yL.eq (y_if_ne (pc := 60) (t := 64) d168_60 (by decide)) ?_
            refine yL.ite (fun h53 => ?_) (fun h53 => ?_)
            ·
              exact yL.eq (y_ret (pc := 63) d168_63 mr_168) yL.rf
            ·
              refine yL.eq (y_iload_n (pc := 64) (x := v2) d168_64 rfl) ?_
              refine yL.eq (y_lsw (pc := 65) (ps := [(105, 108), (110, 129), (115, 115), (117, 122)]) (d := 136) d168_65 (by decide +kernel) lsw168_65) ?_
              refine yL.eq y_ls ?_
              refine yL.ite (fun h54 => ?_) (fun h54 => ?_)
              ·
                refine yL.eq (y_aload_n (pc := 108) (x := 190) d168_108 rfl) ?_
                refine y_callv_v (pc := 109) (n := 1) (n' := 6) (nc' := 0) (ns' := 0) [] [] false d168_109 q168_220 mk_163 s_t_190 rfl rfl (Nat.le_of_ble_eq_true rfl) (Nat.le_of_ble_eq_true rfl) rfl (by decide +kernel) (by decide +kernel) (fun M55 => ?_)
                refine yL.eq (y_goto (pc := 112) (t := 141) d168_112 (by decide)) ?_
                exact yL.eq (y_ret (pc := 141) d168_141 mr_168) yL.rf
              ·
                refine yL.eq y_ls ?_
                refine yL.ite (fun h56 => ?_) (fun h56 => ?_)
                ·
                  refine yL.eq (y_aload_n (pc := 129) (x := 190) d168_129 rfl) ?_
                  refine y_callv_v (pc := 130) (n := 1) (n' := 4) (nc' := 0) (ns' := 0) [] [] false d168_130 q168_229 mk_166 s_t_190 rfl rfl (Nat.le_of_ble_eq_true rfl) (Nat.le_of_ble_eq_true rfl) rfl (by decide +kernel) (by decide +kernel) (fun M57 => ?_)
                  refine yL.eq (y_goto (pc := 133) (t := 141) d168_133 (by decide)) ?_
                  exact yL.eq (y_ret (pc := 141) d168_141 mr_168) yL.rf
                ·
                  refine yL.eq y_ls ?_
                  refine yL.ite (fun h58 => ?_) (fun h58 => ?_)
                  ·
                    refine yL.eq (y_aload_n (pc := 115) (x := 190) d168_115 rfl) ?_
                    refine y_callv_v (pc := 116) (n := 1) (n' := 4) (nc' := 0) (ns' := 0) [] [] false d168_116 q168_223 mk_164 s_t_190 rfl rfl (Nat.le_of_ble_eq_true rfl) (Nat.le_of_ble_eq_true rfl) rfl (by decide +kernel) (by decide +kernel) (fun M59 => ?_)
                    refine yL.eq (y_goto (pc := 119) (t := 141) d168_119 (by decide)) ?_
                    exact yL.eq (y_ret (pc := 141) d168_141 mr_168) yL.rf
                  ·
                    refine yL.eq y_ls ?_
                    refine yL.ite (fun h60 => ?_) (fun h60 => ?_)
                    ·
                      refine yL.eq (y_aload_n (pc := 122) (x := 190) d168_122 rfl) ?_
                      refine y_callv_v (pc := 123) (n := 1) (n' := 3) (nc' := 0) (ns' := 0) [] [] false d168_123 q168_226 mk_165 s_t_190 rfl rfl (Nat.le_of_ble_eq_true rfl) (Nat.le_of_ble_eq_true rfl) rfl (by decide +kernel) (by decide +kernel) (fun M61 => ?_)
                      refine yL.eq (y_goto (pc := 126) (t := 141) d168_126 (by decide)) ?_
                      exact yL.eq (y_ret (pc := 141) d168_141 mr_168) yL.rf
                    ·
                      refine yL.eq y_lsn ?_
                      refine yL.eq (y_aload_n (pc := 136) (x := 190) d168_136 rfl) ?_
                      refine yL.eq (y_iload_n (pc := 137) (x := v2) d168_137 rfl) ?_
                      refine y_callv_v (pc := 138) (n := 2) (n' := 4) (nc' := 0) (ns' := 0) [.int v2] [] false d168_138 q168_232 mk_167 s_t_190 rfl rfl (Nat.le_of_ble_eq_true rfl) (Nat.le_of_ble_eq_true rfl) rfl (by decide +kernel) (by decide +kernel) (fun M62 => ?_)
                      exact yL.eq (y_ret (pc := 141) d168_141 mr_168) yL.rf
          ·
            refine yL.eq (y_iload_n (pc := 36) (x := v2) d168_36 rfl) ?_
            refine yL.eq (y_bipush (pc := 37) (v := 118) d168_37 kb_118) ?_
            refine yL.eq (y_icmp_eq (pc := 39) (t := 48) d168_39 (by decide)) ?_
            refine yL.ite (fun h63 => ?_) (fun h63 => ?_)
            ·
              refine yL.eq (y_iconst (pc := 48) (v := 1) d168_48 kc_1) ?_
              refine yL.eq (y_goto (pc := 49) (t := 53) d168_49 (by decide)) ?_
              refine y_callv_v (pc := 53) (n := 2) (n' := 2) (nc' := 0) (ns' := 0) [.int 1] [] false d168_53 q168_173 mk_158 s_t_190 rfl rfl (Nat.le_of_ble_eq_true rfl) (Nat.le_of_ble_eq_true rfl) rfl (by decide +kernel) (by decide +kernel) (fun M64 => ?_)
              refine yL.eq (y_aload_n (pc := 56) (x := 190) d168_56 rfl) ?_
              refine yL.eq (y_geti (pc := 57) d168_57 q168_165 s_i_190_16) ?_
              refine yL.eq (y_if_ne (pc := 60) (t := 64) d168_60 (by decide)) ?_
              refine yL.ite (fun h65 => ?_) (fun h65 => ?_)
              ·
                exact yL.eq (y_ret (pc := 63) d168_63 mr_168) yL.rf
              ·
                refine yL.eq (y_iload_n (pc := 64) (x := v2) d168_64 rfl) ?_
                refine yL.eq (y_lsw (pc := 65) (ps := [(105, 108), (110, 129), (115, 115), (117, 122)]) (d := 136) d168_65 (by decide +kernel) lsw168_65) ?_
                refine yL.eq y_ls ?_
                refine yL.ite (fun h66 => ?_) (fun h66 => ?_)
                ·
                  refine yL.eq (y_aload_n (pc := 108) (x := 190) d168_108 rfl) ?_
                  refine y_callv_v (pc := 109) (n := 1) (n' := 6) (nc' := 0) (ns' := 0) [] [] false d168_109 q168_220 mk_163 s_t_190 rfl rfl (Nat.le_of_ble_eq_true rfl) (Nat.le_of_ble_eq_true rfl) rfl (by decide +kernel) (by decide +kernel) (fun M67 => ?_)
                  refine yL.eq (y_goto (pc := 112) (t := 141) d168_112 (by decide)) ?_
                  exact yL.eq (y_ret (pc := 141) d168_141 mr_168) yL.rf
                ·
                  refine yL.eq y_ls ?_
                  refine yL.ite (fun h68 => ?_) (fun h68 => ?_)
                  ·
                    refine yL.eq (y_aload_n (pc := 129) (x := 190) d168_129 rfl) ?_
                    refine y_callv_v (pc := 130) (n := 1) (n' := 4) (nc' := 0) (ns' := 0) [] [] false d168_130 q168_229 mk_166 s_t_190 rfl rfl (Nat.le_of_ble_eq_true rfl) (Nat.le_of_ble_eq_true rfl) rfl (by decide +kernel) (by decide +kernel) (fun M69 => ?_)
                    refine yL.eq (y_goto (pc := 133) (t := 141) d168_133 (by decide)) ?_
                    exact yL.eq (y_ret (pc := 141) d168_141 mr_168) yL.rf
                  ·
                    refine yL.eq y_ls ?_
                    refine yL.ite (fun h70 => ?_) (fun h70 => ?_)
                    ·
                      refine yL.eq (y_aload_n (pc := 115) (x := 190) d168_115 rfl) ?_
                      refine y_callv_v (pc := 116) (n := 1) (n' := 4) (nc' := 0) (ns' := 0) [] [] false d168_116 q168_223 mk_164 s_t_190 rfl rfl (Nat.le_of_ble_eq_true rfl) (Nat.le_of_ble_eq_true rfl) rfl (by decide +kernel) (by decide +kernel) (fun M71 => ?_)
                      refine yL.eq (y_goto (pc := 119) (t := 141) d168_119 (by decide)) ?_
                      exact yL.eq (y_ret (pc := 141) d168_141 mr_168) yL.rf
                    ·
                      refine yL.eq y_ls ?_
                      refine yL.ite (fun h72 => ?_) (fun h72 => ?_)
                      ·
                        refine yL.eq (y_aload_n (pc := 122) (x := 190) d168_122 rfl) ?_
                        refine y_callv_v (pc := 123) (n := 1) (n' := 3) (nc' := 0) (ns' := 0) [] [] false d168_123 q168_226 mk_165 s_t_190 rfl rfl (Nat.le_of_ble_eq_true rfl) (Nat.le_of_ble_eq_true rfl) rfl (by decide +kernel) (by decide +kernel) (fun M73 => ?_)
                        refine yL.eq (y_goto (pc := 126) (t := 141) d168_126 (by decide)) ?_
                        exact yL.eq (y_ret (pc := 141) d168_141 mr_168) yL.rf
                      ·
                        refine yL.eq y_lsn ?_
                        refine yL.eq (y_aload_n (pc := 136) (x := 190) d168_136 rfl) ?_
                        refine yL.eq (y_iload_n (pc := 137) (x := v2) d168_137 rfl) ?_
                        refine y_callv_v (pc := 138) (n := 2) (n' := 4) (nc' := 0) (ns' := 0) [.int v2] [] false d168_138 q168_232 mk_167 s_t_190 rfl rfl (Nat.le_of_ble_eq_true rfl) (Nat.le_of_ble_eq_true rfl) rfl (by decide +kernel) (by decide +kernel) (fun M74 => ?_)
                        exact yL.eq (y_ret (pc := 141) d168_141 mr_168) yL.rf
            ·
              refine yL.eq (y_iload_n (pc := 42) (x := v2) d168_42 rfl) ?_
              refine yL.eq (y_bipush (pc := 43) (v := 114) d168_43 kb_114) ?_
              refine yL.eq (y_icmp_ne (pc := 45) (t := 52) d168_45 (by decide)) ?_
              refine yL.ite (fun h75 => ?_) (fun h75 => ?_)
              ·
                refine yL.eq (y_iconst (pc := 48) (v := 1) d168_48 kc_1) ?_
                refine yL.eq (y_goto (pc := 49) (t := 53) d168_49 (by decide)) ?_
                refine y_callv_v (pc := 53) (n := 2) (n' := 2) (nc' := 0) (ns' := 0) [.int 1] [] false d168_53 q168_173 mk_158 s_t_190 rfl rfl (Nat.le_of_ble_eq_true rfl) (Nat.le_of_ble_eq_true rfl) rfl (by decide +kernel) (by decide +kernel) (fun M76 => ?_)
                refine yL.eq (y_aload_n (pc := 56) (x := 190) d168_56 rfl) ?_
                refine yL.eq (y_geti (pc := 57) d168_57 q168_165 s_i_190_16) ?_
                refine yL.eq (y_if_ne (pc := 60) (t := 64) d168_60 (by decide)) ?_
                refine yL.ite (fun h77 => ?_) (fun h77 => ?_)
                ·
                  exact yL.eq (y_ret (pc := 63) d168_63 mr_168) yL.rf
                ·
                  refine yL.eq (y_iload_n (pc := 64) (x := v2) d168_64 rfl) ?_
                  refine yL.eq (y_lsw (pc := 65) (ps := [(105, 108), (110, 129), (115, 115), (117, 122)]) (d := 136) d168_65 (by decide +kernel) lsw168_65) ?_
                  refine yL.eq y_ls ?_
                  refine yL.ite (fun h78 => ?_) (fun h78 => ?_)
                  ·
                    refine yL.eq (y_aload_n (pc := 108) (x := 190) d168_108 rfl) ?_
                    refine y_callv_v (pc := 109) (n := 1) (n' := 6) (nc' := 0) (ns' := 0) [] [] false d168_109 q168_220 mk_163 s_t_190 rfl rfl (Nat.le_of_ble_eq_true rfl) (Nat.le_of_ble_eq_true rfl) rfl (by decide +kernel) (by decide +kernel) (fun M79 => ?_)
                    refine yL.eq (y_goto (pc := 112) (t := 141) d168_112 (by decide)) ?_
                    exact yL.eq (y_ret (pc := 141) d168_141 mr_168) yL.rf
                  ·
                    refine yL.eq y_ls ?_
                    refine yL.ite (fun h80 => ?_) (fun h80 => ?_)
                    ·
                      refine yL.eq (y_aload_n (pc := 129) (x := 190) d168_129 rfl) ?_
                      refine y_callv_v (pc := 130) (n := 1) (n' := 4) (nc' := 0) (ns' := 0) [] [] false d168_130 q168_229 mk_166 s_t_190 rfl rfl (Nat.le_of_ble_eq_true rfl) (Nat.le_of_ble_eq_true rfl) rfl (by decide +kernel) (by decide +kernel) (fun M81 => ?_)
                      refine yL.eq (y_goto (pc := 133) (t := 141) d168_133 (by decide)) ?_
                      exact yL.eq (y_ret (pc := 141) d168_141 mr_168) yL.rf
                    ·
                      refine yL.eq y_ls ?_
                      refine yL.ite (fun h82 => ?_) (fun h82 => ?_)
                      ·
                        refine yL.eq (y_aload_n (pc := 115) (x := 190) d168_115 rfl) ?_
                        refine y_callv_v (pc := 116) (n := 1) (n' := 4) (nc' := 0) (ns' := 0) [] [] false d168_116 q168_223 mk_164 s_t_190 rfl rfl (Nat.le_of_ble_eq_true rfl) (Nat.le_of_ble_eq_true rfl) rfl (by decide +kernel) (by decide +kernel) (fun M83 => ?_)
                        refine yL.eq (y_goto (pc := 119) (t := 141) d168_119 (by decide)) ?_
                        exact yL.eq (y_ret (pc := 141) d168_141 mr_168) yL.rf
                      ·
                        refine yL.eq y_ls ?_
                        refine yL.ite (fun h84 => ?_) (fun h84 => ?_)
                        ·
                          refine yL.eq (y_aload_n (pc := 122) (x := 190) d168_122 rfl) ?_
                          refine y_callv_v (pc := 123) (n := 1) (n' := 3) (nc' := 0) (ns' := 0) [] [] false d168_123 q168_226 mk_165 s_t_190 rfl rfl (Nat.le_of_ble_eq_true rfl) (Nat.le_of_ble_eq_true rfl) rfl (by decide +kernel) (by decide +kernel) (fun M85 => ?_)
                          refine yL.eq (y_goto (pc := 126) (t := 141) d168_126 (by decide)) ?_
                          exact yL.eq (y_ret (pc := 141) d168_141 mr_168) yL.rf
                        ·
                          refine yL.eq y_lsn ?_
                          refine yL.eq (y_aload_n (pc := 136) (x := 190) d168_136 rfl) ?_
                          refine yL.eq (y_iload_n (pc := 137) (x := v2) d168_137 rfl) ?_
                          refine y_callv_v (pc := 138) (n := 2) (n' := 4) (nc' := 0) (ns' := 0) [.int v2] [] false d168_138 q168_232 mk_167 s_t_190 rfl rfl (Nat.le_of_ble_eq_true rfl) (Nat.le_of_ble_eq_true rfl) rfl (by decide +kernel) (by decide +kernel) (fun M86 => ?_)
                          exact yL.eq (y_ret (pc := 141) d168_141 mr_168) yL.rf
              ·
                refine yL.eq (y_iconst (pc := 52) (v := 0) d168_52 kc_0) ?_
                refine y_callv_v (pc := 53) (n := 2) (n' := 2) (nc' := 0) (ns' := 0) [.int 0] [] false d168_53 q168_173 mk_158 s_t_190 rfl rfl (Nat.le_of_ble_eq_true rfl) (Nat.le_of_ble_eq_true rfl) rfl (by decide +kernel) (by decide +kernel) (fun M87 => ?_)
                refine yL.eq (y_aload_n (pc := 56) (x := 190) d168_56 rfl) ?_
                refine yL.eq (y_geti (pc := 57) d168_57 q168_165 s_i_190_16) ?_
                refine yL.eq (y_if_ne (pc := 60) (t := 64) d168_60 (by decide)) ?_
                refine yL.ite (fun h88 => ?_) (fun h88 => ?_)
                ·
                  exact yL.eq (y_ret (pc := 63) d168_63 mr_168) yL.rf
                ·
                  refine yL.eq (y_iload_n (pc := 64) (x := v2) d168_64 rfl) ?_
                  refine yL.eq (y_lsw (pc := 65) (ps := [(105, 108), (110, 129), (115, 115), (117, 122)]) (d := 136) d168_65 (by decide +kernel) lsw168_65) ?_
                  refine yL.eq y_ls ?_
                  refine yL.ite (fun h89 => ?_) (fun h89 => ?_)
                  ·
                    refine yL.eq (y_aload_n (pc := 108) (x := 190) d168_108 rfl) ?_
                    refine y_callv_v (pc := 109) (n := 1) (n' := 6) (nc' := 0) (ns' := 0) [] [] false d168_109 q168_220 mk_163 s_t_190 rfl rfl (Nat.le_of_ble_eq_true rfl) (Nat.le_of_ble_eq_true rfl) rfl (by decide +kernel) (by decide +kernel) (fun M90 => ?_)
                    refine yL.eq (y_goto (pc := 112) (t := 141) d168_112 (by decide)) ?_
                    exact yL.eq (y_ret (pc := 141) d168_141 mr_168) yL.rf
                  ·
                    refine yL.eq y_ls ?_
                    refine yL.ite (fun h91 => ?_) (fun h91 => ?_)
                    ·
                      refine yL.eq (y_aload_n (pc := 129) (x := 190) d168_129 rfl) ?_
                      refine y_callv_v (pc := 130) (n := 1) (n' := 4) (nc' := 0) (ns' := 0) [] [] false d168_130 q168_229 mk_166 s_t_190 rfl rfl (Nat.le_of_ble_eq_true rfl) (Nat.le_of_ble_eq_true rfl) rfl (by decide +kernel) (by decide +kernel) (fun M92 => ?_)
                      refine yL.eq (y_goto (pc := 133) (t := 141) d168_133 (by decide)) ?_
                      exact yL.eq (y_ret (pc := 141) d168_141 mr_168) yL.rf
                    ·
                      refine yL.eq y_ls ?_
                      refine yL.ite (fun h93 => ?_) (fun h93 => ?_)
                      ·
                        refine yL.eq (y_aload_n (pc := 115) (x := 190) d168_115 rfl) ?_
                        refine y_callv_v (pc := 116) (n := 1) (n' := 4) (nc' := 0) (ns' := 0) [] [] false d168_116 q168_223 mk_164 s_t_190 rfl rfl (Nat.le_of_ble_eq_true rfl) (Nat.le_of_ble_eq_true rfl) rfl (by decide +kernel) (by decide +kernel) (fun M94 => ?_)
                        refine yL.eq (y_goto (pc := 119) (t := 141) d168_119 (by decide)) ?_
                        exact yL.eq (y_ret (pc := 141) d168_141 mr_168) yL.rf
                      ·
                        refine yL.eq y_ls ?_
                        refine yL.ite (fun h95 => ?_) (fun h95 => ?_)
                        ·
                          refine yL.eq (y_aload_n (pc := 122) (x := 190) d168_122 rfl) ?_
                          refine y_callv_v (pc := 123) (n := 1) (n' := 3) (nc' := 0) (ns' := 0) [] [] false d168_123 q168_226 mk_165 s_t_190 rfl rfl (Nat.le_of_ble_eq_true rfl) (Nat.le_of_ble_eq_true rfl) rfl (by decide +kernel) (by decide +kernel) (fun M96 => ?_)
                          refine yL.eq (y_goto (pc := 126) (t := 141) d168_126 (by decide)) ?_
                          exact yL.eq (y_ret (pc := 141) d168_141 mr_168) yL.rf
                        ·
                          refine yL.eq y_lsn ?_
                          refine yL.eq (y_aload_n (pc := 136) (x := 190) d168_136 rfl) ?_
                          refine yL.eq (y_iload_n (pc := 137) (x := v2) d168_137 rfl) ?_
                          refine y_callv_v (pc := 138) (n := 2) (n' := 4) (nc' := 0) (ns' := 0) [.int v2] [] false d168_138 q168_232 mk_167 s_t_190 rfl rfl (Nat.le_of_ble_eq_true rfl) (Nat.le_of_ble_eq_true rfl) rfl (by decide +kernel) (by decide +kernel) (fun M97 => ?_)
                          exact yL.eq (y_ret (pc := 141) d168_141 mr_168) yL.rf
set_option maxRecDepth 20000 in
set_option maxHeartbeats 4000000 in
theorem e169  {M : yM} : yL (yLet (yU M 190 15 0) fun M1 => yLet (yU M1 190 16 1) fun M2 => yLet (yU M2 190 17 0) fun M3 => yCv false (yX 112 0 [some (.ref 193), none] [] M3 0 0) fun M4 => yCi false (yX 157 0 [some (.ref 190)] [] M4 0 0) fun v6 M5 => if v6 = 67 then yCv false (yX 158 0 [some (.ref 190), some (.int 1)] [] M5 0 0) fun M8 => yX 169 40 [some (.ref 190)] [] M8 0 0 else yCv false (yX 158 0 [some (.ref 190), some (.int 0)] [] M5 0 0) fun M9 => yX 169 40 [some (.ref 190)] [] M9 0 0) (yX 169 0 [some (.ref 190)] [] M 0 0) := by
  refine yL.eq (y_aload_n (pc := 0) (x := 190) d169_0 rfl) ?_
  refine yL.eq (y_iconst (pc := 1) (v := 0) d169_1 kc_0) ?_
  refine y_putiL (pc := 2) d169_2 q169_162 s_i_190_15 rfl (fun M1 => ?_)
  refine yL.eq (y_aload_n (pc := 5) (x := 190) d169_5 rfl) ?_
  refine yL.eq (y_iconst (pc := 6) (v := 1) d169_6 kc_1) ?_
  refine y_putiL (pc := 7) d169_7 q169_165 s_i_190_16 rfl (fun M2 => ?_)
  refine yL.eq (y_aload_n (pc := 10) (x := 190) d169_10 rfl) ?_
  refine yL.eq (y_iconst (pc := 11) (v := 0) d169_11 kc_0) ?_
  refine y_putiL (pc := 12) d169_12 q169_180 s_i_190_17 rfl (fun M3 => ?_)
  refine yL.eq (y_aload_n (pc := 15) (x := 190) d169_15 rfl) ?_
  refine yL.eq (y_getr (pc := 16) (r := 193) d169_16 q169_16 s_r_190_3) ?_
  refine y_calls_v (pc := 19) (n := 1) (n' := 2) (nc' := 0) (ns' := 0) [.ref 193] [] false d169_19 q169_44 rfl rfl rfl (Nat.le_of_ble_eq_true rfl) (Nat.le_of_ble_eq_true rfl) rfl (by decide +kernel) (by decide +kernel) (fun M4 => ?_)
  refine yL.eq (y_aload_n (pc := 22) (x := 190) d169_22 rfl) ?_
  refine yL.eq (y_aload_n (pc := 23) (x := 190) d169_23 rfl) ?_
  refine y_callv_i (pc := 24) (n := 1) (n' := 1) (nc' := 0) (ns' := 0) [] [.ref 190] false d169_24 q169_169 mk_157 s_t_190 rfl rfl (Nat.le_of_ble_eq_true rfl) (Nat.le_of_ble_eq_true rfl) rfl (by decide +kernel) (by decide +kernel) (fun v6 M5 => ?_)
  refine yL.eq (y_bipush (pc := 27) (v := 67) d169_27 kb_67) ?_
  refine yL.eq (y_icmp_ne (pc := 29) (t := 36) d169_29 (by decide)) ?_
  refine yL.ite (fun h7 => ?_) (fun h7 => ?_)
  ·
    refine yL.eq (y_iconst (pc := 32) (v := 1) d169_32 kc_1) ?_
    refine yL.eq (y_goto (pc := 33) (t := 37) d169_33 (by decide)) ?_
    refine y_callv_v (pc := 37) (n := 2) (n' := 2) (nc' := 0) (ns' := 0) [.int 1] [] false d169_37 q169_173 mk_158 s_t_190 rfl rfl (Nat.le_of_ble_eq_true rfl) (Nat.le_of_ble_eq_true rfl) rfl (by decide +kernel) (by decide +kernel) (fun M8 => ?_)
    exact yL.rf
  ·
    refine yL.eq (y_iconst (pc := 36) (v := 0) d169_36 kc_0) ?_
    refine y_callv_v (pc := 37) (n := 2) (n' := 2) (nc' := 0) (ns' := 0) [.int 0] [] false d169_37 q169_173 mk_158 s_t_190 rfl rfl (Nat.le_of_ble_eq_true rfl) (Nat.le_of_ble_eq_true rfl) rfl (by decide +kernel) (by decide +kernel) (fun M9 => ?_)
    exact yL.rf
set_option maxRecDepth 20000 in
set_option maxHeartbeats 4000000 in
theorem e169_40  {M : yM} : yL (if (M 190 16) = 0 then if (M 190 16) = 0 then yI (M 190 15) M else yI (-1) M else if (M 190 15) < (M 190 14) then yCv false (yX 168 0 [some (.ref 190), none] [] M 0 0) fun M4 => yX 169 40 [some (.ref 190)] [] M4 0 0 else if (M 190 16) = 0 then yI (M 190 15) M else yI (-1) M) (yX 169 40 [some (.ref 190)] [] M 0 0) := by
  refine yL.eq (y_aload_n (pc := 40) (x := 190) d169_40 rfl) ?_
  refine yL.eq (y_geti (pc := 41) d169_41 q169_165 s_i_190_16) ?_
  refine yL.eq (y_if_eq (pc := 44) (t := 65) d169_44 (by decide)) ?_
  refine yL.ite (fun h1 => ?_) (fun h1 => ?_)
  ·
    refine yL.eq (y_aload_n (pc := 65) (x := 190) d169_65 rfl) ?_
    refine yL.eq (y_geti (pc := 66) d169_66 q169_165 s_i_190_16) ?_
    refine yL.eq (y_if_eq (pc := 69) (t := 76) d169_69 (by decide)) ?_
    refine yL.ite (fun h2 => ?_) (fun h2 => ?_)
    ·
      refine yL.eq (y_aload_n (pc := 76) (x := 190) d169_76 rfl) ?_
      refine yL.eq (y_geti (pc := 77) d169_77 q169_162 s_i_190_15) ?_
      exact yL.eq (y_ireti (pc := 80) d169_80 mr_169) yL.rf
    ·
      refine yL.eq (y_iconst (pc := 72) (v := (-1)) d169_72 kc_m1) ?_
      refine yL.eq (y_goto (pc := 73) (t := 80) d169_73 (by decide)) ?_
      exact yL.eq (y_ireti (pc := 80) d169_80 mr_169) yL.rf
  ·
    refine yL.eq (y_aload_n (pc := 47) (x := 190) d169_47 rfl) ?_
    refine yL.eq (y_geti (pc := 48) d169_48 q169_162 s_i_190_15) ?_
    refine yL.eq (y_aload_n (pc := 51) (x := 190) d169_51 rfl) ?_
    refine yL.eq (y_geti (pc := 52) d169_52 q169_156 s_i_190_14) ?_
    refine yL.eq (y_icmp_ge (pc := 55) (t := 65) d169_55 (by decide)) ?_
    refine yL.ite (fun h3 => ?_) (fun h3 => ?_)
    ·
      refine yL.eq (y_aload_n (pc := 58) (x := 190) d169_58 rfl) ?_
      refine y_callv_v (pc := 59) (n := 1) (n' := 2) (nc' := 0) (ns' := 0) [] [] false d169_59 q169_236 mk_168 s_t_190 rfl rfl (Nat.le_of_ble_eq_true rfl) (Nat.le_of_ble_eq_true rfl) rfl (by decide +kernel) (by decide +kernel) (fun M4 => ?_)
      refine yL.eq (y_goto (pc := 62) (t := 40) d169_62 (by decide)) ?_
      exact yL.rf
    ·
      refine yL.eq (y_aload_n (pc := 65) (x := 190) d169_65 rfl) ?_
      refine yL.eq (y_geti (pc := 66) d169_66 q169_165 s_i_190_16) ?_
      refine yL.eq (y_if_eq (pc := 69) (t := 76) d169_69 (by decide)) ?_
      refine yL.ite (fun h5 => ?_) (fun h5 => ?_)
      ·
        refine yL.eq (y_aload_n (pc := 76) (x := 190) d169_76 rfl) ?_
        refine yL.eq (y_geti (pc := 77) d169_77 q169_162 s_i_190_15) ?_
        exact yL.eq (y_ireti (pc := 80) d169_80 mr_169) yL.rf
      ·
        refine yL.eq (y_iconst (pc := 72) (v := (-1)) d169_72 kc_m1) ?_
        refine yL.eq (y_goto (pc := 73) (t := 80) d169_73 (by decide)) ?_
        exact yL.eq (y_ireti (pc := 80) d169_80 mr_169) yL.rf
set_option maxRecDepth 20000 in
set_option maxHeartbeats 4000000 in
theorem e170  {M : yM} : yL (yLet (yU M 190 0 0) fun M1 => yCi false (yX 169 0 [some (.ref 190)] [] M1 0 0) fun v3 M2 => yI v3 M2) (yX 170 0 [some (.ref 190)] [] M 0 0) := by
  refine yL.eq (y_aload_n (pc := 0) (x := 190) d170_0 rfl) ?_
  refine yL.eq (y_iconst (pc := 1) (v := 0) d170_1 kc_0) ?_
  refine y_putiL (pc := 2) d170_2 q170_48 s_i_190_0 rfl (fun M1 => ?_)
  refine yL.eq (y_aload_n (pc := 5) (x := 190) d170_5 rfl) ?_
  refine y_callv_i (pc := 6) (n := 1) (n' := 1) (nc' := 0) (ns' := 0) [] [] false d170_6 q170_239 mk_169 s_t_190 rfl rfl (Nat.le_of_ble_eq_true rfl) (Nat.le_of_ble_eq_true rfl) rfl (by decide +kernel) (by decide +kernel) (fun v3 M2 => ?_)
  exact yL.eq (y_ireti (pc := 9) d170_9 mr_170) yL.rf
set_option maxRecDepth 20000 in
set_option maxHeartbeats 4000000 in
theorem e171  {M : yM} : yL (yCi false (yX 169 0 [some (.ref 190)] [] M 0 0) fun v2 M1 => if v2 = (-1) then yCi false (yX 107 0 [some (.ref 190), some (.int 0)] [] M1 0 0) fun v5 M4 => if v5 = 0 then yCv false (yX 113 0 [some (.ref 193), some (.ref 191), none] [] M4 0 0) fun M7 => yLet (yU M7 190 5 0) fun M8 => if yinB 0 2 = true then yLet (yU M8 196 (yx 0) (vp_nar .boolean 0)) fun M9 => if yinB 1 2 = true then yLet (yU M9 196 (yx 1) (vp_nar .boolean 0)) fun M11 => yI (M11 190 17) M11 else none else none else yI 0 M4 else yCi false (yX 107 0 [some (.ref 190), some (.int 1)] [] M1 0 0) fun v14 M13 => if v14 = 0 then yCv false (yX 113 0 [some (.ref 193), some (.ref 191), none] [] M13 0 0) fun M16 => yLet (yU M16 190 5 0) fun M17 => if yinB 0 2 = true then yLet (yU M17 196 (yx 0) (vp_nar .boolean 0)) fun M18 => if yinB 1 2 = true then yLet (yU M18 196 (yx 1) (vp_nar .boolean 0)) fun M20 => yI (M20 190 17) M20 else none else none else yI 0 M13) (yX 171 0 [some (.ref 190)] [] M 0 0) := by
  refine yL.eq (y_aload_n (pc := 0) (x := 190) d171_0 rfl) ?_
  refine yL.eq (y_aload_n (pc := 1) (x := 190) d171_1 rfl) ?_
  refine y_callv_i (pc := 2) (n := 1) (n' := 1) (nc' := 0) (ns' := 0) [] [.ref 190] false d171_2 q171_239 mk_169 s_t_190 rfl rfl (Nat.le_of_ble_eq_true rfl) (Nat.le_of_ble_eq_true rfl) rfl (by decide +kernel) (by decide +kernel) (fun v2 M1 => ?_)
  refine yL.eq (y_iconst (pc := 5) (v := (-1)) d171_5 kc_m1) ?_
  refine yL.eq (y_icmp_ne (pc := 6) (t := 13) d171_6 (by decide)) ?_
  refine yL.ite (fun h3 => ?_) (fun h3 => ?_)
  ·
    refine yL.eq (y_iconst (pc := 9) (v := 0) d171_9 kc_0) ?_
    refine yL.eq (y_goto (pc := 10) (t := 14) d171_10 (by decide)) ?_
    refine y_callv_i (pc := 14) (n := 2) (n' := 2) (nc' := 0) (ns' := 0) [.int 0] [] false d171_14 q171_159 mk_107 s_t_190 rfl rfl (Nat.le_of_ble_eq_true rfl) (Nat.le_of_ble_eq_true rfl) rfl (by decide +kernel) (by decide +kernel) (fun v5 M4 => ?_)
    refine yL.eq (y_if_eq (pc := 17) (t := 22) d171_17 (by decide)) ?_
    refine yL.ite (fun h6 => ?_) (fun h6 => ?_)
    ·
      refine yL.eq (y_aload_n (pc := 22) (x := 190) d171_22 rfl) ?_
      refine yL.eq (y_getr (pc := 23) (r := 193) d171_23 q171_16 s_r_190_3) ?_
      refine yL.eq (y_aload_n (pc := 26) (x := 190) d171_26 rfl) ?_
      refine yL.eq (y_getr (pc := 27) (r := 191) d171_27 q171_7 s_r_190_1) ?_
      refine y_calls_v (pc := 30) (n := 2) (n' := 3) (nc' := 0) (ns' := 0) [.ref 193, .ref 191] [] false d171_30 q171_242 rfl rfl rfl (Nat.le_of_ble_eq_true rfl) (Nat.le_of_ble_eq_true rfl) rfl (by decide +kernel) (by decide +kernel) (fun M7 => ?_)
      refine yL.eq (y_aload_n (pc := 33) (x := 190) d171_33 rfl) ?_
      refine yL.eq (y_iconst (pc := 34) (v := 0) d171_34 kc_0) ?_
      refine y_putiL (pc := 35) d171_35 q171_151 s_i_190_5 rfl (fun M8 => ?_)
      refine yL.eq (y_aload_n (pc := 38) (x := 190) d171_38 rfl) ?_
      refine yL.eq (y_getr (pc := 39) (r := 196) d171_39 q171_25 s_r_190_7) ?_
      refine yL.eq (y_iconst (pc := 42) (v := 0) d171_42 kc_0) ?_
      refine yL.eq (y_iconst (pc := 43) (v := 0) d171_43 kc_0) ?_
      refine y_bastL (pc := 44) (n := 2) d171_44 s_a_196 (fun h10 M9 => ?_)
      refine yL.eq (y_aload_n (pc := 45) (x := 190) d171_45 rfl) ?_
      refine yL.eq (y_getr (pc := 46) (r := 196) d171_46 q171_25 s_r_190_7) ?_
      refine yL.eq (y_iconst (pc := 49) (v := 1) d171_49 kc_1) ?_
      refine yL.eq (y_iconst (pc := 50) (v := 0) d171_50 kc_0) ?_
      refine y_bastL (pc := 51) (n := 2) d171_51 s_a_196 (fun h12 M11 => ?_)
      refine yL.eq (y_aload_n (pc := 52) (x := 190) d171_52 rfl) ?_
      refine yL.eq (y_geti (pc := 53) d171_53 q171_180 s_i_190_17) ?_
      exact yL.eq (y_ireti (pc := 56) d171_56 mr_171) yL.rf
    ·
      refine yL.eq (y_iconst (pc := 20) (v := 0) d171_20 kc_0) ?_
      exact yL.eq (y_ireti (pc := 21) d171_21 mr_171) yL.rf
  ·
    refine yL.eq (y_iconst (pc := 13) (v := 1) d171_13 kc_1) ?_
    refine y_callv_i (pc := 14) (n := 2) (n' := 2) (nc' := 0) (ns' := 0) [.int 1] [] false d171_14 q171_159 mk_107 s_t_190 rfl rfl (Nat.le_of_ble_eq_true rfl) (Nat.le_of_ble_eq_true rfl) rfl (by decide +kernel) (by decide +kernel) (fun v14 M13 => ?_)
    refine yL.eq (y_if_eq (pc := 17) (t := 22) d171_17 (by decide)) ?_
    refine yL.ite (fun h15 => ?_) (fun h15 => ?_)
    ·
      refine yL.eq (y_aload_n (pc := 22) (x := 190) d171_22 rfl) ?_
      refine yL.eq (y_getr (pc := 23) (r := 193) d171_23 q171_16 s_r_190_3) ?_
      refine yL.eq (y_aload_n (pc := 26) (x := 190) d171_26 rfl) ?_
      refine yL.eq (y_getr (pc := 27) (r := 191) d171_27 q171_7 s_r_190_1) ?_
      refine y_calls_v (pc := 30) (n := 2) (n' := 3) (nc' := 0) (ns' := 0) [.ref 193, .ref 191] [] false d171_30 q171_242 rfl rfl rfl (Nat.le_of_ble_eq_true rfl) (Nat.le_of_ble_eq_true rfl) rfl (by decide +kernel) (by decide +kernel) (fun M16 => ?_)
      refine yL.eq (y_aload_n (pc := 33) (x := 190) d171_33 rfl) ?_
      refine yL.eq (y_iconst (pc := 34) (v := 0) d171_34 kc_0) ?_
      refine y_putiL (pc := 35) d171_35 q171_151 s_i_190_5 rfl (fun M17 => ?_)
      refine yL.eq (y_aload_n (pc := 38) (x := 190) d171_38 rfl) ?_
      refine yL.eq (y_getr (pc := 39) (r := 196) d171_39 q171_25 s_r_190_7) ?_
      refine yL.eq (y_iconst (pc := 42) (v := 0) d171_42 kc_0) ?_
      refine yL.eq (y_iconst (pc := 43) (v := 0) d171_43 kc_0) ?_
      refine y_bastL (pc := 44) (n := 2) d171_44 s_a_196 (fun h19 M18 => ?_)
      refine yL.eq (y_aload_n (pc := 45) (x := 190) d171_45 rfl) ?_
      refine yL.eq (y_getr (pc := 46) (r := 196) d171_46 q171_25 s_r_190_7) ?_
      refine yL.eq (y_iconst (pc := 49) (v := 1) d171_49 kc_1) ?_
      refine yL.eq (y_iconst (pc := 50) (v := 0) d171_50 kc_0) ?_
      refine y_bastL (pc := 51) (n := 2) d171_51 s_a_196 (fun h21 M20 => ?_)
      refine yL.eq (y_aload_n (pc := 52) (x := 190) d171_52 rfl) ?_
      refine yL.eq (y_geti (pc := 53) d171_53 q171_180 s_i_190_17) ?_
      exact yL.eq (y_ireti (pc := 56) d171_56 mr_171) yL.rf
    ·
      refine yL.eq (y_iconst (pc := 20) (v := 0) d171_20 kc_0) ?_
      exact yL.eq (y_ireti (pc := 21) d171_21 mr_171) yL.rf
set_option maxRecDepth 20000 in
set_option maxHeartbeats 4000000 in
theorem e172  {M : yM} : yL (yX 172 4 [some (.ref 190), some (.int 0), some (.int 0)] [] M 0 0) (yX 172 0 [some (.ref 190), none, none] [] M 0 0) := by
  refine yL.eq (y_iconst (pc := 0) (v := 0) d172_0 kc_0) ?_
  refine yL.eq (y_istore_n (pc := 1) (ls' := [some (.ref 190), some (.int 0), none]) d172_1 rfl rfl) ?_
  refine yL.eq (y_iconst (pc := 2) (v := 0) d172_2 kc_0) ?_
  refine yL.eq (y_istore_n (pc := 3) (ls' := [some (.ref 190), some (.int 0), some (.int 0)]) d172_3 rfl rfl) ?_
  exact yL.rf
set_option maxRecDepth 20000 in
set_option maxHeartbeats 4000000 in
theorem e172_4 {x1 : Int32} {x2 : Int32} {M : yM} : yL (if x2 < (M 191 15) then if yinB (58 + x2) 95 = true then yX 172 4 [some (.ref 190), some (.int (x1 ||| (M 191 (yx (58 + x2))))), some (.int (x2 + 1))] [] M 0 0 else none else yCi false (yX 111 0 [some (.int x1), some (.int (M 191 0)), none, none] [] M 0 0) fun v4 M3 => yI ((M 191 0) - v4) M3) (yX 172 4 [some (.ref 190), some (.int x1), some (.int x2)] [] M 0 0) := by
  refine yL.eq (y_iload_n (pc := 4) (x := x2) d172_4 rfl) ?_
  refine yL.eq (y_aload_n (pc := 5) (x := 190) d172_5 rfl) ?_
  refine yL.eq (y_getr (pc := 6) (r := 191) d172_6 q172_7 s_r_190_1) ?_
  refine yL.eq (y_bipush (pc := 9) (v := 15) d172_9 kb_15) ?_
  refine yL.eq (y_iald (pc := 11) (n := 95) d172_11 (yR_a yR191)) ?_
  refine yL.eq (if_pos in_15_95) ?_
  show yL _ (yX 172 12 [some (.ref 190), some (.int x1), some (.int x2)] ([.int (M 191 15), .int x2]) M 0 0)
  refine yL.eq (y_icmp_ge (pc := 12) (t := 33) d172_12 (by decide)) ?_
  refine yL.ite (fun h1 => ?_) (fun h1 => ?_)
  ·
    refine yL.eq (y_iload_n (pc := 15) (x := x1) d172_15 rfl) ?_
    refine yL.eq (y_aload_n (pc := 16) (x := 190) d172_16 rfl) ?_
    refine yL.eq (y_getr (pc := 17) (r := 191) d172_17 q172_7 s_r_190_1) ?_
    refine yL.eq (y_bipush (pc := 20) (v := 58) d172_20 kb_58) ?_
    refine yL.eq (y_iload_n (pc := 22) (x := x2) d172_22 rfl) ?_
    refine yL.eq (y_iadd (pc := 23) d172_23) ?_
    refine yL.eq (y_iald (pc := 24) (n := 95) d172_24 (yR_a yR191)) ?_
    refine yL.gd (fun h2 => ?_)
    refine yL.eq (y_ior (pc := 25) d172_25) ?_
    refine yL.eq (y_istore_n (pc := 26) (ls' := [some (.ref 190), some (.int (x1 ||| (M 191 (yx (58 + x2))))), some (.int x2)]) d172_26 rfl rfl) ?_
    refine yL.eq (y_iinc (pc := 27) (v := 1) (x := x2) (ls' := [some (.ref 190), some (.int (x1 ||| (M 191 (yx (58 + x2))))), some (.int (x2 + 1))]) d172_27 kc_1 rfl (Nat.le_of_ble_eq_true rfl) rfl) ?_
    refine yL.eq (y_goto (pc := 30) (t := 4) d172_30 (by decide)) ?_
    exact yL.rf
  ·
    refine yL.eq (y_aload_n (pc := 33) (x := 190) d172_33 rfl) ?_
    refine yL.eq (y_getr (pc := 34) (r := 191) d172_34 q172_7 s_r_190_1) ?_
    refine yL.eq (y_iconst (pc := 37) (v := 0) d172_37 kc_0) ?_
    refine yL.eq (y_iald (pc := 38) (n := 95) d172_38 (yR_a yR191)) ?_
    refine yL.eq (if_pos in_0_95) ?_
    show yL _ (yX 172 39 [some (.ref 190), some (.int x1), some (.int x2)] ([.int (M 191 0)]) M 0 0)
    refine yL.eq (y_iload_n (pc := 39) (x := x1) d172_39 rfl) ?_
    refine yL.eq (y_aload_n (pc := 40) (x := 190) d172_40 rfl) ?_
    refine yL.eq (y_getr (pc := 41) (r := 191) d172_41 q172_7 s_r_190_1) ?_
    refine yL.eq (y_iconst (pc := 44) (v := 0) d172_44 kc_0) ?_
    refine yL.eq (y_iald (pc := 45) (n := 95) d172_45 (yR_a yR191)) ?_
    refine yL.eq (if_pos in_0_95) ?_
    show yL _ (yX 172 46 [some (.ref 190), some (.int x1), some (.int x2)] ([.int (M 191 0), .int x1, .int (M 191 0)]) M 0 0)
    refine y_calls_i (pc := 46) (n := 2) (n' := 4) (nc' := 0) (ns' := 0) [.int x1, .int (M 191 0)] [.int (M 191 0)] false d172_46 q172_116 rfl rfl rfl (Nat.le_of_ble_eq_true rfl) (Nat.le_of_ble_eq_true rfl) rfl (by decide +kernel) (by decide +kernel) (fun v4 M3 => ?_)
    refine yL.eq (y_isub (pc := 49) d172_49) ?_
    exact yL.eq (y_ireti (pc := 50) d172_50 mr_172) yL.rf
set_option maxRecDepth 20000 in
set_option maxHeartbeats 4000000 in
theorem e173  {M : yM} : yL (yX 173 4 [some (.ref 190), some (.int 0), some (.int 0)] [] M 0 0) (yX 173 0 [some (.ref 190), none, none] [] M 0 0) := by
  refine yL.eq (y_iconst (pc := 0) (v := 0) d173_0 kc_0) ?_
  refine yL.eq (y_istore_n (pc := 1) (ls' := [some (.ref 190), some (.int 0), none]) d173_1 rfl rfl) ?_
  refine yL.eq (y_iconst (pc := 2) (v := 0) d173_2 kc_0) ?_
  refine yL.eq (y_istore_n (pc := 3) (ls' := [some (.ref 190), some (.int 0), some (.int 0)]) d173_3 rfl rfl) ?_
  exact yL.rf
set_option maxRecDepth 20000 in
set_option maxHeartbeats 4000000 in
theorem e173_4 {x1 : Int32} {x2 : Int32} {M : yM} : yL (if x2 < (M 191 15) then if yinB (16 + x2) 95 = true then yX 173 4 [some (.ref 190), some (.int (x1 + (M 191 (yx (16 + x2))))), some (.int (x2 + 1))] [] M 0 0 else none else yI x1 M) (yX 173 4 [some (.ref 190), some (.int x1), some (.int x2)] [] M 0 0) := by
  refine yL.eq (y_iload_n (pc := 4) (x := x2) d173_4 rfl) ?_
  refine yL.eq (y_aload_n (pc := 5) (x := 190) d173_5 rfl) ?_
  refine yL.eq (y_getr (pc := 6) (r := 191) d173_6 q173_7 s_r_190_1) ?_
  refine yL.eq (y_bipush (pc := 9) (v := 15) d173_9 kb_15) ?_
  refine yL.eq (y_iald (pc := 11) (n := 95) d173_11 (yR_a yR191)) ?_
  refine yL.eq (if_pos in_15_95) ?_
  show yL _ (yX 173 12 [some (.ref 190), some (.int x1), some (.int x2)] ([.int (M 191 15), .int x2]) M 0 0)
  refine yL.eq (y_icmp_ge (pc := 12) (t := 33) d173_12 (by decide)) ?_
  refine yL.ite (fun h1 => ?_) (fun h1 => ?_)
  ·
    refine yL.eq (y_iload_n (pc := 15) (x := x1) d173_15 rfl) ?_
    refine yL.eq (y_aload_n (pc := 16) (x := 190) d173_16 rfl) ?_
    refine yL.eq (y_getr (pc := 17) (r := 191) d173_17 q173_7 s_r_190_1) ?_
    refine yL.eq (y_bipush (pc := 20) (v := 16) d173_20 kb_16) ?_
    refine yL.eq (y_iload_n (pc := 22) (x := x2) d173_22 rfl) ?_
    refine yL.eq (y_iadd (pc := 23) d173_23) ?_
    refine yL.eq (y_iald (pc := 24) (n := 95) d173_24 (yR_a yR191)) ?_
    refine yL.gd (fun h2 => ?_)
    refine yL.eq (y_iadd (pc := 25) d173_25) ?_
    refine yL.eq (y_istore_n (pc := 26) (ls' := [some (.ref 190), some (.int (x1 + (M 191 (yx (16 + x2))))), some (.int x2)]) d173_26 rfl rfl) ?_
    refine yL.eq (y_iinc (pc := 27) (v := 1) (x := x2) (ls' := [some (.ref 190), some (.int (x1 + (M 191 (yx (16 + x2))))), some (.int (x2 + 1))]) d173_27 kc_1 rfl (Nat.le_of_ble_eq_true rfl) rfl) ?_
    refine yL.eq (y_goto (pc := 30) (t := 4) d173_30 (by decide)) ?_
    exact yL.rf
  ·
    refine yL.eq (y_iload_n (pc := 33) (x := x1) d173_33 rfl) ?_
    exact yL.eq (y_ireti (pc := 34) d173_34 mr_173) yL.rf
set_option maxRecDepth 20000 in
set_option maxHeartbeats 4000000 in
theorem e174 {a1 : Int32} {M : yM} : yL (yCi false (yX 108 0 [some (.long a1.toInt64), none, some (.long 0), none, some (.long 9), none] [] M 0 0) fun v2 M1 => if v2 = 0 then yCi false (yX 107 0 [some (.ref 190), some (.int 1)] [] M1 0 0) fun v5 M4 => if v5 = 0 then if a1 = 0 then yI (M4 191 0) M4 else if a1 = 1 then yI (M4 191 15) M4 else if a1 = 2 then yI (M4 191 13) M4 else if a1 = 3 then yI (M4 191 14) M4 else if a1 = 4 then yCi false (yX 128 0 [some (.ref 191), none, none] [] M4 0 0) fun v13 M12 => yI v13 M12 else if a1 = 5 then yCi false (yX 144 0 [some (.ref 190), some (.ref 191), none, none] [] M4 0 0) fun v16 M15 => yI v16 M15 else if a1 = 6 then yCi false (yX 145 0 [some (.ref 190), some (.ref 191)] [] M4 0 0) fun v19 M18 => yI v19 M18 else if a1 = 7 then yCi false (yX 133 0 [some (.ref 190), some (.ref 191), none, none] [] M4 0 0) fun v22 M21 => yI v22 M21 else if a1 = 8 then yCi false (yX 173 0 [some (.ref 190), none, none] [] M4 0 0) fun v25 M24 => yI v25 M24 else yCi false (yX 172 0 [some (.ref 190), none, none] [] M4 0 0) fun v27 M26 => yI v27 M26 else yI 0 M4 else yCi false (yX 107 0 [some (.ref 190), some (.int 0)] [] M1 0 0) fun v29 M28 => if v29 = 0 then if a1 = 0 then yI (M28 191 0) M28 else if a1 = 1 then yI (M28 191 15) M28 else if a1 = 2 then yI (M28 191 13) M28 else if a1 = 3 then yI (M28 191 14) M28 else if a1 = 4 then yCi false (yX 128 0 [some (.ref 191), none, none] [] M28 0 0) fun v37 M36 => yI v37 M36 else if a1 = 5 then yCi false (yX 144 0 [some (.ref 190), some (.ref 191), none, none] [] M28 0 0) fun v40 M39 => yI v40 M39 else if a1 = 6 then yCi false (yX 145 0 [some (.ref 190), some (.ref 191)] [] M28 0 0) fun v43 M42 => yI v43 M42 else if a1 = 7 then yCi false (yX 133 0 [some (.ref 190), some (.ref 191), none, none] [] M28 0 0) fun v46 M45 => yI v46 M45 else if a1 = 8 then yCi false (yX 173 0 [some (.ref 190), none, none] [] M28 0 0) fun v49 M48 => yI v49 M48 else yCi false (yX 172 0 [some (.ref 190), none, none] [] M28 0 0) fun v51 M50 => yI v51 M50 else yI 0 M28) (yX 174 0 [some (.ref 190), some (.int a1)] [] M 0 0) := by
  refine yL.eq (y_aload_n (pc := 0) (x := 190) d174_0 rfl) ?_
  refine yL.eq (y_iload_n (pc := 1) (x := a1) d174_1 rfl) ?_
  refine yL.eq (y_i2l (pc := 2) d174_2) ?_
  refine yL.eq (y_lconst (pc := 3) (v := 0) d174_3 kl_0) ?_
  refine yL.eq (y_ldc2_w (pc := 4) (v := 9) d174_4 q174_246) ?_
  refine y_calls_i (pc := 7) (n := 3) (n' := 6) (nc' := 0) (ns' := 0) [.long a1.toInt64, .long 0, .long 9] [.ref 190] false d174_7 q174_58 rfl rfl rfl (Nat.le_of_ble_eq_true rfl) (Nat.le_of_ble_eq_true rfl) rfl (by decide +kernel) (by decide +kernel) (fun v2 M1 => ?_)
  refine yL.eq (y_if_eq (pc := 10) (t := 17) d174_10 (by decide)) ?_
  refine yL.ite (fun h3 => ?_) (fun h3 => ?_)
  ·
    refine yL.eq (y_iconst (pc := 17) (v := 1) d174_17 kc_1) ?_
    refine y_callv_i (pc := 18) (n := 2) (n' := 2) (nc' := 0) (ns' := 0) [.int 1] [] false d174_18 q174_159 mk_107 s_t_190 rfl rfl (Nat.le_of_ble_eq_true rfl) (Nat.le_of_ble_eq_true rfl) rfl (by decide +kernel) (by decide +kernel) (fun v5 M4 => ?_)
    refine yL.eq (y_if_eq (pc := 21) (t := 26) d174_21 (by decide)) ?_
    refine yL.ite (fun h6 => ?_) (fun h6 => ?_)
    ·
      refine yL.eq (y_iload_n (pc := 26) (x := a1) d174_26 rfl) ?_
      refine yL.eq (y_tsw (pc := 27) (ts := [76, 83, 91, 99, 107, 115, 124, 133, 142]) (d := 147) d174_27 (by decide +kernel)) ?_
      refine yL.eq (y_ts (c := 0) (lo' := 1) kc_0 (by decide)) ?_
      refine yL.ite (fun h7 => ?_) (fun h7 => ?_)
      ·
        refine yL.eq (y_aload_n (pc := 76) (x := 190) d174_76 rfl) ?_
        refine yL.eq (y_getr (pc := 77) (r := 191) d174_77 q174_7 s_r_190_1) ?_
        refine yL.eq (y_iconst (pc := 80) (v := 0) d174_80 kc_0) ?_
        refine yL.eq (y_iald (pc := 81) (n := 95) d174_81 (yR_a yR191)) ?_
        refine yL.eq (if_pos in_0_95) ?_
        show yL _ (yX 174 82 [some (.ref 190), some (.int a1)] ([.int (M4 191 0)]) M4 0 0)
        exact yL.eq (y_ireti (pc := 82) d174_82 mr_174) yL.rf
      ·
        refine yL.eq (y_ts (c := 1) (lo' := 2) kc_1 (by decide)) ?_
        refine yL.ite (fun h8 => ?_) (fun h8 => ?_)
        ·
          refine yL.eq (y_aload_n (pc := 83) (x := 190) d174_83 rfl) ?_
          refine yL.eq (y_getr (pc := 84) (r := 191) d174_84 q174_7 s_r_190_1) ?_
          refine yL.eq (y_bipush (pc := 87) (v := 15) d174_87 kb_15) ?_
          refine yL.eq (y_iald (pc := 89) (n := 95) d174_89 (yR_a yR191)) ?_
          refine yL.eq (if_pos in_15_95) ?_
          show yL _ (yX 174 90 [some (.ref 190), some (.int a1)] ([.int (M4 191 15)]) M4 0 0)
          exact yL.eq (y_ireti (pc := 90) d174_90 mr_174) yL.rf
        ·
          refine yL.eq (y_ts (c := 2) (lo' := 3) kc_2 (by decide)) ?_
          refine yL.ite (fun h9 => ?_) (fun h9 => ?_)
          ·
            refine yL.eq (y_aload_n (pc := 91) (x := 190) d174_91 rfl) ?_
            refine yL.eq (y_getr (pc := 92) (r := 191) d174_92 q174_7 s_r_190_1) ?_
            refine yL.eq (y_bipush (pc := 95) (v := 13) d174_95 kb_13) ?_
            refine yL.eq (y_iald (pc := 97) (n := 95) d174_97 (yR_a yR191)) ?_
            refine yL.eq (if_pos in_13_95) ?_
            show yL _ (yX 174 98 [some (.ref 190), some (.int a1)] ([.int (M4 191 13)]) M4 0 0)
            exact yL.eq (y_ireti (pc := 98) d174_98 mr_174) yL.rf
          ·
            refine yL.eq (y_ts (c := 3) (lo' := 4) kc_3 (by decide)) ?_
            refine yL.ite (fun h10 => ?_) (fun h10 => ?_)
            ·
              refine yL.eq (y_aload_n (pc := 99) (x := 190) d174_99 rfl) ?_
              refine yL.eq (y_getr (pc := 100) (r := 191) d174_100 q174_7 s_r_190_1) ?_
              refine yL.eq (y_bipush (pc := 103) (v := 14) d174_103 kb_14) ?_
              refine yL.eq (y_iald (pc := 105) (n := 95) d174_105 (yR_a yR191)) ?_
              refine yL.eq (if_pos in_14_95) ?_
              show yL _ (yX 174 106 [some (.ref 190), some (.int a1)] ([.int (M4 191 14)]) M4 0 0)
              exact yL.eq (y_ireti (pc := 106) d174_106 mr_174) yL.rf
            ·
              refine yL.eq (y_ts (c := 4) (lo' := 5) kc_4 (by decide)) ?_
              refine yL.ite (fun h11 => ?_) (fun h11 => ?_)
              ·
                refine yL.eq (y_aload_n (pc := 107) (x := 190) d174_107 rfl) ?_
                refine yL.eq (y_getr (pc := 108) (r := 191) d174_108 q174_7 s_r_190_1) ?_
                refine y_calls_i (pc := 111) (n := 1) (n' := 3) (nc' := 0) (ns' := 0) [.ref 191] [] false d174_111 q174_139 rfl rfl rfl (Nat.le_of_ble_eq_true rfl) (Nat.le_of_ble_eq_true rfl) rfl (by decide +kernel) (by decide +kernel) (fun v13 M12 => ?_)
                exact yL.eq (y_ireti (pc := 114) d174_114 mr_174) yL.rf
              ·
                refine yL.eq (y_ts (c := 5) (lo' := 6) kc_5 (by decide)) ?_
                refine yL.ite (fun h14 => ?_) (fun h14 => ?_)
                ·
                  refine yL.eq (y_aload_n (pc := 115) (x := 190) d174_115 rfl) ?_
                  refine yL.eq (y_aload_n (pc := 116) (x := 190) d174_116 rfl) ?_
                  refine yL.eq (y_getr (pc := 117) (r := 191) d174_117 q174_7 s_r_190_1) ?_
                  refine y_callv_i (pc := 120) (n := 2) (n' := 4) (nc' := 0) (ns' := 0) [.ref 191] [] false d174_120 q174_248 mk_144 s_t_190 rfl rfl (Nat.le_of_ble_eq_true rfl) (Nat.le_of_ble_eq_true rfl) rfl (by decide +kernel) (by decide +kernel) (fun v16 M15 => ?_)
                  exact yL.eq (y_ireti (pc := 123) d174_123 mr_174) yL.rf
                ·
                  refine yL.eq (y_ts (c := 6) (lo' := 7) kc_6 (by decide)) ?_
                  refine yL.ite (fun h17 => ?_) (fun h17 => ?_)
                  ·
                    refine yL.eq (y_aload_n (pc := 124) (x := 190) d174_124 rfl) ?_
                    refine yL.eq (y_aload_n (pc := 125) (x := 190) d174_125 rfl) ?_
                    refine yL.eq (y_getr (pc := 126) (r := 191) d174_126 q174_7 s_r_190_1) ?_
                    refine y_callv_i (pc := 129) (n := 2) (n' := 2) (nc' := 0) (ns' := 0) [.ref 191] [] false d174_129 q174_251 mk_145 s_t_190 rfl rfl (Nat.le_of_ble_eq_true rfl) (Nat.le_of_ble_eq_true rfl) rfl (by decide +kernel) (by decide +kernel) (fun v19 M18 => ?_)
                    exact yL.eq (y_ireti (pc := 132) d174_132 mr_174) yL.rf
                  ·
                    refine yL.eq (y_ts (c := 7) (lo' := 8) kc_7 (by decide)) ?_
                    refine yL.ite (fun h20 => ?_) (fun h20 => ?_)
                    ·
                      refine yL.eq (y_aload_n (pc := 133) (x := 190) d174_133 rfl) ?_
                      refine yL.eq (y_aload_n (pc := 134) (x := 190) d174_134 rfl) ?_
                      refine yL.eq (y_getr (pc := 135) (r := 191) d174_135 q174_7 s_r_190_1) ?_
                      refine y_callv_i (pc := 138) (n := 2) (n' := 4) (nc' := 0) (ns' := 0) [.ref 191] [] false d174_138 q174_254 mk_133 s_t_190 rfl rfl (Nat.le_of_ble_eq_true rfl) (Nat.le_of_ble_eq_true rfl) rfl (by decide +kernel) (by decide +kernel) (fun v22 M21 => ?_)
                      exact yL.eq (y_ireti (pc := 141) d174_141 mr_174) yL.rf
                    ·
                      refine yL.eq (y_ts (c := 8) (lo' := 9) kc_8 (by decide)) ?_
                      refine yL.ite (fun h23 => ?_) (fun h23 => ?_)
                      ·
                        refine yL.eq (y_aload_n (pc := 142) (x := 190) d174_142 rfl) ?_
                        refine y_callv_i (pc := 143) (n := 1) (n' := 3) (nc' := 0) (ns' := 0) [] [] false d174_143 q174_257 mk_173 s_t_190 rfl rfl (Nat.le_of_ble_eq_true rfl) (Nat.le_of_ble_eq_true rfl) rfl (by decide +kernel) (by decide +kernel) (fun v25 M24 => ?_)
                        exact yL.eq (y_ireti (pc := 146) d174_146 mr_174) yL.rf
                      ·
                        refine yL.eq y_tsn ?_
                        refine yL.eq (y_aload_n (pc := 147) (x := 190) d174_147 rfl) ?_
                        refine y_callv_i (pc := 148) (n := 1) (n' := 3) (nc' := 0) (ns' := 0) [] [] false d174_148 q174_260 mk_172 s_t_190 rfl rfl (Nat.le_of_ble_eq_true rfl) (Nat.le_of_ble_eq_true rfl) rfl (by decide +kernel) (by decide +kernel) (fun v27 M26 => ?_)
                        exact yL.eq (y_ireti (pc := 151) d174_151 mr_174) yL.rf
    ·
      refine yL.eq (y_iconst (pc := 24) (v := 0) d174_24 kc_0) ?_
      exact yL.eq (y_ireti (pc := 25) d174_25 mr_174) yL.rf
  ·
    refine yL.eq (y_iconst (pc := 13) (v := 0) d174_13 kc_0) ?_
    refine yL.eq (y_goto (pc := 14) (t := 18) d174_14 (by decide)) ?_
    refine y_callv_i (pc := 18) (n := 2) (n' := 2) (nc' := 0) (ns' := 0) [.int 0] [] false d174_18 q174_159 mk_107 s_t_190 rfl rfl (Nat.le_of_ble_eq_true rfl) (Nat.le_of_ble_eq_true rfl) rfl (by decide +kernel) (by decide +kernel) (fun v29 M28 => ?_)
    refine yL.eq (y_if_eq (pc := 21) (t := 26) d174_21 (by decide)) ?_
    refine yL.ite (fun h30 => ?_) (fun h30 => ?_)
    ·
      refine yL.eq (y_iload_n (pc := 26) (x := a1) d174_26 rfl) ?_
      refine yL.eq (y_tsw (pc := 27) (ts := [76, 83, 91, 99, 107, 115, 124, 133, 142]) (d := 147) d174_27 (by decide +kernel)) ?_
      refine yL.eq (y_ts (c := 0) (lo' := 1) kc_0 (by decide)) ?_
      refine yL.ite (fun h31 => ?_) (fun h31 => ?_)
      ·
        refine yL.eq (y_aload_n (pc := 76) (x := 190) d174_76 rfl) ?_
        refine yL.eq (y_getr (pc := 77) (r := 191) d174_77 q174_7 s_r_190_1) ?_
        refine yL.eq (y_iconst (pc := 80) (v := 0) d174_80 kc_0) ?_
        refine yL.eq (y_iald (pc := 81) (n := 95) d174_81 (yR_a yR191)) ?_
        refine yL.eq (if_pos in_0_95) ?_
        show yL _ (yX 174 82 [some (.ref 190), some (.int a1)] ([.int (M28 191 0)]) M28 0 0)
        exact yL.eq (y_ireti (pc := 82) d174_82 mr_174) yL.rf
      ·
        refine yL.eq (y_ts (c := 1) (lo' := 2) kc_1 (by decide)) ?_
        refine yL.ite (fun h32 => ?_) (fun h32 => ?_)
        ·
          refine yL.eq (y_aload_n (pc := 83) (x := 190) d174_83 rfl) ?_
          refine yL.eq (y_getr (pc := 84) (r := 191) d174_84 q174_7 s_r_190_1) ?_
          refine yL.eq (y_bipush (pc := 87) (v := 15) d174_87 kb_15) ?_
          refine yL.eq (y_iald (pc := 89) (n := 95) d174_89 (yR_a yR191)) ?_
          refine yL.eq (if_pos in_15_95) ?_
          show yL _ (yX 174 90 [some (.ref 190), some (.int a1)] ([.int (M28 191 15)]) M28 0 0)
          exact yL.eq (y_ireti (pc := 90) d174_90 mr_174) yL.rf
        ·
          refine yL.eq (y_ts (c := 2) (lo' := 3) kc_2 (by decide)) ?_
          refine yL.ite (fun h33 => ?_) (fun h33 => ?_)
          ·
            refine yL.eq (y_aload_n (pc := 91) (x := 190) d174_91 rfl) ?_
            refine yL.eq (y_getr (pc := 92) (r := 191) d174_92 q174_7 s_r_190_1) ?_
            refine yL.eq (y_bipush (pc := 95) (v := 13) d174_95 kb_13) ?_
            refine yL.eq (y_iald (pc := 97) (n := 95) d174_97 (yR_a yR191)) ?_
            refine yL.eq (if_pos in_13_95) ?_
            show yL _ (yX 174 98 [some (.ref 190), some (.int a1)] ([.int (M28 191 13)]) M28 0 0)
            exact yL.eq (y_ireti (pc := 98) d174_98 mr_174) yL.rf
          ·
            refine yL.eq (y_ts (c := 3) (lo' := 4) kc_3 (by decide)) ?_
            refine yL.ite (fun h34 => ?_) (fun h34 => ?_)
            ·
              refine yL.eq (y_aload_n (pc := 99) (x := 190) d174_99 rfl) ?_
              refine yL.eq (y_getr (pc := 100) (r := 191) d174_100 q174_7 s_r_190_1) ?_
              refine yL.eq (y_bipush (pc := 103) (v := 14) d174_103 kb_14) ?_
              refine yL.eq (y_iald (pc := 105) (n := 95) d174_105 (yR_a yR191)) ?_
              refine yL.eq (if_pos in_14_95) ?_
              show yL _ (yX 174 106 [some (.ref 190), some (.int a1)] ([.int (M28 191 14)]) M28 0 0)
              exact yL.eq (y_ireti (pc := 106) d174_106 mr_174) yL.rf
            ·
              refine yL.eq (y_ts (c := 4) (lo' := 5) kc_4 (by decide)) ?_
              refine yL.ite (fun h35 => ?_) (fun h35 => ?_)
              ·
                refine yL.eq (y_aload_n (pc := 107) (x := 190) d174_107 rfl) ?_
                refine yL.eq (y_getr (pc := 108) (r := 191) d174_108 q174_7 s_r_190_1) ?_
                refine y_calls_i (pc := 111) (n := 1) (n' := 3) (nc' := 0) (ns' := 0) [.ref 191] [] false d174_111 q174_139 rfl rfl rfl (Nat.le_of_ble_eq_true rfl) (Nat.le_of_ble_eq_true rfl) rfl (by decide +kernel) (by decide +kernel) (fun v37 M36 => ?_)
                exact yL.eq (y_ireti (pc := 114) d174_114 mr_174) yL.rf
              ·
                refine yL.eq (y_ts (c := 5) (lo' := 6) kc_5 (by decide)) ?_
                refine yL.ite (fun h38 => ?_) (fun h38 => ?_)
                ·
                  refine yL.eq (y_aload_n (pc := 115) (x := 190) d174_115 rfl) ?_
                  refine yL.eq (y_aload_n (pc := 116) (x := 190) d174_116 rfl) ?_
                  refine yL.eq (y_getr (pc := 117) (r := 191) d174_117 q174_7 s_r_190_1) ?_
                  refine y_callv_i (pc := 120) (n := 2) (n' := 4) (nc' := 0) (ns' := 0) [.ref 191] [] false d174_120 q174_248 mk_144 s_t_190 rfl rfl (Nat.le_of_ble_eq_true rfl) (Nat.le_of_ble_eq_true rfl) rfl (by decide +kernel) (by decide +kernel) (fun v40 M39 => ?_)
                  exact yL.eq (y_ireti (pc := 123) d174_123 mr_174) yL.rf
                ·
                  refine yL.eq (y_ts (c := 6) (lo' := 7) kc_6 (by decide)) ?_
                  refine yL.ite (fun h41 => ?_) (fun h41 => ?_)
                  ·
                    refine yL.eq (y_aload_n (pc := 124) (x := 190) d174_124 rfl) ?_
                    refine yL.eq (y_aload_n (pc := 125) (x := 190) d174_125 rfl) ?_
                    refine yL.eq (y_getr (pc := 126) (r := 191) d174_126 q174_7 s_r_190_1) ?_
                    refine y_callv_i (pc := 129) (n := 2) (n' := 2) (nc' := 0) (ns' := 0) [.ref 191] [] false d174_129 q174_251 mk_145 s_t_190 rfl rfl (Nat.le_of_ble_eq_true rfl) (Nat.le_of_ble_eq_true rfl) rfl (by decide +kernel) (by decide +kernel) (fun v43 M42 => ?_)
                    exact yL.eq (y_ireti (pc := 132) d174_132 mr_174) yL.rf
                  ·
                    refine yL.eq (y_ts (c := 7) (lo' := 8) kc_7 (by decide)) ?_
                    refine yL.ite (fun h44 => ?_) (fun h44 => ?_)
                    ·
                      refine yL.eq (y_aload_n (pc := 133) (x := 190) d174_133 rfl) ?_
                      refine yL.eq (y_aload_n (pc := 134) (x := 190) d174_134 rfl) ?_
                      refine yL.eq (y_getr (pc := 135) (r := 191) d174_135 q174_7 s_r_190_1) ?_
                      refine y_callv_i (pc := 138) (n := 2) (n' := 4) (nc' := 0) (ns' := 0) [.ref 191] [] false d174_138 q174_254 mk_133 s_t_190 rfl rfl (Nat.le_of_ble_eq_true rfl) (Nat.le_of_ble_eq_true rfl) rfl (by decide +kernel) (by decide +kernel) (fun v46 M45 => ?_)
                      exact yL.eq (y_ireti (pc := 141) d174_141 mr_174) yL.rf
                    ·
                      refine yL.eq (y_ts (c := 8) (lo' := 9) kc_8 (by decide)) ?_
                      refine yL.ite (fun h47 => ?_) (fun h47 => ?_)
                      ·
                        refine yL.eq (y_aload_n (pc := 142) (x := 190) d174_142 rfl) ?_
                        refine y_callv_i (pc := 143) (n := 1) (n' := 3) (nc' := 0) (ns' := 0) [] [] false d174_143 q174_257 mk_173 s_t_190 rfl rfl (Nat.le_of_ble_eq_true rfl) (Nat.le_of_ble_eq_true rfl) rfl (by decide +kernel) (by decide +kernel) (fun v49 M48 => ?_)
                        exact yL.eq (y_ireti (pc := 146) d174_146 mr_174) yL.rf
                      ·
                        refine yL.eq y_tsn ?_
                        refine yL.eq (y_aload_n (pc := 147) (x := 190) d174_147 rfl) ?_
                        refine y_callv_i (pc := 148) (n := 1) (n' := 3) (nc' := 0) (ns' := 0) [] [] false d174_148 q174_260 mk_172 s_t_190 rfl rfl (Nat.le_of_ble_eq_true rfl) (Nat.le_of_ble_eq_true rfl) rfl (by decide +kernel) (by decide +kernel) (fun v51 M50 => ?_)
                        exact yL.eq (y_ireti (pc := 151) d174_151 mr_174) yL.rf
    ·
      refine yL.eq (y_iconst (pc := 24) (v := 0) d174_24 kc_0) ?_
      exact yL.eq (y_ireti (pc := 25) d174_25 mr_174) yL.rf
set_option maxRecDepth 20000 in
set_option maxHeartbeats 4000000 in
theorem e175 {a1 : Int32} {M : yM} : yL (yX 175 4 [some (.ref 190), some (.int a1), some (.int 0), some (.int 0)] [] M 0 0) (yX 175 0 [some (.ref 190), some (.int a1), none, none] [] M 0 0) := by
  refine yL.eq (y_iconst (pc := 0) (v := 0) d175_0 kc_0) ?_
  refine yL.eq (y_istore_n (pc := 1) (ls' := [some (.ref 190), some (.int a1), some (.int 0), none]) d175_1 rfl rfl) ?_
  refine yL.eq (y_iconst (pc := 2) (v := 0) d175_2 kc_0) ?_
  refine yL.eq (y_istore_n (pc := 3) (ls' := [some (.ref 190), some (.int a1), some (.int 0), some (.int 0)]) d175_3 rfl rfl) ?_
  exact yL.rf
set_option maxRecDepth 20000 in
set_option maxHeartbeats 4000000 in
theorem e175_4 {x1 : Int32} {x2 : Int32} {x3 : Int32} {M : yM} : yL (if x3 < (M 191 15) then if yinB (58 + x3) 95 = true then yCi false (yX 110 0 [some (.int (M 191 (yx (58 + x3)))), some (.int x1)] [] M 0 0) fun v4 M3 => if v4 = 0 then yX 175 4 [some (.ref 190), some (.int x1), some (.int (x2 + 0)), some (.int (x3 + 1))] [] M3 0 0 else yX 175 4 [some (.ref 190), some (.int x1), some (.int (x2 + 1)), some (.int (x3 + 1))] [] M3 0 0 else none else yI x2 M) (yX 175 4 [some (.ref 190), some (.int x1), some (.int x2), some (.int x3)] [] M 0 0) := by
  refine yL.eq (y_iload_n (pc := 4) (x := x3) d175_4 rfl) ?_
  refine yL.eq (y_aload_n (pc := 5) (x := 190) d175_5 rfl) ?_
  refine yL.eq (y_getr (pc := 6) (r := 191) d175_6 q175_7 s_r_190_1) ?_
  refine yL.eq (y_bipush (pc := 9) (v := 15) d175_9 kb_15) ?_
  refine yL.eq (y_iald (pc := 11) (n := 95) d175_11 (yR_a yR191)) ?_
  refine yL.eq (if_pos in_15_95) ?_
  show yL _ (yX 175 12 [some (.ref 190), some (.int x1), some (.int x2), some (.int x3)] ([.int (M 191 15), .int x3]) M 0 0)
  refine yL.eq (y_icmp_ge (pc := 12) (t := 45) d175_12 (by decide)) ?_
  refine yL.ite (fun h1 => ?_) (fun h1 => ?_)
  ·
    refine yL.eq (y_iload_n (pc := 15) (x := x2) d175_15 rfl) ?_
    refine yL.eq (y_aload_n (pc := 16) (x := 190) d175_16 rfl) ?_
    refine yL.eq (y_getr (pc := 17) (r := 191) d175_17 q175_7 s_r_190_1) ?_
    refine yL.eq (y_bipush (pc := 20) (v := 58) d175_20 kb_58) ?_
    refine yL.eq (y_iload_n (pc := 22) (x := x3) d175_22 rfl) ?_
    refine yL.eq (y_iadd (pc := 23) d175_23) ?_
    refine yL.eq (y_iald (pc := 24) (n := 95) d175_24 (yR_a yR191)) ?_
    refine yL.gd (fun h2 => ?_)
    refine yL.eq (y_iload_n (pc := 25) (x := x1) d175_25 rfl) ?_
    refine y_calls_i (pc := 26) (n := 2) (n' := 2) (nc' := 0) (ns' := 0) [.int (M 191 (yx (58 + x3))), .int x1] [.int x2] false d175_26 q175_54 rfl rfl rfl (Nat.le_of_ble_eq_true rfl) (Nat.le_of_ble_eq_true rfl) rfl (by decide +kernel) (by decide +kernel) (fun v4 M3 => ?_)
    refine yL.eq (y_if_eq (pc := 29) (t := 36) d175_29 (by decide)) ?_
    refine yL.ite (fun h5 => ?_) (fun h5 => ?_)
    ·
      refine yL.eq (y_iconst (pc := 36) (v := 0) d175_36 kc_0) ?_
      refine yL.eq (y_iadd (pc := 37) d175_37) ?_
      refine yL.eq (y_istore_n (pc := 38) (ls' := [some (.ref 190), some (.int x1), some (.int (x2 + 0)), some (.int x3)]) d175_38 rfl rfl) ?_
      refine yL.eq (y_iinc (pc := 39) (v := 1) (x := x3) (ls' := [some (.ref 190), some (.int x1), some (.int (x2 + 0)), some (.int (x3 + 1))]) d175_39 kc_1 rfl (Nat.le_of_ble_eq_true rfl) rfl) ?_
      refine yL.eq (y_goto (pc := 42) (t := 4) d175_42 (by decide)) ?_
      exact yL.rf
    ·
      refine yL.eq (y_iconst (pc := 32) (v := 1) d175_32 kc_1) ?_
      refine yL.eq (y_goto (pc := 33) (t := 37) d175_33 (by decide)) ?_
      refine yL.eq (y_iadd (pc := 37) d175_37) ?_
      refine yL.eq (y_istore_n (pc := 38) (ls' := [some (.ref 190), some (.int x1), some (.int (x2 + 1)), some (.int x3)]) d175_38 rfl rfl) ?_
      refine yL.eq (y_iinc (pc := 39) (v := 1) (x := x3) (ls' := [some (.ref 190), some (.int x1), some (.int (x2 + 1)), some (.int (x3 + 1))]) d175_39 kc_1 rfl (Nat.le_of_ble_eq_true rfl) rfl) ?_
      refine yL.eq (y_goto (pc := 42) (t := 4) d175_42 (by decide)) ?_
      exact yL.rf
  ·
    refine yL.eq (y_iload_n (pc := 45) (x := x2) d175_45 rfl) ?_
    exact yL.eq (y_ireti (pc := 46) d175_46 mr_175) yL.rf
set_option maxRecDepth 20000 in
set_option maxHeartbeats 4000000 in
theorem e176 {a1 : Int32} {M : yM} : yL (yCv false (yX 143 0 [some (.ref 190), some (.ref 191), none, none] [] M 0 0) fun M1 => yX 176 12 [some (.ref 190), some (.int a1), some (.int (-1)), some (.int 0), none] [] M1 0 0) (yX 176 0 [some (.ref 190), some (.int a1), none, none, none] [] M 0 0) := by
  refine yL.eq (y_aload_n (pc := 0) (x := 190) d176_0 rfl) ?_
  refine yL.eq (y_aload_n (pc := 1) (x := 190) d176_1 rfl) ?_
  refine yL.eq (y_getr (pc := 2) (r := 191) d176_2 q176_7 s_r_190_1) ?_
  refine y_callv_v (pc := 5) (n := 2) (n' := 4) (nc' := 0) (ns' := 0) [.ref 191] [] false d176_5 q176_136 mk_143 s_t_190 rfl rfl (Nat.le_of_ble_eq_true rfl) (Nat.le_of_ble_eq_true rfl) rfl (by decide +kernel) (by decide +kernel) (fun M1 => ?_)
  refine yL.eq (y_iconst (pc := 8) (v := (-1)) d176_8 kc_m1) ?_
  refine yL.eq (y_istore_n (pc := 9) (ls' := [some (.ref 190), some (.int a1), some (.int (-1)), none, none]) d176_9 rfl rfl) ?_
  refine yL.eq (y_iconst (pc := 10) (v := 0) d176_10 kc_0) ?_
  refine yL.eq (y_istore_n (pc := 11) (ls' := [some (.ref 190), some (.int a1), some (.int (-1)), some (.int 0), none]) d176_11 rfl rfl) ?_
  exact yL.rf
set_option maxRecDepth 20000 in
set_option maxHeartbeats 4000000 in
theorem e176_12 {x1 : Int32} {x2 : Int32} {x3 : Int32} {o4 : Option Value} {M : yM} : yL (if x3 < (M 191 15) then if yinB (58 + x3) 95 = true then yCi false (yX 110 0 [some (.int (M 191 (yx (58 + x3)))), some (.int x1)] [] M 0 0) fun v4 M3 => if v4 = 0 then yX 176 53 [some (.ref 190), some (.int x1), some (.int x2), some (.int x3), o4] [] M3 0 0 else if yinB x3 14 = true then if (M3 197 (yx x3)) = (-1) then yX 176 53 [some (.ref 190), some (.int x1), some (.int x2), some (.int x3), o4] [] M3 0 0 else if x2 = (-1) then if yinB x3 14 = true then yX 176 12 [some (.ref 190), some (.int x1), some (.int (M3 197 (yx x3))), some (.int (x3 + 1)), some (.int 1)] [] M3 0 0 else none else if yinB x3 14 = true then if (M3 197 (yx x3)) < x2 then if yinB x3 14 = true then yX 176 12 [some (.ref 190), some (.int x1), some (.int (M3 197 (yx x3))), some (.int (x3 + 1)), some (.int 1)] [] M3 0 0 else none else yX 176 12 [some (.ref 190), some (.int x1), some (.int x2), some (.int (x3 + 1)), some (.int 1)] [] M3 0 0 else none else none else none else yI x2 M) (yX 176 12 [some (.ref 190), some (.int x1), some (.int x2), some (.int x3), o4] [] M 0 0) := by
  refine yL.eq (y_iload_n (pc := 12) (x := x3) d176_12 rfl) ?_
  refine yL.eq (y_aload_n (pc := 13) (x := 190) d176_13 rfl) ?_
  refine yL.eq (y_getr (pc := 14) (r := 191) d176_14 q176_7 s_r_190_1) ?_
  refine yL.eq (y_bipush (pc := 17) (v := 15) d176_17 kb_15) ?_
  refine yL.eq (y_iald (pc := 19) (n := 95) d176_19 (yR_a yR191)) ?_
  refine yL.eq (if_pos in_15_95) ?_
  show yL _ (yX 176 20 [some (.ref 190), some (.int x1), some (.int x2), some (.int x3), o4] ([.int (M 191 15), .int x3]) M 0 0)
  refine yL.eq (y_icmp_ge (pc := 20) (t := 93) d176_20 (by decide)) ?_
  refine yL.ite (fun h1 => ?_) (fun h1 => ?_)
  ·
    refine yL.eq (y_aload_n (pc := 23) (x := 190) d176_23 rfl) ?_
    refine yL.eq (y_getr (pc := 24) (r := 191) d176_24 q176_7 s_r_190_1) ?_
    refine yL.eq (y_bipush (pc := 27) (v := 58) d176_27 kb_58) ?_
    refine yL.eq (y_iload_n (pc := 29) (x := x3) d176_29 rfl) ?_
    refine yL.eq (y_iadd (pc := 30) d176_30) ?_
    refine yL.eq (y_iald (pc := 31) (n := 95) d176_31 (yR_a yR191)) ?_
    refine yL.gd (fun h2 => ?_)
    refine yL.eq (y_iload_n (pc := 32) (x := x1) d176_32 rfl) ?_
    refine y_calls_i (pc := 33) (n := 2) (n' := 2) (nc' := 0) (ns' := 0) [.int (M 191 (yx (58 + x3))), .int x1] [] false d176_33 q176_54 rfl rfl rfl (Nat.le_of_ble_eq_true rfl) (Nat.le_of_ble_eq_true rfl) rfl (by decide +kernel) (by decide +kernel) (fun v4 M3 => ?_)
    refine yL.eq (y_if_eq (pc := 36) (t := 53) d176_36 (by decide)) ?_
    refine yL.ite (fun h5 => ?_) (fun h5 => ?_)
    ·
      exact yL.rf
    ·
      refine yL.eq (y_aload_n (pc := 39) (x := 190) d176_39 rfl) ?_
      refine yL.eq (y_getr (pc := 40) (r := 197) d176_40 q176_29 s_r_190_8) ?_
      refine yL.eq (y_iload_n (pc := 43) (x := x3) d176_43 rfl) ?_
      refine yL.eq (y_iald (pc := 44) (n := 14) d176_44 s_a_197) ?_
      refine yL.gd (fun h6 => ?_)
      refine yL.eq (y_iconst (pc := 45) (v := (-1)) d176_45 kc_m1) ?_
      refine yL.eq (y_icmp_eq (pc := 46) (t := 53) d176_46 (by decide)) ?_
      refine yL.ite (fun h7 => ?_) (fun h7 => ?_)
      ·
        exact yL.rf
      ·
        refine yL.eq (y_iconst (pc := 49) (v := 1) d176_49 kc_1) ?_
        refine yL.eq (y_goto (pc := 50) (t := 54) d176_50 (by decide)) ?_
        refine yL.eq (y_istore (pc := 54) (ls' := [some (.ref 190), some (.int x1), some (.int x2), some (.int x3), some (.int 1)]) d176_54 rfl rfl) ?_
        refine yL.eq (y_iload (pc := 56) (x := 1) d176_56 rfl) ?_
        refine yL.eq (y_if_eq (pc := 58) (t := 85) d176_58 (by decide)) ?_
        refine yL.eq (if_neg cn_Int32_1_eq_0) ?_
        refine yL.eq (y_iload_n (pc := 61) (x := x2) d176_61 rfl) ?_
        refine yL.eq (y_iconst (pc := 62) (v := (-1)) d176_62 kc_m1) ?_
        refine yL.eq (y_icmp_eq (pc := 63) (t := 76) d176_63 (by decide)) ?_
        refine yL.ite (fun h8 => ?_) (fun h8 => ?_)
        ·
          refine yL.eq (y_aload_n (pc := 76) (x := 190) d176_76 rfl) ?_
          refine yL.eq (y_getr (pc := 77) (r := 197) d176_77 q176_29 s_r_190_8) ?_
          refine yL.eq (y_iload_n (pc := 80) (x := x3) d176_80 rfl) ?_
          refine yL.eq (y_iald (pc := 81) (n := 14) d176_81 s_a_197) ?_
          refine yL.gd (fun h9 => ?_)
          refine yL.eq (y_goto (pc := 82) (t := 86) d176_82 (by decide)) ?_
          refine yL.eq (y_istore_n (pc := 86) (ls' := [some (.ref 190), some (.int x1), some (.int (M3 197 (yx x3))), some (.int x3), some (.int 1)]) d176_86 rfl rfl) ?_
          refine yL.eq (y_iinc (pc := 87) (v := 1) (x := x3) (ls' := [some (.ref 190), some (.int x1), some (.int (M3 197 (yx x3))), some (.int (x3 + 1)), some (.int 1)]) d176_87 kc_1 rfl (Nat.le_of_ble_eq_true rfl) rfl) ?_
          refine yL.eq (y_goto (pc := 90) (t := 12) d176_90 (by decide)) ?_
          exact yL.rf
        ·
          refine yL.eq (y_aload_n (pc := 66) (x := 190) d176_66 rfl) ?_
          refine yL.eq (y_getr (pc := 67) (r := 197) d176_67 q176_29 s_r_190_8) ?_
          refine yL.eq (y_iload_n (pc := 70) (x := x3) d176_70 rfl) ?_
          refine yL.eq (y_iald (pc := 71) (n := 14) d176_71 s_a_197) ?_
          refine yL.gd (fun h10 => ?_)
          refine yL.eq (y_iload_n (pc := 72) (x := x2) d176_72 rfl) ?_
          refine yL.eq (y_icmp_ge (pc := 73) (t := 85) d176_73 (by decide)) ?_
          refine yL.ite (fun h11 => ?_) (fun h11 => ?_)
          ·
            refine yL.eq (y_aload_n (pc := 76) (x := 190) d176_76 rfl) ?_
            refine yL.eq (y_getr (pc := 77) (r := 197) d176_77 q176_29 s_r_190_8) ?_
            refine yL.eq (y_iload_n (pc := 80) (x := x3) d176_80 rfl) ?_
            refine yL.eq (y_iald (pc := 81) (n := 14) d176_81 s_a_197) ?_
            refine yL.gd (fun h12 => ?_)
            refine yL.eq (y_goto (pc := 82) (t := 86) d176_82 (by decide)) ?_
            refine yL.eq (y_istore_n (pc := 86) (ls' := [some (.ref 190), some (.int x1), some (.int (M3 197 (yx x3))), some (.int x3), some (.int 1)]) d176_86 rfl rfl) ?_
            refine yL.eq (y_iinc (pc := 87) (v := 1) (x := x3) (ls' := [some (.ref 190), some (.int x1), some (.int (M3 197 (yx x3))), some (.int (x3 + 1)), some (.int 1)]) d176_87 kc_1 rfl (Nat.le_of_ble_eq_true rfl) rfl) ?_
            refine yL.eq (y_goto (pc := 90) (t := 12) d176_90 (by decide)) ?_
            exact yL.rf
          ·
            refine yL.eq (y_iload_n (pc := 85) (x := x2) d176_85 rfl) ?_
            refine yL.eq (y_istore_n (pc := 86) (ls' := [some (.ref 190), some (.int x1), some (.int x2), some (.int x3), some (.int 1)]) d176_86 rfl rfl) ?_
            refine yL.eq (y_iinc (pc := 87) (v := 1) (x := x3) (ls' := [some (.ref 190), some (.int x1), some (.int x2), some (.int (x3 + 1)), some (.int 1)]) d176_87 kc_1 rfl (Nat.le_of_ble_eq_true rfl) rfl) ?_
            refine yL.eq (y_goto (pc := 90) (t := 12) d176_90 (by decide)) ?_
            exact yL.rf
  ·
    refine yL.eq (y_iload_n (pc := 93) (x := x2) d176_93 rfl) ?_
    exact yL.eq (y_ireti (pc := 94) d176_94 mr_176) yL.rf
set_option maxRecDepth 20000 in
set_option maxHeartbeats 4000000 in
theorem e176_53 {x1 : Int32} {x2 : Int32} {x3 : Int32} {o4 : Option Value} {M : yM} : yL (yX 176 12 [some (.ref 190), some (.int x1), some (.int x2), some (.int (x3 + 1)), some (.int 0)] [] M 0 0) (yX 176 53 [some (.ref 190), some (.int x1), some (.int x2), some (.int x3), o4] [] M 0 0) := by
  refine yL.eq (y_iconst (pc := 53) (v := 0) d176_53 kc_0) ?_
  refine yL.eq (y_istore (pc := 54) (ls' := [some (.ref 190), some (.int x1), some (.int x2), some (.int x3), some (.int 0)]) d176_54 rfl rfl) ?_
  refine yL.eq (y_iload (pc := 56) (x := 0) d176_56 rfl) ?_
  refine yL.eq (y_if_eq (pc := 58) (t := 85) d176_58 (by decide)) ?_
  refine yL.eq (if_pos cp_Int32_0_eq_0) ?_
  refine yL.eq (y_iload_n (pc := 85) (x := x2) d176_85 rfl) ?_
  refine yL.eq (y_istore_n (pc := 86) (ls' := [some (.ref 190), some (.int x1), some (.int x2), some (.int x3), some (.int 0)]) d176_86 rfl rfl) ?_
  refine yL.eq (y_iinc (pc := 87) (v := 1) (x := x3) (ls' := [some (.ref 190), some (.int x1), some (.int x2), some (.int (x3 + 1)), some (.int 0)]) d176_87 kc_1 rfl (Nat.le_of_ble_eq_true rfl) rfl) ?_
  refine yL.eq (y_goto (pc := 90) (t := 12) d176_90 (by decide)) ?_
  exact yL.rf
set_option maxRecDepth 20000 in
set_option maxHeartbeats 4000000 in
theorem e177 {a1 : Int32} {a2 : Int32} {M : yM} : yL (yCi false (yX 114 0 [some (.ref 191), some (.int a1)] [] M 0 0) fun v2 M1 => if v2 = 0 then yCi false (yX 107 0 [some (.ref 190), some (.int 1)] [] M1 0 0) fun v5 M4 => if v5 = 0 then if a2 = 0 then if yinB (1 + a1) 95 = true then yI (M4 191 (yx (1 + a1))) M4 else none else if a2 = 1 then yCi false (yX 123 0 [some (.ref 191), some (.int a1), none] [] M4 0 0) fun v11 M10 => yI v11 M10 else if a2 = 2 then yCi false (yX 125 0 [some (.ref 191), some (.int a1), none, none, none, none] [] M4 0 0) fun v14 M13 => yI v14 M13 else if a2 = 3 then yCi false (yX 127 0 [some (.ref 191), some (.int a1), none, none] [] M4 0 0) fun v17 M16 => yI v17 M16 else if a2 = 4 then yCi false (yX 125 0 [some (.ref 191), some (.int a1), none, none, none, none] [] M4 0 0) fun v20 M19 => yCi false (yX 123 0 [some (.ref 191), some (.int a1), none] [] M19 0 0) fun v22 M21 => yI (v20 - v22) M21 else if a2 = 5 then yCi false (yX 175 0 [some (.ref 190), some (.int a1), none, none] [] M4 0 0) fun v25 M24 => yI v25 M24 else yCi false (yX 176 0 [some (.ref 190), some (.int a1), none, none, none] [] M4 0 0) fun v27 M26 => yI v27 M26 else yI 0 M4 else yCi false (yX 108 0 [some (.long a2.toInt64), none, some (.long 0), none, some (.long 6), none] [] M1 0 0) fun v29 M28 => if v29 = 0 then yCi false (yX 107 0 [some (.ref 190), some (.int 2)] [] M28 0 0) fun v32 M31 => if v32 = 0 then if a2 = 0 then if yinB (1 + a1) 95 = true then yI (M31 191 (yx (1 + a1))) M31 else none else if a2 = 1 then yCi false (yX 123 0 [some (.ref 191), some (.int a1), none] [] M31 0 0) fun v38 M37 => yI v38 M37 else if a2 = 2 then yCi false (yX 125 0 [some (.ref 191), some (.int a1), none, none, none, none] [] M31 0 0) fun v41 M40 => yI v41 M40 else if a2 = 3 then yCi false (yX 127 0 [some (.ref 191), some (.int a1), none, none] [] M31 0 0) fun v44 M43 => yI v44 M43 else if a2 = 4 then yCi false (yX 125 0 [some (.ref 191), some (.int a1), none, none, none, none] [] M31 0 0) fun v47 M46 => yCi false (yX 123 0 [some (.ref 191), some (.int a1), none] [] M46 0 0) fun v49 M48 => yI (v47 - v49) M48 else if a2 = 5 then yCi false (yX 175 0 [some (.ref 190), some (.int a1), none, none] [] M31 0 0) fun v52 M51 => yI v52 M51 else yCi false (yX 176 0 [some (.ref 190), some (.int a1), none, none, none] [] M31 0 0) fun v54 M53 => yI v54 M53 else yI 0 M31 else yCi false (yX 107 0 [some (.ref 190), some (.int 0)] [] M28 0 0) fun v56 M55 => if v56 = 0 then if a2 = 0 then if yinB (1 + a1) 95 = true then yI (M55 191 (yx (1 + a1))) M55 else none else if a2 = 1 then yCi false (yX 123 0 [some (.ref 191), some (.int a1), none] [] M55 0 0) fun v62 M61 => yI v62 M61 else if a2 = 2 then yCi false (yX 125 0 [some (.ref 191), some (.int a1), none, none, none, none] [] M55 0 0) fun v65 M64 => yI v65 M64 else if a2 = 3 then yCi false (yX 127 0 [some (.ref 191), some (.int a1), none, none] [] M55 0 0) fun v68 M67 => yI v68 M67 else if a2 = 4 then yCi false (yX 125 0 [some (.ref 191), some (.int a1), none, none, none, none] [] M55 0 0) fun v71 M70 => yCi false (yX 123 0 [some (.ref 191), some (.int a1), none] [] M70 0 0) fun v73 M72 => yI (v71 - v73) M72 else if a2 = 5 then yCi false (yX 175 0 [some (.ref 190), some (.int a1), none, none] [] M55 0 0) fun v76 M75 => yI v76 M75 else yCi false (yX 176 0 [some (.ref 190), some (.int a1), none, none, none] [] M55 0 0) fun v78 M77 => yI v78 M77 else yI 0 M55) (yX 177 0 [some (.ref 190), some (.int a1), some (.int a2)] [] M 0 0) := by
  refine yL.eq (y_aload_n (pc := 0) (x := 190) d177_0 rfl) ?_
  refine yL.eq (y_aload_n (pc := 1) (x := 190) d177_1 rfl) ?_
  refine yL.eq (y_getr (pc := 2) (r := 191) d177_2 q177_7 s_r_190_1) ?_
  refine yL.eq (y_iload_n (pc := 5) (x := a1) d177_5 rfl) ?_
  refine y_calls_i (pc := 6) (n := 2) (n' := 2) (nc' := 0) (ns' := 0) [.ref 191, .int a1] [.ref 190] false d177_6 q177_207 rfl rfl rfl (Nat.le_of_ble_eq_true rfl) (Nat.le_of_ble_eq_true rfl) rfl (by decide +kernel) (by decide +kernel) (fun v2 M1 => ?_)
  refine yL.eq (y_if_ne (pc := 9) (t := 16) d177_9 (by decide)) ?_
  refine yL.ite (fun h3 => ?_) (fun h3 => ?_)
  ·
    refine yL.eq (y_iconst (pc := 12) (v := 1) d177_12 kc_1) ?_
    refine yL.eq (y_goto (pc := 13) (t := 33) d177_13 (by decide)) ?_
    refine y_callv_i (pc := 33) (n := 2) (n' := 2) (nc' := 0) (ns' := 0) [.int 1] [] false d177_33 q177_159 mk_107 s_t_190 rfl rfl (Nat.le_of_ble_eq_true rfl) (Nat.le_of_ble_eq_true rfl) rfl (by decide +kernel) (by decide +kernel) (fun v5 M4 => ?_)
    refine yL.eq (y_if_eq (pc := 36) (t := 41) d177_36 (by decide)) ?_
    refine yL.ite (fun h6 => ?_) (fun h6 => ?_)
    ·
      refine yL.eq (y_iload_n (pc := 41) (x := a2) d177_41 rfl) ?_
      refine yL.eq (y_tsw (pc := 42) (ts := [80, 89, 98, 107, 116, 134]) (d := 140) d177_42 (by decide +kernel)) ?_
      refine yL.eq (y_ts (c := 0) (lo' := 1) kc_0 (by decide)) ?_
      refine yL.ite (fun h7 => ?_) (fun h7 => ?_)
      ·
        refine yL.eq (y_aload_n (pc := 80) (x := 190) d177_80 rfl) ?_
        refine yL.eq (y_getr (pc := 81) (r := 191) d177_81 q177_7 s_r_190_1) ?_
        refine yL.eq (y_iconst (pc := 84) (v := 1) d177_84 kc_1) ?_
        refine yL.eq (y_iload_n (pc := 85) (x := a1) d177_85 rfl) ?_
        refine yL.eq (y_iadd (pc := 86) d177_86) ?_
        refine yL.eq (y_iald (pc := 87) (n := 95) d177_87 (yR_a yR191)) ?_
        refine yL.gd (fun h8 => ?_)
        exact yL.eq (y_ireti (pc := 88) d177_88 mr_177) yL.rf
      ·
        refine yL.eq (y_ts (c := 1) (lo' := 2) kc_1 (by decide)) ?_
        refine yL.ite (fun h9 => ?_) (fun h9 => ?_)
        ·
          refine yL.eq (y_aload_n (pc := 89) (x := 190) d177_89 rfl) ?_
          refine yL.eq (y_getr (pc := 90) (r := 191) d177_90 q177_7 s_r_190_1) ?_
          refine yL.eq (y_iload_n (pc := 93) (x := a1) d177_93 rfl) ?_
          refine y_calls_i (pc := 94) (n := 2) (n' := 3) (nc' := 0) (ns' := 0) [.ref 191, .int a1] [] false d177_94 q177_84 rfl rfl rfl (Nat.le_of_ble_eq_true rfl) (Nat.le_of_ble_eq_true rfl) rfl (by decide +kernel) (by decide +kernel) (fun v11 M10 => ?_)
          exact yL.eq (y_ireti (pc := 97) d177_97 mr_177) yL.rf
        ·
          refine yL.eq (y_ts (c := 2) (lo' := 3) kc_2 (by decide)) ?_
          refine yL.ite (fun h12 => ?_) (fun h12 => ?_)
          ·
            refine yL.eq (y_aload_n (pc := 98) (x := 190) d177_98 rfl) ?_
            refine yL.eq (y_getr (pc := 99) (r := 191) d177_99 q177_7 s_r_190_1) ?_
            refine yL.eq (y_iload_n (pc := 102) (x := a1) d177_102 rfl) ?_
            refine y_calls_i (pc := 103) (n := 2) (n' := 6) (nc' := 0) (ns' := 0) [.ref 191, .int a1] [] false d177_103 q177_88 rfl rfl rfl (Nat.le_of_ble_eq_true rfl) (Nat.le_of_ble_eq_true rfl) rfl (by decide +kernel) (by decide +kernel) (fun v14 M13 => ?_)
            exact yL.eq (y_ireti (pc := 106) d177_106 mr_177) yL.rf
          ·
            refine yL.eq (y_ts (c := 3) (lo' := 4) kc_3 (by decide)) ?_
            refine yL.ite (fun h15 => ?_) (fun h15 => ?_)
            ·
              refine yL.eq (y_aload_n (pc := 107) (x := 190) d177_107 rfl) ?_
              refine yL.eq (y_getr (pc := 108) (r := 191) d177_108 q177_7 s_r_190_1) ?_
              refine yL.eq (y_iload_n (pc := 111) (x := a1) d177_111 rfl) ?_
              refine y_calls_i (pc := 112) (n := 2) (n' := 4) (nc' := 0) (ns' := 0) [.ref 191, .int a1] [] false d177_112 q177_95 rfl rfl rfl (Nat.le_of_ble_eq_true rfl) (Nat.le_of_ble_eq_true rfl) rfl (by decide +kernel) (by decide +kernel) (fun v17 M16 => ?_)
              exact yL.eq (y_ireti (pc := 115) d177_115 mr_177) yL.rf
            ·
              refine yL.eq (y_ts (c := 4) (lo' := 5) kc_4 (by decide)) ?_
              refine yL.ite (fun h18 => ?_) (fun h18 => ?_)
              ·
                refine yL.eq (y_aload_n (pc := 116) (x := 190) d177_116 rfl) ?_
                refine yL.eq (y_getr (pc := 117) (r := 191) d177_117 q177_7 s_r_190_1) ?_
                refine yL.eq (y_iload_n (pc := 120) (x := a1) d177_120 rfl) ?_
                refine y_calls_i (pc := 121) (n := 2) (n' := 6) (nc' := 0) (ns' := 0) [.ref 191, .int a1] [] false d177_121 q177_88 rfl rfl rfl (Nat.le_of_ble_eq_true rfl) (Nat.le_of_ble_eq_true rfl) rfl (by decide +kernel) (by decide +kernel) (fun v20 M19 => ?_)
                refine yL.eq (y_aload_n (pc := 124) (x := 190) d177_124 rfl) ?_
                refine yL.eq (y_getr (pc := 125) (r := 191) d177_125 q177_7 s_r_190_1) ?_
                refine yL.eq (y_iload_n (pc := 128) (x := a1) d177_128 rfl) ?_
                refine y_calls_i (pc := 129) (n := 2) (n' := 3) (nc' := 0) (ns' := 0) [.ref 191, .int a1] [.int v20] false d177_129 q177_84 rfl rfl rfl (Nat.le_of_ble_eq_true rfl) (Nat.le_of_ble_eq_true rfl) rfl (by decide +kernel) (by decide +kernel) (fun v22 M21 => ?_)
                refine yL.eq (y_isub (pc := 132) d177_132) ?_
                exact yL.eq (y_ireti (pc := 133) d177_133 mr_177) yL.rf
              ·
                refine yL.eq (y_ts (c := 5) (lo' := 6) kc_5 (by decide)) ?_
                refine yL.ite (fun h23 => ?_) (fun h23 => ?_)
                ·
                  refine yL.eq (y_aload_n (pc := 134) (x := 190) d177_134 rfl) ?_
                  refine yL.eq (y_iload_n (pc := 135) (x := a1) d177_135 rfl) ?_
                  refine y_callv_i (pc := 136) (n := 2) (n' := 4) (nc' := 0) (ns' := 0) [.int a1] [] false d177_136 q177_265 mk_175 s_t_190 rfl rfl (Nat.le_of_ble_eq_true rfl) (Nat.le_of_ble_eq_true rfl) rfl (by decide +kernel) (by decide +kernel) (fun v25 M24 => ?_)
                  exact yL.eq (y_ireti (pc := 139) d177_139 mr_177) yL.rf
                ·
                  refine yL.eq y_tsn ?_
                  refine yL.eq (y_aload_n (pc := 140) (x := 190) d177_140 rfl) ?_
                  refine yL.eq (y_iload_n (pc := 141) (x := a1) d177_141 rfl) ?_
                  refine y_callv_i (pc := 142) (n := 2) (n' := 5) (nc' := 0) (ns' := 0) [.int a1] [] false d177_142 q177_268 mk_176 s_t_190 rfl rfl (Nat.le_of_ble_eq_true rfl) (Nat.le_of_ble_eq_true rfl) rfl (by decide +kernel) (by decide +kernel) (fun v27 M26 => ?_)
                  exact yL.eq (y_ireti (pc := 145) d177_145 mr_177) yL.rf
    ·
      refine yL.eq (y_iconst (pc := 39) (v := 0) d177_39 kc_0) ?_
      exact yL.eq (y_ireti (pc := 40) d177_40 mr_177) yL.rf
  ·
    refine yL.eq (y_iload_n (pc := 16) (x := a2) d177_16 rfl) ?_
    refine yL.eq (y_i2l (pc := 17) d177_17) ?_
    refine yL.eq (y_lconst (pc := 18) (v := 0) d177_18 kl_0) ?_
    refine yL.eq (y_ldc2_w (pc := 19) (v := 6) d177_19 q177_263) ?_
    refine y_calls_i (pc := 22) (n := 3) (n' := 6) (nc' := 0) (ns' := 0) [.long a2.toInt64, .long 0, .long 6] [.ref 190] false d177_22 q177_58 rfl rfl rfl (Nat.le_of_ble_eq_true rfl) (Nat.le_of_ble_eq_true rfl) rfl (by decide +kernel) (by decide +kernel) (fun v29 M28 => ?_)
    refine yL.eq (y_if_ne (pc := 25) (t := 32) d177_25 (by decide)) ?_
    refine yL.ite (fun h30 => ?_) (fun h30 => ?_)
    ·
      refine yL.eq (y_iconst (pc := 28) (v := 2) d177_28 kc_2) ?_
      refine yL.eq (y_goto (pc := 29) (t := 33) d177_29 (by decide)) ?_
      refine y_callv_i (pc := 33) (n := 2) (n' := 2) (nc' := 0) (ns' := 0) [.int 2] [] false d177_33 q177_159 mk_107 s_t_190 rfl rfl (Nat.le_of_ble_eq_true rfl) (Nat.le_of_ble_eq_true rfl) rfl (by decide +kernel) (by decide +kernel) (fun v32 M31 => ?_)
      refine yL.eq (y_if_eq (pc := 36) (t := 41) d177_36 (by decide)) ?_
      refine yL.ite (fun h33 => ?_) (fun h33 => ?_)
      ·
        refine yL.eq (y_iload_n (pc := 41) (x := a2) d177_41 rfl) ?_
        refine yL.eq (y_tsw (pc := 42) (ts := [80, 89, 98, 107, 116, 134]) (d := 140) d177_42 (by decide +kernel)) ?_
        refine yL.eq (y_ts (c := 0) (lo' := 1) kc_0 (by decide)) ?_
        refine yL.ite (fun h34 => ?_) (fun h34 => ?_)
        ·
          refine yL.eq (y_aload_n (pc := 80) (x := 190) d177_80 rfl) ?_
          refine yL.eq (y_getr (pc := 81) (r := 191) d177_81 q177_7 s_r_190_1) ?_
          refine yL.eq (y_iconst (pc := 84) (v := 1) d177_84 kc_1) ?_
          refine yL.eq (y_iload_n (pc := 85) (x := a1) d177_85 rfl) ?_
          refine yL.eq (y_iadd (pc := 86) d177_86) ?_
          refine yL.eq (y_iald (pc := 87) (n := 95) d177_87 (yR_a yR191)) ?_
          refine yL.gd (fun h35 => ?_)
          exact yL.eq (y_ireti (pc := 88) d177_88 mr_177) yL.rf
        ·
          refine yL.eq (y_ts (c := 1) (lo' := 2) kc_1 (by decide)) ?_
          refine yL.ite (fun h36 => ?_) (fun h36 => ?_)
          ·
            refine yL.eq (y_aload_n (pc := 89) (x := 190) d177_89 rfl) ?_
            refine yL.eq (y_getr (pc := 90) (r := 191) d177_90 q177_7 s_r_190_1) ?_
            refine yL.eq (y_iload_n (pc := 93) (x := a1) d177_93 rfl) ?_
            refine y_calls_i (pc := 94) (n := 2) (n' := 3) (nc' := 0) (ns' := 0) [.ref 191, .int a1] [] false d177_94 q177_84 rfl rfl rfl (Nat.le_of_ble_eq_true rfl) (Nat.le_of_ble_eq_true rfl) rfl (by decide +kernel) (by decide +kernel) (fun v38 M37 => ?_)
            exact yL.eq (y_ireti (pc := 97) d177_97 mr_177) yL.rf
          ·
            refine yL.eq (y_ts (c := 2) (lo' := 3) kc_2 (by decide)) ?_
            refine yL.ite (fun h39 => ?_) (fun h39 => ?_)
            ·
              refine yL.eq (y_aload_n (pc := 98) (x := 190) d177_98 rfl) ?_
              refine yL.eq (y_getr (pc := 99) (r := 191) d177_99 q177_7 s_r_190_1) ?_
              refine yL.eq (y_iload_n (pc := 102) (x := a1) d177_102 rfl) ?_
              refine y_calls_i (pc := 103) (n := 2) (n' := 6) (nc' := 0) (ns' := 0) [.ref 191, .int a1] [] false d177_103 q177_88 rfl rfl rfl (Nat.le_of_ble_eq_true rfl) (Nat.le_of_ble_eq_true rfl) rfl (by decide +kernel) (by decide +kernel) (fun v41 M40 => ?_)
              exact yL.eq (y_ireti (pc := 106) d177_106 mr_177) yL.rf
            ·
              refine yL.eq (y_ts (c := 3) (lo' := 4) kc_3 (by decide)) ?_
              refine yL.ite (fun h42 => ?_) (fun h42 => ?_)
              ·
                refine yL.eq (y_aload_n (pc := 107) (x := 190) d177_107 rfl) ?_
                refine yL.eq (y_getr (pc := 108) (r := 191) d177_108 q177_7 s_r_190_1) ?_
                refine yL.eq (y_iload_n (pc := 111) (x := a1) d177_111 rfl) ?_
                refine y_calls_i (pc := 112) (n := 2) (n' := 4) (nc' := 0) (ns' := 0) [.ref 191, .int a1] [] false d177_112 q177_95 rfl rfl rfl (Nat.le_of_ble_eq_true rfl) (Nat.le_of_ble_eq_true rfl) rfl (by decide +kernel) (by decide +kernel) (fun v44 M43 => ?_)
                exact yL.eq (y_ireti (pc := 115) d177_115 mr_177) yL.rf
              ·
                refine yL.eq (y_ts (c := 4) (lo' := 5) kc_4 (by decide)) ?_
                refine yL.ite (fun h45 => ?_) (fun h45 => ?_)
                ·
                  refine yL.eq (y_aload_n (pc := 116) (x := 190) d177_116 rfl) ?_
                  refine yL.eq (y_getr (pc := 117) (r := 191) d177_117 q177_7 s_r_190_1) ?_
                  refine yL.eq (y_iload_n (pc := 120) (x := a1) d177_120 rfl) ?_
                  refine y_calls_i (pc := 121) (n := 2) (n' := 6) (nc' := 0) (ns' := 0) [.ref 191, .int a1] [] false d177_121 q177_88 rfl rfl rfl (Nat.le_of_ble_eq_true rfl) (Nat.le_of_ble_eq_true rfl) rfl (by decide +kernel) (by decide +kernel) (fun v47 M46 => ?_)
                  refine yL.eq (y_aload_n (pc := 124) (x := 190) d177_124 rfl) ?_
                  refine yL.eq (y_getr (pc := 125) (r := 191) d177_125 q177_7 s_r_190_1) ?_
                  refine yL.eq (y_iload_n (pc := 128) (x := a1) d177_128 rfl) ?_
                  refine y_calls_i (pc := 129) (n := 2) (n' := 3) (nc' := 0) (ns' := 0) [.ref 191, .int a1] [.int v47] false d177_129 q177_84 rfl rfl rfl (Nat.le_of_ble_eq_true rfl) (Nat.le_of_ble_eq_true rfl) rfl (by decide +kernel) (by decide +kernel) (fun v49 M48 => ?_)
                  refine yL.eq (y_isub (pc := 132) d177_132) ?_
                  exact yL.eq (y_ireti (pc := 133) d177_133 mr_177) yL.rf
                ·
                  refine yL.eq (y_ts (c := 5) (lo' := 6) kc_5 (by decide)) ?_
                  refine yL.ite (fun h50 => ?_) (fun h50 => ?_)
                  ·
                    refine yL.eq (y_aload_n (pc := 134) (x := 190) d177_134 rfl) ?_
                    refine yL.eq (y_iload_n (pc := 135) (x := a1) d177_135 rfl) ?_
                    refine y_callv_i (pc := 136) (n := 2) (n' := 4) (nc' := 0) (ns' := 0) [.int a1] [] false d177_136 q177_265 mk_175 s_t_190 rfl rfl (Nat.le_of_ble_eq_true rfl) (Nat.le_of_ble_eq_true rfl) rfl (by decide +kernel) (by decide +kernel) (fun v52 M51 => ?_)
                    exact yL.eq (y_ireti (pc := 139) d177_139 mr_177) yL.rf
                  ·
                    refine yL.eq y_tsn ?_
                    refine yL.eq (y_aload_n (pc := 140) (x := 190) d177_140 rfl) ?_
                    refine yL.eq (y_iload_n (pc := 141) (x := a1) d177_141 rfl) ?_
                    refine y_callv_i (pc := 142) (n := 2) (n' := 5) (nc' := 0) (ns' := 0) [.int a1] [] false d177_142 q177_268 mk_176 s_t_190 rfl rfl (Nat.le_of_ble_eq_true rfl) (Nat.le_of_ble_eq_true rfl) rfl (by decide +kernel) (by decide +kernel) (fun v54 M53 => ?_)
                    exact yL.eq (y_ireti (pc := 145) d177_145 mr_177) yL.rf
      ·
        refine yL.eq (y_iconst (pc := 39) (v := 0) d177_39 kc_0) ?_
        exact yL.eq (y_ireti (pc := 40) d177_40 mr_177) yL.rf
    ·
      refine yL.eq (y_iconst (pc := 32) (v := 0) d177_32 kc_0) ?_
      refine y_callv_i (pc := 33) (n := 2) (n' := 2) (nc' := 0) (ns' := 0) [.int 0] [] false d177_33 q177_159 mk_107 s_t_190 rfl rfl (Nat.le_of_ble_eq_true rfl) (Nat.le_of_ble_eq_true rfl) rfl (by decide +kernel) (by decide +kernel) (fun v56 M55 => ?_)
      refine yL.eq (y_if_eq (pc := 36) (t := 41) d177_36 (by decide)) ?_
      refine yL.ite (fun h57 => ?_) (fun h57 => ?_)
      ·
        refine yL.eq (y_iload_n (pc := 41) (x := a2) d177_41 rfl) ?_
        refine yL.eq (y_tsw (pc := 42) (ts := [80, 89, 98, 107, 116, 134]) (d := 140) d177_42 (by decide +kernel)) ?_
        refine yL.eq (y_ts (c := 0) (lo' := 1) kc_0 (by decide)) ?_
        refine yL.ite (fun h58 => ?_) (fun h58 => ?_)
        ·
          refine yL.eq (y_aload_n (pc := 80) (x := 190) d177_80 rfl) ?_
          refine yL.eq (y_getr (pc := 81) (r := 191) d177_81 q177_7 s_r_190_1) ?_
          refine yL.eq (y_iconst (pc := 84) (v := 1) d177_84 kc_1) ?_
          refine yL.eq (y_iload_n (pc := 85) (x := a1) d177_85 rfl) ?_
          refine yL.eq (y_iadd (pc := 86) d177_86) ?_
          refine yL.eq (y_iald (pc := 87) (n := 95) d177_87 (yR_a yR191)) ?_
          refine yL.gd (fun h59 => ?_)
          exact yL.eq (y_ireti (pc := 88) d177_88 mr_177) yL.rf
        ·
          refine yL.eq (y_ts (c := 1) (lo' := 2) kc_1 (by decide)) ?_
          refine yL.ite (fun h60 => ?_) (fun h60 => ?_)
          ·
            refine yL.eq (y_aload_n (pc := 89) (x := 190) d177_89 rfl) ?_
            refine yL.eq (y_getr (pc := 90) (r := 191) d177_90 q177_7 s_r_190_1) ?_
            refine yL.eq (y_iload_n (pc := 93) (x := a1) d177_93 rfl) ?_
            refine y_calls_i (pc := 94) (n := 2) (n' := 3) (nc' := 0) (ns' := 0) [.ref 191, .int a1] [] false d177_94 q177_84 rfl rfl rfl (Nat.le_of_ble_eq_true rfl) (Nat.le_of_ble_eq_true rfl) rfl (by decide +kernel) (by decide +kernel) (fun v62 M61 => ?_)
            exact yL.eq (y_ireti (pc := 97) d177_97 mr_177) yL.rf
          ·
            refine yL.eq (y_ts (c := 2) (lo' := 3) kc_2 (by decide)) ?_
            refine yL.ite (fun h63 => ?_) (fun h63 => ?_)
            ·
              refine yL.eq (y_aload_n (pc := 98) (x := 190) d177_98 rfl) ?_
              refine yL.eq (y_getr (pc := 99) (r := 191) d177_99 q177_7 s_r_190_1) ?_
              refine yL.eq (y_iload_n (pc := 102) (x := a1) d177_102 rfl) ?_
              refine y_calls_i (pc := 103) (n := 2) (n' := 6) (nc' := 0) (ns' := 0) [.ref 191, .int a1] [] false d177_103 q177_88 rfl rfl rfl (Nat.le_of_ble_eq_true rfl) (Nat.le_of_ble_eq_true rfl) rfl (by decide +kernel) (by decide +kernel) (fun v65 M64 => ?_)
              exact yL.eq (y_ireti (pc := 106) d177_106 mr_177) yL.rf
            ·
              refine yL.eq (y_ts (c := 3) (lo' := 4) kc_3 (by decide)) ?_
              refine yL.ite (fun h66 => ?_) (fun h66 => ?_)
              ·
                refine yL.eq (y_aload_n (pc := 107) (x := 190) d177_107 rfl) ?_
                refine yL.eq (y_getr (pc := 108) (r := 191) d177_108 q177_7 s_r_190_1) ?_
                refine yL.eq (y_iload_n (pc := 111) (x := a1) d177_111 rfl) ?_
                refine y_calls_i (pc := 112) (n := 2) (n' := 4) (nc' := 0) (ns' := 0) [.ref 191, .int a1] [] false d177_112 q177_95 rfl rfl rfl (Nat.le_of_ble_eq_true rfl) (Nat.le_of_ble_eq_true rfl) rfl (by decide +kernel) (by decide +kernel) (fun v68 M67 => ?_)
                exact yL.eq (y_ireti (pc := 115) d177_115 mr_177) yL.rf
              ·
                refine yL.eq (y_ts (c := 4) (lo' := 5) kc_4 (by decide)) ?_
                refine yL.ite (fun h69 => ?_) (fun h69 => ?_)
                ·
                  refine yL.eq (y_aload_n (pc := 116) (x := 190) d177_116 rfl) ?_
                  refine yL.eq (y_getr (pc := 117) (r := 191) d177_117 q177_7 s_r_190_1) ?_
                  refine yL.eq (y_iload_n (pc := 120) (x := a1) d177_120 rfl) ?_
                  refine y_calls_i (pc := 121) (n := 2) (n' := 6) (nc' := 0) (ns' := 0) [.ref 191, .int a1] [] false d177_121 q177_88 rfl rfl rfl (Nat.le_of_ble_eq_true rfl) (Nat.le_of_ble_eq_true rfl) rfl (by decide +kernel) (by decide +kernel) (fun v71 M70 => ?_)
                  refine yL.eq (y_aload_n (pc := 124) (x := 190) d177_124 rfl) ?_
                  refine yL.eq (y_getr (pc := 125) (r := 191) d177_125 q177_7 s_r_190_1) ?_
                  refine yL.eq (y_iload_n (pc := 128) (x := a1) d177_128 rfl) ?_
                  refine y_calls_i (pc := 129) (n := 2) (n' := 3) (nc' := 0) (ns' := 0) [.ref 191, .int a1] [.int v71] false d177_129 q177_84 rfl rfl rfl (Nat.le_of_ble_eq_true rfl) (Nat.le_of_ble_eq_true rfl) rfl (by decide +kernel) (by decide +kernel) (fun v73 M72 => ?_)
                  refine yL.eq (y_isub (pc := 132) d177_132) ?_
                  exact yL.eq (y_ireti (pc := 133) d177_133 mr_177) yL.rf
                ·
                  refine yL.eq (y_ts (c := 5) (lo' := 6) kc_5 (by decide)) ?_
                  refine yL.ite (fun h74 => ?_) (fun h74 => ?_)
                  ·
                    refine yL.eq (y_aload_n (pc := 134) (x := 190) d177_134 rfl) ?_
                    refine yL.eq (y_iload_n (pc := 135) (x := a1) d177_135 rfl) ?_
                    refine y_callv_i (pc := 136) (n := 2) (n' := 4) (nc' := 0) (ns' := 0) [.int a1] [] false d177_136 q177_265 mk_175 s_t_190 rfl rfl (Nat.le_of_ble_eq_true rfl) (Nat.le_of_ble_eq_true rfl) rfl (by decide +kernel) (by decide +kernel) (fun v76 M75 => ?_)
                    exact yL.eq (y_ireti (pc := 139) d177_139 mr_177) yL.rf
                  ·
                    refine yL.eq y_tsn ?_
                    refine yL.eq (y_aload_n (pc := 140) (x := 190) d177_140 rfl) ?_
                    refine yL.eq (y_iload_n (pc := 141) (x := a1) d177_141 rfl) ?_
                    refine y_callv_i (pc := 142) (n := 2) (n' := 5) (nc' := 0) (ns' := 0) [.int a1] [] false d177_142 q177_268 mk_176 s_t_190 rfl rfl (Nat.le_of_ble_eq_true rfl) (Nat.le_of_ble_eq_true rfl) rfl (by decide +kernel) (by decide +kernel) (fun v78 M77 => ?_)
                    exact yL.eq (y_ireti (pc := 145) d177_145 mr_177) yL.rf
      ·
        refine yL.eq (y_iconst (pc := 39) (v := 0) d177_39 kc_0) ?_
        exact yL.eq (y_ireti (pc := 40) d177_40 mr_177) yL.rf
set_option maxRecDepth 20000 in
set_option maxHeartbeats 4000000 in
theorem e178 {a1 : Int32} {a2 : Int32} {M : yM} : yL (yCi false (yX 114 0 [some (.ref 191), some (.int a1)] [] M 0 0) fun v2 M1 => if v2 = 0 then yCi false (yX 107 0 [some (.ref 190), some (.int 1)] [] M1 0 0) fun v5 M4 => if v5 = 0 then yCi false (yX 126 0 [some (.ref 191), some (.int a1), some (.int a2), none, none] [] M4 0 0) fun v8 M7 => yI v8 M7 else yI 0 M4 else yCi false (yX 108 0 [some (.long a2.toInt64), none, some (.long 0), none, some (.long 3), none] [] M1 0 0) fun v10 M9 => if v10 = 0 then yCi false (yX 107 0 [some (.ref 190), some (.int 2)] [] M9 0 0) fun v13 M12 => if v13 = 0 then yCi false (yX 126 0 [some (.ref 191), some (.int a1), some (.int a2), none, none] [] M12 0 0) fun v16 M15 => yI v16 M15 else yI 0 M12 else yCi false (yX 107 0 [some (.ref 190), some (.int 0)] [] M9 0 0) fun v18 M17 => if v18 = 0 then yCi false (yX 126 0 [some (.ref 191), some (.int a1), some (.int a2), none, none] [] M17 0 0) fun v21 M20 => yI v21 M20 else yI 0 M17) (yX 178 0 [some (.ref 190), some (.int a1), some (.int a2)] [] M 0 0) := by
  refine yL.eq (y_aload_n (pc := 0) (x := 190) d178_0 rfl) ?_
  refine yL.eq (y_aload_n (pc := 1) (x := 190) d178_1 rfl) ?_
  refine yL.eq (y_getr (pc := 2) (r := 191) d178_2 q178_7 s_r_190_1) ?_
  refine yL.eq (y_iload_n (pc := 5) (x := a1) d178_5 rfl) ?_
  refine y_calls_i (pc := 6) (n := 2) (n' := 2) (nc' := 0) (ns' := 0) [.ref 191, .int a1] [.ref 190] false d178_6 q178_207 rfl rfl rfl (Nat.le_of_ble_eq_true rfl) (Nat.le_of_ble_eq_true rfl) rfl (by decide +kernel) (by decide +kernel) (fun v2 M1 => ?_)
  refine yL.eq (y_if_ne (pc := 9) (t := 16) d178_9 (by decide)) ?_
  refine yL.ite (fun h3 => ?_) (fun h3 => ?_)
  ·
    refine yL.eq (y_iconst (pc := 12) (v := 1) d178_12 kc_1) ?_
    refine yL.eq (y_goto (pc := 13) (t := 33) d178_13 (by decide)) ?_
    refine y_callv_i (pc := 33) (n := 2) (n' := 2) (nc' := 0) (ns' := 0) [.int 1] [] false d178_33 q178_159 mk_107 s_t_190 rfl rfl (Nat.le_of_ble_eq_true rfl) (Nat.le_of_ble_eq_true rfl) rfl (by decide +kernel) (by decide +kernel) (fun v5 M4 => ?_)
    refine yL.eq (y_if_eq (pc := 36) (t := 41) d178_36 (by decide)) ?_
    refine yL.ite (fun h6 => ?_) (fun h6 => ?_)
    ·
      refine yL.eq (y_aload_n (pc := 41) (x := 190) d178_41 rfl) ?_
      refine yL.eq (y_getr (pc := 42) (r := 191) d178_42 q178_7 s_r_190_1) ?_
      refine yL.eq (y_iload_n (pc := 45) (x := a1) d178_45 rfl) ?_
      refine yL.eq (y_iload_n (pc := 46) (x := a2) d178_46 rfl) ?_
      refine y_calls_i (pc := 47) (n := 3) (n' := 5) (nc' := 0) (ns' := 0) [.ref 191, .int a1, .int a2] [] false d178_47 q178_91 rfl rfl rfl (Nat.le_of_ble_eq_true rfl) (Nat.le_of_ble_eq_true rfl) rfl (by decide +kernel) (by decide +kernel) (fun v8 M7 => ?_)
      exact yL.eq (y_ireti (pc := 50) d178_50 mr_178) yL.rf
    ·
      refine yL.eq (y_iconst (pc := 39) (v := 0) d178_39 kc_0) ?_
      exact yL.eq (y_ireti (pc := 40) d178_40 mr_178) yL.rf
  ·
    refine yL.eq (y_iload_n (pc := 16) (x := a2) d178_16 rfl) ?_
    refine yL.eq (y_i2l (pc := 17) d178_17) ?_
    refine yL.eq (y_lconst (pc := 18) (v := 0) d178_18 kl_0) ?_
    refine yL.eq (y_ldc2_w (pc := 19) (v := 3) d178_19 q178_62) ?_
    refine y_calls_i (pc := 22) (n := 3) (n' := 6) (nc' := 0) (ns' := 0) [.long a2.toInt64, .long 0, .long 3] [.ref 190] false d178_22 q178_58 rfl rfl rfl (Nat.le_of_ble_eq_true rfl) (Nat.le_of_ble_eq_true rfl) rfl (by decide +kernel) (by decide +kernel) (fun v10 M9 => ?_)
    refine yL.eq (y_if_ne (pc := 25) (t := 32) d178_25 (by decide)) ?_
    refine yL.ite (fun h11 => ?_) (fun h11 => ?_)
    ·
      refine yL.eq (y_iconst (pc := 28) (v := 2) d178_28 kc_2) ?_
      refine yL.eq (y_goto (pc := 29) (t := 33) d178_29 (by decide)) ?_
      refine y_callv_i (pc := 33) (n := 2) (n' := 2) (nc' := 0) (ns' := 0) [.int 2] [] false d178_33 q178_159 mk_107 s_t_190 rfl rfl (Nat.le_of_ble_eq_true rfl) (Nat.le_of_ble_eq_true rfl) rfl (by decide +kernel) (by decide +kernel) (fun v13 M12 => ?_)
      refine yL.eq (y_if_eq (pc := 36) (t := 41) d178_36 (by decide)) ?_
      refine yL.ite (fun h14 => ?_) (fun h14 => ?_)
      ·
        refine yL.eq (y_aload_n (pc := 41) (x := 190) d178_41 rfl) ?_
        refine yL.eq (y_getr (pc := 42) (r := 191) d178_42 q178_7 s_r_190_1) ?_
        refine yL.eq (y_iload_n (pc := 45) (x := a1) d178_45 rfl) ?_
        refine yL.eq (y_iload_n (pc := 46) (x := a2) d178_46 rfl) ?_
        refine y_calls_i (pc := 47) (n := 3) (n' := 5) (nc' := 0) (ns' := 0) [.ref 191, .int a1, .int a2] [] false d178_47 q178_91 rfl rfl rfl (Nat.le_of_ble_eq_true rfl) (Nat.le_of_ble_eq_true rfl) rfl (by decide +kernel) (by decide +kernel) (fun v16 M15 => ?_)
        exact yL.eq (y_ireti (pc := 50) d178_50 mr_178) yL.rf
      ·
        refine yL.eq (y_iconst (pc := 39) (v := 0) d178_39 kc_0) ?_
        exact yL.eq (y_ireti (pc := 40) d178_40 mr_178) yL.rf
    ·
      refine yL.eq (y_iconst (pc := 32) (v := 0) d178_32 kc_0) ?_
      refine y_callv_i (pc := 33) (n := 2) (n' := 2) (nc' := 0) (ns' := 0) [.int 0] [] false d178_33 q178_159 mk_107 s_t_190 rfl rfl (Nat.le_of_ble_eq_true rfl) (Nat.le_of_ble_eq_true rfl) rfl (by decide +kernel) (by decide +kernel) (fun v18 M17 => ?_)
      refine yL.eq (y_if_eq (pc := 36) (t := 41) d178_36 (by decide)) ?_
      refine yL.ite (fun h19 => ?_) (fun h19 => ?_)
      ·
        refine yL.eq (y_aload_n (pc := 41) (x := 190) d178_41 rfl) ?_
        refine yL.eq (y_getr (pc := 42) (r := 191) d178_42 q178_7 s_r_190_1) ?_
        refine yL.eq (y_iload_n (pc := 45) (x := a1) d178_45 rfl) ?_
        refine yL.eq (y_iload_n (pc := 46) (x := a2) d178_46 rfl) ?_
        refine y_calls_i (pc := 47) (n := 3) (n' := 5) (nc' := 0) (ns' := 0) [.ref 191, .int a1, .int a2] [] false d178_47 q178_91 rfl rfl rfl (Nat.le_of_ble_eq_true rfl) (Nat.le_of_ble_eq_true rfl) rfl (by decide +kernel) (by decide +kernel) (fun v21 M20 => ?_)
        exact yL.eq (y_ireti (pc := 50) d178_50 mr_178) yL.rf
      ·
        refine yL.eq (y_iconst (pc := 39) (v := 0) d178_39 kc_0) ?_
        exact yL.eq (y_ireti (pc := 40) d178_40 mr_178) yL.rf
set_option maxRecDepth 20000 in
set_option maxHeartbeats 4000000 in
theorem e179 {a1 : Int32} {a2 : Int32} {M : yM} : yL (yCi false (yX 115 0 [some (.ref 191), some (.int a1)] [] M 0 0) fun v2 M1 => if v2 = 0 then yCi false (yX 107 0 [some (.ref 190), some (.int 1)] [] M1 0 0) fun v5 M4 => if v5 = 0 then if a2 = 0 then if yinB (16 + a1) 95 = true then yI (M4 191 (yx (16 + a1))) M4 else none else if a2 = 1 then if yinB (30 + a1) 95 = true then yI (M4 191 (yx (30 + a1))) M4 else none else if a2 = 2 then if yinB (44 + a1) 95 = true then yI (M4 191 (yx (44 + a1))) M4 else none else if a2 = 3 then if yinB (58 + a1) 95 = true then yI (M4 191 (yx (58 + a1))) M4 else none else if a2 = 4 then if yinB (72 + a1) 95 = true then yI (M4 191 (yx (72 + a1))) M4 else none else if a2 = 5 then yCi false (yX 130 0 [some (.ref 191), some (.int a1), none, none] [] M4 0 0) fun v19 M18 => yI v19 M18 else if a2 = 6 then yCv false (yX 132 0 [some (.ref 190), some (.ref 191), none, none, none, none] [] M4 0 0) fun M21 => if yinB a1 14 = true then yI (M21 200 (yx a1)) M21 else none else if a2 = 7 then yCv false (yX 143 0 [some (.ref 190), some (.ref 191), none, none] [] M4 0 0) fun M24 => if a2 = 7 then if yinB a1 14 = true then yI (M24 197 (yx a1)) M24 else none else if yinB a1 14 = true then yI (M24 198 (yx a1)) M24 else none else if a2 = 8 then yCv false (yX 143 0 [some (.ref 190), some (.ref 191), none, none] [] M4 0 0) fun M29 => if a2 = 7 then if yinB a1 14 = true then yI (M29 197 (yx a1)) M29 else none else if yinB a1 14 = true then yI (M29 198 (yx a1)) M29 else none else if a2 = 9 then yCi false (yX 131 0 [some (.ref 191), some (.int a1), none, none, none] [] M4 0 0) fun v35 M34 => yCi false (yX 111 0 [some (.int v35), some (.int 14), none, none] [] M34 0 0) fun v37 M36 => yI v37 M36 else yCv false (yX 143 0 [some (.ref 190), some (.ref 191), none, none] [] M4 0 0) fun M38 => if a2 = 7 then if yinB a1 14 = true then yI (M38 197 (yx a1)) M38 else none else if yinB a1 14 = true then yI (M38 198 (yx a1)) M38 else none else yI 0 M4 else yCi false (yX 108 0 [some (.long a2.toInt64), none, some (.long 0), none, some (.long 9), none] [] M1 0 0) fun v43 M42 => if v43 = 0 then yCi false (yX 107 0 [some (.ref 190), some (.int 2)] [] M42 0 0) fun v46 M45 => if v46 = 0 then if a2 = 0 then if yinB (16 + a1) 95 = true then yI (M45 191 (yx (16 + a1))) M45 else none else if a2 = 1 then if yinB (30 + a1) 95 = true then yI (M45 191 (yx (30 + a1))) M45 else none else if a2 = 2 then if yinB (44 + a1) 95 = true then yI (M45 191 (yx (44 + a1))) M45 else none else if a2 = 3 then if yinB (58 + a1) 95 = true then yI (M45 191 (yx (58 + a1))) M45 else none else if a2 = 4 then if yinB (72 + a1) 95 = true then yI (M45 191 (yx (72 + a1))) M45 else none else if a2 = 5 then yCi false (yX 130 0 [some (.ref 191), some (.int a1), none, none] [] M45 0 0) fun v60 M59 => yI v60 M59 else if a2 = 6 then yCv false (yX 132 0 [some (.ref 190), some (.ref 191), none, none, none, none] [] M45 0 0) fun M62 => if yinB a1 14 = true then yI (M62 200 (yx a1)) M62 else none else if a2 = 7 then yCv false (yX 143 0 [some (.ref 190), some (.ref 191), none, none] [] M45 0 0) fun M65 => if a2 = 7 then if yinB a1 14 = true then yI (M65 197 (yx a1)) M65 else none else if yinB a1 14 = true then yI (M65 198 (yx a1)) M65 else none else if a2 = 8 then yCv false (yX 143 0 [some (.ref 190), some (.ref 191), none, none] [] M45 0 0) fun M70 => if a2 = 7 then if yinB a1 14 = true then yI (M70 197 (yx a1)) M70 else none else if yinB a1 14 = true then yI (M70 198 (yx a1)) M70 else none else if a2 = 9 then yCi false (yX 131 0 [some (.ref 191), some (.int a1), none, none, none] [] M45 0 0) fun v76 M75 => yCi false (yX 111 0 [some (.int v76), some (.int 14), none, none] [] M75 0 0) fun v78 M77 => yI v78 M77 else yCv false (yX 143 0 [some (.ref 190), some (.ref 191), none, none] [] M45 0 0) fun M79 => if a2 = 7 then if yinB a1 14 = true then yI (M79 197 (yx a1)) M79 else none else if yinB a1 14 = true then yI (M79 198 (yx a1)) M79 else none else yI 0 M45 else yCi false (yX 107 0 [some (.ref 190), some (.int 0)] [] M42 0 0) fun v84 M83 => if v84 = 0 then if a2 = 0 then if yinB (16 + a1) 95 = true then yI (M83 191 (yx (16 + a1))) M83 else none else if a2 = 1 then if yinB (30 + a1) 95 = true then yI (M83 191 (yx (30 + a1))) M83 else none else if a2 = 2 then if yinB (44 + a1) 95 = true then yI (M83 191 (yx (44 + a1))) M83 else none else if a2 = 3 then if yinB (58 + a1) 95 = true then yI (M83 191 (yx (58 + a1))) M83 else none else if a2 = 4 then if yinB (72 + a1) 95 = true then yI (M83 191 (yx (72 + a1))) M83 else none else if a2 = 5 then yCi false (yX 130 0 [some (.ref 191), some (.int a1), none, none] [] M83 0 0) fun v98 M97 => yI v98 M97 else if a2 = 6 then yCv false (yX 132 0 [some (.ref 190), some (.ref 191), none, none, none, none] [] M83 0 0) fun M100 => if yinB a1 14 = true then yI (M100 200 (yx a1)) M100 else none else if a2 = 7 then yCv false (yX 143 0 [some (.ref 190), some (.ref 191), none, none] [] M83 0 0) fun M103 => if a2 = 7 then if yinB a1 14 = true then yI (M103 197 (yx a1)) M103 else none else if yinB a1 14 = true then yI (M103 198 (yx a1)) M103 else none else if a2 = 8 then yCv false (yX 143 0 [some (.ref 190), some (.ref 191), none, none] [] M83 0 0) fun M108 => if a2 = 7 then if yinB a1 14 = true then yI (M108 197 (yx a1)) M108 else none else if yinB a1 14 = true then yI (M108 198 (yx a1)) M108 else none else if a2 = 9 then yCi false (yX 131 0 [some (.ref 191), some (.int a1), none, none, none] [] M83 0 0) fun v114 M113 => yCi false (yX 111 0 [some (.int v114), some (.int 14), none, none] [] M113 0 0) fun v116 M115 => yI v116 M115 else yCv false (yX 143 0 [some (.ref 190), some (.ref 191), none, none] [] M83 0 0) fun M117 => if a2 = 7 then if yinB a1 14 = true then yI (M117 197 (yx a1)) M117 else none else if yinB a1 14 = true then yI (M117 198 (yx a1)) M117 else none else yI 0 M83) (yX 179 0 [some (.ref 190), some (.int a1), some (.int a2)] [] M 0 0) := by
  refine yL.eq (y_aload_n (pc := 0) (x := 190) d179_0 rfl) ?_
  refine yL.eq (y_aload_n (pc := 1) (x := 190) d179_1 rfl) ?_
  refine yL.eq (y_getr (pc := 2) (r := 191) d179_2 q179_7 s_r_190_1) ?_
  refine yL.eq (y_iload_n (pc := 5) (x := a1) d179_5 rfl) ?_
  refine y_calls_i (pc := 6) (n := 2) (n' := 2) (nc' := 0) (ns' := 0) [.ref 191, .int a1] [.ref 190] false d179_6 q179_203 rfl rfl rfl (Nat.le_of_ble_eq_true rfl) (Nat.le_of_ble_eq_true rfl) rfl (by decide +kernel) (by decide +kernel) (fun v2 M1 => ?_)
  refine yL.eq (y_if_ne (pc := 9) (t := 16) d179_9 (by decide)) ?_
  refine yL.ite (fun h3 => ?_) (fun h3 => ?_)
  ·
    refine yL.eq (y_iconst (pc := 12) (v := 1) d179_12 kc_1) ?_
    refine yL.eq (y_goto (pc := 13) (t := 33) d179_13 (by decide)) ?_
    refine y_callv_i (pc := 33) (n := 2) (n' := 2) (nc' := 0) (ns' := 0) [.int 1] [] false d179_33 q179_159 mk_107 s_t_190 rfl rfl (Nat.le_of_ble_eq_true rfl) (Nat.le_of_ble_eq_true rfl) rfl (by decide +kernel) (by decide +kernel) (fun v5 M4 => ?_)
    refine yL.eq (y_if_eq (pc := 36) (t := 41) d179_36 (by decide)) ?_
    refine yL.ite (fun h6 => ?_) (fun h6 => ?_)
    ·
      refine yL.eq (y_iload_n (pc := 41) (x := a2) d179_41 rfl) ?_
      refine yL.eq (y_tsw (pc := 42) (ts := [96, 106, 116, 126, 136, 146, 155, 184, 184, 170]) (d := 184) d179_42 (by decide +kernel)) ?_
      refine yL.eq (y_ts (c := 0) (lo' := 1) kc_0 (by decide)) ?_
      refine yL.ite (fun h7 => ?_) (fun h7 => ?_)
      ·
        refine yL.eq (y_aload_n (pc := 96) (x := 190) d179_96 rfl) ?_
        refine yL.eq (y_getr (pc := 97) (r := 191) d179_97 q179_7 s_r_190_1) ?_
        refine yL.eq (y_bipush (pc := 100) (v := 16) d179_100 kb_16) ?_
        refine yL.eq (y_iload_n (pc := 102) (x := a1) d179_102 rfl) ?_
        refine yL.eq (y_iadd (pc := 103) d179_103) ?_
        refine yL.eq (y_iald (pc := 104) (n := 95) d179_104 (yR_a yR191)) ?_
        refine yL.gd (fun h8 => ?_)
        exact yL.eq (y_ireti (pc := 105) d179_105 mr_179) yL.rf
      ·
        refine yL.eq (y_ts (c := 1) (lo' := 2) kc_1 (by decide)) ?_
        refine yL.ite (fun h9 => ?_) (fun h9 => ?_)
        ·
          refine yL.eq (y_aload_n (pc := 106) (x := 190) d179_106 rfl) ?_
          refine yL.eq (y_getr (pc := 107) (r := 191) d179_107 q179_7 s_r_190_1) ?_
          refine yL.eq (y_bipush (pc := 110) (v := 30) d179_110 kb_30) ?_
          refine yL.eq (y_iload_n (pc := 112) (x := a1) d179_112 rfl) ?_
          refine yL.eq (y_iadd (pc := 113) d179_113) ?_
          refine yL.eq (y_iald (pc := 114) (n := 95) d179_114 (yR_a yR191)) ?_
          refine yL.gd (fun h10 => ?_)
          exact yL.eq (y_ireti (pc := 115) d179_115 mr_179) yL.rf
        ·
          refine yL.eq (y_ts (c := 2) (lo' := 3) kc_2 (by decide)) ?_
          refine yL.ite (fun h11 => ?_) (fun h11 => ?_)
          ·
            refine yL.eq (y_aload_n (pc := 116) (x := 190) d179_116 rfl) ?_
            refine yL.eq (y_getr (pc := 117) (r := 191) d179_117 q179_7 s_r_190_1) ?_
            refine yL.eq (y_bipush (pc := 120) (v := 44) d179_120 kb_44) ?_
            refine yL.eq (y_iload_n (pc := 122) (x := a1) d179_122 rfl) ?_
            refine yL.eq (y_iadd (pc := 123) d179_123) ?_
            refine yL.eq (y_iald (pc := 124) (n := 95) d179_124 (yR_a yR191)) ?_
            refine yL.gd (fun h12 => ?_)
            exact yL.eq (y_ireti (pc := 125) d179_125 mr_179) yL.rf
          ·
            refine yL.eq (y_ts (c := 3) (lo' := 4) kc_3 (by decide)) ?_
            refine yL.ite (fun h13 => ?_) (fun h13 => ?_)
            ·
              refine yL.eq (y_aload_n (pc := 126) (x := 190) d179_126 rfl) ?_
              refine yL.eq (y_getr (pc := 127) (r := 191) d179_127 q179_7 s_r_190_1) ?_
              refine yL.eq (y_bipush (pc := 130) (v := 58) d179_130 kb_58) ?_
              refine yL.eq (y_iload_n (pc := 132) (x := a1) d179_132 rfl) ?_
              refine yL.eq (y_iadd (pc := 133) d179_133) ?_
              refine yL.eq (y_iald (pc := 134) (n := 95) d179_134 (yR_a yR191)) ?_
              refine yL.gd (fun h14 => ?_)
              exact yL.eq (y_ireti (pc := 135) d179_135 mr_179) yL.rf
            ·
              refine yL.eq (y_ts (c := 4) (lo' := 5) kc_4 (by decide)) ?_
              refine yL.ite (fun h15 => ?_) (fun h15 => ?_)
              ·
                refine yL.eq (y_aload_n (pc := 136) (x := 190) d179_136 rfl) ?_
                refine yL.eq (y_getr (pc := 137) (r := 191) d179_137 q179_7 s_r_190_1) ?_
                refine yL.eq (y_bipush (pc := 140) (v := 72) d179_140 kb_72) ?_
                refine yL.eq (y_iload_n (pc := 142) (x := a1) d179_142 rfl) ?_
                refine yL.eq (y_iadd (pc := 143) d179_143) ?_
                refine yL.eq (y_iald (pc := 144) (n := 95) d179_144 (yR_a yR191)) ?_
                refine yL.gd (fun h16 => ?_)
                exact yL.eq (y_ireti (pc := 145) d179_145 mr_179) yL.rf
              ·
                refine yL.eq (y_ts (c := 5) (lo' := 6) kc_5 (by decide)) ?_
                refine yL.ite (fun h17 => ?_) (fun h17 => ?_)
                ·
                  refine yL.eq (y_aload_n (pc := 146) (x := 190) d179_146 rfl) ?_
                  refine yL.eq (y_getr (pc := 147) (r := 191) d179_147 q179_7 s_r_190_1) ?_
                  refine yL.eq (y_iload_n (pc := 150) (x := a1) d179_150 rfl) ?_
                  refine y_calls_i (pc := 151) (n := 2) (n' := 4) (nc' := 0) (ns' := 0) [.ref 191, .int a1] [] false d179_151 q179_113 rfl rfl rfl (Nat.le_of_ble_eq_true rfl) (Nat.le_of_ble_eq_true rfl) rfl (by decide +kernel) (by decide +kernel) (fun v19 M18 => ?_)
                  exact yL.eq (y_ireti (pc := 154) d179_154 mr_179) yL.rf
                ·
                  refine yL.eq (y_ts (c := 6) (lo' := 7) kc_6 (by decide)) ?_
                  refine yL.ite (fun h20 => ?_) (fun h20 => ?_)
                  ·
                    refine yL.eq (y_aload_n (pc := 155) (x := 190) d179_155 rfl) ?_
                    refine yL.eq (y_aload_n (pc := 156) (x := 190) d179_156 rfl) ?_
                    refine yL.eq (y_getr (pc := 157) (r := 191) d179_157 q179_7 s_r_190_1) ?_
                    refine y_callv_v (pc := 160) (n := 2) (n' := 6) (nc' := 0) (ns' := 0) [.ref 191] [] false d179_160 q179_98 mk_132 s_t_190 rfl rfl (Nat.le_of_ble_eq_true rfl) (Nat.le_of_ble_eq_true rfl) rfl (by decide +kernel) (by decide +kernel) (fun M21 => ?_)
                    refine yL.eq (y_aload_n (pc := 163) (x := 190) d179_163 rfl) ?_
                    refine yL.eq (y_getr (pc := 164) (r := 200) d179_164 q179_38 s_r_190_12) ?_
                    refine yL.eq (y_iload_n (pc := 167) (x := a1) d179_167 rfl) ?_
                    refine yL.eq (y_iald (pc := 168) (n := 14) d179_168 s_a_200) ?_
                    refine yL.gd (fun h22 => ?_)
                    exact yL.eq (y_ireti (pc := 169) d179_169 mr_179) yL.rf
                  ·
                    refine yL.eq (y_ts (c := 7) (lo' := 8) kc_7 (by decide)) ?_
                    refine yL.ite (fun h23 => ?_) (fun h23 => ?_)
                    ·
                      refine yL.eq (y_aload_n (pc := 184) (x := 190) d179_184 rfl) ?_
                      refine yL.eq (y_aload_n (pc := 185) (x := 190) d179_185 rfl) ?_
                      refine yL.eq (y_getr (pc := 186) (r := 191) d179_186 q179_7 s_r_190_1) ?_
                      refine y_callv_v (pc := 189) (n := 2) (n' := 4) (nc' := 0) (ns' := 0) [.ref 191] [] false d179_189 q179_136 mk_143 s_t_190 rfl rfl (Nat.le_of_ble_eq_true rfl) (Nat.le_of_ble_eq_true rfl) rfl (by decide +kernel) (by decide +kernel) (fun M24 => ?_)
                      refine yL.eq (y_iload_n (pc := 192) (x := a2) d179_192 rfl) ?_
                      refine yL.eq (y_bipush (pc := 193) (v := 7) d179_193 kb_7) ?_
                      refine yL.eq (y_icmp_ne (pc := 195) (t := 207) d179_195 (by decide)) ?_
                      refine yL.ite (fun h25 => ?_) (fun h25 => ?_)
                      ·
                        refine yL.eq (y_aload_n (pc := 198) (x := 190) d179_198 rfl) ?_
                        refine yL.eq (y_getr (pc := 199) (r := 197) d179_199 q179_29 s_r_190_8) ?_
                        refine yL.eq (y_iload_n (pc := 202) (x := a1) d179_202 rfl) ?_
                        refine yL.eq (y_iald (pc := 203) (n := 14) d179_203 s_a_197) ?_
                        refine yL.gd (fun h26 => ?_)
                        refine yL.eq (y_goto (pc := 204) (t := 213) d179_204 (by decide)) ?_
                        exact yL.eq (y_ireti (pc := 213) d179_213 mr_179) yL.rf
                      ·
                        refine yL.eq (y_aload_n (pc := 207) (x := 190) d179_207 rfl) ?_
                        refine yL.eq (y_getr (pc := 208) (r := 198) d179_208 q179_32 s_r_190_9) ?_
                        refine yL.eq (y_iload_n (pc := 211) (x := a1) d179_211 rfl) ?_
                        refine yL.eq (y_iald (pc := 212) (n := 14) d179_212 s_a_198) ?_
                        refine yL.gd (fun h27 => ?_)
                        exact yL.eq (y_ireti (pc := 213) d179_213 mr_179) yL.rf
                    ·
                      refine yL.eq (y_ts (c := 8) (lo' := 9) kc_8 (by decide)) ?_
                      refine yL.ite (fun h28 => ?_) (fun h28 => ?_)
                      ·
                        refine yL.eq (y_aload_n (pc := 184) (x := 190) d179_184 rfl) ?_
                        refine yL.eq (y_aload_n (pc := 185) (x := 190) d179_185 rfl) ?_
                        refine yL.eq (y_getr (pc := 186) (r := 191) d179_186 q179_7 s_r_190_1) ?_
                        refine y_callv_v (pc := 189) (n := 2) (n' := 4) (nc' := 0) (ns' := 0) [.ref 191] [] false d179_189 q179_136 mk_143 s_t_190 rfl rfl (Nat.le_of_ble_eq_true rfl) (Nat.le_of_ble_eq_true rfl) rfl (by decide +kernel) (by decide +kernel) (fun M29 => ?_)
                        refine yL.eq (y_iload_n (pc := 192) (x := a2) d179_192 rfl) ?_
                        refine yL.eq (y_bipush (pc := 193) (v := 7) d179_193 kb_7) ?_
                        refine yL.eq (y_icmp_ne (pc := 195) (t := 207) d179_195 (by decide)) ?_
                        refine yL.ite (fun h30 => ?_) (fun h30 => ?_)
                        ·
                          refine yL.eq (y_aload_n (pc := 198) (x := 190) d179_198 rfl) ?_
                          refine yL.eq (y_getr (pc := 199) (r := 197) d179_199 q179_29 s_r_190_8) ?_
                          refine yL.eq (y_iload_n (pc := 202) (x := a1) d179_202 rfl) ?_
                          refine yL.eq (y_iald (pc := 203) (n := 14) d179_203 s_a_197) ?_
                          refine yL.gd (fun h31 => ?_)
                          refine yL.eq (y_goto (pc := 204) (t := 213) d179_204 (by decide)) ?_
                          exact yL.eq (y_ireti (pc := 213) d179_213 mr_179) yL.rf
                        ·
                          refine yL.eq (y_aload_n (pc := 207) (x := 190) d179_207 rfl) ?_
                          refine yL.eq (y_getr (pc := 208) (r := 198) d179_208 q179_32 s_r_190_9) ?_
                          refine yL.eq (y_iload_n (pc := 211) (x := a1) d179_211 rfl) ?_
                          refine yL.eq (y_iald (pc := 212) (n := 14) d179_212 s_a_198) ?_
                          refine yL.gd (fun h32 => ?_)
                          exact yL.eq (y_ireti (pc := 213) d179_213 mr_179) yL.rf
                      ·
                        refine yL.eq (y_ts (c := 9) (lo' := 10) kc_9 (by decide)) ?_
                        refine yL.ite (fun h33 => ?_) (fun h33 => ?_)
                        ·
                          refine yL.eq (y_aload_n (pc := 170) (x := 190) d179_170 rfl) ?_
                          refine yL.eq (y_getr (pc := 171) (r := 191) d179_171 q179_7 s_r_190_1) ?_
                          refine yL.eq (y_iload_n (pc := 174) (x := a1) d179_174 rfl) ?_
                          refine y_calls_i (pc := 175) (n := 2) (n' := 5) (nc' := 0) (ns' := 0) [.ref 191, .int a1] [] false d179_175 q179_148 rfl rfl rfl (Nat.le_of_ble_eq_true rfl) (Nat.le_of_ble_eq_true rfl) rfl (by decide +kernel) (by decide +kernel) (fun v35 M34 => ?_)
                          refine yL.eq (y_bipush (pc := 178) (v := 14) d179_178 kb_14) ?_
                          refine y_calls_i (pc := 180) (n := 2) (n' := 4) (nc' := 0) (ns' := 0) [.int v35, .int 14] [] false d179_180 q179_116 rfl rfl rfl (Nat.le_of_ble_eq_true rfl) (Nat.le_of_ble_eq_true rfl) rfl (by decide +kernel) (by decide +kernel) (fun v37 M36 => ?_)
                          exact yL.eq (y_ireti (pc := 183) d179_183 mr_179) yL.rf
                        ·
                          refine yL.eq y_tsn ?_
                          refine yL.eq (y_aload_n (pc := 184) (x := 190) d179_184 rfl) ?_
                          refine yL.eq (y_aload_n (pc := 185) (x := 190) d179_185 rfl) ?_
                          refine yL.eq (y_getr (pc := 186) (r := 191) d179_186 q179_7 s_r_190_1) ?_
                          refine y_callv_v (pc := 189) (n := 2) (n' := 4) (nc' := 0) (ns' := 0) [.ref 191] [] false d179_189 q179_136 mk_143 s_t_190 rfl rfl (Nat.le_of_ble_eq_true rfl) (Nat.le_of_ble_eq_true rfl) rfl (by decide +kernel) (by decide +kernel) (fun M38 => ?_)
                          refine yL.eq (y_iload_n (pc := 192) (x := a2) d179_192 rfl) ?_
                          refine yL.eq (y_bipush (pc := 193) (v := 7) d179_193 kb_7) ?_
                          refine yL.eq (y_icmp_ne (pc := 195) (t := 207) d179_195 (by decide)) ?_
                          refine yL.ite (fun h39 => ?_) (fun h39 => ?_)
                          ·
                            refine yL.eq (y_aload_n (pc := 198) (x := 190) d179_198 rfl) ?_
                            refine yL.eq (y_getr (pc := 199) (r := 197) d179_199 q179_29 s_r_190_8) ?_
                            refine yL.eq (y_iload_n (pc := 202) (x := a1) d179_202 rfl) ?_
                            refine yL.eq (y_iald (pc := 203) (n := 14) d179_203 s_a_197) ?_
                            refine yL.gd (fun h40 => ?_)
                            refine yL.eq (y_goto (pc := 204) (t := 213) d179_204 (by decide)) ?_
                            exact yL.eq (y_ireti (pc := 213) d179_213 mr_179) yL.rf
                          ·
                            refine yL.eq (y_aload_n (pc := 207) (x := 190) d179_207 rfl) ?_
                            refine yL.eq (y_getr (pc := 208) (r := 198) d179_208 q179_32 s_r_190_9) ?_
                            refine yL.eq (y_iload_n (pc := 211) (x := a1) d179_211 rfl) ?_
                            refine yL.eq (y_iald (pc := 212) (n := 14) d179_212 s_a_198) ?_
                            refine yL.gd (fun h41 => ?_)
                            exact yL.eq (y_ireti (pc := 213) d179_213 mr_179) yL.rf
    ·
      refine yL.eq (y_iconst (pc := 39) (v := 0) d179_39 kc_0) ?_
      exact yL.eq (y_ireti (pc := 40) d179_40 mr_179) yL.rf
  ·
    refine yL.eq (y_iload_n (pc := 16) (x := a2) d179_16 rfl) ?_
    refine yL.eq (y_i2l (pc := 17) d179_17) ?_
    refine yL.eq (y_lconst (pc := 18) (v := 0) d179_18 kl_0) ?_
    refine yL.eq (y_ldc2_w (pc := 19) (v := 9) d179_19 q179_246) ?_
    refine y_calls_i (pc := 22) (n := 3) (n' := 6) (nc' := 0) (ns' := 0) [.long a2.toInt64, .long 0, .long 9] [.ref 190] false d179_22 q179_58 rfl rfl rfl (Nat.le_of_ble_eq_true rfl) (Nat.le_of_ble_eq_true rfl) rfl (by decide +kernel) (by decide +kernel) (fun v43 M42 => ?_)
    refine yL.eq (y_if_ne (pc := 25) (t := 32) d179_25 (by decide)) ?_
    refine yL.ite (fun h44 => ?_) (fun h44 => ?_)
    ·
      refine yL.eq (y_iconst (pc := 28) (v := 2) d179_28 kc_2) ?_
      refine yL.eq (y_goto (pc := 29) (t := 33) d179_29 (by decide)) ?_
      refine y_callv_i (pc := 33) (n := 2) (n' := 2) (nc' := 0) (ns' := 0) [.int 2] [] false d179_33 q179_159 mk_107 s_t_190 rfl rfl (Nat.le_of_ble_eq_true rfl) (Nat.le_of_ble_eq_true rfl) rfl (by decide +kernel) (by decide +kernel) (fun v46 M45 => ?_)
      refine yL.eq (y_if_eq (pc := 36) (t := 41) d179_36 (by decide)) ?_
      refine yL.ite (fun h47 => ?_) (fun h47 => ?_)
      ·
        refine yL.eq (y_iload_n (pc := 41) (x := a2) d179_41 rfl) ?_
        refine yL.eq (y_tsw (pc := 42) (ts := [96, 106, 116, 126, 136, 146, 155, 184, 184, 170]) (d := 184) d179_42 (by decide +kernel)) ?_
        refine yL.eq (y_ts (c := 0) (lo' := 1) kc_0 (by decide)) ?_
        refine yL.ite (fun h48 => ?_) (fun h48 => ?_)
        ·
          refine yL.eq (y_aload_n (pc := 96) (x := 190) d179_96 rfl) ?_
          refine yL.eq (y_getr (pc := 97) (r := 191) d179_97 q179_7 s_r_190_1) ?_
          refine yL.eq (y_bipush (pc := 100) (v := 16) d179_100 kb_16) ?_
          refine yL.eq (y_iload_n (pc := 102) (x := a1) d179_102 rfl) ?_
          refine yL.eq (y_iadd (pc := 103) d179_103) ?_
          refine yL.eq (y_iald (pc := 104) (n := 95) d179_104 (yR_a yR191)) ?_
          refine yL.gd (fun h49 => ?_)
          exact yL.eq (y_ireti (pc := 105) d179_105 mr_179) yL.rf
        ·
          refine yL.eq (y_ts (c := 1) (lo' := 2) kc_1 (by decide)) ?_
          refine yL.ite (fun h50 => ?_) (fun h50 => ?_)
          ·
            refine yL.eq (y_aload_n (pc := 106) (x := 190) d179_106 rfl) ?_
            refine yL.eq (y_getr (pc := 107) (r := 191) d179_107 q179_7 s_r_190_1) ?_
            refine yL.eq (y_bipush (pc := 110) (v := 30) d179_110 kb_30) ?_
            refine yL.eq (y_iload_n (pc := 112) (x := a1) d179_112 rfl) ?_
            refine yL.eq (y_iadd (pc := 113) d179_113) ?_
            refine yL.eq (y_iald (pc := 114) (n := 95) d179_114 (yR_a yR191)) ?_
            refine yL.gd (fun h51 => ?_)
            exact yL.eq (y_ireti (pc := 115) d179_115 mr_179) yL.rf
          ·
            refine yL.eq (y_ts (c := 2) (lo' := 3) kc_2 (by decide)) ?_
            refine yL.ite (fun h52 => ?_) (fun h52 => ?_)
            ·
              refine yL.eq (y_aload_n (pc := 116) (x := 190) d179_116 rfl) ?_
              refine yL.eq (y_getr (pc := 117) (r := 191) d179_117 q179_7 s_r_190_1) ?_
              refine yL.eq (y_bipush (pc := 120) (v := 44) d179_120 kb_44) ?_
              refine yL.eq (y_iload_n (pc := 122) (x := a1) d179_122 rfl) ?_
              refine yL.eq (y_iadd (pc := 123) d179_123) ?_
              refine yL.eq (y_iald (pc := 124) (n := 95) d179_124 (yR_a yR191)) ?_
              refine yL.gd (fun h53 => ?_)
              exact yL.eq (y_ireti (pc := 125) d179_125 mr_179) yL.rf
            ·
              refine yL.eq (y_ts (c := 3) (lo' := 4) kc_3 (by decide)) ?_
              refine yL.ite (fun h54 => ?_) (fun h54 => ?_)
              ·
                refine yL.eq (y_aload_n (pc := 126) (x := 190) d179_126 rfl) ?_
                refine yL.eq (y_getr (pc := 127) (r := 191) d179_127 q179_7 s_r_190_1) ?_
                refine yL.eq (y_bipush (pc := 130) (v := 58) d179_130 kb_58) ?_
                refine yL.eq (y_iload_n (pc := 132) (x := a1) d179_132 rfl) ?_
                refine yL.eq (y_iadd (pc := 133) d179_133) ?_
                refine yL.eq (y_iald (pc := 134) (n := 95) d179_134 (yR_a yR191)) ?_
                refine yL.gd (fun h55 => ?_)
                exact yL.eq (y_ireti (pc := 135) d179_135 mr_179) yL.rf
              ·
                refine yL.eq (y_ts (c := 4) (lo' := 5) kc_4 (by decide)) ?_
                refine yL.ite (fun h56 => ?_) (fun h56 => ?_)
                ·
                  refine yL.eq (y_aload_n (pc := 136) (x := 190) d179_136 rfl) ?_
                  refine yL.eq (y_getr (pc := 137) (r := 191) d179_137 q179_7 s_r_190_1) ?_
                  refine yL.eq (y_bipush (pc := 140) (v := 72) d179_140 kb_72) ?_
                  refine yL.eq (y_iload_n (pc := 142) (x := a1) d179_142 rfl) ?_
                  refine yL.eq (y_iadd (pc := 143) d179_143) ?_
                  refine yL.eq (y_iald (pc := 144) (n := 95) d179_144 (yR_a yR191)) ?_
                  refine yL.gd (fun h57 => ?_)
                  exact yL.eq (y_ireti (pc := 145) d179_145 mr_179) yL.rf
                ·
                  refine yL.eq (y_ts (c := 5) (lo' := 6) kc_5 (by decide)) ?_
                  refine yL.ite (fun h58 => ?_) (fun h58 => ?_)
                  ·
                    refine yL.eq (y_aload_n (pc := 146) (x := 190) d179_146 rfl) ?_
                    refine yL.eq (y_getr (pc := 147) (r := 191) d179_147 q179_7 s_r_190_1) ?_
                    refine yL.eq (y_iload_n (pc := 150) (x := a1) d179_150 rfl) ?_
                    refine y_calls_i (pc := 151) (n := 2) (n' := 4) (nc' := 0) (ns' := 0) [.ref 191, .int a1] [] false d179_151 q179_113 rfl rfl rfl (Nat.le_of_ble_eq_true rfl) (Nat.le_of_ble_eq_true rfl) rfl (by decide +kernel) (by decide +kernel) (fun v60 M59 => ?_)
                    exact yL.eq (y_ireti (pc := 154) d179_154 mr_179) yL.rf
                  ·
                    refine yL.eq (y_ts (c := 6) (lo' := 7) kc_6 (by decide)) ?_
                    refine yL.ite (fun h61 => ?_) (fun h61 => ?_)
                    ·
                      refine yL.eq (y_aload_n (pc := 155) (x := 190) d179_155 rfl) ?_
                      refine yL.eq (y_aload_n (pc := 156) (x := 190) d179_156 rfl) ?_
                      refine yL.eq (y_getr (pc := 157) (r := 191) d179_157 q179_7 s_r_190_1) ?_
                      refine y_callv_v (pc := 160) (n := 2) (n' := 6) (nc' := 0) (ns' := 0) [.ref 191] [] false d179_160 q179_98 mk_132 s_t_190 rfl rfl (Nat.le_of_ble_eq_true rfl) (Nat.le_of_ble_eq_true rfl) rfl (by decide +kernel) (by decide +kernel) (fun M62 => ?_)
                      refine yL.eq (y_aload_n (pc := 163) (x := 190) d179_163 rfl) ?_
                      refine yL.eq (y_getr (pc := 164) (r := 200) d179_164 q179_38 s_r_190_12) ?_
                      refine yL.eq (y_iload_n (pc := 167) (x := a1) d179_167 rfl) ?_
                      refine yL.eq (y_iald (pc := 168) (n := 14) d179_168 s_a_200) ?_
                      refine yL.gd (fun h63 => ?_)
                      exact yL.eq (y_ireti (pc := 169) d179_169 mr_179) yL.rf
                    ·
                      refine yL.eq (y_ts (c := 7) (lo' := 8) kc_7 (by decide)) ?_
                      refine yL.ite (fun h64 => ?_) (fun h64 => ?_)
                      ·
                        refine yL.eq (y_aload_n (pc := 184) (x := 190) d179_184 rfl) ?_
                        refine yL.eq (y_aload_n (pc := 185) (x := 190) d179_185 rfl) ?_
                        refine yL.eq (y_getr (pc := 186) (r := 191) d179_186 q179_7 s_r_190_1) ?_
                        refine y_callv_v (pc := 189) (n := 2) (n' := 4) (nc' := 0) (ns' := 0) [.ref 191] [] false d179_189 q179_136 mk_143 s_t_190 rfl rfl (Nat.le_of_ble_eq_true rfl) (Nat.le_of_ble_eq_true rfl) rfl (by decide +kernel) (by decide +kernel) (fun M65 => ?_)
                        refine yL.eq (y_iload_n (pc := 192) (x := a2) d179_192 rfl) ?_
                        refine yL.eq (y_bipush (pc := 193) (v := 7) d179_193 kb_7) ?_
                        refine yL.eq (y_icmp_ne (pc := 195) (t := 207) d179_195 (by decide)) ?_
                        refine yL.ite (fun h66 => ?_) (fun h66 => ?_)
                        ·
                          refine yL.eq (y_aload_n (pc := 198) (x := 190) d179_198 rfl) ?_
                          refine yL.eq (y_getr (pc := 199) (r := 197) d179_199 q179_29 s_r_190_8) ?_
                          refine yL.eq (y_iload_n (pc := 202) (x := a1) d179_202 rfl) ?_
                          refine yL.eq (y_iald (pc := 203) (n := 14) d179_203 s_a_197) ?_
                          refine yL.gd (fun h67 => ?_)
                          refine yL.eq (y_goto (pc := 204) (t := 213) d179_204 (by decide)) ?_
                          exact yL.eq (y_ireti (pc := 213) d179_213 mr_179) yL.rf
                        ·
                          refine yL.eq (y_aload_n (pc := 207) (x := 190) d179_207 rfl) ?_
                          refine yL.eq (y_getr (pc := 208) (r := 198) d179_208 q179_32 s_r_190_9) ?_
                          refine yL.eq (y_iload_n (pc := 211) (x := a1) d179_211 rfl) ?_
                          refine yL.eq (y_iald (pc := 212) (n := 14) d179_212 s_a_198) ?_
                          refine yL.gd (fun h68 => ?_)
                          exact yL.eq (y_ireti (pc := 213) d179_213 mr_179) yL.rf
                      ·
                        refine yL.eq (y_ts (c := 8) (lo' := 9) kc_8 (by decide)) ?_
                        refine yL.ite (fun h69 => ?_) (fun h69 => ?_)
                        ·
                          refine yL.eq (y_aload_n (pc := 184) (x := 190) d179_184 rfl) ?_
                          refine yL.eq (y_aload_n (pc := 185) (x := 190) d179_185 rfl) ?_
                          refine yL.eq (y_getr (pc := 186) (r := 191) d179_186 q179_7 s_r_190_1) ?_
                          refine y_callv_v (pc := 189) (n := 2) (n' := 4) (nc' := 0) (ns' := 0) [.ref 191] [] false d179_189 q179_136 mk_143 s_t_190 rfl rfl (Nat.le_of_ble_eq_true rfl) (Nat.le_of_ble_eq_true rfl) rfl (by decide +kernel) (by decide +kernel) (fun M70 => ?_)
                          refine yL.eq (y_iload_n (pc := 192) (x := a2) d179_192 rfl) ?_
                          refine yL.eq (y_bipush (pc := 193) (v := 7) d179_193 kb_7) ?_
                          refine yL.eq (y_icmp_ne (pc := 195) (t := 207) d179_195 (by decide)) ?_
                          refine yL.ite (fun h71 => ?_) (fun h71 => ?_)
                          ·
                            refine yL.eq (y_aload_n (pc := 198) (x := 190) d179_198 rfl) ?_
                            refine yL.eq (y_getr (pc := 199) (r := 197) d179_199 q179_29 s_r_190_8) ?_
                            refine yL.eq (y_iload_n (pc := 202) (x := a1) d179_202 rfl) ?_
                            refine yL.eq (y_iald (pc := 203) (n := 14) d179_203 s_a_197) ?_
                            refine yL.gd (fun h72 => ?_)
                            refine yL.eq (y_goto (pc := 204) (t := 213) d179_204 (by decide)) ?_
                            exact yL.eq (y_ireti (pc := 213) d179_213 mr_179) yL.rf
                          ·
                            refine yL.eq (y_aload_n (pc := 207) (x := 190) d179_207 rfl) ?_
                            refine yL.eq (y_getr (pc := 208) (r := 198) d179_208 q179_32 s_r_190_9) ?_
                            refine yL.eq (y_iload_n (pc := 211) (x := a1) d179_211 rfl) ?_
                            refine yL.eq (y_iald (pc := 212) (n := 14) d179_212 s_a_198) ?_
                            refine yL.gd (fun h73 => ?_)
                            exact yL.eq (y_ireti (pc := 213) d179_213 mr_179) yL.rf
                        ·
                          refine yL.eq (y_ts (c := 9) (lo' := 10) kc_9 (by decide)) ?_
                          refine yL.ite (fun h74 => ?_) (fun h74 => ?_)
                          ·
                            refine yL.eq (y_aload_n (pc := 170) (x := 190) d179_170 rfl) ?_
                            refine yL.eq (y_getr (pc := 171) (r := 191) d179_171 q179_7 s_r_190_1) ?_
                            refine yL.eq (y_iload_n (pc := 174) (x := a1) d179_174 rfl) ?_
                            refine y_calls_i (pc := 175) (n := 2) (n' := 5) (nc' := 0) (ns' := 0) [.ref 191, .int a1] [] false d179_175 q179_148 rfl rfl rfl (Nat.le_of_ble_eq_true rfl) (Nat.le_of_ble_eq_true rfl) rfl (by decide +kernel) (by decide +kernel) (fun v76 M75 => ?_)
                            refine yL.eq (y_bipush (pc := 178) (v := 14) d179_178 kb_14) ?_
                            refine y_calls_i (pc := 180) (n := 2) (n' := 4) (nc' := 0) (ns' := 0) [.int v76, .int 14] [] false d179_180 q179_116 rfl rfl rfl (Nat.le_of_ble_eq_true rfl) (Nat.le_of_ble_eq_true rfl) rfl (by decide +kernel) (by decide +kernel) (fun v78 M77 => ?_)
                            exact yL.eq (y_ireti (pc := 183) d179_183 mr_179) yL.rf
                          ·
                            refine yL.eq y_tsn ?_
                            refine yL.eq (y_aload_n (pc := 184) (x := 190) d179_184 rfl) ?_
                            refine yL.eq (y_aload_n (pc := 185) (x := 190) d179_185 rfl) ?_
                            refine yL.eq (y_getr (pc := 186) (r := 191) d179_186 q179_7 s_r_190_1) ?_
                            refine y_callv_v (pc := 189) (n := 2) (n' := 4) (nc' := 0) (ns' := 0) [.ref 191] [] false d179_189 q179_136 mk_143 s_t_190 rfl rfl (Nat.le_of_ble_eq_true rfl) (Nat.le_of_ble_eq_true rfl) rfl (by decide +kernel) (by decide +kernel) (fun M79 => ?_)
                            refine yL.eq (y_iload_n (pc := 192) (x := a2) d179_192 rfl) ?_
                            refine yL.eq (y_bipush (pc := 193) (v := 7) d179_193 kb_7) ?_
                            refine yL.eq (y_icmp_ne (pc := 195) (t := 207) d179_195 (by decide)) ?_
                            refine yL.ite (fun h80 => ?_) (fun h80 => ?_)
                            ·
                              refine yL.eq (y_aload_n (pc := 198) (x := 190) d179_198 rfl) ?_
                              refine yL.eq (y_getr (pc := 199) (r := 197) d179_199 q179_29 s_r_190_8) ?_
                              refine yL.eq (y_iload_n (pc := 202) (x := a1) d179_202 rfl) ?_
                              refine yL.eq (y_iald (pc := 203) (n := 14) d179_203 s_a_197) ?_
                              refine yL.gd (fun h81 => ?_)
                              refine yL.eq (y_goto (pc := 204) (t := 213) d179_204 (by decide)) ?_
                              exact yL.eq (y_ireti (pc := 213) d179_213 mr_179) yL.rf
                            ·
                              refine yL.eq (y_aload_n (pc := 207) (x := 190) d179_207 rfl) ?_
                              refine yL.eq (y_getr (pc := 208) (r := 198) d179_208 q179_32 s_r_190_9) ?_
                              refine yL.eq (y_iload_n (pc := 211) (x := a1) d179_211 rfl) ?_
                              refine yL.eq (y_iald (pc := 212) (n := 14) d179_212 s_a_198) ?_
                              refine yL.gd (fun h82 => ?_)
                              exact yL.eq (y_ireti (pc := 213) d179_213 mr_179) yL.rf
      ·
        refine yL.eq (y_iconst (pc := 39) (v := 0) d179_39 kc_0) ?_
        exact yL.eq (y_ireti (pc := 40) d179_40 mr_179) yL.rf
    ·
      refine yL.eq (y_iconst (pc := 32) (v := 0) d179_32 kc_0) ?_
      refine y_callv_i (pc := 33) (n := 2) (n' := 2) (nc' := 0) (ns' := 0) [.int 0] [] false d179_33 q179_159 mk_107 s_t_190 rfl rfl (Nat.le_of_ble_eq_true rfl) (Nat.le_of_ble_eq_true rfl) rfl (by decide +kernel) (by decide +kernel) (fun v84 M83 => ?_)
      refine yL.eq (y_if_eq (pc := 36) (t := 41) d179_36 (by decide)) ?_
      refine yL.ite (fun h85 => ?_) (fun h85 => ?_)
      ·
        refine yL.eq (y_iload_n (pc := 41) (x := a2) d179_41 rfl) ?_
        refine yL.eq (y_tsw (pc := 42) (ts := [96, 106, 116, 126, 136, 146, 155, 184, 184, 170]) (d := 184) d179_42 (by decide +kernel)) ?_
        refine yL.eq (y_ts (c := 0) (lo' := 1) kc_0 (by decide)) ?_
        refine yL.ite (fun h86 => ?_) (fun h86 => ?_)
        ·
          refine yL.eq (y_aload_n (pc := 96) (x := 190) d179_96 rfl) ?_
          refine yL.eq (y_getr (pc := 97) (r := 191) d179_97 q179_7 s_r_190_1) ?_
          refine yL.eq (y_bipush (pc := 100) (v := 16) d179_100 kb_16) ?_
          refine yL.eq (y_iload_n (pc := 102) (x := a1) d179_102 rfl) ?_
          refine yL.eq (y_iadd (pc := 103) d179_103) ?_
          refine yL.eq (y_iald (pc := 104) (n := 95) d179_104 (yR_a yR191)) ?_
          refine yL.gd (fun h87 => ?_)
          exact yL.eq (y_ireti (pc := 105) d179_105 mr_179) yL.rf
        ·
          refine yL.eq (y_ts (c := 1) (lo' := 2) kc_1 (by decide)) ?_
          refine yL.ite (fun h88 => ?_) (fun h88 => ?_)
          ·
            refine yL.eq (y_aload_n (pc := 106) (x := 190) d179_106 rfl) ?_
            refine yL.eq (y_getr (pc := 107) (r := 191) d179_107 q179_7 s_r_190_1) ?_
            refine yL.eq (y_bipush (pc := 110) (v := 30) d179_110 kb_30) ?_
            refine yL.eq (y_iload_n (pc := 112) (x := a1) d179_112 rfl) ?_
            refine yL.eq (y_iadd (pc := 113) d179_113) ?_
            refine yL.eq (y_iald (pc := 114) (n := 95) d179_114 (yR_a yR191)) ?_
            refine yL.gd (fun h89 => ?_)
            exact yL.eq (y_ireti (pc := 115) d179_115 mr_179) yL.rf
          ·
            refine yL.eq (y_ts (c := 2) (lo' := 3) kc_2 (by decide)) ?_
            refine yL.ite (fun h90 => ?_) (fun h90 => ?_)
            ·
              refine yL.eq (y_aload_n (pc := 116) (x := 190) d179_116 rfl) ?_
              refine yL.eq (y_getr (pc := 117) (r := 191) d179_117 q179_7 s_r_190_1) ?_
              refine yL.eq (y_bipush (pc := 120) (v := 44) d179_120 kb_44) ?_
              refine yL.eq (y_iload_n (pc := 122) (x := a1) d179_122 rfl) ?_
              refine yL.eq (y_iadd (pc := 123) d179_123) ?_
              refine yL.eq (y_iald (pc := 124) (n := 95) d179_124 (yR_a yR191)) ?_
              refine yL.gd (fun h91 => ?_)
              exact yL.eq (y_ireti (pc := 125) d179_125 mr_179) yL.rf
            ·
              refine yL.eq (y_ts (c := 3) (lo' := 4) kc_3 (by decide)) ?_
              refine yL.ite (fun h92 => ?_) (fun h92 => ?_)
              ·
                refine yL.eq (y_aload_n (pc := 126) (x := 190) d179_126 rfl) ?_
                refine yL.eq (y_getr (pc := 127) (r := 191) d179_127 q179_7 s_r_190_1) ?_
                refine yL.eq (y_bipush (pc := 130) (v := 58) d179_130 kb_58) ?_
                refine yL.eq (y_iload_n (pc := 132) (x := a1) d179_132 rfl) ?_
                refine yL.eq (y_iadd (pc := 133) d179_133) ?_
                refine yL.eq (y_iald (pc := 134) (n := 95) d179_134 (yR_a yR191)) ?_
                refine yL.gd (fun h93 => ?_)
                exact yL.eq (y_ireti (pc := 135) d179_135 mr_179) yL.rf
              ·
                refine yL.eq (y_ts (c := 4) (lo' := 5) kc_4 (by decide)) ?_
                refine yL.ite (fun h94 => ?_) (fun h94 => ?_)
                ·
                  refine yL.eq (y_aload_n (pc := 136) (x := 190) d179_136 rfl) ?_
                  refine yL.eq (y_getr (pc := 137) (r := 191) d179_137 q179_7 s_r_190_1) ?_
                  refine yL.eq (y_bipush (pc := 140) (v := 72) d179_140 kb_72) ?_
                  refine yL.eq (y_iload_n (pc := 142) (x := a1) d179_142 rfl) ?_
                  refine yL.eq (y_iadd (pc := 143) d179_143) ?_
                  refine yL.eq (y_iald (pc := 144) (n := 95) d179_144 (yR_a yR191)) ?_
                  refine yL.gd (fun h95 => ?_)
                  exact yL.eq (y_ireti (pc := 145) d179_145 mr_179) yL.rf
                ·
                  refine yL.eq (y_ts (c := 5) (lo' := 6) kc_5 (by decide)) ?_
                  refine yL.ite (fun h96 => ?_) (fun h96 => ?_)
                  ·
                    refine yL.eq (y_aload_n (pc := 146) (x := 190) d179_146 rfl) ?_
                    refine yL.eq (y_getr (pc := 147) (r := 191) d179_147 q179_7 s_r_190_1) ?_
                    refine yL.eq (y_iload_n (pc := 150) (x := a1) d179_150 rfl) ?_
                    refine y_calls_i (pc := 151) (n := 2) (n' := 4) (nc' := 0) (ns' := 0) [.ref 191, .int a1] [] false d179_151 q179_113 rfl rfl rfl (Nat.le_of_ble_eq_true rfl) (Nat.le_of_ble_eq_true rfl) rfl (by decide +kernel) (by decide +kernel) (fun v98 M97 => ?_)
                    exact yL.eq (y_ireti (pc := 154) d179_154 mr_179) yL.rf
                  ·
                    refine yL.eq (y_ts (c := 6) (lo' := 7) kc_6 (by decide)) ?_
                    refine yL.ite (fun h99 => ?_) (fun h99 => ?_)
                    ·
                      refine yL.eq (y_aload_n (pc := 155) (x := 190) d179_155 rfl) ?_
                      refine yL.eq (y_aload_n (pc := 156) (x := 190) d179_156 rfl) ?_
                      refine yL.eq (y_getr (pc := 157) (r := 191) d179_157 q179_7 s_r_190_1) ?_
                      refine y_callv_v (pc := 160) (n := 2) (n' := 6) (nc' := 0) (ns' := 0) [.ref 191] [] false d179_160 q179_98 mk_132 s_t_190 rfl rfl (Nat.le_of_ble_eq_true rfl) (Nat.le_of_ble_eq_true rfl) rfl (by decide +kernel) (by decide +kernel) (fun M100 => ?_)
                      refine yL.eq (y_aload_n (pc := 163) (x := 190) d179_163 rfl) ?_
                      refine yL.eq (y_getr (pc := 164) (r := 200) d179_164 q179_38 s_r_190_12) ?_
                      refine yL.eq (y_iload_n (pc := 167) (x := a1) d179_167 rfl) ?_
                      refine yL.eq (y_iald (pc := 168) (n := 14) d179_168 s_a_200) ?_
                      refine yL.gd (fun h101 => ?_)
                      exact yL.eq (y_ireti (pc := 169) d179_169 mr_179) yL.rf
                    ·
                      refine yL.eq (y_ts (c := 7) (lo' := 8) kc_7 (by decide)) ?_
                      refine yL.ite (fun h102 => ?_) (fun h102 => ?_)
                      ·
                        refine yL.eq (y_aload_n (pc := 184) (x := 190) d179_184 rfl) ?_
                        refine yL.eq (y_aload_n (pc := 185) (x := 190) d179_185 rfl) ?_
                        refine yL.eq (y_getr (pc := 186) (r := 191) d179_186 q179_7 s_r_190_1) ?_
                        refine y_callv_v (pc := 189) (n := 2) (n' := 4) (nc' := 0) (ns' := 0) [.ref 191] [] false d179_189 q179_136 mk_143 s_t_190 rfl rfl (Nat.le_of_ble_eq_true rfl) (Nat.le_of_ble_eq_true rfl) rfl (by decide +kernel) (by decide +kernel) (fun M103 => ?_)
                        refine yL.eq (y_iload_n (pc := 192) (x := a2) d179_192 rfl) ?_
                        refine yL.eq (y_bipush (pc := 193) (v := 7) d179_193 kb_7) ?_
                        refine yL.eq (y_icmp_ne (pc := 195) (t := 207) d179_195 (by decide)) ?_
                        refine yL.ite (fun h104 => ?_) (fun h104 => ?_)
                        ·
                          refine yL.eq (y_aload_n (pc := 198) (x := 190) d179_198 rfl) ?_
                          refine yL.eq (y_getr (pc := 199) (r := 197) d179_199 q179_29 s_r_190_8) ?_
                          refine yL.eq (y_iload_n (pc := 202) (x := a1) d179_202 rfl) ?_
                          refine yL.eq (y_iald (pc := 203) (n := 14) d179_203 s_a_197) ?_
                          refine yL.gd (fun h105 => ?_)
                          refine yL.eq (y_goto (pc := 204) (t := 213) d179_204 (by decide)) ?_
                          exact yL.eq (y_ireti (pc := 213) d179_213 mr_179) yL.rf
                        ·
                          refine yL.eq (y_aload_n (pc := 207) (x := 190) d179_207 rfl) ?_
                          refine yL.eq (y_getr (pc := 208) (r := 198) d179_208 q179_32 s_r_190_9) ?_
                          refine yL.eq (y_iload_n (pc := 211) (x := a1) d179_211 rfl) ?_
                          refine yL.eq (y_iald (pc := 212) (n := 14) d179_212 s_a_198) ?_
                          refine yL.gd (fun h106 => ?_)
                          exact yL.eq (y_ireti (pc := 213) d179_213 mr_179) yL.rf
                      ·
                        refine yL.eq (y_ts (c := 8) (lo' := 9) kc_8 (by decide)) ?_
                        refine yL.ite (fun h107 => ?_) (fun h107 => ?_)
                        ·
                          refine yL.eq (y_aload_n (pc := 184) (x := 190) d179_184 rfl) ?_
                          refine yL.eq (y_aload_n (pc := 185) (x := 190) d179_185 rfl) ?_
                          refine yL.eq (y_getr (pc := 186) (r := 191) d179_186 q179_7 s_r_190_1) ?_
                          refine y_callv_v (pc := 189) (n := 2) (n' := 4) (nc' := 0) (ns' := 0) [.ref 191] [] false d179_189 q179_136 mk_143 s_t_190 rfl rfl (Nat.le_of_ble_eq_true rfl) (Nat.le_of_ble_eq_true rfl) rfl (by decide +kernel) (by decide +kernel) (fun M108 => ?_)
                          refine yL.eq (y_iload_n (pc := 192) (x := a2) d179_192 rfl) ?_
                          refine yL.eq (y_bipush (pc := 193) (v := 7) d179_193 kb_7) ?_
                          refine yL.eq (y_icmp_ne (pc := 195) (t := 207) d179_195 (by decide)) ?_
                          refine yL.ite (fun h109 => ?_) (fun h109 => ?_)
                          ·
                            refine yL.eq (y_aload_n (pc := 198) (x := 190) d179_198 rfl) ?_
                            refine yL.eq (y_getr (pc := 199) (r := 197) d179_199 q179_29 s_r_190_8) ?_
                            refine yL.eq (y_iload_n (pc := 202) (x := a1) d179_202 rfl) ?_
                            refine yL.eq (y_iald (pc := 203) (n := 14) d179_203 s_a_197) ?_
                            refine yL.gd (fun h110 => ?_)
                            refine yL.eq (y_goto (pc := 204) (t := 213) d179_204 (by decide)) ?_
                            exact yL.eq (y_ireti (pc := 213) d179_213 mr_179) yL.rf
                          ·
                            refine yL.eq (y_aload_n (pc := 207) (x := 190) d179_207 rfl) ?_
                            refine yL.eq (y_getr (pc := 208) (r := 198) d179_208 q179_32 s_r_190_9) ?_
                            refine yL.eq (y_iload_n (pc := 211) (x := a1) d179_211 rfl) ?_
                            refine yL.eq (y_iald (pc := 212) (n := 14) d179_212 s_a_198) ?_
                            refine yL.gd (fun h111 => ?_)
                            exact yL.eq (y_ireti (pc := 213) d179_213 mr_179) yL.rf
                        ·
                          refine yL.eq (y_ts (c := 9) (lo' := 10) kc_9 (by decide)) ?_
                          refine yL.ite (fun h112 => ?_) (fun h112 => ?_)
                          ·
                            refine yL.eq (y_aload_n (pc := 170) (x := 190) d179_170 rfl) ?_
                            refine yL.eq (y_getr (pc := 171) (r := 191) d179_171 q179_7 s_r_190_1) ?_
                            refine yL.eq (y_iload_n (pc := 174) (x := a1) d179_174 rfl) ?_
                            refine y_calls_i (pc := 175) (n := 2) (n' := 5) (nc' := 0) (ns' := 0) [.ref 191, .int a1] [] false d179_175 q179_148 rfl rfl rfl (Nat.le_of_ble_eq_true rfl) (Nat.le_of_ble_eq_true rfl) rfl (by decide +kernel) (by decide +kernel) (fun v114 M113 => ?_)
                            refine yL.eq (y_bipush (pc := 178) (v := 14) d179_178 kb_14) ?_
                            refine y_calls_i (pc := 180) (n := 2) (n' := 4) (nc' := 0) (ns' := 0) [.int v114, .int 14] [] false d179_180 q179_116 rfl rfl rfl (Nat.le_of_ble_eq_true rfl) (Nat.le_of_ble_eq_true rfl) rfl (by decide +kernel) (by decide +kernel) (fun v116 M115 => ?_)
                            exact yL.eq (y_ireti (pc := 183) d179_183 mr_179) yL.rf
                          ·
                            refine yL.eq y_tsn ?_
                            refine yL.eq (y_aload_n (pc := 184) (x := 190) d179_184 rfl) ?_
                            refine yL.eq (y_aload_n (pc := 185) (x := 190) d179_185 rfl) ?_
                            refine yL.eq (y_getr (pc := 186) (r := 191) d179_186 q179_7 s_r_190_1) ?_
                            refine y_callv_v (pc := 189) (n := 2) (n' := 4) (nc' := 0) (ns' := 0) [.ref 191] [] false d179_189 q179_136 mk_143 s_t_190 rfl rfl (Nat.le_of_ble_eq_true rfl) (Nat.le_of_ble_eq_true rfl) rfl (by decide +kernel) (by decide +kernel) (fun M117 => ?_)
                            refine yL.eq (y_iload_n (pc := 192) (x := a2) d179_192 rfl) ?_
                            refine yL.eq (y_bipush (pc := 193) (v := 7) d179_193 kb_7) ?_
                            refine yL.eq (y_icmp_ne (pc := 195) (t := 207) d179_195 (by decide)) ?_
                            refine yL.ite (fun h118 => ?_) (fun h118 => ?_)
                            ·
                              refine yL.eq (y_aload_n (pc := 198) (x := 190) d179_198 rfl) ?_
                              refine yL.eq (y_getr (pc := 199) (r := 197) d179_199 q179_29 s_r_190_8) ?_
                              refine yL.eq (y_iload_n (pc := 202) (x := a1) d179_202 rfl) ?_
                              refine yL.eq (y_iald (pc := 203) (n := 14) d179_203 s_a_197) ?_
                              refine yL.gd (fun h119 => ?_)
                              refine yL.eq (y_goto (pc := 204) (t := 213) d179_204 (by decide)) ?_
                              exact yL.eq (y_ireti (pc := 213) d179_213 mr_179) yL.rf
                            ·
                              refine yL.eq (y_aload_n (pc := 207) (x := 190) d179_207 rfl) ?_
                              refine yL.eq (y_getr (pc := 208) (r := 198) d179_208 q179_32 s_r_190_9) ?_
                              refine yL.eq (y_iload_n (pc := 211) (x := a1) d179_211 rfl) ?_
                              refine yL.eq (y_iald (pc := 212) (n := 14) d179_212 s_a_198) ?_
                              refine yL.gd (fun h120 => ?_)
                              exact yL.eq (y_ireti (pc := 213) d179_213 mr_179) yL.rf
      ·
        refine yL.eq (y_iconst (pc := 39) (v := 0) d179_39 kc_0) ?_
        exact yL.eq (y_ireti (pc := 40) d179_40 mr_179) yL.rf
set_option maxRecDepth 20000 in
set_option maxHeartbeats 4000000 in
theorem e180 {a1 : Int32} {M : yM} : yL (yCv false (yX 143 0 [some (.ref 190), some (.ref 191), none, none] [] M 0 0) fun M1 => yCi false (yX 108 0 [some (.long a1.toInt64), none, some (.long 0), none, some (.long (((M1 190 11) - 1).toInt64)), none] [] M1 0 0) fun v3 M2 => if v3 = 0 then yCi false (yX 107 0 [some (.ref 190), some (.int 1)] [] M2 0 0) fun v6 M5 => if v6 = 0 then if yinB a1 14 = true then yI (M5 199 (yx a1)) M5 else none else yI 0 M5 else yCi false (yX 107 0 [some (.ref 190), some (.int 0)] [] M2 0 0) fun v10 M9 => if v10 = 0 then if yinB a1 14 = true then yI (M9 199 (yx a1)) M9 else none else yI 0 M9) (yX 180 0 [some (.ref 190), some (.int a1)] [] M 0 0) := by
  refine yL.eq (y_aload_n (pc := 0) (x := 190) d180_0 rfl) ?_
  refine yL.eq (y_aload_n (pc := 1) (x := 190) d180_1 rfl) ?_
  refine yL.eq (y_getr (pc := 2) (r := 191) d180_2 q180_7 s_r_190_1) ?_
  refine y_callv_v (pc := 5) (n := 2) (n' := 4) (nc' := 0) (ns' := 0) [.ref 191] [] false d180_5 q180_136 mk_143 s_t_190 rfl rfl (Nat.le_of_ble_eq_true rfl) (Nat.le_of_ble_eq_true rfl) rfl (by decide +kernel) (by decide +kernel) (fun M1 => ?_)
  refine yL.eq (y_aload_n (pc := 8) (x := 190) d180_8 rfl) ?_
  refine yL.eq (y_iload_n (pc := 9) (x := a1) d180_9 rfl) ?_
  refine yL.eq (y_i2l (pc := 10) d180_10) ?_
  refine yL.eq (y_lconst (pc := 11) (v := 0) d180_11 kl_0) ?_
  refine yL.eq (y_aload_n (pc := 12) (x := 190) d180_12 rfl) ?_
  refine yL.eq (y_geti (pc := 13) d180_13 q180_127 s_i_190_11) ?_
  refine yL.eq (y_iconst (pc := 16) (v := 1) d180_16 kc_1) ?_
  refine yL.eq (y_isub (pc := 17) d180_17) ?_
  refine yL.eq (y_i2l (pc := 18) d180_18) ?_
  refine y_calls_i (pc := 19) (n := 3) (n' := 6) (nc' := 0) (ns' := 0) [.long a1.toInt64, .long 0, .long (((M1 190 11) - 1).toInt64)] [.ref 190] false d180_19 q180_58 rfl rfl rfl (Nat.le_of_ble_eq_true rfl) (Nat.le_of_ble_eq_true rfl) rfl (by decide +kernel) (by decide +kernel) (fun v3 M2 => ?_)
  refine yL.eq (y_if_eq (pc := 22) (t := 29) d180_22 (by decide)) ?_
  refine yL.ite (fun h4 => ?_) (fun h4 => ?_)
  ·
    refine yL.eq (y_iconst (pc := 29) (v := 1) d180_29 kc_1) ?_
    refine y_callv_i (pc := 30) (n := 2) (n' := 2) (nc' := 0) (ns' := 0) [.int 1] [] false d180_30 q180_159 mk_107 s_t_190 rfl rfl (Nat.le_of_ble_eq_true rfl) (Nat.le_of_ble_eq_true rfl) rfl (by decide +kernel) (by decide +kernel) (fun v6 M5 => ?_)
    refine yL.eq (y_if_eq (pc := 33) (t := 38) d180_33 (by decide)) ?_
    refine yL.ite (fun h7 => ?_) (fun h7 => ?_)
    ·
      refine yL.eq (y_aload_n (pc := 38) (x := 190) d180_38 rfl) ?_
      refine yL.eq (y_getr (pc := 39) (r := 199) d180_39 q180_35 s_r_190_10) ?_
      refine yL.eq (y_iload_n (pc := 42) (x := a1) d180_42 rfl) ?_
      refine yL.eq (y_iald (pc := 43) (n := 14) d180_43 s_a_199) ?_
      refine yL.gd (fun h8 => ?_)
      exact yL.eq (y_ireti (pc := 44) d180_44 mr_180) yL.rf
    ·
      refine yL.eq (y_iconst (pc := 36) (v := 0) d180_36 kc_0) ?_
      exact yL.eq (y_ireti (pc := 37) d180_37 mr_180) yL.rf
  ·
    refine yL.eq (y_iconst (pc := 25) (v := 0) d180_25 kc_0) ?_
    refine yL.eq (y_goto (pc := 26) (t := 30) d180_26 (by decide)) ?_
    refine y_callv_i (pc := 30) (n := 2) (n' := 2) (nc' := 0) (ns' := 0) [.int 0] [] false d180_30 q180_159 mk_107 s_t_190 rfl rfl (Nat.le_of_ble_eq_true rfl) (Nat.le_of_ble_eq_true rfl) rfl (by decide +kernel) (by decide +kernel) (fun v10 M9 => ?_)
    refine yL.eq (y_if_eq (pc := 33) (t := 38) d180_33 (by decide)) ?_
    refine yL.ite (fun h11 => ?_) (fun h11 => ?_)
    ·
      refine yL.eq (y_aload_n (pc := 38) (x := 190) d180_38 rfl) ?_
      refine yL.eq (y_getr (pc := 39) (r := 199) d180_39 q180_35 s_r_190_10) ?_
      refine yL.eq (y_iload_n (pc := 42) (x := a1) d180_42 rfl) ?_
      refine yL.eq (y_iald (pc := 43) (n := 14) d180_43 s_a_199) ?_
      refine yL.gd (fun h12 => ?_)
      exact yL.eq (y_ireti (pc := 44) d180_44 mr_180) yL.rf
    ·
      refine yL.eq (y_iconst (pc := 36) (v := 0) d180_36 kc_0) ?_
      exact yL.eq (y_ireti (pc := 37) d180_37 mr_180) yL.rf
set_option maxRecDepth 20000 in
set_option maxHeartbeats 4000000 in
theorem e181 {a1 : Int32} {M : yM} : yL (yCi false (yX 116 0 [some (.int a1)] [] M 0 0) fun v2 M1 => if v2 = 0 then yCi false (yX 107 0 [some (.ref 190), some (.int 1)] [] M1 0 0) fun v5 M4 => if v5 = 0 then if yinB (86 + a1) 95 = true then yI (M4 191 (yx (86 + a1))) M4 else none else yI 0 M4 else yCi false (yX 107 0 [some (.ref 190), some (.int 0)] [] M1 0 0) fun v9 M8 => if v9 = 0 then if yinB (86 + a1) 95 = true then yI (M8 191 (yx (86 + a1))) M8 else none else yI 0 M8) (yX 181 0 [some (.ref 190), some (.int a1)] [] M 0 0) := by
  refine yL.eq (y_aload_n (pc := 0) (x := 190) d181_0 rfl) ?_
  refine yL.eq (y_iload_n (pc := 1) (x := a1) d181_1 rfl) ?_
  refine y_calls_i (pc := 2) (n := 1) (n' := 1) (nc' := 0) (ns' := 0) [.int a1] [.ref 190] false d181_2 q181_271 rfl rfl rfl (Nat.le_of_ble_eq_true rfl) (Nat.le_of_ble_eq_true rfl) rfl (by decide +kernel) (by decide +kernel) (fun v2 M1 => ?_)
  refine yL.eq (y_if_eq (pc := 5) (t := 12) d181_5 (by decide)) ?_
  refine yL.ite (fun h3 => ?_) (fun h3 => ?_)
  ·
    refine yL.eq (y_iconst (pc := 12) (v := 1) d181_12 kc_1) ?_
    refine y_callv_i (pc := 13) (n := 2) (n' := 2) (nc' := 0) (ns' := 0) [.int 1] [] false d181_13 q181_159 mk_107 s_t_190 rfl rfl (Nat.le_of_ble_eq_true rfl) (Nat.le_of_ble_eq_true rfl) rfl (by decide +kernel) (by decide +kernel) (fun v5 M4 => ?_)
    refine yL.eq (y_if_eq (pc := 16) (t := 21) d181_16 (by decide)) ?_
    refine yL.ite (fun h6 => ?_) (fun h6 => ?_)
    ·
      refine yL.eq (y_aload_n (pc := 21) (x := 190) d181_21 rfl) ?_
      refine yL.eq (y_getr (pc := 22) (r := 191) d181_22 q181_7 s_r_190_1) ?_
      refine yL.eq (y_bipush (pc := 25) (v := 86) d181_25 kb_86) ?_
      refine yL.eq (y_iload_n (pc := 27) (x := a1) d181_27 rfl) ?_
      refine yL.eq (y_iadd (pc := 28) d181_28) ?_
      refine yL.eq (y_iald (pc := 29) (n := 95) d181_29 (yR_a yR191)) ?_
      refine yL.gd (fun h7 => ?_)
      exact yL.eq (y_ireti (pc := 30) d181_30 mr_181) yL.rf
    ·
      refine yL.eq (y_iconst (pc := 19) (v := 0) d181_19 kc_0) ?_
      exact yL.eq (y_ireti (pc := 20) d181_20 mr_181) yL.rf
  ·
    refine yL.eq (y_iconst (pc := 8) (v := 0) d181_8 kc_0) ?_
    refine yL.eq (y_goto (pc := 9) (t := 13) d181_9 (by decide)) ?_
    refine y_callv_i (pc := 13) (n := 2) (n' := 2) (nc' := 0) (ns' := 0) [.int 0] [] false d181_13 q181_159 mk_107 s_t_190 rfl rfl (Nat.le_of_ble_eq_true rfl) (Nat.le_of_ble_eq_true rfl) rfl (by decide +kernel) (by decide +kernel) (fun v9 M8 => ?_)
    refine yL.eq (y_if_eq (pc := 16) (t := 21) d181_16 (by decide)) ?_
    refine yL.ite (fun h10 => ?_) (fun h10 => ?_)
    ·
      refine yL.eq (y_aload_n (pc := 21) (x := 190) d181_21 rfl) ?_
      refine yL.eq (y_getr (pc := 22) (r := 191) d181_22 q181_7 s_r_190_1) ?_
      refine yL.eq (y_bipush (pc := 25) (v := 86) d181_25 kb_86) ?_
      refine yL.eq (y_iload_n (pc := 27) (x := a1) d181_27 rfl) ?_
      refine yL.eq (y_iadd (pc := 28) d181_28) ?_
      refine yL.eq (y_iald (pc := 29) (n := 95) d181_29 (yR_a yR191)) ?_
      refine yL.gd (fun h11 => ?_)
      exact yL.eq (y_ireti (pc := 30) d181_30 mr_181) yL.rf
    ·
      refine yL.eq (y_iconst (pc := 19) (v := 0) d181_19 kc_0) ?_
      exact yL.eq (y_ireti (pc := 20) d181_20 mr_181) yL.rf
set_option maxRecDepth 20000 in
set_option maxHeartbeats 4000000 in
theorem e182 {a1 : Int32} {M : yM} : yL (yCi false (yX 108 0 [some (.long a1.toInt64), none, some (.long 0), none, some (.long 4), none] [] M 0 0) fun v2 M1 => if v2 = 0 then yCi false (yX 107 0 [some (.ref 190), some (.int 1)] [] M1 0 0) fun v5 M4 => if v5 = 0 then if yinB (90 + a1) 95 = true then yI (M4 191 (yx (90 + a1))) M4 else none else yI 0 M4 else yCi false (yX 107 0 [some (.ref 190), some (.int 0)] [] M1 0 0) fun v9 M8 => if v9 = 0 then if yinB (90 + a1) 95 = true then yI (M8 191 (yx (90 + a1))) M8 else none else yI 0 M8) (yX 182 0 [some (.ref 190), some (.int a1)] [] M 0 0) := by
  refine yL.eq (y_aload_n (pc := 0) (x := 190) d182_0 rfl) ?_
  refine yL.eq (y_iload_n (pc := 1) (x := a1) d182_1 rfl) ?_
  refine yL.eq (y_i2l (pc := 2) d182_2) ?_
  refine yL.eq (y_lconst (pc := 3) (v := 0) d182_3 kl_0) ?_
  refine yL.eq (y_ldc2_w (pc := 4) (v := 4) d182_4 q182_274) ?_
  refine y_calls_i (pc := 7) (n := 3) (n' := 6) (nc' := 0) (ns' := 0) [.long a1.toInt64, .long 0, .long 4] [.ref 190] false d182_7 q182_58 rfl rfl rfl (Nat.le_of_ble_eq_true rfl) (Nat.le_of_ble_eq_true rfl) rfl (by decide +kernel) (by decide +kernel) (fun v2 M1 => ?_)
  refine yL.eq (y_if_eq (pc := 10) (t := 17) d182_10 (by decide)) ?_
  refine yL.ite (fun h3 => ?_) (fun h3 => ?_)
  ·
    refine yL.eq (y_iconst (pc := 17) (v := 1) d182_17 kc_1) ?_
    refine y_callv_i (pc := 18) (n := 2) (n' := 2) (nc' := 0) (ns' := 0) [.int 1] [] false d182_18 q182_159 mk_107 s_t_190 rfl rfl (Nat.le_of_ble_eq_true rfl) (Nat.le_of_ble_eq_true rfl) rfl (by decide +kernel) (by decide +kernel) (fun v5 M4 => ?_)
    refine yL.eq (y_if_eq (pc := 21) (t := 26) d182_21 (by decide)) ?_
    refine yL.ite (fun h6 => ?_) (fun h6 => ?_)
    ·
      refine yL.eq (y_aload_n (pc := 26) (x := 190) d182_26 rfl) ?_
      refine yL.eq (y_getr (pc := 27) (r := 191) d182_27 q182_7 s_r_190_1) ?_
      refine yL.eq (y_bipush (pc := 30) (v := 90) d182_30 kb_90) ?_
      refine yL.eq (y_iload_n (pc := 32) (x := a1) d182_32 rfl) ?_
      refine yL.eq (y_iadd (pc := 33) d182_33) ?_
      refine yL.eq (y_iald (pc := 34) (n := 95) d182_34 (yR_a yR191)) ?_
      refine yL.gd (fun h7 => ?_)
      exact yL.eq (y_ireti (pc := 35) d182_35 mr_182) yL.rf
    ·
      refine yL.eq (y_iconst (pc := 24) (v := 0) d182_24 kc_0) ?_
      exact yL.eq (y_ireti (pc := 25) d182_25 mr_182) yL.rf
  ·
    refine yL.eq (y_iconst (pc := 13) (v := 0) d182_13 kc_0) ?_
    refine yL.eq (y_goto (pc := 14) (t := 18) d182_14 (by decide)) ?_
    refine y_callv_i (pc := 18) (n := 2) (n' := 2) (nc' := 0) (ns' := 0) [.int 0] [] false d182_18 q182_159 mk_107 s_t_190 rfl rfl (Nat.le_of_ble_eq_true rfl) (Nat.le_of_ble_eq_true rfl) rfl (by decide +kernel) (by decide +kernel) (fun v9 M8 => ?_)
    refine yL.eq (y_if_eq (pc := 21) (t := 26) d182_21 (by decide)) ?_
    refine yL.ite (fun h10 => ?_) (fun h10 => ?_)
    ·
      refine yL.eq (y_aload_n (pc := 26) (x := 190) d182_26 rfl) ?_
      refine yL.eq (y_getr (pc := 27) (r := 191) d182_27 q182_7 s_r_190_1) ?_
      refine yL.eq (y_bipush (pc := 30) (v := 90) d182_30 kb_90) ?_
      refine yL.eq (y_iload_n (pc := 32) (x := a1) d182_32 rfl) ?_
      refine yL.eq (y_iadd (pc := 33) d182_33) ?_
      refine yL.eq (y_iald (pc := 34) (n := 95) d182_34 (yR_a yR191)) ?_
      refine yL.gd (fun h11 => ?_)
      exact yL.eq (y_ireti (pc := 35) d182_35 mr_182) yL.rf
    ·
      refine yL.eq (y_iconst (pc := 24) (v := 0) d182_24 kc_0) ?_
      exact yL.eq (y_ireti (pc := 25) d182_25 mr_182) yL.rf
set_option maxRecDepth 20000 in
set_option maxHeartbeats 4000000 in
theorem e183 {a1 : Int32} {a2 : Int32} {M : yM} : yL (yCi false (yX 108 0 [some (.long a1.toInt64), none, some (.long 0), none, some (.long 1500), none] [] M 0 0) fun v2 M1 => if v2 = 0 then yCi false (yX 107 0 [some (.ref 190), some (.int 1)] [] M1 0 0) fun v5 M4 => if v5 = 0 then yCv false (yX 143 0 [some (.ref 190), some (.ref 191), none, none] [] M4 0 0) fun M7 => if a2 = 0 then yCi false (yX 135 0 [some (.ref 190), some (.ref 191), some (.int a1), none, none] [] M7 0 0) fun v10 M9 => yI v10 M9 else if a2 = 9 then yCi false (yX 138 0 [some (.ref 190), some (.ref 191), some (.int a1), none, none] [] M7 0 0) fun v13 M12 => yI v13 M12 else if a2 < 5 then yCi false (yX 136 0 [some (.ref 190), some (.ref 191), some (.int (a2 - 1)), some (.int a1), none, none] [] M7 0 0) fun v16 M15 => yI v16 M15 else yCi false (yX 137 0 [some (.ref 190), some (.ref 191), some (.int (a2 - 5)), some (.int a1), none, none, none] [] M7 0 0) fun v18 M17 => yI v18 M17 else yI 0 M4 else yCi false (yX 108 0 [some (.long a2.toInt64), none, some (.long 0), none, some (.long 9), none] [] M1 0 0) fun v20 M19 => if v20 = 0 then yCi false (yX 107 0 [some (.ref 190), some (.int 1)] [] M19 0 0) fun v23 M22 => if v23 = 0 then yCv false (yX 143 0 [some (.ref 190), some (.ref 191), none, none] [] M22 0 0) fun M25 => if a2 = 0 then yCi false (yX 135 0 [some (.ref 190), some (.ref 191), some (.int a1), none, none] [] M25 0 0) fun v28 M27 => yI v28 M27 else if a2 = 9 then yCi false (yX 138 0 [some (.ref 190), some (.ref 191), some (.int a1), none, none] [] M25 0 0) fun v31 M30 => yI v31 M30 else if a2 < 5 then yCi false (yX 136 0 [some (.ref 190), some (.ref 191), some (.int (a2 - 1)), some (.int a1), none, none] [] M25 0 0) fun v34 M33 => yI v34 M33 else yCi false (yX 137 0 [some (.ref 190), some (.ref 191), some (.int (a2 - 5)), some (.int a1), none, none, none] [] M25 0 0) fun v36 M35 => yI v36 M35 else yI 0 M22 else yCi false (yX 107 0 [some (.ref 190), some (.int 0)] [] M19 0 0) fun v38 M37 => if v38 = 0 then yCv false (yX 143 0 [some (.ref 190), some (.ref 191), none, none] [] M37 0 0) fun M40 => if a2 = 0 then yCi false (yX 135 0 [some (.ref 190), some (.ref 191), some (.int a1), none, none] [] M40 0 0) fun v43 M42 => yI v43 M42 else if a2 = 9 then yCi false (yX 138 0 [some (.ref 190), some (.ref 191), some (.int a1), none, none] [] M40 0 0) fun v46 M45 => yI v46 M45 else if a2 < 5 then yCi false (yX 136 0 [some (.ref 190), some (.ref 191), some (.int (a2 - 1)), some (.int a1), none, none] [] M40 0 0) fun v49 M48 => yI v49 M48 else yCi false (yX 137 0 [some (.ref 190), some (.ref 191), some (.int (a2 - 5)), some (.int a1), none, none, none] [] M40 0 0) fun v51 M50 => yI v51 M50 else yI 0 M37) (yX 183 0 [some (.ref 190), some (.int a1), some (.int a2)] [] M 0 0) := by
  refine yL.eq (y_aload_n (pc := 0) (x := 190) d183_0 rfl) ?_
  refine yL.eq (y_iload_n (pc := 1) (x := a1) d183_1 rfl) ?_
  refine yL.eq (y_i2l (pc := 2) d183_2) ?_
  refine yL.eq (y_lconst (pc := 3) (v := 0) d183_3 kl_0) ?_
  refine yL.eq (y_ldc2_w (pc := 4) (v := 1500) d183_4 q183_276) ?_
  refine y_calls_i (pc := 7) (n := 3) (n' := 6) (nc' := 0) (ns' := 0) [.long a1.toInt64, .long 0, .long 1500] [.ref 190] false d183_7 q183_58 rfl rfl rfl (Nat.le_of_ble_eq_true rfl) (Nat.le_of_ble_eq_true rfl) rfl (by decide +kernel) (by decide +kernel) (fun v2 M1 => ?_)
  refine yL.eq (y_if_eq (pc := 10) (t := 29) d183_10 (by decide)) ?_
  refine yL.ite (fun h3 => ?_) (fun h3 => ?_)
  ·
    refine yL.eq (y_iconst (pc := 29) (v := 1) d183_29 kc_1) ?_
    refine y_callv_i (pc := 30) (n := 2) (n' := 2) (nc' := 0) (ns' := 0) [.int 1] [] false d183_30 q183_159 mk_107 s_t_190 rfl rfl (Nat.le_of_ble_eq_true rfl) (Nat.le_of_ble_eq_true rfl) rfl (by decide +kernel) (by decide +kernel) (fun v5 M4 => ?_)
    refine yL.eq (y_if_eq (pc := 33) (t := 38) d183_33 (by decide)) ?_
    refine yL.ite (fun h6 => ?_) (fun h6 => ?_)
    ·
      refine yL.eq (y_aload_n (pc := 38) (x := 190) d183_38 rfl) ?_
      refine yL.eq (y_aload_n (pc := 39) (x := 190) d183_39 rfl) ?_
      refine yL.eq (y_getr (pc := 40) (r := 191) d183_40 q183_7 s_r_190_1) ?_
      refine y_callv_v (pc := 43) (n := 2) (n' := 4) (nc' := 0) (ns' := 0) [.ref 191] [] false d183_43 q183_136 mk_143 s_t_190 rfl rfl (Nat.le_of_ble_eq_true rfl) (Nat.le_of_ble_eq_true rfl) rfl (by decide +kernel) (by decide +kernel) (fun M7 => ?_)
      refine yL.eq (y_iload_n (pc := 46) (x := a2) d183_46 rfl) ?_
      refine yL.eq (y_if_ne (pc := 47) (t := 60) d183_47 (by decide)) ?_
      refine yL.ite (fun h8 => ?_) (fun h8 => ?_)
      ·
        refine yL.eq (y_aload_n (pc := 50) (x := 190) d183_50 rfl) ?_
        refine yL.eq (y_aload_n (pc := 51) (x := 190) d183_51 rfl) ?_
        refine yL.eq (y_getr (pc := 52) (r := 191) d183_52 q183_7 s_r_190_1) ?_
        refine yL.eq (y_iload_n (pc := 55) (x := a1) d183_55 rfl) ?_
        refine y_callv_i (pc := 56) (n := 3) (n' := 5) (nc' := 0) (ns' := 0) [.ref 191, .int a1] [] false d183_56 q183_104 mk_135 s_t_190 rfl rfl (Nat.le_of_ble_eq_true rfl) (Nat.le_of_ble_eq_true rfl) rfl (by decide +kernel) (by decide +kernel) (fun v10 M9 => ?_)
        exact yL.eq (y_ireti (pc := 59) d183_59 mr_183) yL.rf
      ·
        refine yL.eq (y_iload_n (pc := 60) (x := a2) d183_60 rfl) ?_
        refine yL.eq (y_bipush (pc := 61) (v := 9) d183_61 kb_9) ?_
        refine yL.eq (y_icmp_ne (pc := 63) (t := 78) d183_63 (by decide)) ?_
        refine yL.ite (fun h11 => ?_) (fun h11 => ?_)
        ·
          refine yL.eq (y_aload_n (pc := 66) (x := 190) d183_66 rfl) ?_
          refine yL.eq (y_aload_n (pc := 67) (x := 190) d183_67 rfl) ?_
          refine yL.eq (y_getr (pc := 68) (r := 191) d183_68 q183_7 s_r_190_1) ?_
          refine yL.eq (y_iload_n (pc := 71) (x := a1) d183_71 rfl) ?_
          refine y_callv_i (pc := 72) (n := 3) (n' := 5) (nc' := 0) (ns' := 0) [.ref 191, .int a1] [] false d183_72 q183_278 mk_138 s_t_190 rfl rfl (Nat.le_of_ble_eq_true rfl) (Nat.le_of_ble_eq_true rfl) rfl (by decide +kernel) (by decide +kernel) (fun v13 M12 => ?_)
          refine yL.eq (y_goto (pc := 75) (t := 110) d183_75 (by decide)) ?_
          exact yL.eq (y_ireti (pc := 110) d183_110 mr_183) yL.rf
        ·
          refine yL.eq (y_iload_n (pc := 78) (x := a2) d183_78 rfl) ?_
          refine yL.eq (y_iconst (pc := 79) (v := 5) d183_79 kc_5) ?_
          refine yL.eq (y_icmp_ge (pc := 80) (t := 98) d183_80 (by decide)) ?_
          refine yL.ite (fun h14 => ?_) (fun h14 => ?_)
          ·
            refine yL.eq (y_aload_n (pc := 83) (x := 190) d183_83 rfl) ?_
            refine yL.eq (y_aload_n (pc := 84) (x := 190) d183_84 rfl) ?_
            refine yL.eq (y_getr (pc := 85) (r := 191) d183_85 q183_7 s_r_190_1) ?_
            refine yL.eq (y_iload_n (pc := 88) (x := a2) d183_88 rfl) ?_
            refine yL.eq (y_iconst (pc := 89) (v := 1) d183_89 kc_1) ?_
            refine yL.eq (y_isub (pc := 90) d183_90) ?_
            refine yL.eq (y_iload_n (pc := 91) (x := a1) d183_91 rfl) ?_
            refine y_callv_i (pc := 92) (n := 4) (n' := 6) (nc' := 0) (ns' := 0) [.ref 191, .int (a2 - 1), .int a1] [] false d183_92 q183_107 mk_136 s_t_190 rfl rfl (Nat.le_of_ble_eq_true rfl) (Nat.le_of_ble_eq_true rfl) rfl (by decide +kernel) (by decide +kernel) (fun v16 M15 => ?_)
            refine yL.eq (y_goto (pc := 95) (t := 110) d183_95 (by decide)) ?_
            exact yL.eq (y_ireti (pc := 110) d183_110 mr_183) yL.rf
          ·
            refine yL.eq (y_aload_n (pc := 98) (x := 190) d183_98 rfl) ?_
            refine yL.eq (y_aload_n (pc := 99) (x := 190) d183_99 rfl) ?_
            refine yL.eq (y_getr (pc := 100) (r := 191) d183_100 q183_7 s_r_190_1) ?_
            refine yL.eq (y_iload_n (pc := 103) (x := a2) d183_103 rfl) ?_
            refine yL.eq (y_iconst (pc := 104) (v := 5) d183_104 kc_5) ?_
            refine yL.eq (y_isub (pc := 105) d183_105) ?_
            refine yL.eq (y_iload_n (pc := 106) (x := a1) d183_106 rfl) ?_
            refine y_callv_i (pc := 107) (n := 4) (n' := 7) (nc' := 0) (ns' := 0) [.ref 191, .int (a2 - 5), .int a1] [] false d183_107 q183_110 mk_137 s_t_190 rfl rfl (Nat.le_of_ble_eq_true rfl) (Nat.le_of_ble_eq_true rfl) rfl (by decide +kernel) (by decide +kernel) (fun v18 M17 => ?_)
            exact yL.eq (y_ireti (pc := 110) d183_110 mr_183) yL.rf
    ·
      refine yL.eq (y_iconst (pc := 36) (v := 0) d183_36 kc_0) ?_
      exact yL.eq (y_ireti (pc := 37) d183_37 mr_183) yL.rf
  ·
    refine yL.eq (y_iload_n (pc := 13) (x := a2) d183_13 rfl) ?_
    refine yL.eq (y_i2l (pc := 14) d183_14) ?_
    refine yL.eq (y_lconst (pc := 15) (v := 0) d183_15 kl_0) ?_
    refine yL.eq (y_ldc2_w (pc := 16) (v := 9) d183_16 q183_246) ?_
    refine y_calls_i (pc := 19) (n := 3) (n' := 6) (nc' := 0) (ns' := 0) [.long a2.toInt64, .long 0, .long 9] [.ref 190] false d183_19 q183_58 rfl rfl rfl (Nat.le_of_ble_eq_true rfl) (Nat.le_of_ble_eq_true rfl) rfl (by decide +kernel) (by decide +kernel) (fun v20 M19 => ?_)
    refine yL.eq (y_if_eq (pc := 22) (t := 29) d183_22 (by decide)) ?_
    refine yL.ite (fun h21 => ?_) (fun h21 => ?_)
    ·
      refine yL.eq (y_iconst (pc := 29) (v := 1) d183_29 kc_1) ?_
      refine y_callv_i (pc := 30) (n := 2) (n' := 2) (nc' := 0) (ns' := 0) [.int 1] [] false d183_30 q183_159 mk_107 s_t_190 rfl rfl (Nat.le_of_ble_eq_true rfl) (Nat.le_of_ble_eq_true rfl) rfl (by decide +kernel) (by decide +kernel) (fun v23 M22 => ?_)
      refine yL.eq (y_if_eq (pc := 33) (t := 38) d183_33 (by decide)) ?_
      refine yL.ite (fun h24 => ?_) (fun h24 => ?_)
      ·
        refine yL.eq (y_aload_n (pc := 38) (x := 190) d183_38 rfl) ?_
        refine yL.eq (y_aload_n (pc := 39) (x := 190) d183_39 rfl) ?_
        refine yL.eq (y_getr (pc := 40) (r := 191) d183_40 q183_7 s_r_190_1) ?_
        refine y_callv_v (pc := 43) (n := 2) (n' := 4) (nc' := 0) (ns' := 0) [.ref 191] [] false d183_43 q183_136 mk_143 s_t_190 rfl rfl (Nat.le_of_ble_eq_true rfl) (Nat.le_of_ble_eq_true rfl) rfl (by decide +kernel) (by decide +kernel) (fun M25 => ?_)
        refine yL.eq (y_iload_n (pc := 46) (x := a2) d183_46 rfl) ?_
        refine yL.eq (y_if_ne (pc := 47) (t := 60) d183_47 (by decide)) ?_
        refine yL.ite (fun h26 => ?_) (fun h26 => ?_)
        ·
          refine yL.eq (y_aload_n (pc := 50) (x := 190) d183_50 rfl) ?_
          refine yL.eq (y_aload_n (pc := 51) (x := 190) d183_51 rfl) ?_
          refine yL.eq (y_getr (pc := 52) (r := 191) d183_52 q183_7 s_r_190_1) ?_
          refine yL.eq (y_iload_n (pc := 55) (x := a1) d183_55 rfl) ?_
          refine y_callv_i (pc := 56) (n := 3) (n' := 5) (nc' := 0) (ns' := 0) [.ref 191, .int a1] [] false d183_56 q183_104 mk_135 s_t_190 rfl rfl (Nat.le_of_ble_eq_true rfl) (Nat.le_of_ble_eq_true rfl) rfl (by decide +kernel) (by decide +kernel) (fun v28 M27 => ?_)
          exact yL.eq (y_ireti (pc := 59) d183_59 mr_183) yL.rf
        ·
          refine yL.eq (y_iload_n (pc := 60) (x := a2) d183_60 rfl) ?_
          refine yL.eq (y_bipush (pc := 61) (v := 9) d183_61 kb_9) ?_
          refine yL.eq (y_icmp_ne (pc := 63) (t := 78) d183_63 (by decide)) ?_
          refine yL.ite (fun h29 => ?_) (fun h29 => ?_)
          ·
            refine yL.eq (y_aload_n (pc := 66) (x := 190) d183_66 rfl) ?_
            refine yL.eq (y_aload_n (pc := 67) (x := 190) d183_67 rfl) ?_
            refine yL.eq (y_getr (pc := 68) (r := 191) d183_68 q183_7 s_r_190_1) ?_
            refine yL.eq (y_iload_n (pc := 71) (x := a1) d183_71 rfl) ?_
            refine y_callv_i (pc := 72) (n := 3) (n' := 5) (nc' := 0) (ns' := 0) [.ref 191, .int a1] [] false d183_72 q183_278 mk_138 s_t_190 rfl rfl (Nat.le_of_ble_eq_true rfl) (Nat.le_of_ble_eq_true rfl) rfl (by decide +kernel) (by decide +kernel) (fun v31 M30 => ?_)
            refine yL.eq (y_goto (pc := 75) (t := 110) d183_75 (by decide)) ?_
            exact yL.eq (y_ireti (pc := 110) d183_110 mr_183) yL.rf
          ·
            refine yL.eq (y_iload_n (pc := 78) (x := a2) d183_78 rfl) ?_
            refine yL.eq (y_iconst (pc := 79) (v := 5) d183_79 kc_5) ?_
            refine yL.eq (y_icmp_ge (pc := 80) (t := 98) d183_80 (by decide)) ?_
            refine yL.ite (fun h32 => ?_) (fun h32 => ?_)
            ·
              refine yL.eq (y_aload_n (pc := 83) (x := 190) d183_83 rfl) ?_
              refine yL.eq (y_aload_n (pc := 84) (x := 190) d183_84 rfl) ?_
              refine yL.eq (y_getr (pc := 85) (r := 191) d183_85 q183_7 s_r_190_1) ?_
              refine yL.eq (y_iload_n (pc := 88) (x := a2) d183_88 rfl) ?_
              refine yL.eq (y_iconst (pc := 89) (v := 1) d183_89 kc_1) ?_
              refine yL.eq (y_isub (pc := 90) d183_90) ?_
              refine yL.eq (y_iload_n (pc := 91) (x := a1) d183_91 rfl) ?_
              refine y_callv_i (pc := 92) (n := 4) (n' := 6) (nc' := 0) (ns' := 0) [.ref 191, .int (a2 - 1), .int a1] [] false d183_92 q183_107 mk_136 s_t_190 rfl rfl (Nat.le_of_ble_eq_true rfl) (Nat.le_of_ble_eq_true rfl) rfl (by decide +kernel) (by decide +kernel) (fun v34 M33 => ?_)
              refine yL.eq (y_goto (pc := 95) (t := 110) d183_95 (by decide)) ?_
              exact yL.eq (y_ireti (pc := 110) d183_110 mr_183) yL.rf
            ·
              refine yL.eq (y_aload_n (pc := 98) (x := 190) d183_98 rfl) ?_
              refine yL.eq (y_aload_n (pc := 99) (x := 190) d183_99 rfl) ?_
              refine yL.eq (y_getr (pc := 100) (r := 191) d183_100 q183_7 s_r_190_1) ?_
              refine yL.eq (y_iload_n (pc := 103) (x := a2) d183_103 rfl) ?_
              refine yL.eq (y_iconst (pc := 104) (v := 5) d183_104 kc_5) ?_
              refine yL.eq (y_isub (pc := 105) d183_105) ?_
              refine yL.eq (y_iload_n (pc := 106) (x := a1) d183_106 rfl) ?_
              refine y_callv_i (pc := 107) (n := 4) (n' := 7) (nc' := 0) (ns' := 0) [.ref 191, .int (a2 - 5), .int a1] [] false d183_107 q183_110 mk_137 s_t_190 rfl rfl (Nat.le_of_ble_eq_true rfl) (Nat.le_of_ble_eq_true rfl) rfl (by decide +kernel) (by decide +kernel) (fun v36 M35 => ?_)
              exact yL.eq (y_ireti (pc := 110) d183_110 mr_183) yL.rf
      ·
        refine yL.eq (y_iconst (pc := 36) (v := 0) d183_36 kc_0) ?_
        exact yL.eq (y_ireti (pc := 37) d183_37 mr_183) yL.rf
    ·
      refine yL.eq (y_iconst (pc := 25) (v := 0) d183_25 kc_0) ?_
      refine yL.eq (y_goto (pc := 26) (t := 30) d183_26 (by decide)) ?_
      refine y_callv_i (pc := 30) (n := 2) (n' := 2) (nc' := 0) (ns' := 0) [.int 0] [] false d183_30 q183_159 mk_107 s_t_190 rfl rfl (Nat.le_of_ble_eq_true rfl) (Nat.le_of_ble_eq_true rfl) rfl (by decide +kernel) (by decide +kernel) (fun v38 M37 => ?_)
      refine yL.eq (y_if_eq (pc := 33) (t := 38) d183_33 (by decide)) ?_
      refine yL.ite (fun h39 => ?_) (fun h39 => ?_)
      ·
        refine yL.eq (y_aload_n (pc := 38) (x := 190) d183_38 rfl) ?_
        refine yL.eq (y_aload_n (pc := 39) (x := 190) d183_39 rfl) ?_
        refine yL.eq (y_getr (pc := 40) (r := 191) d183_40 q183_7 s_r_190_1) ?_
        refine y_callv_v (pc := 43) (n := 2) (n' := 4) (nc' := 0) (ns' := 0) [.ref 191] [] false d183_43 q183_136 mk_143 s_t_190 rfl rfl (Nat.le_of_ble_eq_true rfl) (Nat.le_of_ble_eq_true rfl) rfl (by decide +kernel) (by decide +kernel) (fun M40 => ?_)
        refine yL.eq (y_iload_n (pc := 46) (x := a2) d183_46 rfl) ?_
        refine yL.eq (y_if_ne (pc := 47) (t := 60) d183_47 (by decide)) ?_
        refine yL.ite (fun h41 => ?_) (fun h41 => ?_)
        ·
          refine yL.eq (y_aload_n (pc := 50) (x := 190) d183_50 rfl) ?_
          refine yL.eq (y_aload_n (pc := 51) (x := 190) d183_51 rfl) ?_
          refine yL.eq (y_getr (pc := 52) (r := 191) d183_52 q183_7 s_r_190_1) ?_
          refine yL.eq (y_iload_n (pc := 55) (x := a1) d183_55 rfl) ?_
          refine y_callv_i (pc := 56) (n := 3) (n' := 5) (nc' := 0) (ns' := 0) [.ref 191, .int a1] [] false d183_56 q183_104 mk_135 s_t_190 rfl rfl (Nat.le_of_ble_eq_true rfl) (Nat.le_of_ble_eq_true rfl) rfl (by decide +kernel) (by decide +kernel) (fun v43 M42 => ?_)
          exact yL.eq (y_ireti (pc := 59) d183_59 mr_183) yL.rf
        ·
          refine yL.eq (y_iload_n (pc := 60) (x := a2) d183_60 rfl) ?_
          refine yL.eq (y_bipush (pc := 61) (v := 9) d183_61 kb_9) ?_
          refine yL.eq (y_icmp_ne (pc := 63) (t := 78) d183_63 (by decide)) ?_
          refine yL.ite (fun h44 => ?_) (fun h44 => ?_)
          ·
            refine yL.eq (y_aload_n (pc := 66) (x := 190) d183_66 rfl) ?_
            refine yL.eq (y_aload_n (pc := 67) (x := 190) d183_67 rfl) ?_
            refine yL.eq (y_getr (pc := 68) (r := 191) d183_68 q183_7 s_r_190_1) ?_
            refine yL.eq (y_iload_n (pc := 71) (x := a1) d183_71 rfl) ?_
            refine y_callv_i (pc := 72) (n := 3) (n' := 5) (nc' := 0) (ns' := 0) [.ref 191, .int a1] [] false d183_72 q183_278 mk_138 s_t_190 rfl rfl (Nat.le_of_ble_eq_true rfl) (Nat.le_of_ble_eq_true rfl) rfl (by decide +kernel) (by decide +kernel) (fun v46 M45 => ?_)
            refine yL.eq (y_goto (pc := 75) (t := 110) d183_75 (by decide)) ?_
            exact yL.eq (y_ireti (pc := 110) d183_110 mr_183) yL.rf
          ·
            refine yL.eq (y_iload_n (pc := 78) (x := a2) d183_78 rfl) ?_
            refine yL.eq (y_iconst (pc := 79) (v := 5) d183_79 kc_5) ?_
            refine yL.eq (y_icmp_ge (pc := 80) (t := 98) d183_80 (by decide)) ?_
            refine yL.ite (fun h47 => ?_) (fun h47 => ?_)
            ·
              refine yL.eq (y_aload_n (pc := 83) (x := 190) d183_83 rfl) ?_
              refine yL.eq (y_aload_n (pc := 84) (x := 190) d183_84 rfl) ?_
              refine yL.eq (y_getr (pc := 85) (r := 191) d183_85 q183_7 s_r_190_1) ?_
              refine yL.eq (y_iload_n (pc := 88) (x := a2) d183_88 rfl) ?_
              refine yL.eq (y_iconst (pc := 89) (v := 1) d183_89 kc_1) ?_
              refine yL.eq (y_isub (pc := 90) d183_90) ?_
              refine yL.eq (y_iload_n (pc := 91) (x := a1) d183_91 rfl) ?_
              refine y_callv_i (pc := 92) (n := 4) (n' := 6) (nc' := 0) (ns' := 0) [.ref 191, .int (a2 - 1), .int a1] [] false d183_92 q183_107 mk_136 s_t_190 rfl rfl (Nat.le_of_ble_eq_true rfl) (Nat.le_of_ble_eq_true rfl) rfl (by decide +kernel) (by decide +kernel) (fun v49 M48 => ?_)
              refine yL.eq (y_goto (pc := 95) (t := 110) d183_95 (by decide)) ?_
              exact yL.eq (y_ireti (pc := 110) d183_110 mr_183) yL.rf
            ·
              refine yL.eq (y_aload_n (pc := 98) (x := 190) d183_98 rfl) ?_
              refine yL.eq (y_aload_n (pc := 99) (x := 190) d183_99 rfl) ?_
              refine yL.eq (y_getr (pc := 100) (r := 191) d183_100 q183_7 s_r_190_1) ?_
              refine yL.eq (y_iload_n (pc := 103) (x := a2) d183_103 rfl) ?_
              refine yL.eq (y_iconst (pc := 104) (v := 5) d183_104 kc_5) ?_
              refine yL.eq (y_isub (pc := 105) d183_105) ?_
              refine yL.eq (y_iload_n (pc := 106) (x := a1) d183_106 rfl) ?_
              refine y_callv_i (pc := 107) (n := 4) (n' := 7) (nc' := 0) (ns' := 0) [.ref 191, .int (a2 - 5), .int a1] [] false d183_107 q183_110 mk_137 s_t_190 rfl rfl (Nat.le_of_ble_eq_true rfl) (Nat.le_of_ble_eq_true rfl) rfl (by decide +kernel) (by decide +kernel) (fun v51 M50 => ?_)
              exact yL.eq (y_ireti (pc := 110) d183_110 mr_183) yL.rf
      ·
        refine yL.eq (y_iconst (pc := 36) (v := 0) d183_36 kc_0) ?_
        exact yL.eq (y_ireti (pc := 37) d183_37 mr_183) yL.rf
set_option maxRecDepth 20000 in
set_option maxHeartbeats 4000000 in
theorem e184 {a1 : Int32} {M : yM} : yL (yCi false (yX 117 0 [some (.int a1)] [] M 0 0) fun v2 M1 => if v2 = 0 then yCi false (yX 107 0 [some (.ref 190), some (.int 1)] [] M1 0 0) fun v5 M4 => if v5 = 0 then yCv false (yX 154 0 [some (.ref 190), none] [] M4 0 0) fun M7 => yCi false (yX 147 0 [some (.ref 191), some (.int a1)] [] M7 0 0) fun v9 M8 => yI v9 M8 else yI 0 M4 else if (M1 191 0) = 12 then yCi false (yX 107 0 [some (.ref 190), some (.int 2)] [] M1 0 0) fun v12 M11 => if v12 = 0 then yCv false (yX 154 0 [some (.ref 190), none] [] M11 0 0) fun M14 => yCi false (yX 147 0 [some (.ref 191), some (.int a1)] [] M14 0 0) fun v16 M15 => yI v16 M15 else yI 0 M11 else yCi false (yX 107 0 [some (.ref 190), some (.int 0)] [] M1 0 0) fun v18 M17 => if v18 = 0 then yCv false (yX 154 0 [some (.ref 190), none] [] M17 0 0) fun M20 => yCi false (yX 147 0 [some (.ref 191), some (.int a1)] [] M20 0 0) fun v22 M21 => yI v22 M21 else yI 0 M17) (yX 184 0 [some (.ref 190), some (.int a1)] [] M 0 0) := by
  refine yL.eq (y_aload_n (pc := 0) (x := 190) d184_0 rfl) ?_
  refine yL.eq (y_iload_n (pc := 1) (x := a1) d184_1 rfl) ?_
  refine y_calls_i (pc := 2) (n := 1) (n' := 1) (nc' := 0) (ns' := 0) [.int a1] [.ref 190] false d184_2 q184_189 rfl rfl rfl (Nat.le_of_ble_eq_true rfl) (Nat.le_of_ble_eq_true rfl) rfl (by decide +kernel) (by decide +kernel) (fun v2 M1 => ?_)
  refine yL.eq (y_if_ne (pc := 5) (t := 12) d184_5 (by decide)) ?_
  refine yL.ite (fun h3 => ?_) (fun h3 => ?_)
  ·
    refine yL.eq (y_iconst (pc := 8) (v := 1) d184_8 kc_1) ?_
    refine yL.eq (y_goto (pc := 9) (t := 28) d184_9 (by decide)) ?_
    refine y_callv_i (pc := 28) (n := 2) (n' := 2) (nc' := 0) (ns' := 0) [.int 1] [] false d184_28 q184_159 mk_107 s_t_190 rfl rfl (Nat.le_of_ble_eq_true rfl) (Nat.le_of_ble_eq_true rfl) rfl (by decide +kernel) (by decide +kernel) (fun v5 M4 => ?_)
    refine yL.eq (y_if_eq (pc := 31) (t := 36) d184_31 (by decide)) ?_
    refine yL.ite (fun h6 => ?_) (fun h6 => ?_)
    ·
      refine yL.eq (y_aload_n (pc := 36) (x := 190) d184_36 rfl) ?_
      refine y_callv_v (pc := 37) (n := 1) (n' := 2) (nc' := 0) (ns' := 0) [] [] false d184_37 q184_281 mk_154 s_t_190 rfl rfl (Nat.le_of_ble_eq_true rfl) (Nat.le_of_ble_eq_true rfl) rfl (by decide +kernel) (by decide +kernel) (fun M7 => ?_)
      refine yL.eq (y_aload_n (pc := 40) (x := 190) d184_40 rfl) ?_
      refine yL.eq (y_getr (pc := 41) (r := 191) d184_41 q184_7 s_r_190_1) ?_
      refine yL.eq (y_iload_n (pc := 44) (x := a1) d184_44 rfl) ?_
      refine y_calls_i (pc := 45) (n := 2) (n' := 2) (nc' := 0) (ns' := 0) [.ref 191, .int a1] [] false d184_45 q184_196 rfl rfl rfl (Nat.le_of_ble_eq_true rfl) (Nat.le_of_ble_eq_true rfl) rfl (by decide +kernel) (by decide +kernel) (fun v9 M8 => ?_)
      exact yL.eq (y_ireti (pc := 48) d184_48 mr_184) yL.rf
    ·
      refine yL.eq (y_iconst (pc := 34) (v := 0) d184_34 kc_0) ?_
      exact yL.eq (y_ireti (pc := 35) d184_35 mr_184) yL.rf
  ·
    refine yL.eq (y_aload_n (pc := 12) (x := 190) d184_12 rfl) ?_
    refine yL.eq (y_getr (pc := 13) (r := 191) d184_13 q184_7 s_r_190_1) ?_
    refine yL.eq (y_iconst (pc := 16) (v := 0) d184_16 kc_0) ?_
    refine yL.eq (y_iald (pc := 17) (n := 95) d184_17 (yR_a yR191)) ?_
    refine yL.eq (if_pos in_0_95) ?_
    show yL _ (yX 184 18 [some (.ref 190), some (.int a1)] ([.int (M1 191 0), .ref 190]) M1 0 0)
    refine yL.eq (y_bipush (pc := 18) (v := 12) d184_18 kb_12) ?_
    refine yL.eq (y_icmp_ne (pc := 20) (t := 27) d184_20 (by decide)) ?_
    refine yL.ite (fun h10 => ?_) (fun h10 => ?_)
    ·
      refine yL.eq (y_iconst (pc := 23) (v := 2) d184_23 kc_2) ?_
      refine yL.eq (y_goto (pc := 24) (t := 28) d184_24 (by decide)) ?_
      refine y_callv_i (pc := 28) (n := 2) (n' := 2) (nc' := 0) (ns' := 0) [.int 2] [] false d184_28 q184_159 mk_107 s_t_190 rfl rfl (Nat.le_of_ble_eq_true rfl) (Nat.le_of_ble_eq_true rfl) rfl (by decide +kernel) (by decide +kernel) (fun v12 M11 => ?_)
      refine yL.eq (y_if_eq (pc := 31) (t := 36) d184_31 (by decide)) ?_
      refine yL.ite (fun h13 => ?_) (fun h13 => ?_)
      ·
        refine yL.eq (y_aload_n (pc := 36) (x := 190) d184_36 rfl) ?_
        refine y_callv_v (pc := 37) (n := 1) (n' := 2) (nc' := 0) (ns' := 0) [] [] false d184_37 q184_281 mk_154 s_t_190 rfl rfl (Nat.le_of_ble_eq_true rfl) (Nat.le_of_ble_eq_true rfl) rfl (by decide +kernel) (by decide +kernel) (fun M14 => ?_)
        refine yL.eq (y_aload_n (pc := 40) (x := 190) d184_40 rfl) ?_
        refine yL.eq (y_getr (pc := 41) (r := 191) d184_41 q184_7 s_r_190_1) ?_
        refine yL.eq (y_iload_n (pc := 44) (x := a1) d184_44 rfl) ?_
        refine y_calls_i (pc := 45) (n := 2) (n' := 2) (nc' := 0) (ns' := 0) [.ref 191, .int a1] [] false d184_45 q184_196 rfl rfl rfl (Nat.le_of_ble_eq_true rfl) (Nat.le_of_ble_eq_true rfl) rfl (by decide +kernel) (by decide +kernel) (fun v16 M15 => ?_)
        exact yL.eq (y_ireti (pc := 48) d184_48 mr_184) yL.rf
      ·
        refine yL.eq (y_iconst (pc := 34) (v := 0) d184_34 kc_0) ?_
        exact yL.eq (y_ireti (pc := 35) d184_35 mr_184) yL.rf
    ·
      refine yL.eq (y_iconst (pc := 27) (v := 0) d184_27 kc_0) ?_
      refine y_callv_i (pc := 28) (n := 2) (n' := 2) (nc' := 0) (ns' := 0) [.int 0] [] false d184_28 q184_159 mk_107 s_t_190 rfl rfl (Nat.le_of_ble_eq_true rfl) (Nat.le_of_ble_eq_true rfl) rfl (by decide +kernel) (by decide +kernel) (fun v18 M17 => ?_)
      refine yL.eq (y_if_eq (pc := 31) (t := 36) d184_31 (by decide)) ?_
      refine yL.ite (fun h19 => ?_) (fun h19 => ?_)
      ·
        refine yL.eq (y_aload_n (pc := 36) (x := 190) d184_36 rfl) ?_
        refine y_callv_v (pc := 37) (n := 1) (n' := 2) (nc' := 0) (ns' := 0) [] [] false d184_37 q184_281 mk_154 s_t_190 rfl rfl (Nat.le_of_ble_eq_true rfl) (Nat.le_of_ble_eq_true rfl) rfl (by decide +kernel) (by decide +kernel) (fun M20 => ?_)
        refine yL.eq (y_aload_n (pc := 40) (x := 190) d184_40 rfl) ?_
        refine yL.eq (y_getr (pc := 41) (r := 191) d184_41 q184_7 s_r_190_1) ?_
        refine yL.eq (y_iload_n (pc := 44) (x := a1) d184_44 rfl) ?_
        refine y_calls_i (pc := 45) (n := 2) (n' := 2) (nc' := 0) (ns' := 0) [.ref 191, .int a1] [] false d184_45 q184_196 rfl rfl rfl (Nat.le_of_ble_eq_true rfl) (Nat.le_of_ble_eq_true rfl) rfl (by decide +kernel) (by decide +kernel) (fun v22 M21 => ?_)
        exact yL.eq (y_ireti (pc := 48) d184_48 mr_184) yL.rf
      ·
        refine yL.eq (y_iconst (pc := 34) (v := 0) d184_34 kc_0) ?_
        exact yL.eq (y_ireti (pc := 35) d184_35 mr_184) yL.rf
set_option maxRecDepth 20000 in
set_option maxHeartbeats 4000000 in
theorem e185 {a1 : Int32} {a2 : Int32} {M : yM} : yL (yCi false (yX 114 0 [some (.ref 191), some (.int a1)] [] M 0 0) fun v2 M1 => if v2 = 0 then yCi false (yX 107 0 [some (.ref 190), some (.int 1)] [] M1 0 0) fun v5 M4 => if v5 = 0 then yCv false (yX 154 0 [some (.ref 190), none] [] M4 0 0) fun M7 => yCi false (yX 146 0 [some (.ref 191), some (.int (1 + a1)), some (.int a2), none] [] M7 0 0) fun v9 M8 => yI v9 M8 else yI 0 M4 else yCi false (yX 117 0 [some (.int a2)] [] M1 0 0) fun v11 M10 => if v11 = 0 then yCi false (yX 107 0 [some (.ref 190), some (.int 2)] [] M10 0 0) fun v14 M13 => if v14 = 0 then yCv false (yX 154 0 [some (.ref 190), none] [] M13 0 0) fun M16 => yCi false (yX 146 0 [some (.ref 191), some (.int (1 + a1)), some (.int a2), none] [] M16 0 0) fun v18 M17 => yI v18 M17 else yI 0 M13 else yCi false (yX 107 0 [some (.ref 190), some (.int 0)] [] M10 0 0) fun v20 M19 => if v20 = 0 then yCv false (yX 154 0 [some (.ref 190), none] [] M19 0 0) fun M22 => yCi false (yX 146 0 [some (.ref 191), some (.int (1 + a1)), some (.int a2), none] [] M22 0 0) fun v24 M23 => yI v24 M23 else yI 0 M19) (yX 185 0 [some (.ref 190), some (.int a1), some (.int a2)] [] M 0 0) := by
  refine yL.eq (y_aload_n (pc := 0) (x := 190) d185_0 rfl) ?_
  refine yL.eq (y_aload_n (pc := 1) (x := 190) d185_1 rfl) ?_
  refine yL.eq (y_getr (pc := 2) (r := 191) d185_2 q185_7 s_r_190_1) ?_
  refine yL.eq (y_iload_n (pc := 5) (x := a1) d185_5 rfl) ?_
  refine y_calls_i (pc := 6) (n := 2) (n' := 2) (nc' := 0) (ns' := 0) [.ref 191, .int a1] [.ref 190] false d185_6 q185_207 rfl rfl rfl (Nat.le_of_ble_eq_true rfl) (Nat.le_of_ble_eq_true rfl) rfl (by decide +kernel) (by decide +kernel) (fun v2 M1 => ?_)
  refine yL.eq (y_if_ne (pc := 9) (t := 16) d185_9 (by decide)) ?_
  refine yL.ite (fun h3 => ?_) (fun h3 => ?_)
  ·
    refine yL.eq (y_iconst (pc := 12) (v := 1) d185_12 kc_1) ?_
    refine yL.eq (y_goto (pc := 13) (t := 28) d185_13 (by decide)) ?_
    refine y_callv_i (pc := 28) (n := 2) (n' := 2) (nc' := 0) (ns' := 0) [.int 1] [] false d185_28 q185_159 mk_107 s_t_190 rfl rfl (Nat.le_of_ble_eq_true rfl) (Nat.le_of_ble_eq_true rfl) rfl (by decide +kernel) (by decide +kernel) (fun v5 M4 => ?_)
    refine yL.eq (y_if_eq (pc := 31) (t := 36) d185_31 (by decide)) ?_
    refine yL.ite (fun h6 => ?_) (fun h6 => ?_)
    ·
      refine yL.eq (y_aload_n (pc := 36) (x := 190) d185_36 rfl) ?_
      refine y_callv_v (pc := 37) (n := 1) (n' := 2) (nc' := 0) (ns' := 0) [] [] false d185_37 q185_281 mk_154 s_t_190 rfl rfl (Nat.le_of_ble_eq_true rfl) (Nat.le_of_ble_eq_true rfl) rfl (by decide +kernel) (by decide +kernel) (fun M7 => ?_)
      refine yL.eq (y_aload_n (pc := 40) (x := 190) d185_40 rfl) ?_
      refine yL.eq (y_getr (pc := 41) (r := 191) d185_41 q185_7 s_r_190_1) ?_
      refine yL.eq (y_iconst (pc := 44) (v := 1) d185_44 kc_1) ?_
      refine yL.eq (y_iload_n (pc := 45) (x := a1) d185_45 rfl) ?_
      refine yL.eq (y_iadd (pc := 46) d185_46) ?_
      refine yL.eq (y_iload_n (pc := 47) (x := a2) d185_47 rfl) ?_
      refine y_calls_i (pc := 48) (n := 3) (n' := 4) (nc' := 0) (ns' := 0) [.ref 191, .int (1 + a1), .int a2] [] false d185_48 q185_284 rfl rfl rfl (Nat.le_of_ble_eq_true rfl) (Nat.le_of_ble_eq_true rfl) rfl (by decide +kernel) (by decide +kernel) (fun v9 M8 => ?_)
      exact yL.eq (y_ireti (pc := 51) d185_51 mr_185) yL.rf
    ·
      refine yL.eq (y_iconst (pc := 34) (v := 0) d185_34 kc_0) ?_
      exact yL.eq (y_ireti (pc := 35) d185_35 mr_185) yL.rf
  ·
    refine yL.eq (y_iload_n (pc := 16) (x := a2) d185_16 rfl) ?_
    refine y_calls_i (pc := 17) (n := 1) (n' := 1) (nc' := 0) (ns' := 0) [.int a2] [.ref 190] false d185_17 q185_189 rfl rfl rfl (Nat.le_of_ble_eq_true rfl) (Nat.le_of_ble_eq_true rfl) rfl (by decide +kernel) (by decide +kernel) (fun v11 M10 => ?_)
    refine yL.eq (y_if_ne (pc := 20) (t := 27) d185_20 (by decide)) ?_
    refine yL.ite (fun h12 => ?_) (fun h12 => ?_)
    ·
      refine yL.eq (y_iconst (pc := 23) (v := 2) d185_23 kc_2) ?_
      refine yL.eq (y_goto (pc := 24) (t := 28) d185_24 (by decide)) ?_
      refine y_callv_i (pc := 28) (n := 2) (n' := 2) (nc' := 0) (ns' := 0) [.int 2] [] false d185_28 q185_159 mk_107 s_t_190 rfl rfl (Nat.le_of_ble_eq_true rfl) (Nat.le_of_ble_eq_true rfl) rfl (by decide +kernel) (by decide +kernel) (fun v14 M13 => ?_)
      refine yL.eq (y_if_eq (pc := 31) (t := 36) d185_31 (by decide)) ?_
      refine yL.ite (fun h15 => ?_) (fun h15 => ?_)
      ·
        refine yL.eq (y_aload_n (pc := 36) (x := 190) d185_36 rfl) ?_
        refine y_callv_v (pc := 37) (n := 1) (n' := 2) (nc' := 0) (ns' := 0) [] [] false d185_37 q185_281 mk_154 s_t_190 rfl rfl (Nat.le_of_ble_eq_true rfl) (Nat.le_of_ble_eq_true rfl) rfl (by decide +kernel) (by decide +kernel) (fun M16 => ?_)
        refine yL.eq (y_aload_n (pc := 40) (x := 190) d185_40 rfl) ?_
        refine yL.eq (y_getr (pc := 41) (r := 191) d185_41 q185_7 s_r_190_1) ?_
        refine yL.eq (y_iconst (pc := 44) (v := 1) d185_44 kc_1) ?_
        refine yL.eq (y_iload_n (pc := 45) (x := a1) d185_45 rfl) ?_
        refine yL.eq (y_iadd (pc := 46) d185_46) ?_
        refine yL.eq (y_iload_n (pc := 47) (x := a2) d185_47 rfl) ?_
        refine y_calls_i (pc := 48) (n := 3) (n' := 4) (nc' := 0) (ns' := 0) [.ref 191, .int (1 + a1), .int a2] [] false d185_48 q185_284 rfl rfl rfl (Nat.le_of_ble_eq_true rfl) (Nat.le_of_ble_eq_true rfl) rfl (by decide +kernel) (by decide +kernel) (fun v18 M17 => ?_)
        exact yL.eq (y_ireti (pc := 51) d185_51 mr_185) yL.rf
      ·
        refine yL.eq (y_iconst (pc := 34) (v := 0) d185_34 kc_0) ?_
        exact yL.eq (y_ireti (pc := 35) d185_35 mr_185) yL.rf
    ·
      refine yL.eq (y_iconst (pc := 27) (v := 0) d185_27 kc_0) ?_
      refine y_callv_i (pc := 28) (n := 2) (n' := 2) (nc' := 0) (ns' := 0) [.int 0] [] false d185_28 q185_159 mk_107 s_t_190 rfl rfl (Nat.le_of_ble_eq_true rfl) (Nat.le_of_ble_eq_true rfl) rfl (by decide +kernel) (by decide +kernel) (fun v20 M19 => ?_)
      refine yL.eq (y_if_eq (pc := 31) (t := 36) d185_31 (by decide)) ?_
      refine yL.ite (fun h21 => ?_) (fun h21 => ?_)
      ·
        refine yL.eq (y_aload_n (pc := 36) (x := 190) d185_36 rfl) ?_
        refine y_callv_v (pc := 37) (n := 1) (n' := 2) (nc' := 0) (ns' := 0) [] [] false d185_37 q185_281 mk_154 s_t_190 rfl rfl (Nat.le_of_ble_eq_true rfl) (Nat.le_of_ble_eq_true rfl) rfl (by decide +kernel) (by decide +kernel) (fun M22 => ?_)
        refine yL.eq (y_aload_n (pc := 40) (x := 190) d185_40 rfl) ?_
        refine yL.eq (y_getr (pc := 41) (r := 191) d185_41 q185_7 s_r_190_1) ?_
        refine yL.eq (y_iconst (pc := 44) (v := 1) d185_44 kc_1) ?_
        refine yL.eq (y_iload_n (pc := 45) (x := a1) d185_45 rfl) ?_
        refine yL.eq (y_iadd (pc := 46) d185_46) ?_
        refine yL.eq (y_iload_n (pc := 47) (x := a2) d185_47 rfl) ?_
        refine y_calls_i (pc := 48) (n := 3) (n' := 4) (nc' := 0) (ns' := 0) [.ref 191, .int (1 + a1), .int a2] [] false d185_48 q185_284 rfl rfl rfl (Nat.le_of_ble_eq_true rfl) (Nat.le_of_ble_eq_true rfl) rfl (by decide +kernel) (by decide +kernel) (fun v24 M23 => ?_)
        exact yL.eq (y_ireti (pc := 51) d185_51 mr_185) yL.rf
      ·
        refine yL.eq (y_iconst (pc := 34) (v := 0) d185_34 kc_0) ?_
        exact yL.eq (y_ireti (pc := 35) d185_35 mr_185) yL.rf
set_option maxRecDepth 20000 in
set_option maxHeartbeats 4000000 in
theorem e186 {a1 : Int32} {a2 : Int32} {M : yM} : yL (yCi false (yX 119 0 [some (.int a1)] [] M 0 0) fun v2 M1 => if v2 = 0 then yCi false (yX 107 0 [some (.ref 190), some (.int 1)] [] M1 0 0) fun v5 M4 => if v5 = 0 then yCv false (yX 154 0 [some (.ref 190), none] [] M4 0 0) fun M7 => yCi false (yX 148 0 [some (.ref 191), some (.int a1), some (.int a2)] [] M7 0 0) fun v9 M8 => yI v9 M8 else yI 0 M4 else yCi false (yX 119 0 [some (.int a2)] [] M1 0 0) fun v11 M10 => if v11 = 0 then yCi false (yX 107 0 [some (.ref 190), some (.int 1)] [] M10 0 0) fun v14 M13 => if v14 = 0 then yCv false (yX 154 0 [some (.ref 190), none] [] M13 0 0) fun M16 => yCi false (yX 148 0 [some (.ref 191), some (.int a1), some (.int a2)] [] M16 0 0) fun v18 M17 => yI v18 M17 else yI 0 M13 else yCi false (yX 107 0 [some (.ref 190), some (.int 0)] [] M10 0 0) fun v20 M19 => if v20 = 0 then yCv false (yX 154 0 [some (.ref 190), none] [] M19 0 0) fun M22 => yCi false (yX 148 0 [some (.ref 191), some (.int a1), some (.int a2)] [] M22 0 0) fun v24 M23 => yI v24 M23 else yI 0 M19) (yX 186 0 [some (.ref 190), some (.int a1), some (.int a2)] [] M 0 0) := by
  refine yL.eq (y_aload_n (pc := 0) (x := 190) d186_0 rfl) ?_
  refine yL.eq (y_iload_n (pc := 1) (x := a1) d186_1 rfl) ?_
  refine y_calls_i (pc := 2) (n := 1) (n' := 1) (nc' := 0) (ns' := 0) [.int a1] [.ref 190] false d186_2 q186_287 rfl rfl rfl (Nat.le_of_ble_eq_true rfl) (Nat.le_of_ble_eq_true rfl) rfl (by decide +kernel) (by decide +kernel) (fun v2 M1 => ?_)
  refine yL.eq (y_if_eq (pc := 5) (t := 19) d186_5 (by decide)) ?_
  refine yL.ite (fun h3 => ?_) (fun h3 => ?_)
  ·
    refine yL.eq (y_iconst (pc := 19) (v := 1) d186_19 kc_1) ?_
    refine y_callv_i (pc := 20) (n := 2) (n' := 2) (nc' := 0) (ns' := 0) [.int 1] [] false d186_20 q186_159 mk_107 s_t_190 rfl rfl (Nat.le_of_ble_eq_true rfl) (Nat.le_of_ble_eq_true rfl) rfl (by decide +kernel) (by decide +kernel) (fun v5 M4 => ?_)
    refine yL.eq (y_if_eq (pc := 23) (t := 28) d186_23 (by decide)) ?_
    refine yL.ite (fun h6 => ?_) (fun h6 => ?_)
    ·
      refine yL.eq (y_aload_n (pc := 28) (x := 190) d186_28 rfl) ?_
      refine y_callv_v (pc := 29) (n := 1) (n' := 2) (nc' := 0) (ns' := 0) [] [] false d186_29 q186_281 mk_154 s_t_190 rfl rfl (Nat.le_of_ble_eq_true rfl) (Nat.le_of_ble_eq_true rfl) rfl (by decide +kernel) (by decide +kernel) (fun M7 => ?_)
      refine yL.eq (y_aload_n (pc := 32) (x := 190) d186_32 rfl) ?_
      refine yL.eq (y_getr (pc := 33) (r := 191) d186_33 q186_7 s_r_190_1) ?_
      refine yL.eq (y_iload_n (pc := 36) (x := a1) d186_36 rfl) ?_
      refine yL.eq (y_iload_n (pc := 37) (x := a2) d186_37 rfl) ?_
      refine y_calls_i (pc := 38) (n := 3) (n' := 3) (nc' := 0) (ns' := 0) [.ref 191, .int a1, .int a2] [] false d186_38 q186_290 rfl rfl rfl (Nat.le_of_ble_eq_true rfl) (Nat.le_of_ble_eq_true rfl) rfl (by decide +kernel) (by decide +kernel) (fun v9 M8 => ?_)
      exact yL.eq (y_ireti (pc := 41) d186_41 mr_186) yL.rf
    ·
      refine yL.eq (y_iconst (pc := 26) (v := 0) d186_26 kc_0) ?_
      exact yL.eq (y_ireti (pc := 27) d186_27 mr_186) yL.rf
  ·
    refine yL.eq (y_iload_n (pc := 8) (x := a2) d186_8 rfl) ?_
    refine y_calls_i (pc := 9) (n := 1) (n' := 1) (nc' := 0) (ns' := 0) [.int a2] [.ref 190] false d186_9 q186_287 rfl rfl rfl (Nat.le_of_ble_eq_true rfl) (Nat.le_of_ble_eq_true rfl) rfl (by decide +kernel) (by decide +kernel) (fun v11 M10 => ?_)
    refine yL.eq (y_if_eq (pc := 12) (t := 19) d186_12 (by decide)) ?_
    refine yL.ite (fun h12 => ?_) (fun h12 => ?_)
    ·
      refine yL.eq (y_iconst (pc := 19) (v := 1) d186_19 kc_1) ?_
      refine y_callv_i (pc := 20) (n := 2) (n' := 2) (nc' := 0) (ns' := 0) [.int 1] [] false d186_20 q186_159 mk_107 s_t_190 rfl rfl (Nat.le_of_ble_eq_true rfl) (Nat.le_of_ble_eq_true rfl) rfl (by decide +kernel) (by decide +kernel) (fun v14 M13 => ?_)
      refine yL.eq (y_if_eq (pc := 23) (t := 28) d186_23 (by decide)) ?_
      refine yL.ite (fun h15 => ?_) (fun h15 => ?_)
      ·
        refine yL.eq (y_aload_n (pc := 28) (x := 190) d186_28 rfl) ?_
        refine y_callv_v (pc := 29) (n := 1) (n' := 2) (nc' := 0) (ns' := 0) [] [] false d186_29 q186_281 mk_154 s_t_190 rfl rfl (Nat.le_of_ble_eq_true rfl) (Nat.le_of_ble_eq_true rfl) rfl (by decide +kernel) (by decide +kernel) (fun M16 => ?_)
        refine yL.eq (y_aload_n (pc := 32) (x := 190) d186_32 rfl) ?_
        refine yL.eq (y_getr (pc := 33) (r := 191) d186_33 q186_7 s_r_190_1) ?_
        refine yL.eq (y_iload_n (pc := 36) (x := a1) d186_36 rfl) ?_
        refine yL.eq (y_iload_n (pc := 37) (x := a2) d186_37 rfl) ?_
        refine y_calls_i (pc := 38) (n := 3) (n' := 3) (nc' := 0) (ns' := 0) [.ref 191, .int a1, .int a2] [] false d186_38 q186_290 rfl rfl rfl (Nat.le_of_ble_eq_true rfl) (Nat.le_of_ble_eq_true rfl) rfl (by decide +kernel) (by decide +kernel) (fun v18 M17 => ?_)
        exact yL.eq (y_ireti (pc := 41) d186_41 mr_186) yL.rf
      ·
        refine yL.eq (y_iconst (pc := 26) (v := 0) d186_26 kc_0) ?_
        exact yL.eq (y_ireti (pc := 27) d186_27 mr_186) yL.rf
    ·
      refine yL.eq (y_iconst (pc := 15) (v := 0) d186_15 kc_0) ?_
      refine yL.eq (y_goto (pc := 16) (t := 20) d186_16 (by decide)) ?_
      refine y_callv_i (pc := 20) (n := 2) (n' := 2) (nc' := 0) (ns' := 0) [.int 0] [] false d186_20 q186_159 mk_107 s_t_190 rfl rfl (Nat.le_of_ble_eq_true rfl) (Nat.le_of_ble_eq_true rfl) rfl (by decide +kernel) (by decide +kernel) (fun v20 M19 => ?_)
      refine yL.eq (y_if_eq (pc := 23) (t := 28) d186_23 (by decide)) ?_
      refine yL.ite (fun h21 => ?_) (fun h21 => ?_)
      ·
        refine yL.eq (y_aload_n (pc := 28) (x := 190) d186_28 rfl) ?_
        refine y_callv_v (pc := 29) (n := 1) (n' := 2) (nc' := 0) (ns' := 0) [] [] false d186_29 q186_281 mk_154 s_t_190 rfl rfl (Nat.le_of_ble_eq_true rfl) (Nat.le_of_ble_eq_true rfl) rfl (by decide +kernel) (by decide +kernel) (fun M22 => ?_)
        refine yL.eq (y_aload_n (pc := 32) (x := 190) d186_32 rfl) ?_
        refine yL.eq (y_getr (pc := 33) (r := 191) d186_33 q186_7 s_r_190_1) ?_
        refine yL.eq (y_iload_n (pc := 36) (x := a1) d186_36 rfl) ?_
        refine yL.eq (y_iload_n (pc := 37) (x := a2) d186_37 rfl) ?_
        refine y_calls_i (pc := 38) (n := 3) (n' := 3) (nc' := 0) (ns' := 0) [.ref 191, .int a1, .int a2] [] false d186_38 q186_290 rfl rfl rfl (Nat.le_of_ble_eq_true rfl) (Nat.le_of_ble_eq_true rfl) rfl (by decide +kernel) (by decide +kernel) (fun v24 M23 => ?_)
        exact yL.eq (y_ireti (pc := 41) d186_41 mr_186) yL.rf
      ·
        refine yL.eq (y_iconst (pc := 26) (v := 0) d186_26 kc_0) ?_
        exact yL.eq (y_ireti (pc := 27) d186_27 mr_186) yL.rf
set_option maxRecDepth 20000 in
set_option maxHeartbeats 4000000 in
theorem e187 {a1 : Int32} {a2 : Int32} {a3 : Int32} {M : yM} : yL (yCi false (yX 149 0 [some (.int a1), some (.int a2)] [] M 0 0) fun v2 M1 => if v2 = 0 then yCi false (yX 107 0 [some (.ref 190), some (.int 1)] [] M1 0 0) fun v5 M4 => if v5 = 0 then yCv false (yX 154 0 [some (.ref 190), none] [] M4 0 0) fun M7 => yCi false (yX 150 0 [some (.ref 191), some (.int a1), some (.int a2), some (.int a3), none] [] M7 0 0) fun v9 M8 => yI v9 M8 else yI 0 M4 else if (M1 191 15) = 14 then yCi false (yX 107 0 [some (.ref 190), some (.int 2)] [] M1 0 0) fun v12 M11 => if v12 = 0 then yCv false (yX 154 0 [some (.ref 190), none] [] M11 0 0) fun M14 => yCi false (yX 150 0 [some (.ref 191), some (.int a1), some (.int a2), some (.int a3), none] [] M14 0 0) fun v16 M15 => yI v16 M15 else yI 0 M11 else yCi false (yX 107 0 [some (.ref 190), some (.int 0)] [] M1 0 0) fun v18 M17 => if v18 = 0 then yCv false (yX 154 0 [some (.ref 190), none] [] M17 0 0) fun M20 => yCi false (yX 150 0 [some (.ref 191), some (.int a1), some (.int a2), some (.int a3), none] [] M20 0 0) fun v22 M21 => yI v22 M21 else yI 0 M17) (yX 187 0 [some (.ref 190), some (.int a1), some (.int a2), some (.int a3)] [] M 0 0) := by
  refine yL.eq (y_aload_n (pc := 0) (x := 190) d187_0 rfl) ?_
  refine yL.eq (y_iload_n (pc := 1) (x := a1) d187_1 rfl) ?_
  refine yL.eq (y_iload_n (pc := 2) (x := a2) d187_2 rfl) ?_
  refine y_calls_i (pc := 3) (n := 2) (n' := 2) (nc' := 0) (ns' := 0) [.int a1, .int a2] [.ref 190] false d187_3 q187_293 rfl rfl rfl (Nat.le_of_ble_eq_true rfl) (Nat.le_of_ble_eq_true rfl) rfl (by decide +kernel) (by decide +kernel) (fun v2 M1 => ?_)
  refine yL.eq (y_if_ne (pc := 6) (t := 13) d187_6 (by decide)) ?_
  refine yL.ite (fun h3 => ?_) (fun h3 => ?_)
  ·
    refine yL.eq (y_iconst (pc := 9) (v := 1) d187_9 kc_1) ?_
    refine yL.eq (y_goto (pc := 10) (t := 30) d187_10 (by decide)) ?_
    refine y_callv_i (pc := 30) (n := 2) (n' := 2) (nc' := 0) (ns' := 0) [.int 1] [] false d187_30 q187_159 mk_107 s_t_190 rfl rfl (Nat.le_of_ble_eq_true rfl) (Nat.le_of_ble_eq_true rfl) rfl (by decide +kernel) (by decide +kernel) (fun v5 M4 => ?_)
    refine yL.eq (y_if_eq (pc := 33) (t := 38) d187_33 (by decide)) ?_
    refine yL.ite (fun h6 => ?_) (fun h6 => ?_)
    ·
      refine yL.eq (y_aload_n (pc := 38) (x := 190) d187_38 rfl) ?_
      refine y_callv_v (pc := 39) (n := 1) (n' := 2) (nc' := 0) (ns' := 0) [] [] false d187_39 q187_281 mk_154 s_t_190 rfl rfl (Nat.le_of_ble_eq_true rfl) (Nat.le_of_ble_eq_true rfl) rfl (by decide +kernel) (by decide +kernel) (fun M7 => ?_)
      refine yL.eq (y_aload_n (pc := 42) (x := 190) d187_42 rfl) ?_
      refine yL.eq (y_getr (pc := 43) (r := 191) d187_43 q187_7 s_r_190_1) ?_
      refine yL.eq (y_iload_n (pc := 46) (x := a1) d187_46 rfl) ?_
      refine yL.eq (y_iload_n (pc := 47) (x := a2) d187_47 rfl) ?_
      refine yL.eq (y_iload_n (pc := 48) (x := a3) d187_48 rfl) ?_
      refine y_calls_i (pc := 49) (n := 4) (n' := 5) (nc' := 0) (ns' := 0) [.ref 191, .int a1, .int a2, .int a3] [] false d187_49 q187_199 rfl rfl rfl (Nat.le_of_ble_eq_true rfl) (Nat.le_of_ble_eq_true rfl) rfl (by decide +kernel) (by decide +kernel) (fun v9 M8 => ?_)
      exact yL.eq (y_ireti (pc := 52) d187_52 mr_187) yL.rf
    ·
      refine yL.eq (y_iconst (pc := 36) (v := 0) d187_36 kc_0) ?_
      exact yL.eq (y_ireti (pc := 37) d187_37 mr_187) yL.rf
  ·
    refine yL.eq (y_aload_n (pc := 13) (x := 190) d187_13 rfl) ?_
    refine yL.eq (y_getr (pc := 14) (r := 191) d187_14 q187_7 s_r_190_1) ?_
    refine yL.eq (y_bipush (pc := 17) (v := 15) d187_17 kb_15) ?_
    refine yL.eq (y_iald (pc := 19) (n := 95) d187_19 (yR_a yR191)) ?_
    refine yL.eq (if_pos in_15_95) ?_
    show yL _ (yX 187 20 [some (.ref 190), some (.int a1), some (.int a2), some (.int a3)] ([.int (M1 191 15), .ref 190]) M1 0 0)
    refine yL.eq (y_bipush (pc := 20) (v := 14) d187_20 kb_14) ?_
    refine yL.eq (y_icmp_ne (pc := 22) (t := 29) d187_22 (by decide)) ?_
    refine yL.ite (fun h10 => ?_) (fun h10 => ?_)
    ·
      refine yL.eq (y_iconst (pc := 25) (v := 2) d187_25 kc_2) ?_
      refine yL.eq (y_goto (pc := 26) (t := 30) d187_26 (by decide)) ?_
      refine y_callv_i (pc := 30) (n := 2) (n' := 2) (nc' := 0) (ns' := 0) [.int 2] [] false d187_30 q187_159 mk_107 s_t_190 rfl rfl (Nat.le_of_ble_eq_true rfl) (Nat.le_of_ble_eq_true rfl) rfl (by decide +kernel) (by decide +kernel) (fun v12 M11 => ?_)
      refine yL.eq (y_if_eq (pc := 33) (t := 38) d187_33 (by decide)) ?_
      refine yL.ite (fun h13 => ?_) (fun h13 => ?_)
      ·
        refine yL.eq (y_aload_n (pc := 38) (x := 190) d187_38 rfl) ?_
        refine y_callv_v (pc := 39) (n := 1) (n' := 2) (nc' := 0) (ns' := 0) [] [] false d187_39 q187_281 mk_154 s_t_190 rfl rfl (Nat.le_of_ble_eq_true rfl) (Nat.le_of_ble_eq_true rfl) rfl (by decide +kernel) (by decide +kernel) (fun M14 => ?_)
        refine yL.eq (y_aload_n (pc := 42) (x := 190) d187_42 rfl) ?_
        refine yL.eq (y_getr (pc := 43) (r := 191) d187_43 q187_7 s_r_190_1) ?_
        refine yL.eq (y_iload_n (pc := 46) (x := a1) d187_46 rfl) ?_
        refine yL.eq (y_iload_n (pc := 47) (x := a2) d187_47 rfl) ?_
        refine yL.eq (y_iload_n (pc := 48) (x := a3) d187_48 rfl) ?_
        refine y_calls_i (pc := 49) (n := 4) (n' := 5) (nc' := 0) (ns' := 0) [.ref 191, .int a1, .int a2, .int a3] [] false d187_49 q187_199 rfl rfl rfl (Nat.le_of_ble_eq_true rfl) (Nat.le_of_ble_eq_true rfl) rfl (by decide +kernel) (by decide +kernel) (fun v16 M15 => ?_)
        exact yL.eq (y_ireti (pc := 52) d187_52 mr_187) yL.rf
      ·
        refine yL.eq (y_iconst (pc := 36) (v := 0) d187_36 kc_0) ?_
        exact yL.eq (y_ireti (pc := 37) d187_37 mr_187) yL.rf
    ·
      refine yL.eq (y_iconst (pc := 29) (v := 0) d187_29 kc_0) ?_
      refine y_callv_i (pc := 30) (n := 2) (n' := 2) (nc' := 0) (ns' := 0) [.int 0] [] false d187_30 q187_159 mk_107 s_t_190 rfl rfl (Nat.le_of_ble_eq_true rfl) (Nat.le_of_ble_eq_true rfl) rfl (by decide +kernel) (by decide +kernel) (fun v18 M17 => ?_)
      refine yL.eq (y_if_eq (pc := 33) (t := 38) d187_33 (by decide)) ?_
      refine yL.ite (fun h19 => ?_) (fun h19 => ?_)
      ·
        refine yL.eq (y_aload_n (pc := 38) (x := 190) d187_38 rfl) ?_
        refine y_callv_v (pc := 39) (n := 1) (n' := 2) (nc' := 0) (ns' := 0) [] [] false d187_39 q187_281 mk_154 s_t_190 rfl rfl (Nat.le_of_ble_eq_true rfl) (Nat.le_of_ble_eq_true rfl) rfl (by decide +kernel) (by decide +kernel) (fun M20 => ?_)
        refine yL.eq (y_aload_n (pc := 42) (x := 190) d187_42 rfl) ?_
        refine yL.eq (y_getr (pc := 43) (r := 191) d187_43 q187_7 s_r_190_1) ?_
        refine yL.eq (y_iload_n (pc := 46) (x := a1) d187_46 rfl) ?_
        refine yL.eq (y_iload_n (pc := 47) (x := a2) d187_47 rfl) ?_
        refine yL.eq (y_iload_n (pc := 48) (x := a3) d187_48 rfl) ?_
        refine y_calls_i (pc := 49) (n := 4) (n' := 5) (nc' := 0) (ns' := 0) [.ref 191, .int a1, .int a2, .int a3] [] false d187_49 q187_199 rfl rfl rfl (Nat.le_of_ble_eq_true rfl) (Nat.le_of_ble_eq_true rfl) rfl (by decide +kernel) (by decide +kernel) (fun v22 M21 => ?_)
        exact yL.eq (y_ireti (pc := 52) d187_52 mr_187) yL.rf
      ·
        refine yL.eq (y_iconst (pc := 36) (v := 0) d187_36 kc_0) ?_
        exact yL.eq (y_ireti (pc := 37) d187_37 mr_187) yL.rf
set_option maxRecDepth 20000 in
set_option maxHeartbeats 4000000 in
theorem e188 {a1 : Int32} {a2 : Int32} {M : yM} : yL (yCi false (yX 115 0 [some (.ref 191), some (.int a1)] [] M 0 0) fun v2 M1 => if v2 = 0 then yCi false (yX 107 0 [some (.ref 190), some (.int 1)] [] M1 0 0) fun v5 M4 => if v5 = 0 then yCv false (yX 154 0 [some (.ref 190), none] [] M4 0 0) fun M7 => yCi false (yX 146 0 [some (.ref 191), some (.int (16 + a1)), some (.int a2), none] [] M7 0 0) fun v9 M8 => yI v9 M8 else yI 0 M4 else yCi false (yX 118 0 [some (.int a2)] [] M1 0 0) fun v11 M10 => if v11 = 0 then yCi false (yX 107 0 [some (.ref 190), some (.int 2)] [] M10 0 0) fun v14 M13 => if v14 = 0 then yCv false (yX 154 0 [some (.ref 190), none] [] M13 0 0) fun M16 => yCi false (yX 146 0 [some (.ref 191), some (.int (16 + a1)), some (.int a2), none] [] M16 0 0) fun v18 M17 => yI v18 M17 else yI 0 M13 else yCi false (yX 107 0 [some (.ref 190), some (.int 0)] [] M10 0 0) fun v20 M19 => if v20 = 0 then yCv false (yX 154 0 [some (.ref 190), none] [] M19 0 0) fun M22 => yCi false (yX 146 0 [some (.ref 191), some (.int (16 + a1)), some (.int a2), none] [] M22 0 0) fun v24 M23 => yI v24 M23 else yI 0 M19) (yX 188 0 [some (.ref 190), some (.int a1), some (.int a2)] [] M 0 0) := by
  refine yL.eq (y_aload_n (pc := 0) (x := 190) d188_0 rfl) ?_
  refine yL.eq (y_aload_n (pc := 1) (x := 190) d188_1 rfl) ?_
  refine yL.eq (y_getr (pc := 2) (r := 191) d188_2 q188_7 s_r_190_1) ?_
  refine yL.eq (y_iload_n (pc := 5) (x := a1) d188_5 rfl) ?_
  refine y_calls_i (pc := 6) (n := 2) (n' := 2) (nc' := 0) (ns' := 0) [.ref 191, .int a1] [.ref 190] false d188_6 q188_203 rfl rfl rfl (Nat.le_of_ble_eq_true rfl) (Nat.le_of_ble_eq_true rfl) rfl (by decide +kernel) (by decide +kernel) (fun v2 M1 => ?_)
  refine yL.eq (y_if_ne (pc := 9) (t := 16) d188_9 (by decide)) ?_
  refine yL.ite (fun h3 => ?_) (fun h3 => ?_)
  ·
    refine yL.eq (y_iconst (pc := 12) (v := 1) d188_12 kc_1) ?_
    refine yL.eq (y_goto (pc := 13) (t := 28) d188_13 (by decide)) ?_
    refine y_callv_i (pc := 28) (n := 2) (n' := 2) (nc' := 0) (ns' := 0) [.int 1] [] false d188_28 q188_159 mk_107 s_t_190 rfl rfl (Nat.le_of_ble_eq_true rfl) (Nat.le_of_ble_eq_true rfl) rfl (by decide +kernel) (by decide +kernel) (fun v5 M4 => ?_)
    refine yL.eq (y_if_eq (pc := 31) (t := 36) d188_31 (by decide)) ?_
    refine yL.ite (fun h6 => ?_) (fun h6 => ?_)
    ·
      refine yL.eq (y_aload_n (pc := 36) (x := 190) d188_36 rfl) ?_
      refine y_callv_v (pc := 37) (n := 1) (n' := 2) (nc' := 0) (ns' := 0) [] [] false d188_37 q188_281 mk_154 s_t_190 rfl rfl (Nat.le_of_ble_eq_true rfl) (Nat.le_of_ble_eq_true rfl) rfl (by decide +kernel) (by decide +kernel) (fun M7 => ?_)
      refine yL.eq (y_aload_n (pc := 40) (x := 190) d188_40 rfl) ?_
      refine yL.eq (y_getr (pc := 41) (r := 191) d188_41 q188_7 s_r_190_1) ?_
      refine yL.eq (y_bipush (pc := 44) (v := 16) d188_44 kb_16) ?_
      refine yL.eq (y_iload_n (pc := 46) (x := a1) d188_46 rfl) ?_
      refine yL.eq (y_iadd (pc := 47) d188_47) ?_
      refine yL.eq (y_iload_n (pc := 48) (x := a2) d188_48 rfl) ?_
      refine y_calls_i (pc := 49) (n := 3) (n' := 4) (nc' := 0) (ns' := 0) [.ref 191, .int (16 + a1), .int a2] [] false d188_49 q188_284 rfl rfl rfl (Nat.le_of_ble_eq_true rfl) (Nat.le_of_ble_eq_true rfl) rfl (by decide +kernel) (by decide +kernel) (fun v9 M8 => ?_)
      exact yL.eq (y_ireti (pc := 52) d188_52 mr_188) yL.rf
    ·
      refine yL.eq (y_iconst (pc := 34) (v := 0) d188_34 kc_0) ?_
      exact yL.eq (y_ireti (pc := 35) d188_35 mr_188) yL.rf
  ·
    refine yL.eq (y_iload_n (pc := 16) (x := a2) d188_16 rfl) ?_
    refine y_calls_i (pc := 17) (n := 1) (n' := 1) (nc' := 0) (ns' := 0) [.int a2] [.ref 190] false d188_17 q188_142 rfl rfl rfl (Nat.le_of_ble_eq_true rfl) (Nat.le_of_ble_eq_true rfl) rfl (by decide +kernel) (by decide +kernel) (fun v11 M10 => ?_)
    refine yL.eq (y_if_ne (pc := 20) (t := 27) d188_20 (by decide)) ?_
    refine yL.ite (fun h12 => ?_) (fun h12 => ?_)
    ·
      refine yL.eq (y_iconst (pc := 23) (v := 2) d188_23 kc_2) ?_
      refine yL.eq (y_goto (pc := 24) (t := 28) d188_24 (by decide)) ?_
      refine y_callv_i (pc := 28) (n := 2) (n' := 2) (nc' := 0) (ns' := 0) [.int 2] [] false d188_28 q188_159 mk_107 s_t_190 rfl rfl (Nat.le_of_ble_eq_true rfl) (Nat.le_of_ble_eq_true rfl) rfl (by decide +kernel) (by decide +kernel) (fun v14 M13 => ?_)
      refine yL.eq (y_if_eq (pc := 31) (t := 36) d188_31 (by decide)) ?_
      refine yL.ite (fun h15 => ?_) (fun h15 => ?_)
      ·
        refine yL.eq (y_aload_n (pc := 36) (x := 190) d188_36 rfl) ?_
        refine y_callv_v (pc := 37) (n := 1) (n' := 2) (nc' := 0) (ns' := 0) [] [] false d188_37 q188_281 mk_154 s_t_190 rfl rfl (Nat.le_of_ble_eq_true rfl) (Nat.le_of_ble_eq_true rfl) rfl (by decide +kernel) (by decide +kernel) (fun M16 => ?_)
        refine yL.eq (y_aload_n (pc := 40) (x := 190) d188_40 rfl) ?_
        refine yL.eq (y_getr (pc := 41) (r := 191) d188_41 q188_7 s_r_190_1) ?_
        refine yL.eq (y_bipush (pc := 44) (v := 16) d188_44 kb_16) ?_
        refine yL.eq (y_iload_n (pc := 46) (x := a1) d188_46 rfl) ?_
        refine yL.eq (y_iadd (pc := 47) d188_47) ?_
        refine yL.eq (y_iload_n (pc := 48) (x := a2) d188_48 rfl) ?_
        refine y_calls_i (pc := 49) (n := 3) (n' := 4) (nc' := 0) (ns' := 0) [.ref 191, .int (16 + a1), .int a2] [] false d188_49 q188_284 rfl rfl rfl (Nat.le_of_ble_eq_true rfl) (Nat.le_of_ble_eq_true rfl) rfl (by decide +kernel) (by decide +kernel) (fun v18 M17 => ?_)
        exact yL.eq (y_ireti (pc := 52) d188_52 mr_188) yL.rf
      ·
        refine yL.eq (y_iconst (pc := 34) (v := 0) d188_34 kc_0) ?_
        exact yL.eq (y_ireti (pc := 35) d188_35 mr_188) yL.rf
    ·
      refine yL.eq (y_iconst (pc := 27) (v := 0) d188_27 kc_0) ?_
      refine y_callv_i (pc := 28) (n := 2) (n' := 2) (nc' := 0) (ns' := 0) [.int 0] [] false d188_28 q188_159 mk_107 s_t_190 rfl rfl (Nat.le_of_ble_eq_true rfl) (Nat.le_of_ble_eq_true rfl) rfl (by decide +kernel) (by decide +kernel) (fun v20 M19 => ?_)
      refine yL.eq (y_if_eq (pc := 31) (t := 36) d188_31 (by decide)) ?_
      refine yL.ite (fun h21 => ?_) (fun h21 => ?_)
      ·
        refine yL.eq (y_aload_n (pc := 36) (x := 190) d188_36 rfl) ?_
        refine y_callv_v (pc := 37) (n := 1) (n' := 2) (nc' := 0) (ns' := 0) [] [] false d188_37 q188_281 mk_154 s_t_190 rfl rfl (Nat.le_of_ble_eq_true rfl) (Nat.le_of_ble_eq_true rfl) rfl (by decide +kernel) (by decide +kernel) (fun M22 => ?_)
        refine yL.eq (y_aload_n (pc := 40) (x := 190) d188_40 rfl) ?_
        refine yL.eq (y_getr (pc := 41) (r := 191) d188_41 q188_7 s_r_190_1) ?_
        refine yL.eq (y_bipush (pc := 44) (v := 16) d188_44 kb_16) ?_
        refine yL.eq (y_iload_n (pc := 46) (x := a1) d188_46 rfl) ?_
        refine yL.eq (y_iadd (pc := 47) d188_47) ?_
        refine yL.eq (y_iload_n (pc := 48) (x := a2) d188_48 rfl) ?_
        refine y_calls_i (pc := 49) (n := 3) (n' := 4) (nc' := 0) (ns' := 0) [.ref 191, .int (16 + a1), .int a2] [] false d188_49 q188_284 rfl rfl rfl (Nat.le_of_ble_eq_true rfl) (Nat.le_of_ble_eq_true rfl) rfl (by decide +kernel) (by decide +kernel) (fun v24 M23 => ?_)
        exact yL.eq (y_ireti (pc := 52) d188_52 mr_188) yL.rf
      ·
        refine yL.eq (y_iconst (pc := 34) (v := 0) d188_34 kc_0) ?_
        exact yL.eq (y_ireti (pc := 35) d188_35 mr_188) yL.rf
set_option maxRecDepth 20000 in
set_option maxHeartbeats 4000000 in
theorem e189 {a1 : Int32} {a2 : Int32} {a3 : Int32} {M : yM} : yL (yCi false (yX 115 0 [some (.ref 191), some (.int a1)] [] M 0 0) fun v2 M1 => if v2 = 0 then yCi false (yX 107 0 [some (.ref 190), some (.int 1)] [] M1 0 0) fun v5 M4 => if v5 = 0 then yCv false (yX 154 0 [some (.ref 190), none] [] M4 0 0) fun M7 => yCi false (yX 151 0 [some (.ref 191), some (.int a1), some (.int a2), some (.int a3), none] [] M7 0 0) fun v9 M8 => yI v9 M8 else yI 0 M4 else yCi false (yX 114 0 [some (.ref 191), some (.int a2)] [] M1 0 0) fun v11 M10 => if v11 = 0 then yCi false (yX 107 0 [some (.ref 190), some (.int 1)] [] M10 0 0) fun v14 M13 => if v14 = 0 then yCv false (yX 154 0 [some (.ref 190), none] [] M13 0 0) fun M16 => yCi false (yX 151 0 [some (.ref 191), some (.int a1), some (.int a2), some (.int a3), none] [] M16 0 0) fun v18 M17 => yI v18 M17 else yI 0 M13 else yCi false (yX 107 0 [some (.ref 190), some (.int 0)] [] M10 0 0) fun v20 M19 => if v20 = 0 then yCv false (yX 154 0 [some (.ref 190), none] [] M19 0 0) fun M22 => yCi false (yX 151 0 [some (.ref 191), some (.int a1), some (.int a2), some (.int a3), none] [] M22 0 0) fun v24 M23 => yI v24 M23 else yI 0 M19) (yX 189 0 [some (.ref 190), some (.int a1), some (.int a2), some (.int a3)] [] M 0 0) := by
  refine yL.eq (y_aload_n (pc := 0) (x := 190) d189_0 rfl) ?_
  refine yL.eq (y_aload_n (pc := 1) (x := 190) d189_1 rfl) ?_
  refine yL.eq (y_getr (pc := 2) (r := 191) d189_2 q189_7 s_r_190_1) ?_
  refine yL.eq (y_iload_n (pc := 5) (x := a1) d189_5 rfl) ?_
  refine y_calls_i (pc := 6) (n := 2) (n' := 2) (nc' := 0) (ns' := 0) [.ref 191, .int a1] [.ref 190] false d189_6 q189_203 rfl rfl rfl (Nat.le_of_ble_eq_true rfl) (Nat.le_of_ble_eq_true rfl) rfl (by decide +kernel) (by decide +kernel) (fun v2 M1 => ?_)
  refine yL.eq (y_if_eq (pc := 9) (t := 27) d189_9 (by decide)) ?_
  refine yL.ite (fun h3 => ?_) (fun h3 => ?_)
  ·
    refine yL.eq (y_iconst (pc := 27) (v := 1) d189_27 kc_1) ?_
    refine y_callv_i (pc := 28) (n := 2) (n' := 2) (nc' := 0) (ns' := 0) [.int 1] [] false d189_28 q189_159 mk_107 s_t_190 rfl rfl (Nat.le_of_ble_eq_true rfl) (Nat.le_of_ble_eq_true rfl) rfl (by decide +kernel) (by decide +kernel) (fun v5 M4 => ?_)
    refine yL.eq (y_if_eq (pc := 31) (t := 36) d189_31 (by decide)) ?_
    refine yL.ite (fun h6 => ?_) (fun h6 => ?_)
    ·
      refine yL.eq (y_aload_n (pc := 36) (x := 190) d189_36 rfl) ?_
      refine y_callv_v (pc := 37) (n := 1) (n' := 2) (nc' := 0) (ns' := 0) [] [] false d189_37 q189_281 mk_154 s_t_190 rfl rfl (Nat.le_of_ble_eq_true rfl) (Nat.le_of_ble_eq_true rfl) rfl (by decide +kernel) (by decide +kernel) (fun M7 => ?_)
      refine yL.eq (y_aload_n (pc := 40) (x := 190) d189_40 rfl) ?_
      refine yL.eq (y_getr (pc := 41) (r := 191) d189_41 q189_7 s_r_190_1) ?_
      refine yL.eq (y_iload_n (pc := 44) (x := a1) d189_44 rfl) ?_
      refine yL.eq (y_iload_n (pc := 45) (x := a2) d189_45 rfl) ?_
      refine yL.eq (y_iload_n (pc := 46) (x := a3) d189_46 rfl) ?_
      refine y_calls_i (pc := 47) (n := 4) (n' := 5) (nc' := 0) (ns' := 0) [.ref 191, .int a1, .int a2, .int a3] [] false d189_47 q189_210 rfl rfl rfl (Nat.le_of_ble_eq_true rfl) (Nat.le_of_ble_eq_true rfl) rfl (by decide +kernel) (by decide +kernel) (fun v9 M8 => ?_)
      exact yL.eq (y_ireti (pc := 50) d189_50 mr_189) yL.rf
    ·
      refine yL.eq (y_iconst (pc := 34) (v := 0) d189_34 kc_0) ?_
      exact yL.eq (y_ireti (pc := 35) d189_35 mr_189) yL.rf
  ·
    refine yL.eq (y_aload_n (pc := 12) (x := 190) d189_12 rfl) ?_
    refine yL.eq (y_getr (pc := 13) (r := 191) d189_13 q189_7 s_r_190_1) ?_
    refine yL.eq (y_iload_n (pc := 16) (x := a2) d189_16 rfl) ?_
    refine y_calls_i (pc := 17) (n := 2) (n' := 2) (nc' := 0) (ns' := 0) [.ref 191, .int a2] [.ref 190] false d189_17 q189_207 rfl rfl rfl (Nat.le_of_ble_eq_true rfl) (Nat.le_of_ble_eq_true rfl) rfl (by decide +kernel) (by decide +kernel) (fun v11 M10 => ?_)
    refine yL.eq (y_if_eq (pc := 20) (t := 27) d189_20 (by decide)) ?_
    refine yL.ite (fun h12 => ?_) (fun h12 => ?_)
    ·
      refine yL.eq (y_iconst (pc := 27) (v := 1) d189_27 kc_1) ?_
      refine y_callv_i (pc := 28) (n := 2) (n' := 2) (nc' := 0) (ns' := 0) [.int 1] [] false d189_28 q189_159 mk_107 s_t_190 rfl rfl (Nat.le_of_ble_eq_true rfl) (Nat.le_of_ble_eq_true rfl) rfl (by decide +kernel) (by decide +kernel) (fun v14 M13 => ?_)
      refine yL.eq (y_if_eq (pc := 31) (t := 36) d189_31 (by decide)) ?_
      refine yL.ite (fun h15 => ?_) (fun h15 => ?_)
      ·
        refine yL.eq (y_aload_n (pc := 36) (x := 190) d189_36 rfl) ?_
        refine y_callv_v (pc := 37) (n := 1) (n' := 2) (nc' := 0) (ns' := 0) [] [] false d189_37 q189_281 mk_154 s_t_190 rfl rfl (Nat.le_of_ble_eq_true rfl) (Nat.le_of_ble_eq_true rfl) rfl (by decide +kernel) (by decide +kernel) (fun M16 => ?_)
        refine yL.eq (y_aload_n (pc := 40) (x := 190) d189_40 rfl) ?_
        refine yL.eq (y_getr (pc := 41) (r := 191) d189_41 q189_7 s_r_190_1) ?_
        refine yL.eq (y_iload_n (pc := 44) (x := a1) d189_44 rfl) ?_
        refine yL.eq (y_iload_n (pc := 45) (x := a2) d189_45 rfl) ?_
        refine yL.eq (y_iload_n (pc := 46) (x := a3) d189_46 rfl) ?_
        refine y_calls_i (pc := 47) (n := 4) (n' := 5) (nc' := 0) (ns' := 0) [.ref 191, .int a1, .int a2, .int a3] [] false d189_47 q189_210 rfl rfl rfl (Nat.le_of_ble_eq_true rfl) (Nat.le_of_ble_eq_true rfl) rfl (by decide +kernel) (by decide +kernel) (fun v18 M17 => ?_)
        exact yL.eq (y_ireti (pc := 50) d189_50 mr_189) yL.rf
      ·
        refine yL.eq (y_iconst (pc := 34) (v := 0) d189_34 kc_0) ?_
        exact yL.eq (y_ireti (pc := 35) d189_35 mr_189) yL.rf
    ·
      refine yL.eq (y_iconst (pc := 23) (v := 0) d189_23 kc_0) ?_
      refine yL.eq (y_goto (pc := 24) (t := 28) d189_24 (by decide)) ?_
      refine y_callv_i (pc := 28) (n := 2) (n' := 2) (nc' := 0) (ns' := 0) [.int 0] [] false d189_28 q189_159 mk_107 s_t_190 rfl rfl (Nat.le_of_ble_eq_true rfl) (Nat.le_of_ble_eq_true rfl) rfl (by decide +kernel) (by decide +kernel) (fun v20 M19 => ?_)
      refine yL.eq (y_if_eq (pc := 31) (t := 36) d189_31 (by decide)) ?_
      refine yL.ite (fun h21 => ?_) (fun h21 => ?_)
      ·
        refine yL.eq (y_aload_n (pc := 36) (x := 190) d189_36 rfl) ?_
        refine y_callv_v (pc := 37) (n := 1) (n' := 2) (nc' := 0) (ns' := 0) [] [] false d189_37 q189_281 mk_154 s_t_190 rfl rfl (Nat.le_of_ble_eq_true rfl) (Nat.le_of_ble_eq_true rfl) rfl (by decide +kernel) (by decide +kernel) (fun M22 => ?_)
        refine yL.eq (y_aload_n (pc := 40) (x := 190) d189_40 rfl) ?_
        refine yL.eq (y_getr (pc := 41) (r := 191) d189_41 q189_7 s_r_190_1) ?_
        refine yL.eq (y_iload_n (pc := 44) (x := a1) d189_44 rfl) ?_
        refine yL.eq (y_iload_n (pc := 45) (x := a2) d189_45 rfl) ?_
        refine yL.eq (y_iload_n (pc := 46) (x := a3) d189_46 rfl) ?_
        refine y_calls_i (pc := 47) (n := 4) (n' := 5) (nc' := 0) (ns' := 0) [.ref 191, .int a1, .int a2, .int a3] [] false d189_47 q189_210 rfl rfl rfl (Nat.le_of_ble_eq_true rfl) (Nat.le_of_ble_eq_true rfl) rfl (by decide +kernel) (by decide +kernel) (fun v24 M23 => ?_)
        exact yL.eq (y_ireti (pc := 50) d189_50 mr_189) yL.rf
      ·
        refine yL.eq (y_iconst (pc := 34) (v := 0) d189_34 kc_0) ?_
        exact yL.eq (y_ireti (pc := 35) d189_35 mr_189) yL.rf
set_option maxRecDepth 20000 in
set_option maxHeartbeats 4000000 in
theorem e190 {a1 : Int32} {a2 : Int32} {a3 : Int32} {M : yM} : yL (yCi false (yX 115 0 [some (.ref 191), some (.int a1)] [] M 0 0) fun v2 M1 => if v2 = 0 then yX 190 26 [some (.ref 190), some (.int a1), some (.int a2), some (.int a3), none] [] M1 0 0 else yCi false (yX 115 0 [some (.ref 191), some (.int a2)] [] M1 0 0) fun v5 M4 => if v5 = 0 then yX 190 26 [some (.ref 190), some (.int a1), some (.int a2), some (.int a3), none] [] M4 0 0 else yCi false (yX 152 0 [some (.ref 191), some (.int a1), some (.int a2), some (.int a3)] [] M4 0 0) fun v8 M7 => if v8 = 0 then yCi false (yX 107 0 [some (.ref 190), some (.int 2)] [] M7 0 0) fun v11 M10 => if v11 = 0 then yCv false (yX 154 0 [some (.ref 190), none] [] M10 0 0) fun M13 => yCi false (yX 153 0 [some (.ref 191), some (.int a1), some (.int a2), some (.int a3), none] [] M13 0 0) fun v15 M14 => yI v15 M14 else yI 0 M10 else yCi false (yX 107 0 [some (.ref 190), some (.int 0)] [] M7 0 0) fun v17 M16 => if v17 = 0 then yCv false (yX 154 0 [some (.ref 190), none] [] M16 0 0) fun M19 => yCi false (yX 153 0 [some (.ref 191), some (.int a1), some (.int a2), some (.int a3), none] [] M19 0 0) fun v21 M20 => yI v21 M20 else yI 0 M16) (yX 190 0 [some (.ref 190), some (.int a1), some (.int a2), some (.int a3), none] [] M 0 0) := by
  refine yL.eq (y_aload_n (pc := 0) (x := 190) d190_0 rfl) ?_
  refine yL.eq (y_getr (pc := 1) (r := 191) d190_1 q190_7 s_r_190_1) ?_
  refine yL.eq (y_iload_n (pc := 4) (x := a1) d190_4 rfl) ?_
  refine y_calls_i (pc := 5) (n := 2) (n' := 2) (nc' := 0) (ns' := 0) [.ref 191, .int a1] [] false d190_5 q190_203 rfl rfl rfl (Nat.le_of_ble_eq_true rfl) (Nat.le_of_ble_eq_true rfl) rfl (by decide +kernel) (by decide +kernel) (fun v2 M1 => ?_)
  refine yL.eq (y_if_eq (pc := 8) (t := 26) d190_8 (by decide)) ?_
  refine yL.ite (fun h3 => ?_) (fun h3 => ?_)
  ·
    exact yL.rf
  ·
    refine yL.eq (y_aload_n (pc := 11) (x := 190) d190_11 rfl) ?_
    refine yL.eq (y_getr (pc := 12) (r := 191) d190_12 q190_7 s_r_190_1) ?_
    refine yL.eq (y_iload_n (pc := 15) (x := a2) d190_15 rfl) ?_
    refine y_calls_i (pc := 16) (n := 2) (n' := 2) (nc' := 0) (ns' := 0) [.ref 191, .int a2] [] false d190_16 q190_203 rfl rfl rfl (Nat.le_of_ble_eq_true rfl) (Nat.le_of_ble_eq_true rfl) rfl (by decide +kernel) (by decide +kernel) (fun v5 M4 => ?_)
    refine yL.eq (y_if_eq (pc := 19) (t := 26) d190_19 (by decide)) ?_
    refine yL.ite (fun h6 => ?_) (fun h6 => ?_)
    ·
      exact yL.rf
    ·
      refine yL.eq (y_iconst (pc := 22) (v := 1) d190_22 kc_1) ?_
      refine yL.eq (y_goto (pc := 23) (t := 27) d190_23 (by decide)) ?_
      refine yL.eq (y_istore (pc := 27) (ls' := [some (.ref 190), some (.int a1), some (.int a2), some (.int a3), some (.int 1)]) d190_27 rfl rfl) ?_
      refine yL.eq (y_aload_n (pc := 29) (x := 190) d190_29 rfl) ?_
      refine yL.eq (y_iload (pc := 30) (x := 1) d190_30 rfl) ?_
      refine yL.eq (y_if_ne (pc := 32) (t := 39) d190_32 (by decide)) ?_
      refine yL.eq (if_neg cn_Int32_1_eq_0) ?_
      refine yL.eq (y_aload_n (pc := 39) (x := 190) d190_39 rfl) ?_
      refine yL.eq (y_getr (pc := 40) (r := 191) d190_40 q190_7 s_r_190_1) ?_
      refine yL.eq (y_iload_n (pc := 43) (x := a1) d190_43 rfl) ?_
      refine yL.eq (y_iload_n (pc := 44) (x := a2) d190_44 rfl) ?_
      refine yL.eq (y_iload_n (pc := 45) (x := a3) d190_45 rfl) ?_
      refine y_calls_i (pc := 46) (n := 4) (n' := 4) (nc' := 0) (ns' := 0) [.ref 191, .int a1, .int a2, .int a3] [.ref 190] false d190_46 q190_213 rfl rfl rfl (Nat.le_of_ble_eq_true rfl) (Nat.le_of_ble_eq_true rfl) rfl (by decide +kernel) (by decide +kernel) (fun v8 M7 => ?_)
      refine yL.eq (y_if_ne (pc := 49) (t := 56) d190_49 (by decide)) ?_
      refine yL.ite (fun h9 => ?_) (fun h9 => ?_)
      ·
        refine yL.eq (y_iconst (pc := 52) (v := 2) d190_52 kc_2) ?_
        refine yL.eq (y_goto (pc := 53) (t := 57) d190_53 (by decide)) ?_
        refine y_callv_i (pc := 57) (n := 2) (n' := 2) (nc' := 0) (ns' := 0) [.int 2] [] false d190_57 q190_159 mk_107 s_t_190 rfl rfl (Nat.le_of_ble_eq_true rfl) (Nat.le_of_ble_eq_true rfl) rfl (by decide +kernel) (by decide +kernel) (fun v11 M10 => ?_)
        refine yL.eq (y_if_eq (pc := 60) (t := 65) d190_60 (by decide)) ?_
        refine yL.ite (fun h12 => ?_) (fun h12 => ?_)
        ·
          refine yL.eq (y_aload_n (pc := 65) (x := 190) d190_65 rfl) ?_
          refine y_callv_v (pc := 66) (n := 1) (n' := 2) (nc' := 0) (ns' := 0) [] [] false d190_66 q190_281 mk_154 s_t_190 rfl rfl (Nat.le_of_ble_eq_true rfl) (Nat.le_of_ble_eq_true rfl) rfl (by decide +kernel) (by decide +kernel) (fun M13 => ?_)
          refine yL.eq (y_aload_n (pc := 69) (x := 190) d190_69 rfl) ?_
          refine yL.eq (y_getr (pc := 70) (r := 191) d190_70 q190_7 s_r_190_1) ?_
          refine yL.eq (y_iload_n (pc := 73) (x := a1) d190_73 rfl) ?_
          refine yL.eq (y_iload_n (pc := 74) (x := a2) d190_74 rfl) ?_
          refine yL.eq (y_iload_n (pc := 75) (x := a3) d190_75 rfl) ?_
          refine y_calls_i (pc := 76) (n := 4) (n' := 5) (nc' := 0) (ns' := 0) [.ref 191, .int a1, .int a2, .int a3] [] false d190_76 q190_217 rfl rfl rfl (Nat.le_of_ble_eq_true rfl) (Nat.le_of_ble_eq_true rfl) rfl (by decide +kernel) (by decide +kernel) (fun v15 M14 => ?_)
          exact yL.eq (y_ireti (pc := 79) d190_79 mr_190) yL.rf
        ·
          refine yL.eq (y_iconst (pc := 63) (v := 0) d190_63 kc_0) ?_
          exact yL.eq (y_ireti (pc := 64) d190_64 mr_190) yL.rf
      ·
        refine yL.eq (y_iconst (pc := 56) (v := 0) d190_56 kc_0) ?_
        refine y_callv_i (pc := 57) (n := 2) (n' := 2) (nc' := 0) (ns' := 0) [.int 0] [] false d190_57 q190_159 mk_107 s_t_190 rfl rfl (Nat.le_of_ble_eq_true rfl) (Nat.le_of_ble_eq_true rfl) rfl (by decide +kernel) (by decide +kernel) (fun v17 M16 => ?_)
        refine yL.eq (y_if_eq (pc := 60) (t := 65) d190_60 (by decide)) ?_
        refine yL.ite (fun h18 => ?_) (fun h18 => ?_)
        ·
          refine yL.eq (y_aload_n (pc := 65) (x := 190) d190_65 rfl) ?_
          refine y_callv_v (pc := 66) (n := 1) (n' := 2) (nc' := 0) (ns' := 0) [] [] false d190_66 q190_281 mk_154 s_t_190 rfl rfl (Nat.le_of_ble_eq_true rfl) (Nat.le_of_ble_eq_true rfl) rfl (by decide +kernel) (by decide +kernel) (fun M19 => ?_)
          refine yL.eq (y_aload_n (pc := 69) (x := 190) d190_69 rfl) ?_
          refine yL.eq (y_getr (pc := 70) (r := 191) d190_70 q190_7 s_r_190_1) ?_
          refine yL.eq (y_iload_n (pc := 73) (x := a1) d190_73 rfl) ?_
          refine yL.eq (y_iload_n (pc := 74) (x := a2) d190_74 rfl) ?_
          refine yL.eq (y_iload_n (pc := 75) (x := a3) d190_75 rfl) ?_
          refine y_calls_i (pc := 76) (n := 4) (n' := 5) (nc' := 0) (ns' := 0) [.ref 191, .int a1, .int a2, .int a3] [] false d190_76 q190_217 rfl rfl rfl (Nat.le_of_ble_eq_true rfl) (Nat.le_of_ble_eq_true rfl) rfl (by decide +kernel) (by decide +kernel) (fun v21 M20 => ?_)
          exact yL.eq (y_ireti (pc := 79) d190_79 mr_190) yL.rf
        ·
          refine yL.eq (y_iconst (pc := 63) (v := 0) d190_63 kc_0) ?_
          exact yL.eq (y_ireti (pc := 64) d190_64 mr_190) yL.rf
set_option maxRecDepth 20000 in
set_option maxHeartbeats 4000000 in
theorem e190_26 {x1 : Int32} {x2 : Int32} {x3 : Int32} {o4 : Option Value} {M : yM} : yL (yCi false (yX 107 0 [some (.ref 190), some (.int 1)] [] M 0 0) fun v2 M1 => if v2 = 0 then yCv false (yX 154 0 [some (.ref 190), none] [] M1 0 0) fun M4 => yCi false (yX 153 0 [some (.ref 191), some (.int x1), some (.int x2), some (.int x3), none] [] M4 0 0) fun v6 M5 => yI v6 M5 else yI 0 M1) (yX 190 26 [some (.ref 190), some (.int x1), some (.int x2), some (.int x3), o4] [] M 0 0) := by
  refine yL.eq (y_iconst (pc := 26) (v := 0) d190_26 kc_0) ?_
  refine yL.eq (y_istore (pc := 27) (ls' := [some (.ref 190), some (.int x1), some (.int x2), some (.int x3), some (.int 0)]) d190_27 rfl rfl) ?_
  refine yL.eq (y_aload_n (pc := 29) (x := 190) d190_29 rfl) ?_
  refine yL.eq (y_iload (pc := 30) (x := 0) d190_30 rfl) ?_
  refine yL.eq (y_if_ne (pc := 32) (t := 39) d190_32 (by decide)) ?_
  refine yL.eq (if_pos cp_Int32_0_eq_0) ?_
  refine yL.eq (y_iconst (pc := 35) (v := 1) d190_35 kc_1) ?_
  refine yL.eq (y_goto (pc := 36) (t := 57) d190_36 (by decide)) ?_
  refine y_callv_i (pc := 57) (n := 2) (n' := 2) (nc' := 0) (ns' := 0) [.int 1] [] false d190_57 q190_159 mk_107 s_t_190 rfl rfl (Nat.le_of_ble_eq_true rfl) (Nat.le_of_ble_eq_true rfl) rfl (by decide +kernel) (by decide +kernel) (fun v2 M1 => ?_)
  refine yL.eq (y_if_eq (pc := 60) (t := 65) d190_60 (by decide)) ?_
  refine yL.ite (fun h3 => ?_) (fun h3 => ?_)
  ·
    refine yL.eq (y_aload_n (pc := 65) (x := 190) d190_65 rfl) ?_
    refine y_callv_v (pc := 66) (n := 1) (n' := 2) (nc' := 0) (ns' := 0) [] [] false d190_66 q190_281 mk_154 s_t_190 rfl rfl (Nat.le_of_ble_eq_true rfl) (Nat.le_of_ble_eq_true rfl) rfl (by decide +kernel) (by decide +kernel) (fun M4 => ?_)
    refine yL.eq (y_aload_n (pc := 69) (x := 190) d190_69 rfl) ?_
    refine yL.eq (y_getr (pc := 70) (r := 191) d190_70 q190_7 s_r_190_1) ?_
    refine yL.eq (y_iload_n (pc := 73) (x := x1) d190_73 rfl) ?_
    refine yL.eq (y_iload_n (pc := 74) (x := x2) d190_74 rfl) ?_
    refine yL.eq (y_iload_n (pc := 75) (x := x3) d190_75 rfl) ?_
    refine y_calls_i (pc := 76) (n := 4) (n' := 5) (nc' := 0) (ns' := 0) [.ref 191, .int x1, .int x2, .int x3] [] false d190_76 q190_217 rfl rfl rfl (Nat.le_of_ble_eq_true rfl) (Nat.le_of_ble_eq_true rfl) rfl (by decide +kernel) (by decide +kernel) (fun v6 M5 => ?_)
    exact yL.eq (y_ireti (pc := 79) d190_79 mr_190) yL.rf
  ·
    refine yL.eq (y_iconst (pc := 63) (v := 0) d190_63 kc_0) ?_
    exact yL.eq (y_ireti (pc := 64) d190_64 mr_190) yL.rf
set_option maxRecDepth 20000 in
set_option maxHeartbeats 4000000 in
theorem e191 {a1 : Int32} {a2 : Int32} {M : yM} : yL (yCi false (yX 116 0 [some (.int a1)] [] M 0 0) fun v2 M1 => if v2 = 0 then yCi false (yX 107 0 [some (.ref 190), some (.int 1)] [] M1 0 0) fun v5 M4 => if v5 = 0 then yCv false (yX 154 0 [some (.ref 190), none] [] M4 0 0) fun M7 => yCi false (yX 146 0 [some (.ref 191), some (.int (86 + a1)), some (.int a2), none] [] M7 0 0) fun v9 M8 => yI v9 M8 else yI 0 M4 else yCi false (yX 120 0 [some (.int a2)] [] M1 0 0) fun v11 M10 => if v11 = 0 then yCi false (yX 107 0 [some (.ref 190), some (.int 2)] [] M10 0 0) fun v14 M13 => if v14 = 0 then yCv false (yX 154 0 [some (.ref 190), none] [] M13 0 0) fun M16 => yCi false (yX 146 0 [some (.ref 191), some (.int (86 + a1)), some (.int a2), none] [] M16 0 0) fun v18 M17 => yI v18 M17 else yI 0 M13 else yCi false (yX 107 0 [some (.ref 190), some (.int 0)] [] M10 0 0) fun v20 M19 => if v20 = 0 then yCv false (yX 154 0 [some (.ref 190), none] [] M19 0 0) fun M22 => yCi false (yX 146 0 [some (.ref 191), some (.int (86 + a1)), some (.int a2), none] [] M22 0 0) fun v24 M23 => yI v24 M23 else yI 0 M19) (yX 191 0 [some (.ref 190), some (.int a1), some (.int a2)] [] M 0 0) := by
  refine yL.eq (y_aload_n (pc := 0) (x := 190) d191_0 rfl) ?_
  refine yL.eq (y_iload_n (pc := 1) (x := a1) d191_1 rfl) ?_
  refine y_calls_i (pc := 2) (n := 1) (n' := 1) (nc' := 0) (ns' := 0) [.int a1] [.ref 190] false d191_2 q191_271 rfl rfl rfl (Nat.le_of_ble_eq_true rfl) (Nat.le_of_ble_eq_true rfl) rfl (by decide +kernel) (by decide +kernel) (fun v2 M1 => ?_)
  refine yL.eq (y_if_ne (pc := 5) (t := 12) d191_5 (by decide)) ?_
  refine yL.ite (fun h3 => ?_) (fun h3 => ?_)
  ·
    refine yL.eq (y_iconst (pc := 8) (v := 1) d191_8 kc_1) ?_
    refine yL.eq (y_goto (pc := 9) (t := 24) d191_9 (by decide)) ?_
    refine y_callv_i (pc := 24) (n := 2) (n' := 2) (nc' := 0) (ns' := 0) [.int 1] [] false d191_24 q191_159 mk_107 s_t_190 rfl rfl (Nat.le_of_ble_eq_true rfl) (Nat.le_of_ble_eq_true rfl) rfl (by decide +kernel) (by decide +kernel) (fun v5 M4 => ?_)
    refine yL.eq (y_if_eq (pc := 27) (t := 32) d191_27 (by decide)) ?_
    refine yL.ite (fun h6 => ?_) (fun h6 => ?_)
    ·
      refine yL.eq (y_aload_n (pc := 32) (x := 190) d191_32 rfl) ?_
      refine y_callv_v (pc := 33) (n := 1) (n' := 2) (nc' := 0) (ns' := 0) [] [] false d191_33 q191_281 mk_154 s_t_190 rfl rfl (Nat.le_of_ble_eq_true rfl) (Nat.le_of_ble_eq_true rfl) rfl (by decide +kernel) (by decide +kernel) (fun M7 => ?_)
      refine yL.eq (y_aload_n (pc := 36) (x := 190) d191_36 rfl) ?_
      refine yL.eq (y_getr (pc := 37) (r := 191) d191_37 q191_7 s_r_190_1) ?_
      refine yL.eq (y_bipush (pc := 40) (v := 86) d191_40 kb_86) ?_
      refine yL.eq (y_iload_n (pc := 42) (x := a1) d191_42 rfl) ?_
      refine yL.eq (y_iadd (pc := 43) d191_43) ?_
      refine yL.eq (y_iload_n (pc := 44) (x := a2) d191_44 rfl) ?_
      refine y_calls_i (pc := 45) (n := 3) (n' := 4) (nc' := 0) (ns' := 0) [.ref 191, .int (86 + a1), .int a2] [] false d191_45 q191_284 rfl rfl rfl (Nat.le_of_ble_eq_true rfl) (Nat.le_of_ble_eq_true rfl) rfl (by decide +kernel) (by decide +kernel) (fun v9 M8 => ?_)
      exact yL.eq (y_ireti (pc := 48) d191_48 mr_191) yL.rf
    ·
      refine yL.eq (y_iconst (pc := 30) (v := 0) d191_30 kc_0) ?_
      exact yL.eq (y_ireti (pc := 31) d191_31 mr_191) yL.rf
  ·
    refine yL.eq (y_iload_n (pc := 12) (x := a2) d191_12 rfl) ?_
    refine y_calls_i (pc := 13) (n := 1) (n' := 1) (nc' := 0) (ns' := 0) [.int a2] [.ref 190] false d191_13 q191_296 rfl rfl rfl (Nat.le_of_ble_eq_true rfl) (Nat.le_of_ble_eq_true rfl) rfl (by decide +kernel) (by decide +kernel) (fun v11 M10 => ?_)
    refine yL.eq (y_if_ne (pc := 16) (t := 23) d191_16 (by decide)) ?_
    refine yL.ite (fun h12 => ?_) (fun h12 => ?_)
    ·
      refine yL.eq (y_iconst (pc := 19) (v := 2) d191_19 kc_2) ?_
      refine yL.eq (y_goto (pc := 20) (t := 24) d191_20 (by decide)) ?_
      refine y_callv_i (pc := 24) (n := 2) (n' := 2) (nc' := 0) (ns' := 0) [.int 2] [] false d191_24 q191_159 mk_107 s_t_190 rfl rfl (Nat.le_of_ble_eq_true rfl) (Nat.le_of_ble_eq_true rfl) rfl (by decide +kernel) (by decide +kernel) (fun v14 M13 => ?_)
      refine yL.eq (y_if_eq (pc := 27) (t := 32) d191_27 (by decide)) ?_
      refine yL.ite (fun h15 => ?_) (fun h15 => ?_)
      ·
        refine yL.eq (y_aload_n (pc := 32) (x := 190) d191_32 rfl) ?_
        refine y_callv_v (pc := 33) (n := 1) (n' := 2) (nc' := 0) (ns' := 0) [] [] false d191_33 q191_281 mk_154 s_t_190 rfl rfl (Nat.le_of_ble_eq_true rfl) (Nat.le_of_ble_eq_true rfl) rfl (by decide +kernel) (by decide +kernel) (fun M16 => ?_)
        refine yL.eq (y_aload_n (pc := 36) (x := 190) d191_36 rfl) ?_
        refine yL.eq (y_getr (pc := 37) (r := 191) d191_37 q191_7 s_r_190_1) ?_
        refine yL.eq (y_bipush (pc := 40) (v := 86) d191_40 kb_86) ?_
        refine yL.eq (y_iload_n (pc := 42) (x := a1) d191_42 rfl) ?_
        refine yL.eq (y_iadd (pc := 43) d191_43) ?_
        refine yL.eq (y_iload_n (pc := 44) (x := a2) d191_44 rfl) ?_
        refine y_calls_i (pc := 45) (n := 3) (n' := 4) (nc' := 0) (ns' := 0) [.ref 191, .int (86 + a1), .int a2] [] false d191_45 q191_284 rfl rfl rfl (Nat.le_of_ble_eq_true rfl) (Nat.le_of_ble_eq_true rfl) rfl (by decide +kernel) (by decide +kernel) (fun v18 M17 => ?_)
        exact yL.eq (y_ireti (pc := 48) d191_48 mr_191) yL.rf
      ·
        refine yL.eq (y_iconst (pc := 30) (v := 0) d191_30 kc_0) ?_
        exact yL.eq (y_ireti (pc := 31) d191_31 mr_191) yL.rf
    ·
      refine yL.eq (y_iconst (pc := 23) (v := 0) d191_23 kc_0) ?_
      refine y_callv_i (pc := 24) (n := 2) (n' := 2) (nc' := 0) (ns' := 0) [.int 0] [] false d191_24 q191_159 mk_107 s_t_190 rfl rfl (Nat.le_of_ble_eq_true rfl) (Nat.le_of_ble_eq_true rfl) rfl (by decide +kernel) (by decide +kernel) (fun v20 M19 => ?_)
      refine yL.eq (y_if_eq (pc := 27) (t := 32) d191_27 (by decide)) ?_
      refine yL.ite (fun h21 => ?_) (fun h21 => ?_)
      ·
        refine yL.eq (y_aload_n (pc := 32) (x := 190) d191_32 rfl) ?_
        refine y_callv_v (pc := 33) (n := 1) (n' := 2) (nc' := 0) (ns' := 0) [] [] false d191_33 q191_281 mk_154 s_t_190 rfl rfl (Nat.le_of_ble_eq_true rfl) (Nat.le_of_ble_eq_true rfl) rfl (by decide +kernel) (by decide +kernel) (fun M22 => ?_)
        refine yL.eq (y_aload_n (pc := 36) (x := 190) d191_36 rfl) ?_
        refine yL.eq (y_getr (pc := 37) (r := 191) d191_37 q191_7 s_r_190_1) ?_
        refine yL.eq (y_bipush (pc := 40) (v := 86) d191_40 kb_86) ?_
        refine yL.eq (y_iload_n (pc := 42) (x := a1) d191_42 rfl) ?_
        refine yL.eq (y_iadd (pc := 43) d191_43) ?_
        refine yL.eq (y_iload_n (pc := 44) (x := a2) d191_44 rfl) ?_
        refine y_calls_i (pc := 45) (n := 3) (n' := 4) (nc' := 0) (ns' := 0) [.ref 191, .int (86 + a1), .int a2] [] false d191_45 q191_284 rfl rfl rfl (Nat.le_of_ble_eq_true rfl) (Nat.le_of_ble_eq_true rfl) rfl (by decide +kernel) (by decide +kernel) (fun v24 M23 => ?_)
        exact yL.eq (y_ireti (pc := 48) d191_48 mr_191) yL.rf
      ·
        refine yL.eq (y_iconst (pc := 30) (v := 0) d191_30 kc_0) ?_
        exact yL.eq (y_ireti (pc := 31) d191_31 mr_191) yL.rf
set_option maxRecDepth 20000 in
set_option maxHeartbeats 4000000 in
theorem e192 {a1 : Int32} {a2 : Int32} {M : yM} : yL (yCi false (yX 121 0 [some (.int a1), some (.int a2)] [] M 0 0) fun v2 M1 => if v2 = 0 then yCi false (yX 107 0 [some (.ref 190), some (.int 1)] [] M1 0 0) fun v5 M4 => if v5 = 0 then yCv false (yX 154 0 [some (.ref 190), none] [] M4 0 0) fun M7 => yCi false (yX 146 0 [some (.ref 191), some (.int (90 + a1)), some (.int a2), none] [] M7 0 0) fun v9 M8 => yI v9 M8 else yI 0 M4 else yCi false (yX 107 0 [some (.ref 190), some (.int 0)] [] M1 0 0) fun v11 M10 => if v11 = 0 then yCv false (yX 154 0 [some (.ref 190), none] [] M10 0 0) fun M13 => yCi false (yX 146 0 [some (.ref 191), some (.int (90 + a1)), some (.int a2), none] [] M13 0 0) fun v15 M14 => yI v15 M14 else yI 0 M10) (yX 192 0 [some (.ref 190), some (.int a1), some (.int a2)] [] M 0 0) := by
  refine yL.eq (y_aload_n (pc := 0) (x := 190) d192_0 rfl) ?_
  refine yL.eq (y_iload_n (pc := 1) (x := a1) d192_1 rfl) ?_
  refine yL.eq (y_iload_n (pc := 2) (x := a2) d192_2 rfl) ?_
  refine y_calls_i (pc := 3) (n := 2) (n' := 2) (nc' := 0) (ns' := 0) [.int a1, .int a2] [.ref 190] false d192_3 q192_299 rfl rfl rfl (Nat.le_of_ble_eq_true rfl) (Nat.le_of_ble_eq_true rfl) rfl (by decide +kernel) (by decide +kernel) (fun v2 M1 => ?_)
  refine yL.eq (y_if_eq (pc := 6) (t := 13) d192_6 (by decide)) ?_
  refine yL.ite (fun h3 => ?_) (fun h3 => ?_)
  ·
    refine yL.eq (y_iconst (pc := 13) (v := 1) d192_13 kc_1) ?_
    refine y_callv_i (pc := 14) (n := 2) (n' := 2) (nc' := 0) (ns' := 0) [.int 1] [] false d192_14 q192_159 mk_107 s_t_190 rfl rfl (Nat.le_of_ble_eq_true rfl) (Nat.le_of_ble_eq_true rfl) rfl (by decide +kernel) (by decide +kernel) (fun v5 M4 => ?_)
    refine yL.eq (y_if_eq (pc := 17) (t := 22) d192_17 (by decide)) ?_
    refine yL.ite (fun h6 => ?_) (fun h6 => ?_)
    ·
      refine yL.eq (y_aload_n (pc := 22) (x := 190) d192_22 rfl) ?_
      refine y_callv_v (pc := 23) (n := 1) (n' := 2) (nc' := 0) (ns' := 0) [] [] false d192_23 q192_281 mk_154 s_t_190 rfl rfl (Nat.le_of_ble_eq_true rfl) (Nat.le_of_ble_eq_true rfl) rfl (by decide +kernel) (by decide +kernel) (fun M7 => ?_)
      refine yL.eq (y_aload_n (pc := 26) (x := 190) d192_26 rfl) ?_
      refine yL.eq (y_getr (pc := 27) (r := 191) d192_27 q192_7 s_r_190_1) ?_
      refine yL.eq (y_bipush (pc := 30) (v := 90) d192_30 kb_90) ?_
      refine yL.eq (y_iload_n (pc := 32) (x := a1) d192_32 rfl) ?_
      refine yL.eq (y_iadd (pc := 33) d192_33) ?_
      refine yL.eq (y_iload_n (pc := 34) (x := a2) d192_34 rfl) ?_
      refine y_calls_i (pc := 35) (n := 3) (n' := 4) (nc' := 0) (ns' := 0) [.ref 191, .int (90 + a1), .int a2] [] false d192_35 q192_284 rfl rfl rfl (Nat.le_of_ble_eq_true rfl) (Nat.le_of_ble_eq_true rfl) rfl (by decide +kernel) (by decide +kernel) (fun v9 M8 => ?_)
      exact yL.eq (y_ireti (pc := 38) d192_38 mr_192) yL.rf
    ·
      refine yL.eq (y_iconst (pc := 20) (v := 0) d192_20 kc_0) ?_
      exact yL.eq (y_ireti (pc := 21) d192_21 mr_192) yL.rf
  ·
    refine yL.eq (y_iconst (pc := 9) (v := 0) d192_9 kc_0) ?_
    refine yL.eq (y_goto (pc := 10) (t := 14) d192_10 (by decide)) ?_
    refine y_callv_i (pc := 14) (n := 2) (n' := 2) (nc' := 0) (ns' := 0) [.int 0] [] false d192_14 q192_159 mk_107 s_t_190 rfl rfl (Nat.le_of_ble_eq_true rfl) (Nat.le_of_ble_eq_true rfl) rfl (by decide +kernel) (by decide +kernel) (fun v11 M10 => ?_)
    refine yL.eq (y_if_eq (pc := 17) (t := 22) d192_17 (by decide)) ?_
    refine yL.ite (fun h12 => ?_) (fun h12 => ?_)
    ·
      refine yL.eq (y_aload_n (pc := 22) (x := 190) d192_22 rfl) ?_
      refine y_callv_v (pc := 23) (n := 1) (n' := 2) (nc' := 0) (ns' := 0) [] [] false d192_23 q192_281 mk_154 s_t_190 rfl rfl (Nat.le_of_ble_eq_true rfl) (Nat.le_of_ble_eq_true rfl) rfl (by decide +kernel) (by decide +kernel) (fun M13 => ?_)
      refine yL.eq (y_aload_n (pc := 26) (x := 190) d192_26 rfl) ?_
      refine yL.eq (y_getr (pc := 27) (r := 191) d192_27 q192_7 s_r_190_1) ?_
      refine yL.eq (y_bipush (pc := 30) (v := 90) d192_30 kb_90) ?_
      refine yL.eq (y_iload_n (pc := 32) (x := a1) d192_32 rfl) ?_
      refine yL.eq (y_iadd (pc := 33) d192_33) ?_
      refine yL.eq (y_iload_n (pc := 34) (x := a2) d192_34 rfl) ?_
      refine y_calls_i (pc := 35) (n := 3) (n' := 4) (nc' := 0) (ns' := 0) [.ref 191, .int (90 + a1), .int a2] [] false d192_35 q192_284 rfl rfl rfl (Nat.le_of_ble_eq_true rfl) (Nat.le_of_ble_eq_true rfl) rfl (by decide +kernel) (by decide +kernel) (fun v15 M14 => ?_)
      exact yL.eq (y_ireti (pc := 38) d192_38 mr_192) yL.rf
    ·
      refine yL.eq (y_iconst (pc := 20) (v := 0) d192_20 kc_0) ?_
      exact yL.eq (y_ireti (pc := 21) d192_21 mr_192) yL.rf
set_option maxRecDepth 20000 in
set_option maxHeartbeats 4000000 in
theorem e193  {M : yM} : yL (if (M 190 5) = 0 then yCi false (yX 107 0 [some (.ref 190), some (.int 1)] [] M 0 0) fun v3 M2 => if v3 = 0 then yLet (yU M2 190 5 ((M2 190 5) - 1)) fun M5 => yX 193 33 [some (.ref 190), some (.int 0)] [] M5 0 0 else yI 0 M2 else yCi false (yX 107 0 [some (.ref 190), some (.int 0)] [] M 0 0) fun v7 M6 => if v7 = 0 then yLet (yU M6 190 5 ((M6 190 5) - 1)) fun M9 => yX 193 33 [some (.ref 190), some (.int 0)] [] M9 0 0 else yI 0 M6) (yX 193 0 [some (.ref 190), none] [] M 0 0) := by
  refine yL.eq (y_aload_n (pc := 0) (x := 190) d193_0 rfl) ?_
  refine yL.eq (y_aload_n (pc := 1) (x := 190) d193_1 rfl) ?_
  refine yL.eq (y_geti (pc := 2) d193_2 q193_151 s_i_190_5) ?_
  refine yL.eq (y_if_ne (pc := 5) (t := 12) d193_5 (by decide)) ?_
  refine yL.ite (fun h1 => ?_) (fun h1 => ?_)
  ·
    refine yL.eq (y_iconst (pc := 8) (v := 1) d193_8 kc_1) ?_
    refine yL.eq (y_goto (pc := 9) (t := 13) d193_9 (by decide)) ?_
    refine y_callv_i (pc := 13) (n := 2) (n' := 2) (nc' := 0) (ns' := 0) [.int 1] [] false d193_13 q193_159 mk_107 s_t_190 rfl rfl (Nat.le_of_ble_eq_true rfl) (Nat.le_of_ble_eq_true rfl) rfl (by decide +kernel) (by decide +kernel) (fun v3 M2 => ?_)
    refine yL.eq (y_if_eq (pc := 16) (t := 21) d193_16 (by decide)) ?_
    refine yL.ite (fun h4 => ?_) (fun h4 => ?_)
    ·
      refine yL.eq (y_aload_n (pc := 21) (x := 190) d193_21 rfl) ?_
      refine yL.eq (y_dup (pc := 22) d193_22 rfl) ?_
      refine yL.eq (y_geti (pc := 23) d193_23 q193_151 s_i_190_5) ?_
      refine yL.eq (y_iconst (pc := 26) (v := 1) d193_26 kc_1) ?_
      refine yL.eq (y_isub (pc := 27) d193_27) ?_
      refine y_putiL (pc := 28) d193_28 q193_151 s_i_190_5 rfl (fun M5 => ?_)
      refine yL.eq (y_iconst (pc := 31) (v := 0) d193_31 kc_0) ?_
      refine yL.eq (y_istore_n (pc := 32) (ls' := [some (.ref 190), some (.int 0)]) d193_32 rfl rfl) ?_
      exact yL.rf
    ·
      refine yL.eq (y_iconst (pc := 19) (v := 0) d193_19 kc_0) ?_
      exact yL.eq (y_ireti (pc := 20) d193_20 mr_193) yL.rf
  ·
    refine yL.eq (y_iconst (pc := 12) (v := 0) d193_12 kc_0) ?_
    refine y_callv_i (pc := 13) (n := 2) (n' := 2) (nc' := 0) (ns' := 0) [.int 0] [] false d193_13 q193_159 mk_107 s_t_190 rfl rfl (Nat.le_of_ble_eq_true rfl) (Nat.le_of_ble_eq_true rfl) rfl (by decide +kernel) (by decide +kernel) (fun v7 M6 => ?_)
    refine yL.eq (y_if_eq (pc := 16) (t := 21) d193_16 (by decide)) ?_
    refine yL.ite (fun h8 => ?_) (fun h8 => ?_)
    ·
      refine yL.eq (y_aload_n (pc := 21) (x := 190) d193_21 rfl) ?_
      refine yL.eq (y_dup (pc := 22) d193_22 rfl) ?_
      refine yL.eq (y_geti (pc := 23) d193_23 q193_151 s_i_190_5) ?_
      refine yL.eq (y_iconst (pc := 26) (v := 1) d193_26 kc_1) ?_
      refine yL.eq (y_isub (pc := 27) d193_27) ?_
      refine y_putiL (pc := 28) d193_28 q193_151 s_i_190_5 rfl (fun M9 => ?_)
      refine yL.eq (y_iconst (pc := 31) (v := 0) d193_31 kc_0) ?_
      refine yL.eq (y_istore_n (pc := 32) (ls' := [some (.ref 190), some (.int 0)]) d193_32 rfl rfl) ?_
      exact yL.rf
    ·
      refine yL.eq (y_iconst (pc := 19) (v := 0) d193_19 kc_0) ?_
      exact yL.eq (y_ireti (pc := 20) d193_20 mr_193) yL.rf
set_option maxRecDepth 20000 in
set_option maxHeartbeats 4000000 in
theorem e193_33 {x1 : Int32} {M : yM} : yL (if x1 < 95 then if yinB ((95 * (M 190 5)) + x1) 1330 = true then if yinB x1 95 = true then yLet (yU M 191 (yx x1) (M 194 (yx ((95 * (M 190 5)) + x1)))) fun M3 => yX 193 33 [some (.ref 190), some (.int (x1 + 1))] [] M3 0 0 else none else none else yI (M 190 5) M) (yX 193 33 [some (.ref 190), some (.int x1)] [] M 0 0) := by
  refine yL.eq (y_iload_n (pc := 33) (x := x1) d193_33 rfl) ?_
  refine yL.eq (y_bipush (pc := 34) (v := 95) d193_34 kb_95) ?_
  refine yL.eq (y_icmp_ge (pc := 36) (t := 65) d193_36 (by decide)) ?_
  refine yL.ite (fun h1 => ?_) (fun h1 => ?_)
  ·
    refine yL.eq (y_aload_n (pc := 39) (x := 190) d193_39 rfl) ?_
    refine yL.eq (y_getr (pc := 40) (r := 191) d193_40 q193_7 s_r_190_1) ?_
    refine yL.eq (y_iload_n (pc := 43) (x := x1) d193_43 rfl) ?_
    refine yL.eq (y_aload_n (pc := 44) (x := 190) d193_44 rfl) ?_
    refine yL.eq (y_getr (pc := 45) (r := 194) d193_45 q193_19 s_r_190_4) ?_
    refine yL.eq (y_bipush (pc := 48) (v := 95) d193_48 kb_95) ?_
    refine yL.eq (y_aload_n (pc := 50) (x := 190) d193_50 rfl) ?_
    refine yL.eq (y_geti (pc := 51) d193_51 q193_151 s_i_190_5) ?_
    refine yL.eq (y_imul (pc := 54) d193_54) ?_
    refine yL.eq (y_iload_n (pc := 55) (x := x1) d193_55 rfl) ?_
    refine yL.eq (y_iadd (pc := 56) d193_56) ?_
    refine yL.eq (y_iald (pc := 57) (n := 1330) d193_57 s_a_194) ?_
    refine yL.gd (fun h2 => ?_)
    refine y_iastL (pc := 58) (n := 95) d193_58 (yR_a yR191) (fun h4 M3 => ?_)
    refine yL.eq (y_iinc (pc := 59) (v := 1) (x := x1) (ls' := [some (.ref 190), some (.int (x1 + 1))]) d193_59 kc_1 rfl (Nat.le_of_ble_eq_true rfl) rfl) ?_
    refine yL.eq (y_goto (pc := 62) (t := 33) d193_62 (by decide)) ?_
    exact yL.rf
  ·
    refine yL.eq (y_aload_n (pc := 65) (x := 190) d193_65 rfl) ?_
    refine yL.eq (y_geti (pc := 66) d193_66 q193_151 s_i_190_5) ?_
    exact yL.eq (y_ireti (pc := 69) d193_69 mr_193) yL.rf
set_option maxRecDepth 20000 in
set_option maxHeartbeats 4000000 in
theorem e194 {a1 : Int32} {a2 : Int32} {M : yM} : yL (yCi false (yX 116 0 [some (.int a1)] [] M 0 0) fun v2 M1 => if v2 = 0 then yCi false (yX 107 0 [some (.ref 190), some (.int 1)] [] M1 0 0) fun v5 M4 => if v5 = 0 then yCv false (yX 113 0 [some (.ref 191), some (.ref 192), none] [] M4 0 0) fun M7 => if yinB (86 + a1) 95 = true then if yinB (86 + a1) 95 = true then yLet (yU M7 192 (yx (86 + a1)) ((M7 192 (yx (86 + a1))) + 1)) fun M9 => if a2 = 0 then yCi false (yX 144 0 [some (.ref 190), some (.ref 192), none, none] [] M9 0 0) fun v13 M12 => yI v13 M12 else yCi false (yX 145 0 [some (.ref 190), some (.ref 192)] [] M9 0 0) fun v15 M14 => yI v15 M14 else none else none else yI 0 M4 else yCi false (yX 108 0 [some (.long a2.toInt64), none, some (.long 0), none, some (.long 1), none] [] M1 0 0) fun v17 M16 => if v17 = 0 then yCi false (yX 107 0 [some (.ref 190), some (.int 2)] [] M16 0 0) fun v20 M19 => if v20 = 0 then yCv false (yX 113 0 [some (.ref 191), some (.ref 192), none] [] M19 0 0) fun M22 => if yinB (86 + a1) 95 = true then if yinB (86 + a1) 95 = true then yLet (yU M22 192 (yx (86 + a1)) ((M22 192 (yx (86 + a1))) + 1)) fun M24 => if a2 = 0 then yCi false (yX 144 0 [some (.ref 190), some (.ref 192), none, none] [] M24 0 0) fun v28 M27 => yI v28 M27 else yCi false (yX 145 0 [some (.ref 190), some (.ref 192)] [] M24 0 0) fun v30 M29 => yI v30 M29 else none else none else yI 0 M19 else yCi false (yX 107 0 [some (.ref 190), some (.int 0)] [] M16 0 0) fun v32 M31 => if v32 = 0 then yCv false (yX 113 0 [some (.ref 191), some (.ref 192), none] [] M31 0 0) fun M34 => if yinB (86 + a1) 95 = true then if yinB (86 + a1) 95 = true then yLet (yU M34 192 (yx (86 + a1)) ((M34 192 (yx (86 + a1))) + 1)) fun M36 => if a2 = 0 then yCi false (yX 144 0 [some (.ref 190), some (.ref 192), none, none] [] M36 0 0) fun v40 M39 => yI v40 M39 else yCi false (yX 145 0 [some (.ref 190), some (.ref 192)] [] M36 0 0) fun v42 M41 => yI v42 M41 else none else none else yI 0 M31) (yX 194 0 [some (.ref 190), some (.int a1), some (.int a2)] [] M 0 0) := by
  refine yL.eq (y_aload_n (pc := 0) (x := 190) d194_0 rfl) ?_
  refine yL.eq (y_iload_n (pc := 1) (x := a1) d194_1 rfl) ?_
  refine y_calls_i (pc := 2) (n := 1) (n' := 1) (nc' := 0) (ns' := 0) [.int a1] [.ref 190] false d194_2 q194_271 rfl rfl rfl (Nat.le_of_ble_eq_true rfl) (Nat.le_of_ble_eq_true rfl) rfl (by decide +kernel) (by decide +kernel) (fun v2 M1 => ?_)
  refine yL.eq (y_if_ne (pc := 5) (t := 12) d194_5 (by decide)) ?_
  refine yL.ite (fun h3 => ?_) (fun h3 => ?_)
  ·
    refine yL.eq (y_iconst (pc := 8) (v := 1) d194_8 kc_1) ?_
    refine yL.eq (y_goto (pc := 9) (t := 27) d194_9 (by decide)) ?_
    refine y_callv_i (pc := 27) (n := 2) (n' := 2) (nc' := 0) (ns' := 0) [.int 1] [] false d194_27 q194_159 mk_107 s_t_190 rfl rfl (Nat.le_of_ble_eq_true rfl) (Nat.le_of_ble_eq_true rfl) rfl (by decide +kernel) (by decide +kernel) (fun v5 M4 => ?_)
    refine yL.eq (y_if_eq (pc := 30) (t := 35) d194_30 (by decide)) ?_
    refine yL.ite (fun h6 => ?_) (fun h6 => ?_)
    ·
      refine yL.eq (y_aload_n (pc := 35) (x := 190) d194_35 rfl) ?_
      refine yL.eq (y_getr (pc := 36) (r := 191) d194_36 q194_7 s_r_190_1) ?_
      refine yL.eq (y_aload_n (pc := 39) (x := 190) d194_39 rfl) ?_
      refine yL.eq (y_getr (pc := 40) (r := 192) d194_40 q194_13 s_r_190_2) ?_
      refine y_calls_v (pc := 43) (n := 2) (n' := 3) (nc' := 0) (ns' := 0) [.ref 191, .ref 192] [] false d194_43 q194_242 rfl rfl rfl (Nat.le_of_ble_eq_true rfl) (Nat.le_of_ble_eq_true rfl) rfl (by decide +kernel) (by decide +kernel) (fun M7 => ?_)
      refine yL.eq (y_aload_n (pc := 46) (x := 190) d194_46 rfl) ?_
      refine yL.eq (y_getr (pc := 47) (r := 192) d194_47 q194_13 s_r_190_2) ?_
      refine yL.eq (y_bipush (pc := 50) (v := 86) d194_50 kb_86) ?_
      refine yL.eq (y_iload_n (pc := 52) (x := a1) d194_52 rfl) ?_
      refine yL.eq (y_iadd (pc := 53) d194_53) ?_
      refine yL.eq (y_dup2 (pc := 54) d194_54 rfl) ?_
      refine yL.eq (y_iald (pc := 55) (n := 95) d194_55 (yR_a yR192)) ?_
      refine yL.gd (fun h8 => ?_)
      refine yL.eq (y_iconst (pc := 56) (v := 1) d194_56 kc_1) ?_
      refine yL.eq (y_iadd (pc := 57) d194_57) ?_
      refine y_iastL (pc := 58) (n := 95) d194_58 (yR_a yR192) (fun h10 M9 => ?_)
      refine yL.eq (y_iload_n (pc := 59) (x := a2) d194_59 rfl) ?_
      refine yL.eq (y_if_ne (pc := 60) (t := 74) d194_60 (by decide)) ?_
      refine yL.ite (fun h11 => ?_) (fun h11 => ?_)
      ·
        refine yL.eq (y_aload_n (pc := 63) (x := 190) d194_63 rfl) ?_
        refine yL.eq (y_aload_n (pc := 64) (x := 190) d194_64 rfl) ?_
        refine yL.eq (y_getr (pc := 65) (r := 192) d194_65 q194_13 s_r_190_2) ?_
        refine y_callv_i (pc := 68) (n := 2) (n' := 4) (nc' := 0) (ns' := 0) [.ref 192] [] false d194_68 q194_248 mk_144 s_t_190 rfl rfl (Nat.le_of_ble_eq_true rfl) (Nat.le_of_ble_eq_true rfl) rfl (by decide +kernel) (by decide +kernel) (fun v13 M12 => ?_)
        refine yL.eq (y_goto (pc := 71) (t := 82) d194_71 (by decide)) ?_
        exact yL.eq (y_ireti (pc := 82) d194_82 mr_194) yL.rf
      ·
        refine yL.eq (y_aload_n (pc := 74) (x := 190) d194_74 rfl) ?_
        refine yL.eq (y_aload_n (pc := 75) (x := 190) d194_75 rfl) ?_
        refine yL.eq (y_getr (pc := 76) (r := 192) d194_76 q194_13 s_r_190_2) ?_
        refine y_callv_i (pc := 79) (n := 2) (n' := 2) (nc' := 0) (ns' := 0) [.ref 192] [] false d194_79 q194_251 mk_145 s_t_190 rfl rfl (Nat.le_of_ble_eq_true rfl) (Nat.le_of_ble_eq_true rfl) rfl (by decide +kernel) (by decide +kernel) (fun v15 M14 => ?_)
        exact yL.eq (y_ireti (pc := 82) d194_82 mr_194) yL.rf
    ·
      refine yL.eq (y_iconst (pc := 33) (v := 0) d194_33 kc_0) ?_
      exact yL.eq (y_ireti (pc := 34) d194_34 mr_194) yL.rf
  ·
    refine yL.eq (y_iload_n (pc := 12) (x := a2) d194_12 rfl) ?_
    refine yL.eq (y_i2l (pc := 13) d194_13) ?_
    refine yL.eq (y_lconst (pc := 14) (v := 0) d194_14 kl_0) ?_
    refine yL.eq (y_lconst (pc := 15) (v := 1) d194_15 kl_1) ?_
    refine y_calls_i (pc := 16) (n := 3) (n' := 6) (nc' := 0) (ns' := 0) [.long a2.toInt64, .long 0, .long 1] [.ref 190] false d194_16 q194_58 rfl rfl rfl (Nat.le_of_ble_eq_true rfl) (Nat.le_of_ble_eq_true rfl) rfl (by decide +kernel) (by decide +kernel) (fun v17 M16 => ?_)
    refine yL.eq (y_if_ne (pc := 19) (t := 26) d194_19 (by decide)) ?_
    refine yL.ite (fun h18 => ?_) (fun h18 => ?_)
    ·
      refine yL.eq (y_iconst (pc := 22) (v := 2) d194_22 kc_2) ?_
      refine yL.eq (y_goto (pc := 23) (t := 27) d194_23 (by decide)) ?_
      refine y_callv_i (pc := 27) (n := 2) (n' := 2) (nc' := 0) (ns' := 0) [.int 2] [] false d194_27 q194_159 mk_107 s_t_190 rfl rfl (Nat.le_of_ble_eq_true rfl) (Nat.le_of_ble_eq_true rfl) rfl (by decide +kernel) (by decide +kernel) (fun v20 M19 => ?_)
      refine yL.eq (y_if_eq (pc := 30) (t := 35) d194_30 (by decide)) ?_
      refine yL.ite (fun h21 => ?_) (fun h21 => ?_)
      ·
        refine yL.eq (y_aload_n (pc := 35) (x := 190) d194_35 rfl) ?_
        refine yL.eq (y_getr (pc := 36) (r := 191) d194_36 q194_7 s_r_190_1) ?_
        refine yL.eq (y_aload_n (pc := 39) (x := 190) d194_39 rfl) ?_
        refine yL.eq (y_getr (pc := 40) (r := 192) d194_40 q194_13 s_r_190_2) ?_
        refine y_calls_v (pc := 43) (n := 2) (n' := 3) (nc' := 0) (ns' := 0) [.ref 191, .ref 192] [] false d194_43 q194_242 rfl rfl rfl (Nat.le_of_ble_eq_true rfl) (Nat.le_of_ble_eq_true rfl) rfl (by decide +kernel) (by decide +kernel) (fun M22 => ?_)
        refine yL.eq (y_aload_n (pc := 46) (x := 190) d194_46 rfl) ?_
        refine yL.eq (y_getr (pc := 47) (r := 192) d194_47 q194_13 s_r_190_2) ?_
        refine yL.eq (y_bipush (pc := 50) (v := 86) d194_50 kb_86) ?_
        refine yL.eq (y_iload_n (pc := 52) (x := a1) d194_52 rfl) ?_
        refine yL.eq (y_iadd (pc := 53) d194_53) ?_
        refine yL.eq (y_dup2 (pc := 54) d194_54 rfl) ?_
        refine yL.eq (y_iald (pc := 55) (n := 95) d194_55 (yR_a yR192)) ?_
        refine yL.gd (fun h23 => ?_)
        refine yL.eq (y_iconst (pc := 56) (v := 1) d194_56 kc_1) ?_
        refine yL.eq (y_iadd (pc := 57) d194_57) ?_
        refine y_iastL (pc := 58) (n := 95) d194_58 (yR_a yR192) (fun h25 M24 => ?_)
        refine yL.eq (y_iload_n (pc := 59) (x := a2) d194_59 rfl) ?_
        refine yL.eq (y_if_ne (pc := 60) (t := 74) d194_60 (by decide)) ?_
        refine yL.ite (fun h26 => ?_) (fun h26 => ?_)
        ·
          refine yL.eq (y_aload_n (pc := 63) (x := 190) d194_63 rfl) ?_
          refine yL.eq (y_aload_n (pc := 64) (x := 190) d194_64 rfl) ?_
          refine yL.eq (y_getr (pc := 65) (r := 192) d194_65 q194_13 s_r_190_2) ?_
          refine y_callv_i (pc := 68) (n := 2) (n' := 4) (nc' := 0) (ns' := 0) [.ref 192] [] false d194_68 q194_248 mk_144 s_t_190 rfl rfl (Nat.le_of_ble_eq_true rfl) (Nat.le_of_ble_eq_true rfl) rfl (by decide +kernel) (by decide +kernel) (fun v28 M27 => ?_)
          refine yL.eq (y_goto (pc := 71) (t := 82) d194_71 (by decide)) ?_
          exact yL.eq (y_ireti (pc := 82) d194_82 mr_194) yL.rf
        ·
          refine yL.eq (y_aload_n (pc := 74) (x := 190) d194_74 rfl) ?_
          refine yL.eq (y_aload_n (pc := 75) (x := 190) d194_75 rfl) ?_
          refine yL.eq (y_getr (pc := 76) (r := 192) d194_76 q194_13 s_r_190_2) ?_
          refine y_callv_i (pc := 79) (n := 2) (n' := 2) (nc' := 0) (ns' := 0) [.ref 192] [] false d194_79 q194_251 mk_145 s_t_190 rfl rfl (Nat.le_of_ble_eq_true rfl) (Nat.le_of_ble_eq_true rfl) rfl (by decide +kernel) (by decide +kernel) (fun v30 M29 => ?_)
          exact yL.eq (y_ireti (pc := 82) d194_82 mr_194) yL.rf
      ·
        refine yL.eq (y_iconst (pc := 33) (v := 0) d194_33 kc_0) ?_
        exact yL.eq (y_ireti (pc := 34) d194_34 mr_194) yL.rf
    ·
      refine yL.eq (y_iconst (pc := 26) (v := 0) d194_26 kc_0) ?_
      refine y_callv_i (pc := 27) (n := 2) (n' := 2) (nc' := 0) (ns' := 0) [.int 0] [] false d194_27 q194_159 mk_107 s_t_190 rfl rfl (Nat.le_of_ble_eq_true rfl) (Nat.le_of_ble_eq_true rfl) rfl (by decide +kernel) (by decide +kernel) (fun v32 M31 => ?_)
      refine yL.eq (y_if_eq (pc := 30) (t := 35) d194_30 (by decide)) ?_
      refine yL.ite (fun h33 => ?_) (fun h33 => ?_)
      ·
        refine yL.eq (y_aload_n (pc := 35) (x := 190) d194_35 rfl) ?_
        refine yL.eq (y_getr (pc := 36) (r := 191) d194_36 q194_7 s_r_190_1) ?_
        refine yL.eq (y_aload_n (pc := 39) (x := 190) d194_39 rfl) ?_
        refine yL.eq (y_getr (pc := 40) (r := 192) d194_40 q194_13 s_r_190_2) ?_
        refine y_calls_v (pc := 43) (n := 2) (n' := 3) (nc' := 0) (ns' := 0) [.ref 191, .ref 192] [] false d194_43 q194_242 rfl rfl rfl (Nat.le_of_ble_eq_true rfl) (Nat.le_of_ble_eq_true rfl) rfl (by decide +kernel) (by decide +kernel) (fun M34 => ?_)
        refine yL.eq (y_aload_n (pc := 46) (x := 190) d194_46 rfl) ?_
        refine yL.eq (y_getr (pc := 47) (r := 192) d194_47 q194_13 s_r_190_2) ?_
        refine yL.eq (y_bipush (pc := 50) (v := 86) d194_50 kb_86) ?_
        refine yL.eq (y_iload_n (pc := 52) (x := a1) d194_52 rfl) ?_
        refine yL.eq (y_iadd (pc := 53) d194_53) ?_
        refine yL.eq (y_dup2 (pc := 54) d194_54 rfl) ?_
        refine yL.eq (y_iald (pc := 55) (n := 95) d194_55 (yR_a yR192)) ?_
        refine yL.gd (fun h35 => ?_)
        refine yL.eq (y_iconst (pc := 56) (v := 1) d194_56 kc_1) ?_
        refine yL.eq (y_iadd (pc := 57) d194_57) ?_
        refine y_iastL (pc := 58) (n := 95) d194_58 (yR_a yR192) (fun h37 M36 => ?_)
        refine yL.eq (y_iload_n (pc := 59) (x := a2) d194_59 rfl) ?_
        refine yL.eq (y_if_ne (pc := 60) (t := 74) d194_60 (by decide)) ?_
        refine yL.ite (fun h38 => ?_) (fun h38 => ?_)
        ·
          refine yL.eq (y_aload_n (pc := 63) (x := 190) d194_63 rfl) ?_
          refine yL.eq (y_aload_n (pc := 64) (x := 190) d194_64 rfl) ?_
          refine yL.eq (y_getr (pc := 65) (r := 192) d194_65 q194_13 s_r_190_2) ?_
          refine y_callv_i (pc := 68) (n := 2) (n' := 4) (nc' := 0) (ns' := 0) [.ref 192] [] false d194_68 q194_248 mk_144 s_t_190 rfl rfl (Nat.le_of_ble_eq_true rfl) (Nat.le_of_ble_eq_true rfl) rfl (by decide +kernel) (by decide +kernel) (fun v40 M39 => ?_)
          refine yL.eq (y_goto (pc := 71) (t := 82) d194_71 (by decide)) ?_
          exact yL.eq (y_ireti (pc := 82) d194_82 mr_194) yL.rf
        ·
          refine yL.eq (y_aload_n (pc := 74) (x := 190) d194_74 rfl) ?_
          refine yL.eq (y_aload_n (pc := 75) (x := 190) d194_75 rfl) ?_
          refine yL.eq (y_getr (pc := 76) (r := 192) d194_76 q194_13 s_r_190_2) ?_
          refine y_callv_i (pc := 79) (n := 2) (n' := 2) (nc' := 0) (ns' := 0) [.ref 192] [] false d194_79 q194_251 mk_145 s_t_190 rfl rfl (Nat.le_of_ble_eq_true rfl) (Nat.le_of_ble_eq_true rfl) rfl (by decide +kernel) (by decide +kernel) (fun v42 M41 => ?_)
          exact yL.eq (y_ireti (pc := 82) d194_82 mr_194) yL.rf
      ·
        refine yL.eq (y_iconst (pc := 33) (v := 0) d194_33 kc_0) ?_
        exact yL.eq (y_ireti (pc := 34) d194_34 mr_194) yL.rf
set_option maxRecDepth 20000 in
set_option maxHeartbeats 4000000 in
theorem e195 {a1 : Int32} {a2 : Int32} {M : yM} : yL (yCv false (yX 113 0 [some (.ref 191), some (.ref 192), none] [] M 0 0) fun M1 => if yinB 14 95 = true then yLet (yU M1 192 (yx 14) a1) fun M2 => if a2 = 0 then yCi false (yX 128 0 [some (.ref 192), none, none] [] M2 0 0) fun v6 M5 => yI v6 M5 else yCi false (yX 129 0 [some (.ref 192), none, none, none] [] M2 0 0) fun v8 M7 => yI v8 M7 else none) (yX 195 0 [some (.ref 190), some (.int a1), some (.int a2)] [] M 0 0) := by
  refine yL.eq (y_aload_n (pc := 0) (x := 190) d195_0 rfl) ?_
  refine yL.eq (y_getr (pc := 1) (r := 191) d195_1 q195_7 s_r_190_1) ?_
  refine yL.eq (y_aload_n (pc := 4) (x := 190) d195_4 rfl) ?_
  refine yL.eq (y_getr (pc := 5) (r := 192) d195_5 q195_13 s_r_190_2) ?_
  refine y_calls_v (pc := 8) (n := 2) (n' := 3) (nc' := 0) (ns' := 0) [.ref 191, .ref 192] [] false d195_8 q195_242 rfl rfl rfl (Nat.le_of_ble_eq_true rfl) (Nat.le_of_ble_eq_true rfl) rfl (by decide +kernel) (by decide +kernel) (fun M1 => ?_)
  refine yL.eq (y_aload_n (pc := 11) (x := 190) d195_11 rfl) ?_
  refine yL.eq (y_getr (pc := 12) (r := 192) d195_12 q195_13 s_r_190_2) ?_
  refine yL.eq (y_bipush (pc := 15) (v := 14) d195_15 kb_14) ?_
  refine yL.eq (y_iload_n (pc := 17) (x := a1) d195_17 rfl) ?_
  refine y_iastL (pc := 18) (n := 95) d195_18 (yR_a yR192) (fun h3 M2 => ?_)
  refine yL.eq (y_iload_n (pc := 19) (x := a2) d195_19 rfl) ?_
  refine yL.eq (y_if_ne (pc := 20) (t := 33) d195_20 (by decide)) ?_
  refine yL.ite (fun h4 => ?_) (fun h4 => ?_)
  ·
    refine yL.eq (y_aload_n (pc := 23) (x := 190) d195_23 rfl) ?_
    refine yL.eq (y_getr (pc := 24) (r := 192) d195_24 q195_13 s_r_190_2) ?_
    refine y_calls_i (pc := 27) (n := 1) (n' := 3) (nc' := 0) (ns' := 0) [.ref 192] [] false d195_27 q195_139 rfl rfl rfl (Nat.le_of_ble_eq_true rfl) (Nat.le_of_ble_eq_true rfl) rfl (by decide +kernel) (by decide +kernel) (fun v6 M5 => ?_)
    refine yL.eq (y_goto (pc := 30) (t := 40) d195_30 (by decide)) ?_
    exact yL.eq (y_ireti (pc := 40) d195_40 mr_195) yL.rf
  ·
    refine yL.eq (y_aload_n (pc := 33) (x := 190) d195_33 rfl) ?_
    refine yL.eq (y_getr (pc := 34) (r := 192) d195_34 q195_13 s_r_190_2) ?_
    refine y_calls_i (pc := 37) (n := 1) (n' := 4) (nc' := 0) (ns' := 0) [.ref 192] [] false d195_37 q195_302 rfl rfl rfl (Nat.le_of_ble_eq_true rfl) (Nat.le_of_ble_eq_true rfl) rfl (by decide +kernel) (by decide +kernel) (fun v8 M7 => ?_)
    exact yL.eq (y_ireti (pc := 40) d195_40 mr_195) yL.rf
set_option maxRecDepth 20000 in
set_option maxHeartbeats 4000000 in
theorem e196 {a1 : Int32} {a2 : Int32} {M : yM} : yL (yCi false (yX 119 0 [some (.int a1)] [] M 0 0) fun v2 M1 => if v2 = 0 then yCi false (yX 107 0 [some (.ref 190), some (.int 1)] [] M1 0 0) fun v5 M4 => if v5 = 0 then yCi false (yX 195 0 [some (.ref 190), some (.int a1), some (.int a2)] [] M4 0 0) fun v8 M7 => yI v8 M7 else yI 0 M4 else yCi false (yX 108 0 [some (.long a2.toInt64), none, some (.long 0), none, some (.long 1), none] [] M1 0 0) fun v10 M9 => if v10 = 0 then yCi false (yX 107 0 [some (.ref 190), some (.int 1)] [] M9 0 0) fun v13 M12 => if v13 = 0 then yCi false (yX 195 0 [some (.ref 190), some (.int a1), some (.int a2)] [] M12 0 0) fun v16 M15 => yI v16 M15 else yI 0 M12 else yCi false (yX 107 0 [some (.ref 190), some (.int 0)] [] M9 0 0) fun v18 M17 => if v18 = 0 then yCi false (yX 195 0 [some (.ref 190), some (.int a1), some (.int a2)] [] M17 0 0) fun v21 M20 => yI v21 M20 else yI 0 M17) (yX 196 0 [some (.ref 190), some (.int a1), some (.int a2)] [] M 0 0) := by
  refine yL.eq (y_aload_n (pc := 0) (x := 190) d196_0 rfl) ?_
  refine yL.eq (y_iload_n (pc := 1) (x := a1) d196_1 rfl) ?_
  refine y_calls_i (pc := 2) (n := 1) (n' := 1) (nc' := 0) (ns' := 0) [.int a1] [.ref 190] false d196_2 q196_287 rfl rfl rfl (Nat.le_of_ble_eq_true rfl) (Nat.le_of_ble_eq_true rfl) rfl (by decide +kernel) (by decide +kernel) (fun v2 M1 => ?_)
  refine yL.eq (y_if_eq (pc := 5) (t := 22) d196_5 (by decide)) ?_
  refine yL.ite (fun h3 => ?_) (fun h3 => ?_)
  ·
    refine yL.eq (y_iconst (pc := 22) (v := 1) d196_22 kc_1) ?_
    refine y_callv_i (pc := 23) (n := 2) (n' := 2) (nc' := 0) (ns' := 0) [.int 1] [] false d196_23 q196_159 mk_107 s_t_190 rfl rfl (Nat.le_of_ble_eq_true rfl) (Nat.le_of_ble_eq_true rfl) rfl (by decide +kernel) (by decide +kernel) (fun v5 M4 => ?_)
    refine yL.eq (y_if_eq (pc := 26) (t := 31) d196_26 (by decide)) ?_
    refine yL.ite (fun h6 => ?_) (fun h6 => ?_)
    ·
      refine yL.eq (y_aload_n (pc := 31) (x := 190) d196_31 rfl) ?_
      refine yL.eq (y_iload_n (pc := 32) (x := a1) d196_32 rfl) ?_
      refine yL.eq (y_iload_n (pc := 33) (x := a2) d196_33 rfl) ?_
      refine y_callv_i (pc := 34) (n := 3) (n' := 3) (nc' := 0) (ns' := 0) [.int a1, .int a2] [] false d196_34 q196_305 mk_195 s_t_190 rfl rfl (Nat.le_of_ble_eq_true rfl) (Nat.le_of_ble_eq_true rfl) rfl (by decide +kernel) (by decide +kernel) (fun v8 M7 => ?_)
      exact yL.eq (y_ireti (pc := 37) d196_37 mr_196) yL.rf
    ·
      refine yL.eq (y_iconst (pc := 29) (v := 0) d196_29 kc_0) ?_
      exact yL.eq (y_ireti (pc := 30) d196_30 mr_196) yL.rf
  ·
    refine yL.eq (y_iload_n (pc := 8) (x := a2) d196_8 rfl) ?_
    refine yL.eq (y_i2l (pc := 9) d196_9) ?_
    refine yL.eq (y_lconst (pc := 10) (v := 0) d196_10 kl_0) ?_
    refine yL.eq (y_lconst (pc := 11) (v := 1) d196_11 kl_1) ?_
    refine y_calls_i (pc := 12) (n := 3) (n' := 6) (nc' := 0) (ns' := 0) [.long a2.toInt64, .long 0, .long 1] [.ref 190] false d196_12 q196_58 rfl rfl rfl (Nat.le_of_ble_eq_true rfl) (Nat.le_of_ble_eq_true rfl) rfl (by decide +kernel) (by decide +kernel) (fun v10 M9 => ?_)
    refine yL.eq (y_if_eq (pc := 15) (t := 22) d196_15 (by decide)) ?_
    refine yL.ite (fun h11 => ?_) (fun h11 => ?_)
    ·
      refine yL.eq (y_iconst (pc := 22) (v := 1) d196_22 kc_1) ?_
      refine y_callv_i (pc := 23) (n := 2) (n' := 2) (nc' := 0) (ns' := 0) [.int 1] [] false d196_23 q196_159 mk_107 s_t_190 rfl rfl (Nat.le_of_ble_eq_true rfl) (Nat.le_of_ble_eq_true rfl) rfl (by decide +kernel) (by decide +kernel) (fun v13 M12 => ?_)
      refine yL.eq (y_if_eq (pc := 26) (t := 31) d196_26 (by decide)) ?_
      refine yL.ite (fun h14 => ?_) (fun h14 => ?_)
      ·
        refine yL.eq (y_aload_n (pc := 31) (x := 190) d196_31 rfl) ?_
        refine yL.eq (y_iload_n (pc := 32) (x := a1) d196_32 rfl) ?_
        refine yL.eq (y_iload_n (pc := 33) (x := a2) d196_33 rfl) ?_
        refine y_callv_i (pc := 34) (n := 3) (n' := 3) (nc' := 0) (ns' := 0) [.int a1, .int a2] [] false d196_34 q196_305 mk_195 s_t_190 rfl rfl (Nat.le_of_ble_eq_true rfl) (Nat.le_of_ble_eq_true rfl) rfl (by decide +kernel) (by decide +kernel) (fun v16 M15 => ?_)
        exact yL.eq (y_ireti (pc := 37) d196_37 mr_196) yL.rf
      ·
        refine yL.eq (y_iconst (pc := 29) (v := 0) d196_29 kc_0) ?_
        exact yL.eq (y_ireti (pc := 30) d196_30 mr_196) yL.rf
    ·
      refine yL.eq (y_iconst (pc := 18) (v := 0) d196_18 kc_0) ?_
      refine yL.eq (y_goto (pc := 19) (t := 23) d196_19 (by decide)) ?_
      refine y_callv_i (pc := 23) (n := 2) (n' := 2) (nc' := 0) (ns' := 0) [.int 0] [] false d196_23 q196_159 mk_107 s_t_190 rfl rfl (Nat.le_of_ble_eq_true rfl) (Nat.le_of_ble_eq_true rfl) rfl (by decide +kernel) (by decide +kernel) (fun v18 M17 => ?_)
      refine yL.eq (y_if_eq (pc := 26) (t := 31) d196_26 (by decide)) ?_
      refine yL.ite (fun h19 => ?_) (fun h19 => ?_)
      ·
        refine yL.eq (y_aload_n (pc := 31) (x := 190) d196_31 rfl) ?_
        refine yL.eq (y_iload_n (pc := 32) (x := a1) d196_32 rfl) ?_
        refine yL.eq (y_iload_n (pc := 33) (x := a2) d196_33 rfl) ?_
        refine y_callv_i (pc := 34) (n := 3) (n' := 3) (nc' := 0) (ns' := 0) [.int a1, .int a2] [] false d196_34 q196_305 mk_195 s_t_190 rfl rfl (Nat.le_of_ble_eq_true rfl) (Nat.le_of_ble_eq_true rfl) rfl (by decide +kernel) (by decide +kernel) (fun v21 M20 => ?_)
        exact yL.eq (y_ireti (pc := 37) d196_37 mr_196) yL.rf
      ·
        refine yL.eq (y_iconst (pc := 29) (v := 0) d196_29 kc_0) ?_
        exact yL.eq (y_ireti (pc := 30) d196_30 mr_196) yL.rf
set_option maxRecDepth 20000 in
set_option maxHeartbeats 4000000 in
theorem e197 {a1 : Int32} {M : yM} : yL (yCi false (yX 115 0 [some (.ref 191), some (.int a1)] [] M 0 0) fun v2 M1 => if v2 = 0 then yCi false (yX 107 0 [some (.ref 190), some (.int 1)] [] M1 0 0) fun v5 M4 => if v5 = 0 then yCi false (yX 144 0 [some (.ref 190), some (.ref 191), none, none] [] M4 0 0) fun v8 M7 => if yinB a1 14 = true then if (M7 197 (yx a1)) = (-1) then yI (-1) M7 else yCv false (yX 113 0 [some (.ref 191), some (.ref 192), none] [] M7 0 0) fun M11 => yX 197 62 [some (.ref 190), some (.int a1), some (.int v8), some (.int 0), some (.int 1)] [] M11 0 0 else none else yI 0 M4 else yCi false (yX 107 0 [some (.ref 190), some (.int 0)] [] M1 0 0) fun v13 M12 => if v13 = 0 then yCi false (yX 144 0 [some (.ref 190), some (.ref 191), none, none] [] M12 0 0) fun v16 M15 => if yinB a1 14 = true then if (M15 197 (yx a1)) = (-1) then yI (-1) M15 else yCv false (yX 113 0 [some (.ref 191), some (.ref 192), none] [] M15 0 0) fun M19 => yX 197 62 [some (.ref 190), some (.int a1), some (.int v16), some (.int 0), some (.int 1)] [] M19 0 0 else none else yI 0 M12) (yX 197 0 [some (.ref 190), some (.int a1), none, none, none] [] M 0 0) := by
  refine yL.eq (y_aload_n (pc := 0) (x := 190) d197_0 rfl) ?_
  refine yL.eq (y_aload_n (pc := 1) (x := 190) d197_1 rfl) ?_
  refine yL.eq (y_getr (pc := 2) (r := 191) d197_2 q197_7 s_r_190_1) ?_
  refine yL.eq (y_iload_n (pc := 5) (x := a1) d197_5 rfl) ?_
  refine y_calls_i (pc := 6) (n := 2) (n' := 2) (nc' := 0) (ns' := 0) [.ref 191, .int a1] [.ref 190] false d197_6 q197_203 rfl rfl rfl (Nat.le_of_ble_eq_true rfl) (Nat.le_of_ble_eq_true rfl) rfl (by decide +kernel) (by decide +kernel) (fun v2 M1 => ?_)
  refine yL.eq (y_if_eq (pc := 9) (t := 16) d197_9 (by decide)) ?_
  refine yL.ite (fun h3 => ?_) (fun h3 => ?_)
  ·
    refine yL.eq (y_iconst (pc := 16) (v := 1) d197_16 kc_1) ?_
    refine y_callv_i (pc := 17) (n := 2) (n' := 2) (nc' := 0) (ns' := 0) [.int 1] [] false d197_17 q197_159 mk_107 s_t_190 rfl rfl (Nat.le_of_ble_eq_true rfl) (Nat.le_of_ble_eq_true rfl) rfl (by decide +kernel) (by decide +kernel) (fun v5 M4 => ?_)
    refine yL.eq (y_if_eq (pc := 20) (t := 25) d197_20 (by decide)) ?_
    refine yL.ite (fun h6 => ?_) (fun h6 => ?_)
    ·
      refine yL.eq (y_aload_n (pc := 25) (x := 190) d197_25 rfl) ?_
      refine yL.eq (y_aload_n (pc := 26) (x := 190) d197_26 rfl) ?_
      refine yL.eq (y_getr (pc := 27) (r := 191) d197_27 q197_7 s_r_190_1) ?_
      refine y_callv_i (pc := 30) (n := 2) (n' := 4) (nc' := 0) (ns' := 0) [.ref 191] [] false d197_30 q197_248 mk_144 s_t_190 rfl rfl (Nat.le_of_ble_eq_true rfl) (Nat.le_of_ble_eq_true rfl) rfl (by decide +kernel) (by decide +kernel) (fun v8 M7 => ?_)
      refine yL.eq (y_istore_n (pc := 33) (ls' := [some (.ref 190), some (.int a1), some (.int v8), none, none]) d197_33 rfl rfl) ?_
      refine yL.eq (y_aload_n (pc := 34) (x := 190) d197_34 rfl) ?_
      refine yL.eq (y_getr (pc := 35) (r := 197) d197_35 q197_29 s_r_190_8) ?_
      refine yL.eq (y_iload_n (pc := 38) (x := a1) d197_38 rfl) ?_
      refine yL.eq (y_iald (pc := 39) (n := 14) d197_39 s_a_197) ?_
      refine yL.gd (fun h9 => ?_)
      refine yL.eq (y_iconst (pc := 40) (v := (-1)) d197_40 kc_m1) ?_
      refine yL.eq (y_icmp_ne (pc := 41) (t := 46) d197_41 (by decide)) ?_
      refine yL.ite (fun h10 => ?_) (fun h10 => ?_)
      ·
        refine yL.eq (y_iconst (pc := 44) (v := (-1)) d197_44 kc_m1) ?_
        exact yL.eq (y_ireti (pc := 45) d197_45 mr_197) yL.rf
      ·
        refine yL.eq (y_aload_n (pc := 46) (x := 190) d197_46 rfl) ?_
        refine yL.eq (y_getr (pc := 47) (r := 191) d197_47 q197_7 s_r_190_1) ?_
        refine yL.eq (y_aload_n (pc := 50) (x := 190) d197_50 rfl) ?_
        refine yL.eq (y_getr (pc := 51) (r := 192) d197_51 q197_13 s_r_190_2) ?_
        refine y_calls_v (pc := 54) (n := 2) (n' := 3) (nc' := 0) (ns' := 0) [.ref 191, .ref 192] [] false d197_54 q197_242 rfl rfl rfl (Nat.le_of_ble_eq_true rfl) (Nat.le_of_ble_eq_true rfl) rfl (by decide +kernel) (by decide +kernel) (fun M11 => ?_)
        refine yL.eq (y_iconst (pc := 57) (v := 0) d197_57 kc_0) ?_
        refine yL.eq (y_istore_n (pc := 58) (ls' := [some (.ref 190), some (.int a1), some (.int v8), some (.int 0), none]) d197_58 rfl rfl) ?_
        refine yL.eq (y_iconst (pc := 59) (v := 1) d197_59 kc_1) ?_
        refine yL.eq (y_istore (pc := 60) (ls' := [some (.ref 190), some (.int a1), some (.int v8), some (.int 0), some (.int 1)]) d197_60 rfl rfl) ?_
        exact yL.rf
    ·
      refine yL.eq (y_iconst (pc := 23) (v := 0) d197_23 kc_0) ?_
      exact yL.eq (y_ireti (pc := 24) d197_24 mr_197) yL.rf
  ·
    refine yL.eq (y_iconst (pc := 12) (v := 0) d197_12 kc_0) ?_
    refine yL.eq (y_goto (pc := 13) (t := 17) d197_13 (by decide)) ?_
    refine y_callv_i (pc := 17) (n := 2) (n' := 2) (nc' := 0) (ns' := 0) [.int 0] [] false d197_17 q197_159 mk_107 s_t_190 rfl rfl (Nat.le_of_ble_eq_true rfl) (Nat.le_of_ble_eq_true rfl) rfl (by decide +kernel) (by decide +kernel) (fun v13 M12 => ?_)
    refine yL.eq (y_if_eq (pc := 20) (t := 25) d197_20 (by decide)) ?_
    refine yL.ite (fun h14 => ?_) (fun h14 => ?_)
    ·
      refine yL.eq (y_aload_n (pc := 25) (x := 190) d197_25 rfl) ?_
      refine yL.eq (y_aload_n (pc := 26) (x := 190) d197_26 rfl) ?_
      refine yL.eq (y_getr (pc := 27) (r := 191) d197_27 q197_7 s_r_190_1) ?_
      refine y_callv_i (pc := 30) (n := 2) (n' := 4) (nc' := 0) (ns' := 0) [.ref 191] [] false d197_30 q197_248 mk_144 s_t_190 rfl rfl (Nat.le_of_ble_eq_true rfl) (Nat.le_of_ble_eq_true rfl) rfl (by decide +kernel) (by decide +kernel) (fun v16 M15 => ?_)
      refine yL.eq (y_istore_n (pc := 33) (ls' := [some (.ref 190), some (.int a1), some (.int v16), none, none]) d197_33 rfl rfl) ?_
      refine yL.eq (y_aload_n (pc := 34) (x := 190) d197_34 rfl) ?_
      refine yL.eq (y_getr (pc := 35) (r := 197) d197_35 q197_29 s_r_190_8) ?_
      refine yL.eq (y_iload_n (pc := 38) (x := a1) d197_38 rfl) ?_
      refine yL.eq (y_iald (pc := 39) (n := 14) d197_39 s_a_197) ?_
      refine yL.gd (fun h17 => ?_)
      refine yL.eq (y_iconst (pc := 40) (v := (-1)) d197_40 kc_m1) ?_
      refine yL.eq (y_icmp_ne (pc := 41) (t := 46) d197_41 (by decide)) ?_
      refine yL.ite (fun h18 => ?_) (fun h18 => ?_)
      ·
        refine yL.eq (y_iconst (pc := 44) (v := (-1)) d197_44 kc_m1) ?_
        exact yL.eq (y_ireti (pc := 45) d197_45 mr_197) yL.rf
      ·
        refine yL.eq (y_aload_n (pc := 46) (x := 190) d197_46 rfl) ?_
        refine yL.eq (y_getr (pc := 47) (r := 191) d197_47 q197_7 s_r_190_1) ?_
        refine yL.eq (y_aload_n (pc := 50) (x := 190) d197_50 rfl) ?_
        refine yL.eq (y_getr (pc := 51) (r := 192) d197_51 q197_13 s_r_190_2) ?_
        refine y_calls_v (pc := 54) (n := 2) (n' := 3) (nc' := 0) (ns' := 0) [.ref 191, .ref 192] [] false d197_54 q197_242 rfl rfl rfl (Nat.le_of_ble_eq_true rfl) (Nat.le_of_ble_eq_true rfl) rfl (by decide +kernel) (by decide +kernel) (fun M19 => ?_)
        refine yL.eq (y_iconst (pc := 57) (v := 0) d197_57 kc_0) ?_
        refine yL.eq (y_istore_n (pc := 58) (ls' := [some (.ref 190), some (.int a1), some (.int v16), some (.int 0), none]) d197_58 rfl rfl) ?_
        refine yL.eq (y_iconst (pc := 59) (v := 1) d197_59 kc_1) ?_
        refine yL.eq (y_istore (pc := 60) (ls' := [some (.ref 190), some (.int a1), some (.int v16), some (.int 0), some (.int 1)]) d197_60 rfl rfl) ?_
        exact yL.rf
    ·
      refine yL.eq (y_iconst (pc := 23) (v := 0) d197_23 kc_0) ?_
      exact yL.eq (y_ireti (pc := 24) d197_24 mr_197) yL.rf
set_option maxRecDepth 20000 in
set_option maxHeartbeats 4000000 in
theorem e197_62 {x1 : Int32} {x2 : Int32} {x3 : Int32} {x4 : Int32} {M : yM} : yL (if x4 = 0 then yI x3 M else if x3 < 60 then if yinB (16 + x1) 95 = true then if yinB (16 + x1) 95 = true then yLet (yU M 192 (yx (16 + x1)) (((M 191 (yx (16 + x1))) + x3) + 1)) fun M4 => yCi false (yX 144 0 [some (.ref 190), some (.ref 192), none, none] [] M4 0 0) fun v7 M6 => if v7 ≤ x2 then yX 197 62 [some (.ref 190), some (.int x1), some (.int x2), some (.int (x3 + 1)), some (.int 1)] [] M6 0 0 else yX 197 62 [some (.ref 190), some (.int x1), some (.int x2), some (.int (x3 + 0)), some (.int 0)] [] M6 0 0 else none else none else yI x3 M) (yX 197 62 [some (.ref 190), some (.int x1), some (.int x2), some (.int x3), some (.int x4)] [] M 0 0) := by
  refine yL.eq (y_iload (pc := 62) (x := x4) d197_62 rfl) ?_
  refine yL.eq (y_if_eq (pc := 64) (t := 130) d197_64 (by decide)) ?_
  refine yL.ite (fun h1 => ?_) (fun h1 => ?_)
  ·
    refine yL.eq (y_iload_n (pc := 130) (x := x3) d197_130 rfl) ?_
    exact yL.eq (y_ireti (pc := 131) d197_131 mr_197) yL.rf
  ·
    refine yL.eq (y_iload_n (pc := 67) (x := x3) d197_67 rfl) ?_
    refine yL.eq (y_bipush (pc := 68) (v := 60) d197_68 kb_60) ?_
    refine yL.eq (y_icmp_ge (pc := 70) (t := 130) d197_70 (by decide)) ?_
    refine yL.ite (fun h2 => ?_) (fun h2 => ?_)
    ·
      refine yL.eq (y_aload_n (pc := 73) (x := 190) d197_73 rfl) ?_
      refine yL.eq (y_getr (pc := 74) (r := 192) d197_74 q197_13 s_r_190_2) ?_
      refine yL.eq (y_bipush (pc := 77) (v := 16) d197_77 kb_16) ?_
      refine yL.eq (y_iload_n (pc := 79) (x := x1) d197_79 rfl) ?_
      refine yL.eq (y_iadd (pc := 80) d197_80) ?_
      refine yL.eq (y_aload_n (pc := 81) (x := 190) d197_81 rfl) ?_
      refine yL.eq (y_getr (pc := 82) (r := 191) d197_82 q197_7 s_r_190_1) ?_
      refine yL.eq (y_bipush (pc := 85) (v := 16) d197_85 kb_16) ?_
      refine yL.eq (y_iload_n (pc := 87) (x := x1) d197_87 rfl) ?_
      refine yL.eq (y_iadd (pc := 88) d197_88) ?_
      refine yL.eq (y_iald (pc := 89) (n := 95) d197_89 (yR_a yR191)) ?_
      refine yL.gd (fun h3 => ?_)
      refine yL.eq (y_iload_n (pc := 90) (x := x3) d197_90 rfl) ?_
      refine yL.eq (y_iadd (pc := 91) d197_91) ?_
      refine yL.eq (y_iconst (pc := 92) (v := 1) d197_92 kc_1) ?_
      refine yL.eq (y_iadd (pc := 93) d197_93) ?_
      refine y_iastL (pc := 94) (n := 95) d197_94 (yR_a yR192) (fun h5 M4 => ?_)
      refine yL.eq (y_aload_n (pc := 95) (x := 190) d197_95 rfl) ?_
      refine yL.eq (y_aload_n (pc := 96) (x := 190) d197_96 rfl) ?_
      refine yL.eq (y_getr (pc := 97) (r := 192) d197_97 q197_13 s_r_190_2) ?_
      refine y_callv_i (pc := 100) (n := 2) (n' := 4) (nc' := 0) (ns' := 0) [.ref 192] [] false d197_100 q197_248 mk_144 s_t_190 rfl rfl (Nat.le_of_ble_eq_true rfl) (Nat.le_of_ble_eq_true rfl) rfl (by decide +kernel) (by decide +kernel) (fun v7 M6 => ?_)
      refine yL.eq (y_iload_n (pc := 103) (x := x2) d197_103 rfl) ?_
      refine yL.eq (y_icmp_gt (pc := 104) (t := 111) d197_104 (by decide)) ?_
      refine yL.ite (fun h8 => ?_) (fun h8 => ?_)
      ·
        refine yL.eq (y_iconst (pc := 107) (v := 1) d197_107 kc_1) ?_
        refine yL.eq (y_goto (pc := 108) (t := 112) d197_108 (by decide)) ?_
        refine yL.eq (y_istore (pc := 112) (ls' := [some (.ref 190), some (.int x1), some (.int x2), some (.int x3), some (.int 1)]) d197_112 rfl rfl) ?_
        refine yL.eq (y_iload_n (pc := 114) (x := x3) d197_114 rfl) ?_
        refine yL.eq (y_iload (pc := 115) (x := 1) d197_115 rfl) ?_
        refine yL.eq (y_if_eq (pc := 117) (t := 124) d197_117 (by decide)) ?_
        refine yL.eq (if_neg cn_Int32_1_eq_0) ?_
        refine yL.eq (y_iconst (pc := 120) (v := 1) d197_120 kc_1) ?_
        refine yL.eq (y_goto (pc := 121) (t := 125) d197_121 (by decide)) ?_
        refine yL.eq (y_iadd (pc := 125) d197_125) ?_
        refine yL.eq (y_istore_n (pc := 126) (ls' := [some (.ref 190), some (.int x1), some (.int x2), some (.int (x3 + 1)), some (.int 1)]) d197_126 rfl rfl) ?_
        refine yL.eq (y_goto (pc := 127) (t := 62) d197_127 (by decide)) ?_
        exact yL.rf
      ·
        refine yL.eq (y_iconst (pc := 111) (v := 0) d197_111 kc_0) ?_
        refine yL.eq (y_istore (pc := 112) (ls' := [some (.ref 190), some (.int x1), some (.int x2), some (.int x3), some (.int 0)]) d197_112 rfl rfl) ?_
        refine yL.eq (y_iload_n (pc := 114) (x := x3) d197_114 rfl) ?_
        refine yL.eq (y_iload (pc := 115) (x := 0) d197_115 rfl) ?_
        refine yL.eq (y_if_eq (pc := 117) (t := 124) d197_117 (by decide)) ?_
        refine yL.eq (if_pos cp_Int32_0_eq_0) ?_
        refine yL.eq (y_iconst (pc := 124) (v := 0) d197_124 kc_0) ?_
        refine yL.eq (y_iadd (pc := 125) d197_125) ?_
        refine yL.eq (y_istore_n (pc := 126) (ls' := [some (.ref 190), some (.int x1), some (.int x2), some (.int (x3 + 0)), some (.int 0)]) d197_126 rfl rfl) ?_
        refine yL.eq (y_goto (pc := 127) (t := 62) d197_127 (by decide)) ?_
        exact yL.rf
    ·
      refine yL.eq (y_iload_n (pc := 130) (x := x3) d197_130 rfl) ?_
      exact yL.eq (y_ireti (pc := 131) d197_131 mr_197) yL.rf
set_option maxRecDepth 20000 in
set_option maxHeartbeats 4000000 in
theorem e198  {M : yM} : yL (yLet (yU M 190 0 0) fun M1 => yX 198 14 [some (.ref 190), some (.int (-1)), some (.int 0), some (.int 0), some (.int 0), none, none, none] [] M1 0 0) (yX 198 0 [some (.ref 190), none, none, none, none, none, none, none] [] M 0 0) := by
  refine yL.eq (y_aload_n (pc := 0) (x := 190) d198_0 rfl) ?_
  refine yL.eq (y_iconst (pc := 1) (v := 0) d198_1 kc_0) ?_
  refine y_putiL (pc := 2) d198_2 q198_48 s_i_190_0 rfl (fun M1 => ?_)
  refine yL.eq (y_iconst (pc := 5) (v := (-1)) d198_5 kc_m1) ?_
  refine yL.eq (y_istore_n (pc := 6) (ls' := [some (.ref 190), some (.int (-1)), none, none, none, none, none, none]) d198_6 rfl rfl) ?_
  refine yL.eq (y_iconst (pc := 7) (v := 0) d198_7 kc_0) ?_
  refine yL.eq (y_istore_n (pc := 8) (ls' := [some (.ref 190), some (.int (-1)), some (.int 0), none, none, none, none, none]) d198_8 rfl rfl) ?_
  refine yL.eq (y_iconst (pc := 9) (v := 0) d198_9 kc_0) ?_
  refine yL.eq (y_istore_n (pc := 10) (ls' := [some (.ref 190), some (.int (-1)), some (.int 0), some (.int 0), none, none, none, none]) d198_10 rfl rfl) ?_
  refine yL.eq (y_iconst (pc := 11) (v := 0) d198_11 kc_0) ?_
  refine yL.eq (y_istore (pc := 12) (ls' := [some (.ref 190), some (.int (-1)), some (.int 0), some (.int 0), some (.int 0), none, none, none]) d198_12 rfl rfl) ?_
  exact yL.rf
set_option maxRecDepth 20000 in
set_option maxHeartbeats 4000000 in
theorem e198_14 {x1 : Int32} {x2 : Int32} {x3 : Int32} {x4 : Int32} {o5 : Option Value} {o6 : Option Value} {o7 : Option Value} {M : yM} : yL (if x4 < 4 then yCv false (yX 113 0 [some (.ref 191), some (.ref 192), none] [] M 0 0) fun M2 => if yinB 94 95 = true then yLet (yU M2 192 (yx 94) x4) fun M3 => yCi false (yX 144 0 [some (.ref 190), some (.ref 192), none, none] [] M3 0 0) fun v6 M5 => if x1 = (-1) then yX 198 87 [some (.ref 190), some (.int x1), some (.int x2), some (.int x3), some (.int x4), some (.int v6), some (.int ((M5 192 15) - (M5 190 11))), o7] [] M5 0 0 else if ((M5 192 15) - (M5 190 11)) < x2 then yX 198 87 [some (.ref 190), some (.int x1), some (.int x2), some (.int x3), some (.int x4), some (.int v6), some (.int ((M5 192 15) - (M5 190 11))), o7] [] M5 0 0 else if ((M5 192 15) - (M5 190 11)) = x2 then if v6 < x3 then yX 198 87 [some (.ref 190), some (.int x1), some (.int x2), some (.int x3), some (.int x4), some (.int v6), some (.int ((M5 192 15) - (M5 190 11))), o7] [] M5 0 0 else yX 198 91 [some (.ref 190), some (.int x1), some (.int x2), some (.int x3), some (.int x4), some (.int v6), some (.int ((M5 192 15) - (M5 190 11))), o7] [] M5 0 0 else yX 198 91 [some (.ref 190), some (.int x1), some (.int x2), some (.int x3), some (.int x4), some (.int v6), some (.int ((M5 192 15) - (M5 190 11))), o7] [] M5 0 0 else none else yI x1 M) (yX 198 14 [some (.ref 190), some (.int x1), some (.int x2), some (.int x3), some (.int x4), o5, o6, o7] [] M 0 0) := by
  refine yL.eq (y_iload (pc := 14) (x := x4) d198_14 rfl) ?_
  refine yL.eq (y_iconst (pc := 16) (v := 4) d198_16 kc_4) ?_
  refine yL.eq (y_icmp_ge (pc := 17) (t := 136) d198_17 (by decide)) ?_
  refine yL.ite (fun h1 => ?_) (fun h1 => ?_)
  ·
    refine yL.eq (y_aload_n (pc := 20) (x := 190) d198_20 rfl) ?_
    refine yL.eq (y_getr (pc := 21) (r := 191) d198_21 q198_7 s_r_190_1) ?_
    refine yL.eq (y_aload_n (pc := 24) (x := 190) d198_24 rfl) ?_
    refine yL.eq (y_getr (pc := 25) (r := 192) d198_25 q198_13 s_r_190_2) ?_
    refine y_calls_v (pc := 28) (n := 2) (n' := 3) (nc' := 0) (ns' := 0) [.ref 191, .ref 192] [] false d198_28 q198_242 rfl rfl rfl (Nat.le_of_ble_eq_true rfl) (Nat.le_of_ble_eq_true rfl) rfl (by decide +kernel) (by decide +kernel) (fun M2 => ?_)
    refine yL.eq (y_aload_n (pc := 31) (x := 190) d198_31 rfl) ?_
    refine yL.eq (y_getr (pc := 32) (r := 192) d198_32 q198_13 s_r_190_2) ?_
    refine yL.eq (y_bipush (pc := 35) (v := 94) d198_35 kb_94) ?_
    refine yL.eq (y_iload (pc := 37) (x := x4) d198_37 rfl) ?_
    refine y_iastL (pc := 39) (n := 95) d198_39 (yR_a yR192) (fun h4 M3 => ?_)
    refine yL.eq (y_aload_n (pc := 40) (x := 190) d198_40 rfl) ?_
    refine yL.eq (y_aload_n (pc := 41) (x := 190) d198_41 rfl) ?_
    refine yL.eq (y_getr (pc := 42) (r := 192) d198_42 q198_13 s_r_190_2) ?_
    refine y_callv_i (pc := 45) (n := 2) (n' := 4) (nc' := 0) (ns' := 0) [.ref 192] [] false d198_45 q198_248 mk_144 s_t_190 rfl rfl (Nat.le_of_ble_eq_true rfl) (Nat.le_of_ble_eq_true rfl) rfl (by decide +kernel) (by decide +kernel) (fun v6 M5 => ?_)
    refine yL.eq (y_istore (pc := 48) (ls' := [some (.ref 190), some (.int x1), some (.int x2), some (.int x3), some (.int x4), some (.int v6), o6, o7]) d198_48 rfl rfl) ?_
    refine yL.eq (y_aload_n (pc := 50) (x := 190) d198_50 rfl) ?_
    refine yL.eq (y_getr (pc := 51) (r := 192) d198_51 q198_13 s_r_190_2) ?_
    refine yL.eq (y_bipush (pc := 54) (v := 15) d198_54 kb_15) ?_
    refine yL.eq (y_iald (pc := 56) (n := 95) d198_56 (yR_a yR192)) ?_
    refine yL.eq (if_pos in_15_95) ?_
    show yL _ (yX 198 57 [some (.ref 190), some (.int x1), some (.int x2), some (.int x3), some (.int x4), some (.int v6), o6, o7] ([.int (M5 192 15)]) M5 0 0)
    refine yL.eq (y_aload_n (pc := 57) (x := 190) d198_57 rfl) ?_
    refine yL.eq (y_geti (pc := 58) d198_58 q198_127 s_i_190_11) ?_
    refine yL.eq (y_isub (pc := 61) d198_61) ?_
    refine yL.eq (y_istore (pc := 62) (ls' := [some (.ref 190), some (.int x1), some (.int x2), some (.int x3), some (.int x4), some (.int v6), some (.int ((M5 192 15) - (M5 190 11))), o7]) d198_62 rfl rfl) ?_
    refine yL.eq (y_iload_n (pc := 64) (x := x1) d198_64 rfl) ?_
    refine yL.eq (y_iconst (pc := 65) (v := (-1)) d198_65 kc_m1) ?_
    refine yL.eq (y_icmp_eq (pc := 66) (t := 87) d198_66 (by decide)) ?_
    refine yL.ite (fun h7 => ?_) (fun h7 => ?_)
    ·
      exact yL.rf
    ·
      refine yL.eq (y_iload (pc := 69) (x := ((M5 192 15) - (M5 190 11))) d198_69 rfl) ?_
      refine yL.eq (y_iload_n (pc := 71) (x := x2) d198_71 rfl) ?_
      refine yL.eq (y_icmp_lt (pc := 72) (t := 87) d198_72 (by decide)) ?_
      refine yL.ite (fun h8 => ?_) (fun h8 => ?_)
      ·
        exact yL.rf
      ·
        refine yL.eq (y_iload (pc := 75) (x := ((M5 192 15) - (M5 190 11))) d198_75 rfl) ?_
        refine yL.eq (y_iload_n (pc := 77) (x := x2) d198_77 rfl) ?_
        refine yL.eq (y_icmp_ne (pc := 78) (t := 91) d198_78 (by decide)) ?_
        refine yL.ite (fun h9 => ?_) (fun h9 => ?_)
        ·
          refine yL.eq (y_iload (pc := 81) (x := v6) d198_81 rfl) ?_
          refine yL.eq (y_iload_n (pc := 83) (x := x3) d198_83 rfl) ?_
          refine yL.eq (y_icmp_ge (pc := 84) (t := 91) d198_84 (by decide)) ?_
          refine yL.ite (fun h10 => ?_) (fun h10 => ?_)
          ·
            exact yL.rf
          ·
            exact yL.rf
        ·
          exact yL.rf
  ·
    refine yL.eq (y_iload_n (pc := 136) (x := x1) d198_136 rfl) ?_
    exact yL.eq (y_ireti (pc := 137) d198_137 mr_198) yL.rf
set_option maxRecDepth 20000 in
set_option maxHeartbeats 4000000 in
theorem e198_87 {x1 : Int32} {x2 : Int32} {x3 : Int32} {x4 : Int32} {x5 : Int32} {x6 : Int32} {o7 : Option Value} {M : yM} : yL (yX 198 14 [some (.ref 190), some (.int x4), some (.int x6), some (.int x5), some (.int (x4 + 1)), some (.int x5), some (.int x6), some (.int 1)] [] M 0 0) (yX 198 87 [some (.ref 190), some (.int x1), some (.int x2), some (.int x3), some (.int x4), some (.int x5), some (.int x6), o7] [] M 0 0) := by
  refine yL.eq (y_iconst (pc := 87) (v := 1) d198_87 kc_1) ?_
  refine yL.eq (y_goto (pc := 88) (t := 92) d198_88 (by decide)) ?_
  refine yL.eq (y_istore (pc := 92) (ls' := [some (.ref 190), some (.int x1), some (.int x2), some (.int x3), some (.int x4), some (.int x5), some (.int x6), some (.int 1)]) d198_92 rfl rfl) ?_
  refine yL.eq (y_iload (pc := 94) (x := 1) d198_94 rfl) ?_
  refine yL.eq (y_if_eq (pc := 96) (t := 104) d198_96 (by decide)) ?_
  refine yL.eq (if_neg cn_Int32_1_eq_0) ?_
  refine yL.eq (y_iload (pc := 99) (x := x4) d198_99 rfl) ?_
  refine yL.eq (y_goto (pc := 101) (t := 105) d198_101 (by decide)) ?_
  refine yL.eq (y_istore_n (pc := 105) (ls' := [some (.ref 190), some (.int x4), some (.int x2), some (.int x3), some (.int x4), some (.int x5), some (.int x6), some (.int 1)]) d198_105 rfl rfl) ?_
  refine yL.eq (y_iload (pc := 106) (x := 1) d198_106 rfl) ?_
  refine yL.eq (y_if_eq (pc := 108) (t := 116) d198_108 (by decide)) ?_
  refine yL.eq (if_neg cn_Int32_1_eq_0) ?_
  refine yL.eq (y_iload (pc := 111) (x := x6) d198_111 rfl) ?_
  refine yL.eq (y_goto (pc := 113) (t := 117) d198_113 (by decide)) ?_
  refine yL.eq (y_istore_n (pc := 117) (ls' := [some (.ref 190), some (.int x4), some (.int x6), some (.int x3), some (.int x4), some (.int x5), some (.int x6), some (.int 1)]) d198_117 rfl rfl) ?_
  refine yL.eq (y_iload (pc := 118) (x := 1) d198_118 rfl) ?_
  refine yL.eq (y_if_eq (pc := 120) (t := 128) d198_120 (by decide)) ?_
  refine yL.eq (if_neg cn_Int32_1_eq_0) ?_
  refine yL.eq (y_iload (pc := 123) (x := x5) d198_123 rfl) ?_
  refine yL.eq (y_goto (pc := 125) (t := 129) d198_125 (by decide)) ?_
  refine yL.eq (y_istore_n (pc := 129) (ls' := [some (.ref 190), some (.int x4), some (.int x6), some (.int x5), some (.int x4), some (.int x5), some (.int x6), some (.int 1)]) d198_129 rfl rfl) ?_
  refine yL.eq (y_iinc (pc := 130) (v := 1) (x := x4) (ls' := [some (.ref 190), some (.int x4), some (.int x6), some (.int x5), some (.int (x4 + 1)), some (.int x5), some (.int x6), some (.int 1)]) d198_130 kc_1 rfl (Nat.le_of_ble_eq_true rfl) rfl) ?_
  refine yL.eq (y_goto (pc := 133) (t := 14) d198_133 (by decide)) ?_
  exact yL.rf
set_option maxRecDepth 20000 in
set_option maxHeartbeats 4000000 in
theorem e198_91 {x1 : Int32} {x2 : Int32} {x3 : Int32} {x4 : Int32} {x5 : Int32} {x6 : Int32} {o7 : Option Value} {M : yM} : yL (yX 198 14 [some (.ref 190), some (.int x1), some (.int x2), some (.int x3), some (.int (x4 + 1)), some (.int x5), some (.int x6), some (.int 0)] [] M 0 0) (yX 198 91 [some (.ref 190), some (.int x1), some (.int x2), some (.int x3), some (.int x4), some (.int x5), some (.int x6), o7] [] M 0 0) := by
  refine yL.eq (y_iconst (pc := 91) (v := 0) d198_91 kc_0) ?_
  refine yL.eq (y_istore (pc := 92) (ls' := [some (.ref 190), some (.int x1), some (.int x2), some (.int x3), some (.int x4), some (.int x5), some (.int x6), some (.int 0)]) d198_92 rfl rfl) ?_
  refine yL.eq (y_iload (pc := 94) (x := 0) d198_94 rfl) ?_
  refine yL.eq (y_if_eq (pc := 96) (t := 104) d198_96 (by decide)) ?_
  refine yL.eq (if_pos cp_Int32_0_eq_0) ?_
  refine yL.eq (y_iload_n (pc := 104) (x := x1) d198_104 rfl) ?_
  refine yL.eq (y_istore_n (pc := 105) (ls' := [some (.ref 190), some (.int x1), some (.int x2), some (.int x3), some (.int x4), some (.int x5), some (.int x6), some (.int 0)]) d198_105 rfl rfl) ?_
  refine yL.eq (y_iload (pc := 106) (x := 0) d198_106 rfl) ?_
  refine yL.eq (y_if_eq (pc := 108) (t := 116) d198_108 (by decide)) ?_
  refine yL.eq (if_pos cp_Int32_0_eq_0) ?_
  refine yL.eq (y_iload_n (pc := 116) (x := x2) d198_116 rfl) ?_
  refine yL.eq (y_istore_n (pc := 117) (ls' := [some (.ref 190), some (.int x1), some (.int x2), some (.int x3), some (.int x4), some (.int x5), some (.int x6), some (.int 0)]) d198_117 rfl rfl) ?_
  refine yL.eq (y_iload (pc := 118) (x := 0) d198_118 rfl) ?_
  refine yL.eq (y_if_eq (pc := 120) (t := 128) d198_120 (by decide)) ?_
  refine yL.eq (if_pos cp_Int32_0_eq_0) ?_
  refine yL.eq (y_iload_n (pc := 128) (x := x3) d198_128 rfl) ?_
  refine yL.eq (y_istore_n (pc := 129) (ls' := [some (.ref 190), some (.int x1), some (.int x2), some (.int x3), some (.int x4), some (.int x5), some (.int x6), some (.int 0)]) d198_129 rfl rfl) ?_
  refine yL.eq (y_iinc (pc := 130) (v := 1) (x := x4) (ls' := [some (.ref 190), some (.int x1), some (.int x2), some (.int x3), some (.int (x4 + 1)), some (.int x5), some (.int x6), some (.int 0)]) d198_130 kc_1 rfl (Nat.le_of_ble_eq_true rfl) rfl) ?_
  refine yL.eq (y_goto (pc := 133) (t := 14) d198_133 (by decide)) ?_
  exact yL.rf
set_option maxRecDepth 20000 in
set_option maxHeartbeats 4000000 in
theorem e199 {a1 : Int32} {a2 : Int32} {M : yM} : yL (yCi false (yX 119 0 [some (.int a1)] [] M 0 0) fun v2 M1 => if v2 = 0 then yCi false (yX 107 0 [some (.ref 190), some (.int 1)] [] M1 0 0) fun v5 M4 => if v5 = 0 then yX 199 41 [some (.ref 190), some (.int a1), some (.int a2), some (.int (-1)), some (.int 0), some (.int a1), none, none] [] M4 0 0 else yI 0 M4 else yCi false (yX 119 0 [some (.int a2)] [] M1 0 0) fun v8 M7 => if v8 = 0 then yCi false (yX 107 0 [some (.ref 190), some (.int 1)] [] M7 0 0) fun v11 M10 => if v11 = 0 then yX 199 41 [some (.ref 190), some (.int a1), some (.int a2), some (.int (-1)), some (.int 0), some (.int a1), none, none] [] M10 0 0 else yI 0 M10 else if a2 < a1 then yCi false (yX 107 0 [some (.ref 190), some (.int 1)] [] M7 0 0) fun v15 M14 => if v15 = 0 then yX 199 41 [some (.ref 190), some (.int a1), some (.int a2), some (.int (-1)), some (.int 0), some (.int a1), none, none] [] M14 0 0 else yI 0 M14 else yCi false (yX 107 0 [some (.ref 190), some (.int 0)] [] M7 0 0) fun v18 M17 => if v18 = 0 then yX 199 41 [some (.ref 190), some (.int a1), some (.int a2), some (.int (-1)), some (.int 0), some (.int a1), none, none] [] M17 0 0 else yI 0 M17) (yX 199 0 [some (.ref 190), some (.int a1), some (.int a2), none, none, none, none, none] [] M 0 0) := by
  refine yL.eq (y_aload_n (pc := 0) (x := 190) d199_0 rfl) ?_
  refine yL.eq (y_iload_n (pc := 1) (x := a1) d199_1 rfl) ?_
  refine y_calls_i (pc := 2) (n := 1) (n' := 1) (nc' := 0) (ns' := 0) [.int a1] [.ref 190] false d199_2 q199_287 rfl rfl rfl (Nat.le_of_ble_eq_true rfl) (Nat.le_of_ble_eq_true rfl) rfl (by decide +kernel) (by decide +kernel) (fun v2 M1 => ?_)
  refine yL.eq (y_if_eq (pc := 5) (t := 24) d199_5 (by decide)) ?_
  refine yL.ite (fun h3 => ?_) (fun h3 => ?_)
  ·
    refine yL.eq (y_iconst (pc := 24) (v := 1) d199_24 kc_1) ?_
    refine y_callv_i (pc := 25) (n := 2) (n' := 2) (nc' := 0) (ns' := 0) [.int 1] [] false d199_25 q199_159 mk_107 s_t_190 rfl rfl (Nat.le_of_ble_eq_true rfl) (Nat.le_of_ble_eq_true rfl) rfl (by decide +kernel) (by decide +kernel) (fun v5 M4 => ?_)
    refine yL.eq (y_if_eq (pc := 28) (t := 33) d199_28 (by decide)) ?_
    refine yL.ite (fun h6 => ?_) (fun h6 => ?_)
    ·
      refine yL.eq (y_iconst (pc := 33) (v := (-1)) d199_33 kc_m1) ?_
      refine yL.eq (y_istore_n (pc := 34) (ls' := [some (.ref 190), some (.int a1), some (.int a2), some (.int (-1)), none, none, none, none]) d199_34 rfl rfl) ?_
      refine yL.eq (y_iconst (pc := 35) (v := 0) d199_35 kc_0) ?_
      refine yL.eq (y_istore (pc := 36) (ls' := [some (.ref 190), some (.int a1), some (.int a2), some (.int (-1)), some (.int 0), none, none, none]) d199_36 rfl rfl) ?_
      refine yL.eq (y_iload_n (pc := 38) (x := a1) d199_38 rfl) ?_
      refine yL.eq (y_istore (pc := 39) (ls' := [some (.ref 190), some (.int a1), some (.int a2), some (.int (-1)), some (.int 0), some (.int a1), none, none]) d199_39 rfl rfl) ?_
      exact yL.rf
    ·
      refine yL.eq (y_iconst (pc := 31) (v := 0) d199_31 kc_0) ?_
      exact yL.eq (y_ireti (pc := 32) d199_32 mr_199) yL.rf
  ·
    refine yL.eq (y_iload_n (pc := 8) (x := a2) d199_8 rfl) ?_
    refine y_calls_i (pc := 9) (n := 1) (n' := 1) (nc' := 0) (ns' := 0) [.int a2] [.ref 190] false d199_9 q199_287 rfl rfl rfl (Nat.le_of_ble_eq_true rfl) (Nat.le_of_ble_eq_true rfl) rfl (by decide +kernel) (by decide +kernel) (fun v8 M7 => ?_)
    refine yL.eq (y_if_eq (pc := 12) (t := 24) d199_12 (by decide)) ?_
    refine yL.ite (fun h9 => ?_) (fun h9 => ?_)
    ·
      refine yL.eq (y_iconst (pc := 24) (v := 1) d199_24 kc_1) ?_
      refine y_callv_i (pc := 25) (n := 2) (n' := 2) (nc' := 0) (ns' := 0) [.int 1] [] false d199_25 q199_159 mk_107 s_t_190 rfl rfl (Nat.le_of_ble_eq_true rfl) (Nat.le_of_ble_eq_true rfl) rfl (by decide +kernel) (by decide +kernel) (fun v11 M10 => ?_)
      refine yL.eq (y_if_eq (pc := 28) (t := 33) d199_28 (by decide)) ?_
      refine yL.ite (fun h12 => ?_) (fun h12 => ?_)
      ·
        refine yL.eq (y_iconst (pc := 33) (v := (-1)) d199_33 kc_m1) ?_
        refine yL.eq (y_istore_n (pc := 34) (ls' := [some (.ref 190), some (.int a1), some (.int a2), some (.int (-1)), none, none, none, none]) d199_34 rfl rfl) ?_
        refine yL.eq (y_iconst (pc := 35) (v := 0) d199_35 kc_0) ?_
        refine yL.eq (y_istore (pc := 36) (ls' := [some (.ref 190), some (.int a1), some (.int a2), some (.int (-1)), some (.int 0), none, none, none]) d199_36 rfl rfl) ?_
        refine yL.eq (y_iload_n (pc := 38) (x := a1) d199_38 rfl) ?_
        refine yL.eq (y_istore (pc := 39) (ls' := [some (.ref 190), some (.int a1), some (.int a2), some (.int (-1)), some (.int 0), some (.int a1), none, none]) d199_39 rfl rfl) ?_
        exact yL.rf
      ·
        refine yL.eq (y_iconst (pc := 31) (v := 0) d199_31 kc_0) ?_
        exact yL.eq (y_ireti (pc := 32) d199_32 mr_199) yL.rf
    ·
      refine yL.eq (y_iload_n (pc := 15) (x := a2) d199_15 rfl) ?_
      refine yL.eq (y_iload_n (pc := 16) (x := a1) d199_16 rfl) ?_
      refine yL.eq (y_icmp_lt (pc := 17) (t := 24) d199_17 (by decide)) ?_
      refine yL.ite (fun h13 => ?_) (fun h13 => ?_)
      ·
        refine yL.eq (y_iconst (pc := 24) (v := 1) d199_24 kc_1) ?_
        refine y_callv_i (pc := 25) (n := 2) (n' := 2) (nc' := 0) (ns' := 0) [.int 1] [] false d199_25 q199_159 mk_107 s_t_190 rfl rfl (Nat.le_of_ble_eq_true rfl) (Nat.le_of_ble_eq_true rfl) rfl (by decide +kernel) (by decide +kernel) (fun v15 M14 => ?_)
        refine yL.eq (y_if_eq (pc := 28) (t := 33) d199_28 (by decide)) ?_
        refine yL.ite (fun h16 => ?_) (fun h16 => ?_)
        ·
          refine yL.eq (y_iconst (pc := 33) (v := (-1)) d199_33 kc_m1) ?_
          refine yL.eq (y_istore_n (pc := 34) (ls' := [some (.ref 190), some (.int a1), some (.int a2), some (.int (-1)), none, none, none, none]) d199_34 rfl rfl) ?_
          refine yL.eq (y_iconst (pc := 35) (v := 0) d199_35 kc_0) ?_
          refine yL.eq (y_istore (pc := 36) (ls' := [some (.ref 190), some (.int a1), some (.int a2), some (.int (-1)), some (.int 0), none, none, none]) d199_36 rfl rfl) ?_
          refine yL.eq (y_iload_n (pc := 38) (x := a1) d199_38 rfl) ?_
          refine yL.eq (y_istore (pc := 39) (ls' := [some (.ref 190), some (.int a1), some (.int a2), some (.int (-1)), some (.int 0), some (.int a1), none, none]) d199_39 rfl rfl) ?_
          exact yL.rf
        ·
          refine yL.eq (y_iconst (pc := 31) (v := 0) d199_31 kc_0) ?_
          exact yL.eq (y_ireti (pc := 32) d199_32 mr_199) yL.rf
      ·
        refine yL.eq (y_iconst (pc := 20) (v := 0) d199_20 kc_0) ?_
        refine yL.eq (y_goto (pc := 21) (t := 25) d199_21 (by decide)) ?_
        refine y_callv_i (pc := 25) (n := 2) (n' := 2) (nc' := 0) (ns' := 0) [.int 0] [] false d199_25 q199_159 mk_107 s_t_190 rfl rfl (Nat.le_of_ble_eq_true rfl) (Nat.le_of_ble_eq_true rfl) rfl (by decide +kernel) (by decide +kernel) (fun v18 M17 => ?_)
        refine yL.eq (y_if_eq (pc := 28) (t := 33) d199_28 (by decide)) ?_
        refine yL.ite (fun h19 => ?_) (fun h19 => ?_)
        ·
          refine yL.eq (y_iconst (pc := 33) (v := (-1)) d199_33 kc_m1) ?_
          refine yL.eq (y_istore_n (pc := 34) (ls' := [some (.ref 190), some (.int a1), some (.int a2), some (.int (-1)), none, none, none, none]) d199_34 rfl rfl) ?_
          refine yL.eq (y_iconst (pc := 35) (v := 0) d199_35 kc_0) ?_
          refine yL.eq (y_istore (pc := 36) (ls' := [some (.ref 190), some (.int a1), some (.int a2), some (.int (-1)), some (.int 0), none, none, none]) d199_36 rfl rfl) ?_
          refine yL.eq (y_iload_n (pc := 38) (x := a1) d199_38 rfl) ?_
          refine yL.eq (y_istore (pc := 39) (ls' := [some (.ref 190), some (.int a1), some (.int a2), some (.int (-1)), some (.int 0), some (.int a1), none, none]) d199_39 rfl rfl) ?_
          exact yL.rf
        ·
          refine yL.eq (y_iconst (pc := 31) (v := 0) d199_31 kc_0) ?_
          exact yL.eq (y_ireti (pc := 32) d199_32 mr_199) yL.rf
set_option maxRecDepth 20000 in
set_option maxHeartbeats 4000000 in
theorem e199_41 {o1 : Option Value} {x2 : Int32} {x3 : Int32} {x4 : Int32} {x5 : Int32} {o6 : Option Value} {o7 : Option Value} {M : yM} : yL (if x5 ≤ x2 then yCi false (yX 195 0 [some (.ref 190), some (.int x5), some (.int 1)] [] M 0 0) fun v3 M2 => if x3 = (-1) then yX 199 68 [some (.ref 190), o1, some (.int x2), some (.int x3), some (.int x4), some (.int x5), some (.int v3), o7] [] M2 0 0 else if v3 < x4 then yX 199 68 [some (.ref 190), o1, some (.int x2), some (.int x3), some (.int x4), some (.int x5), some (.int v3), o7] [] M2 0 0 else yX 199 41 [some (.ref 190), o1, some (.int x2), some (.int x3), some (.int x4), some (.int (x5 + 1)), some (.int v3), some (.int 0)] [] M2 0 0 else yI x3 M) (yX 199 41 [some (.ref 190), o1, some (.int x2), some (.int x3), some (.int x4), some (.int x5), o6, o7] [] M 0 0) := by
  refine yL.eq (y_iload (pc := 41) (x := x5) d199_41 rfl) ?_
  refine yL.eq (y_iload_n (pc := 43) (x := x2) d199_43 rfl) ?_
  refine yL.eq (y_icmp_gt (pc := 44) (t := 107) d199_44 (by decide)) ?_
  refine yL.ite (fun h1 => ?_) (fun h1 => ?_)
  ·
    refine yL.eq (y_aload_n (pc := 47) (x := 190) d199_47 rfl) ?_
    refine yL.eq (y_iload (pc := 48) (x := x5) d199_48 rfl) ?_
    refine yL.eq (y_iconst (pc := 50) (v := 1) d199_50 kc_1) ?_
    refine y_callv_i (pc := 51) (n := 3) (n' := 3) (nc' := 0) (ns' := 0) [.int x5, .int 1] [] false d199_51 q199_305 mk_195 s_t_190 rfl rfl (Nat.le_of_ble_eq_true rfl) (Nat.le_of_ble_eq_true rfl) rfl (by decide +kernel) (by decide +kernel) (fun v3 M2 => ?_)
    refine yL.eq (y_istore (pc := 54) (ls' := [some (.ref 190), o1, some (.int x2), some (.int x3), some (.int x4), some (.int x5), some (.int v3), o7]) d199_54 rfl rfl) ?_
    refine yL.eq (y_iload_n (pc := 56) (x := x3) d199_56 rfl) ?_
    refine yL.eq (y_iconst (pc := 57) (v := (-1)) d199_57 kc_m1) ?_
    refine yL.eq (y_icmp_eq (pc := 58) (t := 68) d199_58 (by decide)) ?_
    refine yL.ite (fun h4 => ?_) (fun h4 => ?_)
    ·
      exact yL.rf
    ·
      refine yL.eq (y_iload (pc := 61) (x := v3) d199_61 rfl) ?_
      refine yL.eq (y_iload (pc := 63) (x := x4) d199_63 rfl) ?_
      refine yL.eq (y_icmp_ge (pc := 65) (t := 72) d199_65 (by decide)) ?_
      refine yL.ite (fun h5 => ?_) (fun h5 => ?_)
      ·
        exact yL.rf
      ·
        refine yL.eq (y_iconst (pc := 72) (v := 0) d199_72 kc_0) ?_
        refine yL.eq (y_istore (pc := 73) (ls' := [some (.ref 190), o1, some (.int x2), some (.int x3), some (.int x4), some (.int x5), some (.int v3), some (.int 0)]) d199_73 rfl rfl) ?_
        refine yL.eq (y_iload (pc := 75) (x := 0) d199_75 rfl) ?_
        refine yL.eq (y_if_eq (pc := 77) (t := 85) d199_77 (by decide)) ?_
        refine yL.eq (if_pos cp_Int32_0_eq_0) ?_
        refine yL.eq (y_iload_n (pc := 85) (x := x3) d199_85 rfl) ?_
        refine yL.eq (y_istore_n (pc := 86) (ls' := [some (.ref 190), o1, some (.int x2), some (.int x3), some (.int x4), some (.int x5), some (.int v3), some (.int 0)]) d199_86 rfl rfl) ?_
        refine yL.eq (y_iload (pc := 87) (x := 0) d199_87 rfl) ?_
        refine yL.eq (y_if_eq (pc := 89) (t := 97) d199_89 (by decide)) ?_
        refine yL.eq (if_pos cp_Int32_0_eq_0) ?_
        refine yL.eq (y_iload (pc := 97) (x := x4) d199_97 rfl) ?_
        refine yL.eq (y_istore (pc := 99) (ls' := [some (.ref 190), o1, some (.int x2), some (.int x3), some (.int x4), some (.int x5), some (.int v3), some (.int 0)]) d199_99 rfl rfl) ?_
        refine yL.eq (y_iinc (pc := 101) (v := 1) (x := x5) (ls' := [some (.ref 190), o1, some (.int x2), some (.int x3), some (.int x4), some (.int (x5 + 1)), some (.int v3), some (.int 0)]) d199_101 kc_1 rfl (Nat.le_of_ble_eq_true rfl) rfl) ?_
        refine yL.eq (y_goto (pc := 104) (t := 41) d199_104 (by decide)) ?_
        exact yL.rf
  ·
    refine yL.eq (y_iload_n (pc := 107) (x := x3) d199_107 rfl) ?_
    exact yL.eq (y_ireti (pc := 108) d199_108 mr_199) yL.rf
set_option maxRecDepth 20000 in
set_option maxHeartbeats 4000000 in
theorem e199_68 {o1 : Option Value} {x2 : Int32} {x3 : Int32} {x4 : Int32} {x5 : Int32} {x6 : Int32} {o7 : Option Value} {M : yM} : yL (yX 199 41 [some (.ref 190), o1, some (.int x2), some (.int x5), some (.int x6), some (.int (x5 + 1)), some (.int x6), some (.int 1)] [] M 0 0) (yX 199 68 [some (.ref 190), o1, some (.int x2), some (.int x3), some (.int x4), some (.int x5), some (.int x6), o7] [] M 0 0) := by
  refine yL.eq (y_iconst (pc := 68) (v := 1) d199_68 kc_1) ?_
  refine yL.eq (y_goto (pc := 69) (t := 73) d199_69 (by decide)) ?_
  refine yL.eq (y_istore (pc := 73) (ls' := [some (.ref 190), o1, some (.int x2), some (.int x3), some (.int x4), some (.int x5), some (.int x6), some (.int 1)]) d199_73 rfl rfl) ?_
  refine yL.eq (y_iload (pc := 75) (x := 1) d199_75 rfl) ?_
  refine yL.eq (y_if_eq (pc := 77) (t := 85) d199_77 (by decide)) ?_
  refine yL.eq (if_neg cn_Int32_1_eq_0) ?_
  refine yL.eq (y_iload (pc := 80) (x := x5) d199_80 rfl) ?_
  refine yL.eq (y_goto (pc := 82) (t := 86) d199_82 (by decide)) ?_
  refine yL.eq (y_istore_n (pc := 86) (ls' := [some (.ref 190), o1, some (.int x2), some (.int x5), some (.int x4), some (.int x5), some (.int x6), some (.int 1)]) d199_86 rfl rfl) ?_
  refine yL.eq (y_iload (pc := 87) (x := 1) d199_87 rfl) ?_
  refine yL.eq (y_if_eq (pc := 89) (t := 97) d199_89 (by decide)) ?_
  refine yL.eq (if_neg cn_Int32_1_eq_0) ?_
  refine yL.eq (y_iload (pc := 92) (x := x6) d199_92 rfl) ?_
  refine yL.eq (y_goto (pc := 94) (t := 99) d199_94 (by decide)) ?_
  refine yL.eq (y_istore (pc := 99) (ls' := [some (.ref 190), o1, some (.int x2), some (.int x5), some (.int x6), some (.int x5), some (.int x6), some (.int 1)]) d199_99 rfl rfl) ?_
  refine yL.eq (y_iinc (pc := 101) (v := 1) (x := x5) (ls' := [some (.ref 190), o1, some (.int x2), some (.int x5), some (.int x6), some (.int (x5 + 1)), some (.int x6), some (.int 1)]) d199_101 kc_1 rfl (Nat.le_of_ble_eq_true rfl) rfl) ?_
  refine yL.eq (y_goto (pc := 104) (t := 41) d199_104 (by decide)) ?_
  exact yL.rf
set_option maxRecDepth 20000 in
set_option maxHeartbeats 4000000 in
theorem e200 {a1 : Int32} {a2 : Int32} {M : yM} : yL (yCi false (yX 119 0 [some (.int a1)] [] M 0 0) fun v2 M1 => if v2 = 0 then yI 0 M1 else yCi false (yX 119 0 [some (.int a2)] [] M1 0 0) fun v5 M4 => if v5 = 0 then yI 0 M4 else yCi false (yX 148 0 [some (.ref 192), some (.int a1), some (.int a2)] [] M4 0 0) fun v8 M7 => if v8 < 0 then yI 0 M7 else yI 1 M7) (yX 200 0 [some (.ref 190), some (.int a1), some (.int a2)] [] M 0 0) := by
  refine yL.eq (y_iload_n (pc := 0) (x := a1) d200_0 rfl) ?_
  refine y_calls_i (pc := 1) (n := 1) (n' := 1) (nc' := 0) (ns' := 0) [.int a1] [] false d200_1 q200_287 rfl rfl rfl (Nat.le_of_ble_eq_true rfl) (Nat.le_of_ble_eq_true rfl) rfl (by decide +kernel) (by decide +kernel) (fun v2 M1 => ?_)
  refine yL.eq (y_if_eq (pc := 4) (t := 30) d200_4 (by decide)) ?_
  refine yL.ite (fun h3 => ?_) (fun h3 => ?_)
  ·
    refine yL.eq (y_iconst (pc := 30) (v := 0) d200_30 kc_0) ?_
    exact yL.eq (y_iretz (pc := 31) d200_31 mr_200) (yL.eq yZ_0 yL.rf)
  ·
    refine yL.eq (y_iload_n (pc := 7) (x := a2) d200_7 rfl) ?_
    refine y_calls_i (pc := 8) (n := 1) (n' := 1) (nc' := 0) (ns' := 0) [.int a2] [] false d200_8 q200_287 rfl rfl rfl (Nat.le_of_ble_eq_true rfl) (Nat.le_of_ble_eq_true rfl) rfl (by decide +kernel) (by decide +kernel) (fun v5 M4 => ?_)
    refine yL.eq (y_if_eq (pc := 11) (t := 30) d200_11 (by decide)) ?_
    refine yL.ite (fun h6 => ?_) (fun h6 => ?_)
    ·
      refine yL.eq (y_iconst (pc := 30) (v := 0) d200_30 kc_0) ?_
      exact yL.eq (y_iretz (pc := 31) d200_31 mr_200) (yL.eq yZ_0 yL.rf)
    ·
      refine yL.eq (y_aload_n (pc := 14) (x := 190) d200_14 rfl) ?_
      refine yL.eq (y_getr (pc := 15) (r := 192) d200_15 q200_13 s_r_190_2) ?_
      refine yL.eq (y_iload_n (pc := 18) (x := a1) d200_18 rfl) ?_
      refine yL.eq (y_iload_n (pc := 19) (x := a2) d200_19 rfl) ?_
      refine y_calls_i (pc := 20) (n := 3) (n' := 3) (nc' := 0) (ns' := 0) [.ref 192, .int a1, .int a2] [] false d200_20 q200_290 rfl rfl rfl (Nat.le_of_ble_eq_true rfl) (Nat.le_of_ble_eq_true rfl) rfl (by decide +kernel) (by decide +kernel) (fun v8 M7 => ?_)
      refine yL.eq (y_if_lt (pc := 23) (t := 30) d200_23 (by decide)) ?_
      refine yL.ite (fun h9 => ?_) (fun h9 => ?_)
      ·
        refine yL.eq (y_iconst (pc := 30) (v := 0) d200_30 kc_0) ?_
        exact yL.eq (y_iretz (pc := 31) d200_31 mr_200) (yL.eq yZ_0 yL.rf)
      ·
        refine yL.eq (y_iconst (pc := 26) (v := 1) d200_26 kc_1) ?_
        refine yL.eq (y_goto (pc := 27) (t := 31) d200_27 (by decide)) ?_
        exact yL.eq (y_iretz (pc := 31) d200_31 mr_200) (yL.eq yZ_1 yL.rf)
set_option maxRecDepth 20000 in
set_option maxHeartbeats 4000000 in
theorem e201 {a1 : Int32} {a2 : Int32} {M : yM} : yL (yCi false (yX 115 0 [some (.ref 192), some (.int a1)] [] M 0 0) fun v2 M1 => if v2 = 0 then yI 0 M1 else yCi false (yX 118 0 [some (.int a2)] [] M1 0 0) fun v5 M4 => if v5 = 0 then yI 0 M4 else yCi false (yX 146 0 [some (.ref 192), some (.int (16 + a1)), some (.int a2), none] [] M4 0 0) fun v8 M7 => if v8 ≤ 0 then yI 0 M7 else yI 1 M7) (yX 201 0 [some (.ref 190), some (.int a1), some (.int a2)] [] M 0 0) := by
  refine yL.eq (y_aload_n (pc := 0) (x := 190) d201_0 rfl) ?_
  refine yL.eq (y_getr (pc := 1) (r := 192) d201_1 q201_13 s_r_190_2) ?_
  refine yL.eq (y_iload_n (pc := 4) (x := a1) d201_4 rfl) ?_
  refine y_calls_i (pc := 5) (n := 2) (n' := 2) (nc' := 0) (ns' := 0) [.ref 192, .int a1] [] false d201_5 q201_203 rfl rfl rfl (Nat.le_of_ble_eq_true rfl) (Nat.le_of_ble_eq_true rfl) rfl (by decide +kernel) (by decide +kernel) (fun v2 M1 => ?_)
  refine yL.eq (y_if_eq (pc := 8) (t := 37) d201_8 (by decide)) ?_
  refine yL.ite (fun h3 => ?_) (fun h3 => ?_)
  ·
    refine yL.eq (y_iconst (pc := 37) (v := 0) d201_37 kc_0) ?_
    exact yL.eq (y_iretz (pc := 38) d201_38 mr_201) (yL.eq yZ_0 yL.rf)
  ·
    refine yL.eq (y_iload_n (pc := 11) (x := a2) d201_11 rfl) ?_
    refine y_calls_i (pc := 12) (n := 1) (n' := 1) (nc' := 0) (ns' := 0) [.int a2] [] false d201_12 q201_142 rfl rfl rfl (Nat.le_of_ble_eq_true rfl) (Nat.le_of_ble_eq_true rfl) rfl (by decide +kernel) (by decide +kernel) (fun v5 M4 => ?_)
    refine yL.eq (y_if_eq (pc := 15) (t := 37) d201_15 (by decide)) ?_
    refine yL.ite (fun h6 => ?_) (fun h6 => ?_)
    ·
      refine yL.eq (y_iconst (pc := 37) (v := 0) d201_37 kc_0) ?_
      exact yL.eq (y_iretz (pc := 38) d201_38 mr_201) (yL.eq yZ_0 yL.rf)
    ·
      refine yL.eq (y_aload_n (pc := 18) (x := 190) d201_18 rfl) ?_
      refine yL.eq (y_getr (pc := 19) (r := 192) d201_19 q201_13 s_r_190_2) ?_
      refine yL.eq (y_bipush (pc := 22) (v := 16) d201_22 kb_16) ?_
      refine yL.eq (y_iload_n (pc := 24) (x := a1) d201_24 rfl) ?_
      refine yL.eq (y_iadd (pc := 25) d201_25) ?_
      refine yL.eq (y_iload_n (pc := 26) (x := a2) d201_26 rfl) ?_
      refine y_calls_i (pc := 27) (n := 3) (n' := 4) (nc' := 0) (ns' := 0) [.ref 192, .int (16 + a1), .int a2] [] false d201_27 q201_284 rfl rfl rfl (Nat.le_of_ble_eq_true rfl) (Nat.le_of_ble_eq_true rfl) rfl (by decide +kernel) (by decide +kernel) (fun v8 M7 => ?_)
      refine yL.eq (y_if_le (pc := 30) (t := 37) d201_30 (by decide)) ?_
      refine yL.ite (fun h9 => ?_) (fun h9 => ?_)
      ·
        refine yL.eq (y_iconst (pc := 37) (v := 0) d201_37 kc_0) ?_
        exact yL.eq (y_iretz (pc := 38) d201_38 mr_201) (yL.eq yZ_0 yL.rf)
      ·
        refine yL.eq (y_iconst (pc := 33) (v := 1) d201_33 kc_1) ?_
        refine yL.eq (y_goto (pc := 34) (t := 38) d201_34 (by decide)) ?_
        exact yL.eq (y_iretz (pc := 38) d201_38 mr_201) (yL.eq yZ_1 yL.rf)
set_option maxRecDepth 20000 in
set_option maxHeartbeats 4000000 in
theorem e202 {a1 : Int32} {a2 : Int32} {a3 : Int32} {M : yM} : yL (yCi false (yX 115 0 [some (.ref 192), some (.int a1)] [] M 0 0) fun v2 M1 => if v2 = 0 then yX 202 26 [some (.ref 190), some (.int a1), some (.int a2), some (.int a3), none] [] M1 0 0 else yCi false (yX 115 0 [some (.ref 192), some (.int a2)] [] M1 0 0) fun v5 M4 => if v5 = 0 then yX 202 26 [some (.ref 190), some (.int a1), some (.int a2), some (.int a3), none] [] M4 0 0 else yCi false (yX 152 0 [some (.ref 192), some (.int a1), some (.int a2), some (.int a3)] [] M4 0 0) fun v8 M7 => if v8 = 0 then yI 0 M7 else yCi false (yX 153 0 [some (.ref 192), some (.int a1), some (.int a2), some (.int a3), none] [] M7 0 0) fun v11 M10 => if v11 < 0 then yI 0 M10 else yI 1 M10) (yX 202 0 [some (.ref 190), some (.int a1), some (.int a2), some (.int a3), none] [] M 0 0) := by
  refine yL.eq (y_aload_n (pc := 0) (x := 190) d202_0 rfl) ?_
  refine yL.eq (y_getr (pc := 1) (r := 192) d202_1 q202_13 s_r_190_2) ?_
  refine yL.eq (y_iload_n (pc := 4) (x := a1) d202_4 rfl) ?_
  refine y_calls_i (pc := 5) (n := 2) (n' := 2) (nc' := 0) (ns' := 0) [.ref 192, .int a1] [] false d202_5 q202_203 rfl rfl rfl (Nat.le_of_ble_eq_true rfl) (Nat.le_of_ble_eq_true rfl) rfl (by decide +kernel) (by decide +kernel) (fun v2 M1 => ?_)
  refine yL.eq (y_if_eq (pc := 8) (t := 26) d202_8 (by decide)) ?_
  refine yL.ite (fun h3 => ?_) (fun h3 => ?_)
  ·
    exact yL.rf
  ·
    refine yL.eq (y_aload_n (pc := 11) (x := 190) d202_11 rfl) ?_
    refine yL.eq (y_getr (pc := 12) (r := 192) d202_12 q202_13 s_r_190_2) ?_
    refine yL.eq (y_iload_n (pc := 15) (x := a2) d202_15 rfl) ?_
    refine y_calls_i (pc := 16) (n := 2) (n' := 2) (nc' := 0) (ns' := 0) [.ref 192, .int a2] [] false d202_16 q202_203 rfl rfl rfl (Nat.le_of_ble_eq_true rfl) (Nat.le_of_ble_eq_true rfl) rfl (by decide +kernel) (by decide +kernel) (fun v5 M4 => ?_)
    refine yL.eq (y_if_eq (pc := 19) (t := 26) d202_19 (by decide)) ?_
    refine yL.ite (fun h6 => ?_) (fun h6 => ?_)
    ·
      exact yL.rf
    ·
      refine yL.eq (y_iconst (pc := 22) (v := 1) d202_22 kc_1) ?_
      refine yL.eq (y_goto (pc := 23) (t := 27) d202_23 (by decide)) ?_
      refine yL.eq (y_istore (pc := 27) (ls' := [some (.ref 190), some (.int a1), some (.int a2), some (.int a3), some (.int 1)]) d202_27 rfl rfl) ?_
      refine yL.eq (y_iload (pc := 29) (x := 1) d202_29 rfl) ?_
      refine yL.eq (y_if_eq (pc := 31) (t := 64) d202_31 (by decide)) ?_
      refine yL.eq (if_neg cn_Int32_1_eq_0) ?_
      refine yL.eq (y_aload_n (pc := 34) (x := 190) d202_34 rfl) ?_
      refine yL.eq (y_getr (pc := 35) (r := 192) d202_35 q202_13 s_r_190_2) ?_
      refine yL.eq (y_iload_n (pc := 38) (x := a1) d202_38 rfl) ?_
      refine yL.eq (y_iload_n (pc := 39) (x := a2) d202_39 rfl) ?_
      refine yL.eq (y_iload_n (pc := 40) (x := a3) d202_40 rfl) ?_
      refine y_calls_i (pc := 41) (n := 4) (n' := 4) (nc' := 0) (ns' := 0) [.ref 192, .int a1, .int a2, .int a3] [] false d202_41 q202_213 rfl rfl rfl (Nat.le_of_ble_eq_true rfl) (Nat.le_of_ble_eq_true rfl) rfl (by decide +kernel) (by decide +kernel) (fun v8 M7 => ?_)
      refine yL.eq (y_if_eq (pc := 44) (t := 64) d202_44 (by decide)) ?_
      refine yL.ite (fun h9 => ?_) (fun h9 => ?_)
      ·
        refine yL.eq (y_iconst (pc := 64) (v := 0) d202_64 kc_0) ?_
        exact yL.eq (y_iretz (pc := 65) d202_65 mr_202) (yL.eq yZ_0 yL.rf)
      ·
        refine yL.eq (y_aload_n (pc := 47) (x := 190) d202_47 rfl) ?_
        refine yL.eq (y_getr (pc := 48) (r := 192) d202_48 q202_13 s_r_190_2) ?_
        refine yL.eq (y_iload_n (pc := 51) (x := a1) d202_51 rfl) ?_
        refine yL.eq (y_iload_n (pc := 52) (x := a2) d202_52 rfl) ?_
        refine yL.eq (y_iload_n (pc := 53) (x := a3) d202_53 rfl) ?_
        refine y_calls_i (pc := 54) (n := 4) (n' := 5) (nc' := 0) (ns' := 0) [.ref 192, .int a1, .int a2, .int a3] [] false d202_54 q202_217 rfl rfl rfl (Nat.le_of_ble_eq_true rfl) (Nat.le_of_ble_eq_true rfl) rfl (by decide +kernel) (by decide +kernel) (fun v11 M10 => ?_)
        refine yL.eq (y_if_lt (pc := 57) (t := 64) d202_57 (by decide)) ?_
        refine yL.ite (fun h12 => ?_) (fun h12 => ?_)
        ·
          refine yL.eq (y_iconst (pc := 64) (v := 0) d202_64 kc_0) ?_
          exact yL.eq (y_iretz (pc := 65) d202_65 mr_202) (yL.eq yZ_0 yL.rf)
        ·
          refine yL.eq (y_iconst (pc := 60) (v := 1) d202_60 kc_1) ?_
          refine yL.eq (y_goto (pc := 61) (t := 65) d202_61 (by decide)) ?_
          exact yL.eq (y_iretz (pc := 65) d202_65 mr_202) (yL.eq yZ_1 yL.rf)
set_option maxRecDepth 20000 in
set_option maxHeartbeats 4000000 in
theorem e202_26 {x1 : Int32} {x2 : Int32} {x3 : Int32} {o4 : Option Value} {M : yM} : yL (yI 0 M) (yX 202 26 [some (.ref 190), some (.int x1), some (.int x2), some (.int x3), o4] [] M 0 0) := by
  refine yL.eq (y_iconst (pc := 26) (v := 0) d202_26 kc_0) ?_
  refine yL.eq (y_istore (pc := 27) (ls' := [some (.ref 190), some (.int x1), some (.int x2), some (.int x3), some (.int 0)]) d202_27 rfl rfl) ?_
  refine yL.eq (y_iload (pc := 29) (x := 0) d202_29 rfl) ?_
  refine yL.eq (y_if_eq (pc := 31) (t := 64) d202_31 (by decide)) ?_
  refine yL.eq (if_pos cp_Int32_0_eq_0) ?_
  refine yL.eq (y_iconst (pc := 64) (v := 0) d202_64 kc_0) ?_
  exact yL.eq (y_iretz (pc := 65) d202_65 mr_202) (yL.eq yZ_0 yL.rf)
set_option maxRecDepth 20000 in
set_option maxHeartbeats 4000000 in
theorem e203 {a1 : Int32} {a2 : Int32} {M : yM} : yL (yCi false (yX 116 0 [some (.int a1)] [] M 0 0) fun v2 M1 => if v2 = 0 then yI 0 M1 else yCi false (yX 120 0 [some (.int a2)] [] M1 0 0) fun v5 M4 => if v5 = 0 then yI 0 M4 else yCi false (yX 146 0 [some (.ref 192), some (.int (86 + a1)), some (.int a2), none] [] M4 0 0) fun v8 M7 => if v8 < 0 then yI 0 M7 else yI 1 M7) (yX 203 0 [some (.ref 190), some (.int a1), some (.int a2)] [] M 0 0) := by
  refine yL.eq (y_iload_n (pc := 0) (x := a1) d203_0 rfl) ?_
  refine y_calls_i (pc := 1) (n := 1) (n' := 1) (nc' := 0) (ns' := 0) [.int a1] [] false d203_1 q203_271 rfl rfl rfl (Nat.le_of_ble_eq_true rfl) (Nat.le_of_ble_eq_true rfl) rfl (by decide +kernel) (by decide +kernel) (fun v2 M1 => ?_)
  refine yL.eq (y_if_eq (pc := 4) (t := 33) d203_4 (by decide)) ?_
  refine yL.ite (fun h3 => ?_) (fun h3 => ?_)
  ·
    refine yL.eq (y_iconst (pc := 33) (v := 0) d203_33 kc_0) ?_
    exact yL.eq (y_iretz (pc := 34) d203_34 mr_203) (yL.eq yZ_0 yL.rf)
  ·
    refine yL.eq (y_iload_n (pc := 7) (x := a2) d203_7 rfl) ?_
    refine y_calls_i (pc := 8) (n := 1) (n' := 1) (nc' := 0) (ns' := 0) [.int a2] [] false d203_8 q203_296 rfl rfl rfl (Nat.le_of_ble_eq_true rfl) (Nat.le_of_ble_eq_true rfl) rfl (by decide +kernel) (by decide +kernel) (fun v5 M4 => ?_)
    refine yL.eq (y_if_eq (pc := 11) (t := 33) d203_11 (by decide)) ?_
    refine yL.ite (fun h6 => ?_) (fun h6 => ?_)
    ·
      refine yL.eq (y_iconst (pc := 33) (v := 0) d203_33 kc_0) ?_
      exact yL.eq (y_iretz (pc := 34) d203_34 mr_203) (yL.eq yZ_0 yL.rf)
    ·
      refine yL.eq (y_aload_n (pc := 14) (x := 190) d203_14 rfl) ?_
      refine yL.eq (y_getr (pc := 15) (r := 192) d203_15 q203_13 s_r_190_2) ?_
      refine yL.eq (y_bipush (pc := 18) (v := 86) d203_18 kb_86) ?_
      refine yL.eq (y_iload_n (pc := 20) (x := a1) d203_20 rfl) ?_
      refine yL.eq (y_iadd (pc := 21) d203_21) ?_
      refine yL.eq (y_iload_n (pc := 22) (x := a2) d203_22 rfl) ?_
      refine y_calls_i (pc := 23) (n := 3) (n' := 4) (nc' := 0) (ns' := 0) [.ref 192, .int (86 + a1), .int a2] [] false d203_23 q203_284 rfl rfl rfl (Nat.le_of_ble_eq_true rfl) (Nat.le_of_ble_eq_true rfl) rfl (by decide +kernel) (by decide +kernel) (fun v8 M7 => ?_)
      refine yL.eq (y_if_lt (pc := 26) (t := 33) d203_26 (by decide)) ?_
      refine yL.ite (fun h9 => ?_) (fun h9 => ?_)
      ·
        refine yL.eq (y_iconst (pc := 33) (v := 0) d203_33 kc_0) ?_
        exact yL.eq (y_iretz (pc := 34) d203_34 mr_203) (yL.eq yZ_0 yL.rf)
      ·
        refine yL.eq (y_iconst (pc := 29) (v := 1) d203_29 kc_1) ?_
        refine yL.eq (y_goto (pc := 30) (t := 34) d203_30 (by decide)) ?_
        exact yL.eq (y_iretz (pc := 34) d203_34 mr_203) (yL.eq yZ_1 yL.rf)
set_option maxRecDepth 20000 in
set_option maxHeartbeats 4000000 in
theorem e204 {a1 : Int32} {a2 : Int32} {M : yM} : yL (yCi false (yX 121 0 [some (.int a1), some (.int a2)] [] M 0 0) fun v2 M1 => if v2 = 0 then yI 0 M1 else yCi false (yX 146 0 [some (.ref 192), some (.int (90 + a1)), some (.int a2), none] [] M1 0 0) fun v5 M4 => if v5 < 0 then yI 0 M4 else yI 1 M4) (yX 204 0 [some (.ref 190), some (.int a1), some (.int a2)] [] M 0 0) := by
  refine yL.eq (y_iload_n (pc := 0) (x := a1) d204_0 rfl) ?_
  refine yL.eq (y_iload_n (pc := 1) (x := a2) d204_1 rfl) ?_
  refine y_calls_i (pc := 2) (n := 2) (n' := 2) (nc' := 0) (ns' := 0) [.int a1, .int a2] [] false d204_2 q204_299 rfl rfl rfl (Nat.le_of_ble_eq_true rfl) (Nat.le_of_ble_eq_true rfl) rfl (by decide +kernel) (by decide +kernel) (fun v2 M1 => ?_)
  refine yL.eq (y_if_eq (pc := 5) (t := 27) d204_5 (by decide)) ?_
  refine yL.ite (fun h3 => ?_) (fun h3 => ?_)
  ·
    refine yL.eq (y_iconst (pc := 27) (v := 0) d204_27 kc_0) ?_
    exact yL.eq (y_iretz (pc := 28) d204_28 mr_204) (yL.eq yZ_0 yL.rf)
  ·
    refine yL.eq (y_aload_n (pc := 8) (x := 190) d204_8 rfl) ?_
    refine yL.eq (y_getr (pc := 9) (r := 192) d204_9 q204_13 s_r_190_2) ?_
    refine yL.eq (y_bipush (pc := 12) (v := 90) d204_12 kb_90) ?_
    refine yL.eq (y_iload_n (pc := 14) (x := a1) d204_14 rfl) ?_
    refine yL.eq (y_iadd (pc := 15) d204_15) ?_
    refine yL.eq (y_iload_n (pc := 16) (x := a2) d204_16 rfl) ?_
    refine y_calls_i (pc := 17) (n := 3) (n' := 4) (nc' := 0) (ns' := 0) [.ref 192, .int (90 + a1), .int a2] [] false d204_17 q204_284 rfl rfl rfl (Nat.le_of_ble_eq_true rfl) (Nat.le_of_ble_eq_true rfl) rfl (by decide +kernel) (by decide +kernel) (fun v5 M4 => ?_)
    refine yL.eq (y_if_lt (pc := 20) (t := 27) d204_20 (by decide)) ?_
    refine yL.ite (fun h6 => ?_) (fun h6 => ?_)
    ·
      refine yL.eq (y_iconst (pc := 27) (v := 0) d204_27 kc_0) ?_
      exact yL.eq (y_iretz (pc := 28) d204_28 mr_204) (yL.eq yZ_0 yL.rf)
    ·
      refine yL.eq (y_iconst (pc := 23) (v := 1) d204_23 kc_1) ?_
      refine yL.eq (y_goto (pc := 24) (t := 28) d204_24 (by decide)) ?_
      exact yL.eq (y_iretz (pc := 28) d204_28 mr_204) (yL.eq yZ_1 yL.rf)
set_option maxRecDepth 20000 in
set_option maxHeartbeats 4000000 in
theorem e205 {a1 : Int32} {a2 : Int32} {M : yM} : yL (yCv false (yX 143 0 [some (.ref 190), some (.ref 192), none, none] [] M 0 0) fun M1 => yCi false (yX 115 0 [some (.ref 192), some (.int a1)] [] M1 0 0) fun v3 M2 => if v3 = 0 then yI 0 M2 else if yinB a1 14 = true then if (M2 197 (yx a1)) = (-1) then yI 0 M2 else if yinB a1 14 = true then if (M2 197 (yx a1)) ≤ a2 then yI 1 M2 else yI 0 M2 else none else none) (yX 205 0 [some (.ref 190), some (.int a1), some (.int a2)] [] M 0 0) := by
  refine yL.eq (y_aload_n (pc := 0) (x := 190) d205_0 rfl) ?_
  refine yL.eq (y_aload_n (pc := 1) (x := 190) d205_1 rfl) ?_
  refine yL.eq (y_getr (pc := 2) (r := 192) d205_2 q205_13 s_r_190_2) ?_
  refine y_callv_v (pc := 5) (n := 2) (n' := 4) (nc' := 0) (ns' := 0) [.ref 192] [] false d205_5 q205_136 mk_143 s_t_190 rfl rfl (Nat.le_of_ble_eq_true rfl) (Nat.le_of_ble_eq_true rfl) rfl (by decide +kernel) (by decide +kernel) (fun M1 => ?_)
  refine yL.eq (y_aload_n (pc := 8) (x := 190) d205_8 rfl) ?_
  refine yL.eq (y_getr (pc := 9) (r := 192) d205_9 q205_13 s_r_190_2) ?_
  refine yL.eq (y_iload_n (pc := 12) (x := a1) d205_12 rfl) ?_
  refine y_calls_i (pc := 13) (n := 2) (n' := 2) (nc' := 0) (ns' := 0) [.ref 192, .int a1] [] false d205_13 q205_203 rfl rfl rfl (Nat.le_of_ble_eq_true rfl) (Nat.le_of_ble_eq_true rfl) rfl (by decide +kernel) (by decide +kernel) (fun v3 M2 => ?_)
  refine yL.eq (y_if_eq (pc := 16) (t := 43) d205_16 (by decide)) ?_
  refine yL.ite (fun h4 => ?_) (fun h4 => ?_)
  ·
    refine yL.eq (y_iconst (pc := 43) (v := 0) d205_43 kc_0) ?_
    exact yL.eq (y_iretz (pc := 44) d205_44 mr_205) (yL.eq yZ_0 yL.rf)
  ·
    refine yL.eq (y_aload_n (pc := 19) (x := 190) d205_19 rfl) ?_
    refine yL.eq (y_getr (pc := 20) (r := 197) d205_20 q205_29 s_r_190_8) ?_
    refine yL.eq (y_iload_n (pc := 23) (x := a1) d205_23 rfl) ?_
    refine yL.eq (y_iald (pc := 24) (n := 14) d205_24 s_a_197) ?_
    refine yL.gd (fun h5 => ?_)
    refine yL.eq (y_iconst (pc := 25) (v := (-1)) d205_25 kc_m1) ?_
    refine yL.eq (y_icmp_eq (pc := 26) (t := 43) d205_26 (by decide)) ?_
    refine yL.ite (fun h6 => ?_) (fun h6 => ?_)
    ·
      refine yL.eq (y_iconst (pc := 43) (v := 0) d205_43 kc_0) ?_
      exact yL.eq (y_iretz (pc := 44) d205_44 mr_205) (yL.eq yZ_0 yL.rf)
    ·
      refine yL.eq (y_aload_n (pc := 29) (x := 190) d205_29 rfl) ?_
      refine yL.eq (y_getr (pc := 30) (r := 197) d205_30 q205_29 s_r_190_8) ?_
      refine yL.eq (y_iload_n (pc := 33) (x := a1) d205_33 rfl) ?_
      refine yL.eq (y_iald (pc := 34) (n := 14) d205_34 s_a_197) ?_
      refine yL.gd (fun h7 => ?_)
      refine yL.eq (y_iload_n (pc := 35) (x := a2) d205_35 rfl) ?_
      refine yL.eq (y_icmp_gt (pc := 36) (t := 43) d205_36 (by decide)) ?_
      refine yL.ite (fun h8 => ?_) (fun h8 => ?_)
      ·
        refine yL.eq (y_iconst (pc := 39) (v := 1) d205_39 kc_1) ?_
        refine yL.eq (y_goto (pc := 40) (t := 44) d205_40 (by decide)) ?_
        exact yL.eq (y_iretz (pc := 44) d205_44 mr_205) (yL.eq yZ_1 yL.rf)
      ·
        refine yL.eq (y_iconst (pc := 43) (v := 0) d205_43 kc_0) ?_
        exact yL.eq (y_iretz (pc := 44) d205_44 mr_205) (yL.eq yZ_0 yL.rf)
set_option maxRecDepth 20000 in
set_option maxHeartbeats 4000000 in
theorem e206 {a1 : Int32} {M : yM} : yL (if (a1 / 100000) = 1 then if (a1 % 10) = 0 then yCi false (yX 200 0 [some (.ref 190), some (.int ((a1 / 1000) % 100)), some (.int ((a1 / 10) % 100))] [] M 0 0) fun v4 M3 => if v4 = 0 then yI 0 M3 else yI 1 M3 else yI 0 M else if (a1 / 100000) = 2 then if (a1 % 10) = 0 then yCi false (yX 201 0 [some (.ref 190), some (.int ((a1 / 1000) % 100)), some (.int ((a1 / 10) % 100))] [] M 0 0) fun v9 M8 => if v9 = 0 then yI 0 M8 else yI 1 M8 else yI 0 M else if (a1 / 100000) = 3 then if (a1 % 10) < 2 then if (a1 % 10) = 1 then yCi false (yX 202 0 [some (.ref 190), some (.int ((a1 / 1000) % 100)), some (.int ((a1 / 10) % 100)), some (.int 1), none] [] M 0 0) fun v15 M14 => if v15 = 0 then yI 0 M14 else yI 1 M14 else yCi false (yX 202 0 [some (.ref 190), some (.int ((a1 / 1000) % 100)), some (.int ((a1 / 10) % 100)), some (.int 0), none] [] M 0 0) fun v18 M17 => if v18 = 0 then yI 0 M17 else yI 1 M17 else yI 0 M else if (a1 / 100000) = 4 then if (a1 % 1000) = 0 then yCi false (yX 203 0 [some (.ref 190), some (.int ((a1 / 10000) % 10)), some (.int ((a1 / 1000) % 10))] [] M 0 0) fun v23 M22 => if v23 = 0 then yI 0 M22 else yI 1 M22 else yI 0 M else if (a1 / 100000) = 5 then if (a1 % 10000) < 100 then yCi false (yX 204 0 [some (.ref 190), some (.int ((a1 / 10000) % 10)), some (.int (a1 % 100))] [] M 0 0) fun v28 M27 => if v28 = 0 then yI 0 M27 else yI 1 M27 else yI 0 M else if (a1 / 100000) = 6 then if (a1 % 10) = 0 then yCi false (yX 205 0 [some (.ref 190), some (.int ((a1 / 1000) % 100)), some (.int ((a1 / 10) % 100))] [] M 0 0) fun v33 M32 => if v33 = 0 then yI 0 M32 else yI 1 M32 else yI 0 M else if (a1 / 100000) = 7 then if (a1 % 100000) < 1000 then yCi false (yX 144 0 [some (.ref 190), some (.ref 192), none, none] [] M 0 0) fun v38 M37 => if v38 ≤ (a1 % 100000) then yI 1 M37 else yI 0 M37 else yI 0 M else if (a1 / 100000) = 8 then if (a1 % 1000) < 100 then yCi false (yX 114 0 [some (.ref 192), some (.int ((a1 / 1000) % 100))] [] M 0 0) fun v43 M42 => if v43 = 0 then yI 0 M42 else yCi false (yX 127 0 [some (.ref 192), some (.int ((a1 / 1000) % 100)), none, none] [] M42 0 0) fun v46 M45 => if v46 ≤ (a1 % 100) then yI 1 M45 else yI 0 M45 else yI 0 M else if (a1 / 100000) = 9 then if (a1 % 100000) < 10 then yCi false (yX 145 0 [some (.ref 190), some (.ref 192)] [] M 0 0) fun v51 M50 => if v51 ≤ (a1 % 10) then yI 1 M50 else yI 0 M50 else yI 0 M else yI 0 M) (yX 206 0 [some (.ref 190), some (.int a1), none, none, none, none, none, none, none] [] M 0 0) := by
  refine yL.eq (y_iload_n (pc := 0) (x := a1) d206_0 rfl) ?_
  refine yL.eq (y_sipush (pc := 1) (v := 10000) d206_1 ks_10000) ?_
  refine yL.eq (y_idivc (pc := 4) d206_4 nzI_10000) ?_
  refine yL.eq (y_bipush (pc := 5) (v := 10) d206_5 kb_10) ?_
  refine yL.eq (y_imodc (pc := 7) d206_7 nzI_10) ?_
  refine yL.eq (y_istore_n (pc := 8) (ls' := [some (.ref 190), some (.int a1), some (.int ((a1 / 10000) % 10)), none, none, none, none, none, none]) d206_8 rfl rfl) ?_
  refine yL.eq (y_iload_n (pc := 9) (x := a1) d206_9 rfl) ?_
  refine yL.eq (y_sipush (pc := 10) (v := 1000) d206_10 ks_1000) ?_
  refine yL.eq (y_idivc (pc := 13) d206_13 nzI_1000) ?_
  refine yL.eq (y_bipush (pc := 14) (v := 10) d206_14 kb_10) ?_
  refine yL.eq (y_imodc (pc := 16) d206_16 nzI_10) ?_
  refine yL.eq (y_istore_n (pc := 17) (ls' := [some (.ref 190), some (.int a1), some (.int ((a1 / 10000) % 10)), some (.int ((a1 / 1000) % 10)), none, none, none, none, none]) d206_17 rfl rfl) ?_
  refine yL.eq (y_iload_n (pc := 18) (x := a1) d206_18 rfl) ?_
  refine yL.eq (y_sipush (pc := 19) (v := 1000) d206_19 ks_1000) ?_
  refine yL.eq (y_idivc (pc := 22) d206_22 nzI_1000) ?_
  refine yL.eq (y_bipush (pc := 23) (v := 100) d206_23 kb_100) ?_
  refine yL.eq (y_imodc (pc := 25) d206_25 nzI_100) ?_
  refine yL.eq (y_istore (pc := 26) (ls' := [some (.ref 190), some (.int a1), some (.int ((a1 / 10000) % 10)), some (.int ((a1 / 1000) % 10)), some (.int ((a1 / 1000) % 100)), none, none, none, none]) d206_26 rfl rfl) ?_
  refine yL.eq (y_iload_n (pc := 28) (x := a1) d206_28 rfl) ?_
  refine yL.eq (y_bipush (pc := 29) (v := 10) d206_29 kb_10) ?_
  refine yL.eq (y_idivc (pc := 31) d206_31 nzI_10) ?_
  refine yL.eq (y_bipush (pc := 32) (v := 100) d206_32 kb_100) ?_
  refine yL.eq (y_imodc (pc := 34) d206_34 nzI_100) ?_
  refine yL.eq (y_istore (pc := 35) (ls' := [some (.ref 190), some (.int a1), some (.int ((a1 / 10000) % 10)), some (.int ((a1 / 1000) % 10)), some (.int ((a1 / 1000) % 100)), some (.int ((a1 / 10) % 100)), none, none, none]) d206_35 rfl rfl) ?_
  refine yL.eq (y_iload_n (pc := 37) (x := a1) d206_37 rfl) ?_
  refine yL.eq (y_bipush (pc := 38) (v := 100) d206_38 kb_100) ?_
  refine yL.eq (y_imodc (pc := 40) d206_40 nzI_100) ?_
  refine yL.eq (y_istore (pc := 41) (ls' := [some (.ref 190), some (.int a1), some (.int ((a1 / 10000) % 10)), some (.int ((a1 / 1000) % 10)), some (.int ((a1 / 1000) % 100)), some (.int ((a1 / 10) % 100)), some (.int (a1 % 100)), none, none]) d206_41 rfl rfl) ?_
  refine yL.eq (y_iload_n (pc := 43) (x := a1) d206_43 rfl) ?_
  refine yL.eq (y_bipush (pc := 44) (v := 10) d206_44 kb_10) ?_
  refine yL.eq (y_imodc (pc := 46) d206_46 nzI_10) ?_
  refine yL.eq (y_istore (pc := 47) (ls' := [some (.ref 190), some (.int a1), some (.int ((a1 / 10000) % 10)), some (.int ((a1 / 1000) % 10)), some (.int ((a1 / 1000) % 100)), some (.int ((a1 / 10) % 100)), some (.int (a1 % 100)), some (.int (a1 % 10)), none]) d206_47 rfl rfl) ?_
  refine yL.eq (y_iload_n (pc := 49) (x := a1) d206_49 rfl) ?_
  refine yL.eq (y_ldc_w (pc := 50) (v := 100000) d206_50 q206_308) ?_
  refine yL.eq (y_imodc (pc := 53) d206_53 nzI_100000) ?_
  refine yL.eq (y_istore (pc := 54) (ls' := [some (.ref 190), some (.int a1), some (.int ((a1 / 10000) % 10)), some (.int ((a1 / 1000) % 10)), some (.int ((a1 / 1000) % 100)), some (.int ((a1 / 10) % 100)), some (.int (a1 % 100)), some (.int (a1 % 10)), some (.int (a1 % 100000))]) d206_54 rfl rfl) ?_
  refine yL.eq (y_iload_n (pc := 56) (x := a1) d206_56 rfl) ?_
  refine yL.eq (y_ldc_w (pc := 57) (v := 100000) d206_57 q206_308) ?_
  refine yL.eq (y_idivc (pc := 60) d206_60 nzI_100000) ?_
  refine yL.eq (y_tsw (pc := 61) (ts := [112, 134, 156, 190, 213, 239, 261, 288, 330]) (d := 356) d206_61 (by decide +kernel)) ?_
  refine yL.eq (y_ts (c := 1) (lo' := 2) kc_1 (by decide)) ?_
  refine yL.ite (fun h1 => ?_) (fun h1 => ?_)
  ·
    refine yL.eq (y_iload (pc := 112) (x := (a1 % 10)) d206_112 rfl) ?_
    refine yL.eq (y_if_ne (pc := 114) (t := 132) d206_114 (by decide)) ?_
    refine yL.ite (fun h2 => ?_) (fun h2 => ?_)
    ·
      refine yL.eq (y_aload_n (pc := 117) (x := 190) d206_117 rfl) ?_
      refine yL.eq (y_iload (pc := 118) (x := ((a1 / 1000) % 100)) d206_118 rfl) ?_
      refine yL.eq (y_iload (pc := 120) (x := ((a1 / 10) % 100)) d206_120 rfl) ?_
      refine y_callv_i (pc := 122) (n := 3) (n' := 3) (nc' := 0) (ns' := 0) [.int ((a1 / 1000) % 100), .int ((a1 / 10) % 100)] [] false d206_122 q206_309 mk_200 s_t_190 rfl rfl (Nat.le_of_ble_eq_true rfl) (Nat.le_of_ble_eq_true rfl) rfl (by decide +kernel) (by decide +kernel) (fun v4 M3 => ?_)
      refine yL.eq (y_if_eq (pc := 125) (t := 132) d206_125 (by decide)) ?_
      refine yL.ite (fun h5 => ?_) (fun h5 => ?_)
      ·
        refine yL.eq (y_iconst (pc := 132) (v := 0) d206_132 kc_0) ?_
        exact yL.eq (y_iretz (pc := 133) d206_133 mr_206) (yL.eq yZ_0 yL.rf)
      ·
        refine yL.eq (y_iconst (pc := 128) (v := 1) d206_128 kc_1) ?_
        refine yL.eq (y_goto (pc := 129) (t := 133) d206_129 (by decide)) ?_
        exact yL.eq (y_iretz (pc := 133) d206_133 mr_206) (yL.eq yZ_1 yL.rf)
    ·
      refine yL.eq (y_iconst (pc := 132) (v := 0) d206_132 kc_0) ?_
      exact yL.eq (y_iretz (pc := 133) d206_133 mr_206) (yL.eq yZ_0 yL.rf)
  ·
    refine yL.eq (y_ts (c := 2) (lo' := 3) kc_2 (by decide)) ?_
    refine yL.ite (fun h6 => ?_) (fun h6 => ?_)
    ·
      refine yL.eq (y_iload (pc := 134) (x := (a1 % 10)) d206_134 rfl) ?_
      refine yL.eq (y_if_ne (pc := 136) (t := 154) d206_136 (by decide)) ?_
      refine yL.ite (fun h7 => ?_) (fun h7 => ?_)
      ·
        refine yL.eq (y_aload_n (pc := 139) (x := 190) d206_139 rfl) ?_
        refine yL.eq (y_iload (pc := 140) (x := ((a1 / 1000) % 100)) d206_140 rfl) ?_
        refine yL.eq (y_iload (pc := 142) (x := ((a1 / 10) % 100)) d206_142 rfl) ?_
        refine y_callv_i (pc := 144) (n := 3) (n' := 3) (nc' := 0) (ns' := 0) [.int ((a1 / 1000) % 100), .int ((a1 / 10) % 100)] [] false d206_144 q206_312 mk_201 s_t_190 rfl rfl (Nat.le_of_ble_eq_true rfl) (Nat.le_of_ble_eq_true rfl) rfl (by decide +kernel) (by decide +kernel) (fun v9 M8 => ?_)
        refine yL.eq (y_if_eq (pc := 147) (t := 154) d206_147 (by decide)) ?_
        refine yL.ite (fun h10 => ?_) (fun h10 => ?_)
        ·
          refine yL.eq (y_iconst (pc := 154) (v := 0) d206_154 kc_0) ?_
          exact yL.eq (y_iretz (pc := 155) d206_155 mr_206) (yL.eq yZ_0 yL.rf)
        ·
          refine yL.eq (y_iconst (pc := 150) (v := 1) d206_150 kc_1) ?_
          refine yL.eq (y_goto (pc := 151) (t := 155) d206_151 (by decide)) ?_
          exact yL.eq (y_iretz (pc := 155) d206_155 mr_206) (yL.eq yZ_1 yL.rf)
      ·
        refine yL.eq (y_iconst (pc := 154) (v := 0) d206_154 kc_0) ?_
        exact yL.eq (y_iretz (pc := 155) d206_155 mr_206) (yL.eq yZ_0 yL.rf)
    ·
      refine yL.eq (y_ts (c := 3) (lo' := 4) kc_3 (by decide)) ?_
      refine yL.ite (fun h11 => ?_) (fun h11 => ?_)
      ·
        refine yL.eq (y_iload (pc := 156) (x := (a1 % 10)) d206_156 rfl) ?_
        refine yL.eq (y_iconst (pc := 158) (v := 2) d206_158 kc_2) ?_
        refine yL.eq (y_icmp_ge (pc := 159) (t := 188) d206_159 (by decide)) ?_
        refine yL.ite (fun h12 => ?_) (fun h12 => ?_)
        ·
          refine yL.eq (y_aload_n (pc := 162) (x := 190) d206_162 rfl) ?_
          refine yL.eq (y_iload (pc := 163) (x := ((a1 / 1000) % 100)) d206_163 rfl) ?_
          refine yL.eq (y_iload (pc := 165) (x := ((a1 / 10) % 100)) d206_165 rfl) ?_
          refine yL.eq (y_iload (pc := 167) (x := (a1 % 10)) d206_167 rfl) ?_
          refine yL.eq (y_iconst (pc := 169) (v := 1) d206_169 kc_1) ?_
          refine yL.eq (y_icmp_ne (pc := 170) (t := 177) d206_170 (by decide)) ?_
          refine yL.ite (fun h13 => ?_) (fun h13 => ?_)
          ·
            refine yL.eq (y_iconst (pc := 173) (v := 1) d206_173 kc_1) ?_
            refine yL.eq (y_goto (pc := 174) (t := 178) d206_174 (by decide)) ?_
            refine y_callv_i (pc := 178) (n := 4) (n' := 5) (nc' := 0) (ns' := 0) [.int ((a1 / 1000) % 100), .int ((a1 / 10) % 100), .int 1] [] false d206_178 q206_315 mk_202 s_t_190 rfl rfl (Nat.le_of_ble_eq_true rfl) (Nat.le_of_ble_eq_true rfl) rfl (by decide +kernel) (by decide +kernel) (fun v15 M14 => ?_)
            refine yL.eq (y_if_eq (pc := 181) (t := 188) d206_181 (by decide)) ?_
            refine yL.ite (fun h16 => ?_) (fun h16 => ?_)
            ·
              refine yL.eq (y_iconst (pc := 188) (v := 0) d206_188 kc_0) ?_
              exact yL.eq (y_iretz (pc := 189) d206_189 mr_206) (yL.eq yZ_0 yL.rf)
            ·
              refine yL.eq (y_iconst (pc := 184) (v := 1) d206_184 kc_1) ?_
              refine yL.eq (y_goto (pc := 185) (t := 189) d206_185 (by decide)) ?_
              exact yL.eq (y_iretz (pc := 189) d206_189 mr_206) (yL.eq yZ_1 yL.rf)
          ·
            refine yL.eq (y_iconst (pc := 177) (v := 0) d206_177 kc_0) ?_
            refine y_callv_i (pc := 178) (n := 4) (n' := 5) (nc' := 0) (ns' := 0) [.int ((a1 / 1000) % 100), .int ((a1 / 10) % 100), .int 0] [] false d206_178 q206_315 mk_202 s_t_190 rfl rfl (Nat.le_of_ble_eq_true rfl) (Nat.le_of_ble_eq_true rfl) rfl (by decide +kernel) (by decide +kernel) (fun v18 M17 => ?_)
            refine yL.eq (y_if_eq (pc := 181) (t := 188) d206_181 (by decide)) ?_
            refine yL.ite (fun h19 => ?_) (fun h19 => ?_)
            ·
              refine yL.eq (y_iconst (pc := 188) (v := 0) d206_188 kc_0) ?_
              exact yL.eq (y_iretz (pc := 189) d206_189 mr_206) (yL.eq yZ_0 yL.rf)
            ·
              refine yL.eq (y_iconst (pc := 184) (v := 1) d206_184 kc_1) ?_
              refine yL.eq (y_goto (pc := 185) (t := 189) d206_185 (by decide)) ?_
              exact yL.eq (y_iretz (pc := 189) d206_189 mr_206) (yL.eq yZ_1 yL.rf)
        ·
          refine yL.eq (y_iconst (pc := 188) (v := 0) d206_188 kc_0) ?_
          exact yL.eq (y_iretz (pc := 189) d206_189 mr_206) (yL.eq yZ_0 yL.rf)
      ·
        refine yL.eq (y_ts (c := 4) (lo' := 5) kc_4 (by decide)) ?_
        refine yL.ite (fun h20 => ?_) (fun h20 => ?_)
        ·
          refine yL.eq (y_iload_n (pc := 190) (x := a1) d206_190 rfl) ?_
          refine yL.eq (y_sipush (pc := 191) (v := 1000) d206_191 ks_1000) ?_
          refine yL.eq (y_imodc (pc := 194) d206_194 nzI_1000) ?_
          refine yL.eq (y_if_ne (pc := 195) (t := 211) d206_195 (by decide)) ?_
          refine yL.ite (fun h21 => ?_) (fun h21 => ?_)
          ·
            refine yL.eq (y_aload_n (pc := 198) (x := 190) d206_198 rfl) ?_
            refine yL.eq (y_iload_n (pc := 199) (x := ((a1 / 10000) % 10)) d206_199 rfl) ?_
            refine yL.eq (y_iload_n (pc := 200) (x := ((a1 / 1000) % 10)) d206_200 rfl) ?_
            refine y_callv_i (pc := 201) (n := 3) (n' := 3) (nc' := 0) (ns' := 0) [.int ((a1 / 10000) % 10), .int ((a1 / 1000) % 10)] [] false d206_201 q206_319 mk_203 s_t_190 rfl rfl (Nat.le_of_ble_eq_true rfl) (Nat.le_of_ble_eq_true rfl) rfl (by decide +kernel) (by decide +kernel) (fun v23 M22 => ?_)
            refine yL.eq (y_if_eq (pc := 204) (t := 211) d206_204 (by decide)) ?_
            refine yL.ite (fun h24 => ?_) (fun h24 => ?_)
            ·
              refine yL.eq (y_iconst (pc := 211) (v := 0) d206_211 kc_0) ?_
              exact yL.eq (y_iretz (pc := 212) d206_212 mr_206) (yL.eq yZ_0 yL.rf)
            ·
              refine yL.eq (y_iconst (pc := 207) (v := 1) d206_207 kc_1) ?_
              refine yL.eq (y_goto (pc := 208) (t := 212) d206_208 (by decide)) ?_
              exact yL.eq (y_iretz (pc := 212) d206_212 mr_206) (yL.eq yZ_1 yL.rf)
          ·
            refine yL.eq (y_iconst (pc := 211) (v := 0) d206_211 kc_0) ?_
            exact yL.eq (y_iretz (pc := 212) d206_212 mr_206) (yL.eq yZ_0 yL.rf)
        ·
          refine yL.eq (y_ts (c := 5) (lo' := 6) kc_5 (by decide)) ?_
          refine yL.ite (fun h25 => ?_) (fun h25 => ?_)
          ·
            refine yL.eq (y_iload_n (pc := 213) (x := a1) d206_213 rfl) ?_
            refine yL.eq (y_sipush (pc := 214) (v := 10000) d206_214 ks_10000) ?_
            refine yL.eq (y_imodc (pc := 217) d206_217 nzI_10000) ?_
            refine yL.eq (y_bipush (pc := 218) (v := 100) d206_218 kb_100) ?_
            refine yL.eq (y_icmp_ge (pc := 220) (t := 237) d206_220 (by decide)) ?_
            refine yL.ite (fun h26 => ?_) (fun h26 => ?_)
            ·
              refine yL.eq (y_aload_n (pc := 223) (x := 190) d206_223 rfl) ?_
              refine yL.eq (y_iload_n (pc := 224) (x := ((a1 / 10000) % 10)) d206_224 rfl) ?_
              refine yL.eq (y_iload (pc := 225) (x := (a1 % 100)) d206_225 rfl) ?_
              refine y_callv_i (pc := 227) (n := 3) (n' := 3) (nc' := 0) (ns' := 0) [.int ((a1 / 10000) % 10), .int (a1 % 100)] [] false d206_227 q206_322 mk_204 s_t_190 rfl rfl (Nat.le_of_ble_eq_true rfl) (Nat.le_of_ble_eq_true rfl) rfl (by decide +kernel) (by decide +kernel) (fun v28 M27 => ?_)
              refine yL.eq (y_if_eq (pc := 230) (t := 237) d206_230 (by decide)) ?_
              refine yL.ite (fun h29 => ?_) (fun h29 => ?_)
              ·
                refine yL.eq (y_iconst (pc := 237) (v := 0) d206_237 kc_0) ?_
                exact yL.eq (y_iretz (pc := 238) d206_238 mr_206) (yL.eq yZ_0 yL.rf)
              ·
                refine yL.eq (y_iconst (pc := 233) (v := 1) d206_233 kc_1) ?_
                refine yL.eq (y_goto (pc := 234) (t := 238) d206_234 (by decide)) ?_
                exact yL.eq (y_iretz (pc := 238) d206_238 mr_206) (yL.eq yZ_1 yL.rf)
            ·
              refine yL.eq (y_iconst (pc := 237) (v := 0) d206_237 kc_0) ?_
              exact yL.eq (y_iretz (pc := 238) d206_238 mr_206) (yL.eq yZ_0 yL.rf)
          ·
            refine yL.eq (y_ts (c := 6) (lo' := 7) kc_6 (by decide)) ?_
            refine yL.ite (fun h30 => ?_) (fun h30 => ?_)
            ·
              refine yL.eq (y_iload (pc := 239) (x := (a1 % 10)) d206_239 rfl) ?_
              refine yL.eq (y_if_ne (pc := 241) (t := 259) d206_241 (by decide)) ?_
              refine yL.ite (fun h31 => ?_) (fun h31 => ?_)
              ·
                refine yL.eq (y_aload_n (pc := 244) (x := 190) d206_244 rfl) ?_
                refine yL.eq (y_iload (pc := 245) (x := ((a1 / 1000) % 100)) d206_245 rfl) ?_
                refine yL.eq (y_iload (pc := 247) (x := ((a1 / 10) % 100)) d206_247 rfl) ?_
                refine y_callv_i (pc := 249) (n := 3) (n' := 3) (nc' := 0) (ns' := 0) [.int ((a1 / 1000) % 100), .int ((a1 / 10) % 100)] [] false d206_249 q206_325 mk_205 s_t_190 rfl rfl (Nat.le_of_ble_eq_true rfl) (Nat.le_of_ble_eq_true rfl) rfl (by decide +kernel) (by decide +kernel) (fun v33 M32 => ?_)
                refine yL.eq (y_if_eq (pc := 252) (t := 259) d206_252 (by decide)) ?_
                refine yL.ite (fun h34 => ?_) (fun h34 => ?_)
                ·
                  refine yL.eq (y_iconst (pc := 259) (v := 0) d206_259 kc_0) ?_
                  exact yL.eq (y_iretz (pc := 260) d206_260 mr_206) (yL.eq yZ_0 yL.rf)
                ·
                  refine yL.eq (y_iconst (pc := 255) (v := 1) d206_255 kc_1) ?_
                  refine yL.eq (y_goto (pc := 256) (t := 260) d206_256 (by decide)) ?_
                  exact yL.eq (y_iretz (pc := 260) d206_260 mr_206) (yL.eq yZ_1 yL.rf)
              ·
                refine yL.eq (y_iconst (pc := 259) (v := 0) d206_259 kc_0) ?_
                exact yL.eq (y_iretz (pc := 260) d206_260 mr_206) (yL.eq yZ_0 yL.rf)
            ·
              refine yL.eq (y_ts (c := 7) (lo' := 8) kc_7 (by decide)) ?_
              refine yL.ite (fun h35 => ?_) (fun h35 => ?_)
              ·
                refine yL.eq (y_iload (pc := 261) (x := (a1 % 100000)) d206_261 rfl) ?_
                refine yL.eq (y_sipush (pc := 263) (v := 1000) d206_263 ks_1000) ?_
                refine yL.eq (y_icmp_ge (pc := 266) (t := 286) d206_266 (by decide)) ?_
                refine yL.ite (fun h36 => ?_) (fun h36 => ?_)
                ·
                  refine yL.eq (y_aload_n (pc := 269) (x := 190) d206_269 rfl) ?_
                  refine yL.eq (y_aload_n (pc := 270) (x := 190) d206_270 rfl) ?_
                  refine yL.eq (y_getr (pc := 271) (r := 192) d206_271 q206_13 s_r_190_2) ?_
                  refine y_callv_i (pc := 274) (n := 2) (n' := 4) (nc' := 0) (ns' := 0) [.ref 192] [] false d206_274 q206_248 mk_144 s_t_190 rfl rfl (Nat.le_of_ble_eq_true rfl) (Nat.le_of_ble_eq_true rfl) rfl (by decide +kernel) (by decide +kernel) (fun v38 M37 => ?_)
                  refine yL.eq (y_iload (pc := 277) (x := (a1 % 100000)) d206_277 rfl) ?_
                  refine yL.eq (y_icmp_gt (pc := 279) (t := 286) d206_279 (by decide)) ?_
                  refine yL.ite (fun h39 => ?_) (fun h39 => ?_)
                  ·
                    refine yL.eq (y_iconst (pc := 282) (v := 1) d206_282 kc_1) ?_
                    refine yL.eq (y_goto (pc := 283) (t := 287) d206_283 (by decide)) ?_
                    exact yL.eq (y_iretz (pc := 287) d206_287 mr_206) (yL.eq yZ_1 yL.rf)
                  ·
                    refine yL.eq (y_iconst (pc := 286) (v := 0) d206_286 kc_0) ?_
                    exact yL.eq (y_iretz (pc := 287) d206_287 mr_206) (yL.eq yZ_0 yL.rf)
                ·
                  refine yL.eq (y_iconst (pc := 286) (v := 0) d206_286 kc_0) ?_
                  exact yL.eq (y_iretz (pc := 287) d206_287 mr_206) (yL.eq yZ_0 yL.rf)
              ·
                refine yL.eq (y_ts (c := 8) (lo' := 9) kc_8 (by decide)) ?_
                refine yL.ite (fun h40 => ?_) (fun h40 => ?_)
                ·
                  refine yL.eq (y_iload_n (pc := 288) (x := a1) d206_288 rfl) ?_
                  refine yL.eq (y_sipush (pc := 289) (v := 1000) d206_289 ks_1000) ?_
                  refine yL.eq (y_imodc (pc := 292) d206_292 nzI_1000) ?_
                  refine yL.eq (y_bipush (pc := 293) (v := 100) d206_293 kb_100) ?_
                  refine yL.eq (y_icmp_ge (pc := 295) (t := 328) d206_295 (by decide)) ?_
                  refine yL.ite (fun h41 => ?_) (fun h41 => ?_)
                  ·
                    refine yL.eq (y_aload_n (pc := 298) (x := 190) d206_298 rfl) ?_
                    refine yL.eq (y_getr (pc := 299) (r := 192) d206_299 q206_13 s_r_190_2) ?_
                    refine yL.eq (y_iload (pc := 302) (x := ((a1 / 1000) % 100)) d206_302 rfl) ?_
                    refine y_calls_i (pc := 304) (n := 2) (n' := 2) (nc' := 0) (ns' := 0) [.ref 192, .int ((a1 / 1000) % 100)] [] false d206_304 q206_207 rfl rfl rfl (Nat.le_of_ble_eq_true rfl) (Nat.le_of_ble_eq_true rfl) rfl (by decide +kernel) (by decide +kernel) (fun v43 M42 => ?_)
                    refine yL.eq (y_if_eq (pc := 307) (t := 328) d206_307 (by decide)) ?_
                    refine yL.ite (fun h44 => ?_) (fun h44 => ?_)
                    ·
                      refine yL.eq (y_iconst (pc := 328) (v := 0) d206_328 kc_0) ?_
                      exact yL.eq (y_iretz (pc := 329) d206_329 mr_206) (yL.eq yZ_0 yL.rf)
                    ·
                      refine yL.eq (y_aload_n (pc := 310) (x := 190) d206_310 rfl) ?_
                      refine yL.eq (y_getr (pc := 311) (r := 192) d206_311 q206_13 s_r_190_2) ?_
                      refine yL.eq (y_iload (pc := 314) (x := ((a1 / 1000) % 100)) d206_314 rfl) ?_
                      refine y_calls_i (pc := 316) (n := 2) (n' := 4) (nc' := 0) (ns' := 0) [.ref 192, .int ((a1 / 1000) % 100)] [] false d206_316 q206_95 rfl rfl rfl (Nat.le_of_ble_eq_true rfl) (Nat.le_of_ble_eq_true rfl) rfl (by decide +kernel) (by decide +kernel) (fun v46 M45 => ?_)
                      refine yL.eq (y_iload (pc := 319) (x := (a1 % 100)) d206_319 rfl) ?_
                      refine yL.eq (y_icmp_gt (pc := 321) (t := 328) d206_321 (by decide)) ?_
                      refine yL.ite (fun h47 => ?_) (fun h47 => ?_)
                      ·
                        refine yL.eq (y_iconst (pc := 324) (v := 1) d206_324 kc_1) ?_
                        refine yL.eq (y_goto (pc := 325) (t := 329) d206_325 (by decide)) ?_
                        exact yL.eq (y_iretz (pc := 329) d206_329 mr_206) (yL.eq yZ_1 yL.rf)
                      ·
                        refine yL.eq (y_iconst (pc := 328) (v := 0) d206_328 kc_0) ?_
                        exact yL.eq (y_iretz (pc := 329) d206_329 mr_206) (yL.eq yZ_0 yL.rf)
                  ·
                    refine yL.eq (y_iconst (pc := 328) (v := 0) d206_328 kc_0) ?_
                    exact yL.eq (y_iretz (pc := 329) d206_329 mr_206) (yL.eq yZ_0 yL.rf)
                ·
                  refine yL.eq (y_ts (c := 9) (lo' := 10) kc_9 (by decide)) ?_
                  refine yL.ite (fun h48 => ?_) (fun h48 => ?_)
                  ·
                    refine yL.eq (y_iload (pc := 330) (x := (a1 % 100000)) d206_330 rfl) ?_
                    refine yL.eq (y_bipush (pc := 332) (v := 10) d206_332 kb_10) ?_
                    refine yL.eq (y_icmp_ge (pc := 334) (t := 354) d206_334 (by decide)) ?_
                    refine yL.ite (fun h49 => ?_) (fun h49 => ?_)
                    ·
                      refine yL.eq (y_aload_n (pc := 337) (x := 190) d206_337 rfl) ?_
                      refine yL.eq (y_aload_n (pc := 338) (x := 190) d206_338 rfl) ?_
                      refine yL.eq (y_getr (pc := 339) (r := 192) d206_339 q206_13 s_r_190_2) ?_
                      refine y_callv_i (pc := 342) (n := 2) (n' := 2) (nc' := 0) (ns' := 0) [.ref 192] [] false d206_342 q206_251 mk_145 s_t_190 rfl rfl (Nat.le_of_ble_eq_true rfl) (Nat.le_of_ble_eq_true rfl) rfl (by decide +kernel) (by decide +kernel) (fun v51 M50 => ?_)
                      refine yL.eq (y_iload (pc := 345) (x := (a1 % 10)) d206_345 rfl) ?_
                      refine yL.eq (y_icmp_gt (pc := 347) (t := 354) d206_347 (by decide)) ?_
                      refine yL.ite (fun h52 => ?_) (fun h52 => ?_)
                      ·
                        refine yL.eq (y_iconst (pc := 350) (v := 1) d206_350 kc_1) ?_
                        refine yL.eq (y_goto (pc := 351) (t := 355) d206_351 (by decide)) ?_
                        exact yL.eq (y_iretz (pc := 355) d206_355 mr_206) (yL.eq yZ_1 yL.rf)
                      ·
                        refine yL.eq (y_iconst (pc := 354) (v := 0) d206_354 kc_0) ?_
                        exact yL.eq (y_iretz (pc := 355) d206_355 mr_206) (yL.eq yZ_0 yL.rf)
                    ·
                      refine yL.eq (y_iconst (pc := 354) (v := 0) d206_354 kc_0) ?_
                      exact yL.eq (y_iretz (pc := 355) d206_355 mr_206) (yL.eq yZ_0 yL.rf)
                  ·
                    refine yL.eq y_tsn ?_
                    refine yL.eq (y_iconst (pc := 356) (v := 0) d206_356 kc_0) ?_
                    exact yL.eq (y_iretz (pc := 357) d206_357 mr_206) (yL.eq yZ_0 yL.rf)
set_option maxRecDepth 20000 in
set_option maxHeartbeats 4000000 in
theorem e207 {a1 : Int32} {a2 : Int64} {M : yM} : yL (yCi false (yX 108 0 [some (.long a1.toInt64), none, some (.long 1), none, some (.long 3), none] [] M 0 0) fun v2 M1 => if v2 = 0 then yCi false (yX 107 0 [some (.ref 190), some (.int 1)] [] M1 0 0) fun v5 M4 => if v5 = 0 then yCv false (yX 113 0 [some (.ref 191), some (.ref 192), none] [] M4 0 0) fun M7 => yX 207 57 [some (.ref 190), some (.int a1), some (.long a2), none, some (.int 0)] [] M7 0 0 else yI 0 M4 else yCj false (yX 109 0 [some (.int (6 * a1)), none, none, none] [] M1 0 0) fun v9 M8 => yCi false (yX 108 0 [some (.long a2), none, some (.long 0), none, some (.long (v9 - 1)), none] [] M8 0 0) fun v11 M10 => if v11 = 0 then yCi false (yX 107 0 [some (.ref 190), some (.int 1)] [] M10 0 0) fun v14 M13 => if v14 = 0 then yCv false (yX 113 0 [some (.ref 191), some (.ref 192), none] [] M13 0 0) fun M16 => yX 207 57 [some (.ref 190), some (.int a1), some (.long a2), none, some (.int 0)] [] M16 0 0 else yI 0 M13 else yCi false (yX 107 0 [some (.ref 190), some (.int 0)] [] M10 0 0) fun v18 M17 => if v18 = 0 then yCv false (yX 113 0 [some (.ref 191), some (.ref 192), none] [] M17 0 0) fun M20 => yX 207 57 [some (.ref 190), some (.int a1), some (.long a2), none, some (.int 0)] [] M20 0 0 else yI 0 M17) (yX 207 0 [some (.ref 190), some (.int a1), some (.long a2), none, none] [] M 0 0) := by
  refine yL.eq (y_aload_n (pc := 0) (x := 190) d207_0 rfl) ?_
  refine yL.eq (y_iload_n (pc := 1) (x := a1) d207_1 rfl) ?_
  refine yL.eq (y_i2l (pc := 2) d207_2) ?_
  refine yL.eq (y_lconst (pc := 3) (v := 1) d207_3 kl_1) ?_
  refine yL.eq (y_ldc2_w (pc := 4) (v := 3) d207_4 q207_62) ?_
  refine y_calls_i (pc := 7) (n := 3) (n' := 6) (nc' := 0) (ns' := 0) [.long a1.toInt64, .long 1, .long 3] [.ref 190] false d207_7 q207_58 rfl rfl rfl (Nat.le_of_ble_eq_true rfl) (Nat.le_of_ble_eq_true rfl) rfl (by decide +kernel) (by decide +kernel) (fun v2 M1 => ?_)
  refine yL.eq (y_if_eq (pc := 10) (t := 34) d207_10 (by decide)) ?_
  refine yL.ite (fun h3 => ?_) (fun h3 => ?_)
  ·
    refine yL.eq (y_iconst (pc := 34) (v := 1) d207_34 kc_1) ?_
    refine y_callv_i (pc := 35) (n := 2) (n' := 2) (nc' := 0) (ns' := 0) [.int 1] [] false d207_35 q207_159 mk_107 s_t_190 rfl rfl (Nat.le_of_ble_eq_true rfl) (Nat.le_of_ble_eq_true rfl) rfl (by decide +kernel) (by decide +kernel) (fun v5 M4 => ?_)
    refine yL.eq (y_if_eq (pc := 38) (t := 43) d207_38 (by decide)) ?_
    refine yL.ite (fun h6 => ?_) (fun h6 => ?_)
    ·
      refine yL.eq (y_aload_n (pc := 43) (x := 190) d207_43 rfl) ?_
      refine yL.eq (y_getr (pc := 44) (r := 191) d207_44 q207_7 s_r_190_1) ?_
      refine yL.eq (y_aload_n (pc := 47) (x := 190) d207_47 rfl) ?_
      refine yL.eq (y_getr (pc := 48) (r := 192) d207_48 q207_13 s_r_190_2) ?_
      refine y_calls_v (pc := 51) (n := 2) (n' := 3) (nc' := 0) (ns' := 0) [.ref 191, .ref 192] [] false d207_51 q207_242 rfl rfl rfl (Nat.le_of_ble_eq_true rfl) (Nat.le_of_ble_eq_true rfl) rfl (by decide +kernel) (by decide +kernel) (fun M7 => ?_)
      refine yL.eq (y_iconst (pc := 54) (v := 0) d207_54 kc_0) ?_
      refine yL.eq (y_istore (pc := 55) (ls' := [some (.ref 190), some (.int a1), some (.long a2), none, some (.int 0)]) d207_55 rfl rfl) ?_
      exact yL.rf
    ·
      refine yL.eq (y_iconst (pc := 41) (v := 0) d207_41 kc_0) ?_
      exact yL.eq (y_ireti (pc := 42) d207_42 mr_207) yL.rf
  ·
    refine yL.eq (y_lload_n (pc := 13) (x := a2) d207_13 rfl) ?_
    refine yL.eq (y_lconst (pc := 14) (v := 0) d207_14 kl_0) ?_
    refine yL.eq (y_bipush (pc := 15) (v := 6) d207_15 kb_6) ?_
    refine yL.eq (y_iload_n (pc := 17) (x := a1) d207_17 rfl) ?_
    refine yL.eq (y_imul (pc := 18) d207_18) ?_
    refine y_calls_j (pc := 19) (n := 1) (n' := 4) (nc' := 0) (ns' := 0) [.int (6 * a1)] [.long 0, .long a2, .ref 190] false d207_19 q207_328 rfl rfl rfl (Nat.le_of_ble_eq_true rfl) (Nat.le_of_ble_eq_true rfl) rfl (by decide +kernel) (by decide +kernel) (fun v9 M8 => ?_)
    refine yL.eq (y_lconst (pc := 22) (v := 1) d207_22 kl_1) ?_
    refine yL.eq (y_lsub (pc := 23) d207_23) ?_
    refine y_calls_i (pc := 24) (n := 3) (n' := 6) (nc' := 0) (ns' := 0) [.long a2, .long 0, .long (v9 - 1)] [.ref 190] false d207_24 q207_58 rfl rfl rfl (Nat.le_of_ble_eq_true rfl) (Nat.le_of_ble_eq_true rfl) rfl (by decide +kernel) (by decide +kernel) (fun v11 M10 => ?_)
    refine yL.eq (y_if_eq (pc := 27) (t := 34) d207_27 (by decide)) ?_
    refine yL.ite (fun h12 => ?_) (fun h12 => ?_)
    ·
      refine yL.eq (y_iconst (pc := 34) (v := 1) d207_34 kc_1) ?_
      refine y_callv_i (pc := 35) (n := 2) (n' := 2) (nc' := 0) (ns' := 0) [.int 1] [] false d207_35 q207_159 mk_107 s_t_190 rfl rfl (Nat.le_of_ble_eq_true rfl) (Nat.le_of_ble_eq_true rfl) rfl (by decide +kernel) (by decide +kernel) (fun v14 M13 => ?_)
      refine yL.eq (y_if_eq (pc := 38) (t := 43) d207_38 (by decide)) ?_
      refine yL.ite (fun h15 => ?_) (fun h15 => ?_)
      ·
        refine yL.eq (y_aload_n (pc := 43) (x := 190) d207_43 rfl) ?_
        refine yL.eq (y_getr (pc := 44) (r := 191) d207_44 q207_7 s_r_190_1) ?_
        refine yL.eq (y_aload_n (pc := 47) (x := 190) d207_47 rfl) ?_
        refine yL.eq (y_getr (pc := 48) (r := 192) d207_48 q207_13 s_r_190_2) ?_
        refine y_calls_v (pc := 51) (n := 2) (n' := 3) (nc' := 0) (ns' := 0) [.ref 191, .ref 192] [] false d207_51 q207_242 rfl rfl rfl (Nat.le_of_ble_eq_true rfl) (Nat.le_of_ble_eq_true rfl) rfl (by decide +kernel) (by decide +kernel) (fun M16 => ?_)
        refine yL.eq (y_iconst (pc := 54) (v := 0) d207_54 kc_0) ?_
        refine yL.eq (y_istore (pc := 55) (ls' := [some (.ref 190), some (.int a1), some (.long a2), none, some (.int 0)]) d207_55 rfl rfl) ?_
        exact yL.rf
      ·
        refine yL.eq (y_iconst (pc := 41) (v := 0) d207_41 kc_0) ?_
        exact yL.eq (y_ireti (pc := 42) d207_42 mr_207) yL.rf
    ·
      refine yL.eq (y_iconst (pc := 30) (v := 0) d207_30 kc_0) ?_
      refine yL.eq (y_goto (pc := 31) (t := 35) d207_31 (by decide)) ?_
      refine y_callv_i (pc := 35) (n := 2) (n' := 2) (nc' := 0) (ns' := 0) [.int 0] [] false d207_35 q207_159 mk_107 s_t_190 rfl rfl (Nat.le_of_ble_eq_true rfl) (Nat.le_of_ble_eq_true rfl) rfl (by decide +kernel) (by decide +kernel) (fun v18 M17 => ?_)
      refine yL.eq (y_if_eq (pc := 38) (t := 43) d207_38 (by decide)) ?_
      refine yL.ite (fun h19 => ?_) (fun h19 => ?_)
      ·
        refine yL.eq (y_aload_n (pc := 43) (x := 190) d207_43 rfl) ?_
        refine yL.eq (y_getr (pc := 44) (r := 191) d207_44 q207_7 s_r_190_1) ?_
        refine yL.eq (y_aload_n (pc := 47) (x := 190) d207_47 rfl) ?_
        refine yL.eq (y_getr (pc := 48) (r := 192) d207_48 q207_13 s_r_190_2) ?_
        refine y_calls_v (pc := 51) (n := 2) (n' := 3) (nc' := 0) (ns' := 0) [.ref 191, .ref 192] [] false d207_51 q207_242 rfl rfl rfl (Nat.le_of_ble_eq_true rfl) (Nat.le_of_ble_eq_true rfl) rfl (by decide +kernel) (by decide +kernel) (fun M20 => ?_)
        refine yL.eq (y_iconst (pc := 54) (v := 0) d207_54 kc_0) ?_
        refine yL.eq (y_istore (pc := 55) (ls' := [some (.ref 190), some (.int a1), some (.long a2), none, some (.int 0)]) d207_55 rfl rfl) ?_
        exact yL.rf
      ·
        refine yL.eq (y_iconst (pc := 41) (v := 0) d207_41 kc_0) ?_
        exact yL.eq (y_ireti (pc := 42) d207_42 mr_207) yL.rf
set_option maxRecDepth 20000 in
set_option maxHeartbeats 4000000 in
theorem e207_57 {x1 : Int32} {x2 : Int64} {x4 : Int32} {M : yM} : yL (if x4 < x1 then yCj false (yX 109 0 [some (.int (6 * ((x1 - 1) - x4))), none, none, none] [] M 0 0) fun v3 M2 => if v3 = 0 then none else yCi false (yX 206 0 [some (.ref 190), some (.int (((x2 / v3) % 1000000).toInt32)), none, none, none, none, none, none, none] [] M2 0 0) fun v6 M5 => if v6 = 0 then yI x4 M5 else yX 207 57 [some (.ref 190), some (.int x1), some (.long x2), none, some (.int (x4 + 1))] [] M5 0 0 else yI (-1) M) (yX 207 57 [some (.ref 190), some (.int x1), some (.long x2), none, some (.int x4)] [] M 0 0) := by
  refine yL.eq (y_iload (pc := 57) (x := x4) d207_57 rfl) ?_
  refine yL.eq (y_iload_n (pc := 59) (x := x1) d207_59 rfl) ?_
  refine yL.eq (y_icmp_ge (pc := 60) (t := 98) d207_60 (by decide)) ?_
  refine yL.ite (fun h1 => ?_) (fun h1 => ?_)
  ·
    refine yL.eq (y_aload_n (pc := 63) (x := 190) d207_63 rfl) ?_
    refine yL.eq (y_lload_n (pc := 64) (x := x2) d207_64 rfl) ?_
    refine yL.eq (y_bipush (pc := 65) (v := 6) d207_65 kb_6) ?_
    refine yL.eq (y_iload_n (pc := 67) (x := x1) d207_67 rfl) ?_
    refine yL.eq (y_iconst (pc := 68) (v := 1) d207_68 kc_1) ?_
    refine yL.eq (y_isub (pc := 69) d207_69) ?_
    refine yL.eq (y_iload (pc := 70) (x := x4) d207_70 rfl) ?_
    refine yL.eq (y_isub (pc := 72) d207_72) ?_
    refine yL.eq (y_imul (pc := 73) d207_73) ?_
    refine y_calls_j (pc := 74) (n := 1) (n' := 4) (nc' := 0) (ns' := 0) [.int (6 * ((x1 - 1) - x4))] [.long x2, .ref 190] false d207_74 q207_328 rfl rfl rfl (Nat.le_of_ble_eq_true rfl) (Nat.le_of_ble_eq_true rfl) rfl (by decide +kernel) (by decide +kernel) (fun v3 M2 => ?_)
    refine yL.eq (y_ldiv (pc := 77) d207_77) ?_
    refine yL.gn (fun h4 => ?_)
    refine yL.eq (y_ldc2_w (pc := 78) (v := 1000000) d207_78 q207_332) ?_
    refine yL.eq (y_lmodc (pc := 81) d207_81 nzJ_1000000) ?_
    refine yL.eq (y_l2i (pc := 82) d207_82) ?_
    refine y_callv_i (pc := 83) (n := 2) (n' := 9) (nc' := 0) (ns' := 0) [.int (((x2 / v3) % 1000000).toInt32)] [] false d207_83 q207_334 mk_206 s_t_190 rfl rfl (Nat.le_of_ble_eq_true rfl) (Nat.le_of_ble_eq_true rfl) rfl (by decide +kernel) (by decide +kernel) (fun v6 M5 => ?_)
    refine yL.eq (y_if_ne (pc := 86) (t := 92) d207_86 (by decide)) ?_
    refine yL.ite (fun h7 => ?_) (fun h7 => ?_)
    ·
      refine yL.eq (y_iload (pc := 89) (x := x4) d207_89 rfl) ?_
      exact yL.eq (y_ireti (pc := 91) d207_91 mr_207) yL.rf
    ·
      refine yL.eq (y_iinc (pc := 92) (v := 1) (x := x4) (ls' := [some (.ref 190), some (.int x1), some (.long x2), none, some (.int (x4 + 1))]) d207_92 kc_1 rfl (Nat.le_of_ble_eq_true rfl) rfl) ?_
      refine yL.eq (y_goto (pc := 95) (t := 57) d207_95 (by decide)) ?_
      exact yL.rf
  ·
    refine yL.eq (y_iconst (pc := 98) (v := (-1)) d207_98 kc_m1) ?_
    exact yL.eq (y_ireti (pc := 99) d207_99 mr_207) yL.rf
set_option maxRecDepth 20000 in
set_option maxHeartbeats 4000000 in
theorem e208 {a1 : Int32} {M : yM} : yL (if (a1 % 8) = 0 then if (M 192 0) < 12 then yCi false (yX 147 0 [some (.ref 192), some (.int (1 + ((a1 / 8) % 5000)))] [] M 0 0) fun v4 M3 => yV M3 else yV M else if (a1 % 8) = 1 then if (M 192 15) < 14 then if (((a1 / 8) / 512) % 2) = 1 then yCi false (yX 150 0 [some (.ref 192), some (.int (1 + ((a1 / 8) % 40))), some (.int ((((a1 / 8) / 64) % 5) - 1)), some (.int 1), none] [] M 0 0) fun v9 M8 => yV M8 else yCi false (yX 150 0 [some (.ref 192), some (.int (1 + ((a1 / 8) % 40))), some (.int ((((a1 / 8) / 64) % 5) - 1)), some (.int 0), none] [] M 0 0) fun v11 M10 => yV M10 else yV M else if (a1 % 8) = 2 then if (M 192 15) < 14 then if (((a1 / 8) / 512) % 2) = 1 then yCi false (yX 150 0 [some (.ref 192), some (.int (1 + ((a1 / 8) % 40))), some (.int ((((a1 / 8) / 64) % 5) - 1)), some (.int 1), none] [] M 0 0) fun v16 M15 => yV M15 else yCi false (yX 150 0 [some (.ref 192), some (.int (1 + ((a1 / 8) % 40))), some (.int ((((a1 / 8) / 64) % 5) - 1)), some (.int 0), none] [] M 0 0) fun v18 M17 => yV M17 else yV M else if (a1 % 8) = 3 then yCi false (yX 115 0 [some (.ref 192), some (.int ((a1 / 8) % 14))] [] M 0 0) fun v21 M20 => if v21 = 0 then yV M20 else yCi false (yX 114 0 [some (.ref 192), some (.int (((a1 / 8) / 16) % 12))] [] M20 0 0) fun v24 M23 => if v24 = 0 then yV M23 else if (((a1 / 8) / 256) % 4) = 0 then yCi false (yX 151 0 [some (.ref 192), some (.int ((a1 / 8) % 14)), some (.int (((a1 / 8) / 16) % 12)), some (.int 0), none] [] M23 0 0) fun v28 M27 => if v28 < 0 then yV M27 else yV M27 else yCi false (yX 151 0 [some (.ref 192), some (.int ((a1 / 8) % 14)), some (.int (((a1 / 8) / 16) % 12)), some (.int 1), none] [] M23 0 0) fun v31 M30 => if v31 < 0 then yV M30 else yV M30 else if (a1 % 8) = 4 then if (((a1 / 8) / 256) % 4) = 0 then yCi false (yX 202 0 [some (.ref 190), some (.int ((a1 / 8) % 14)), some (.int (((a1 / 8) / 16) % 14)), some (.int 0), none] [] M 0 0) fun v36 M35 => yV M35 else yCi false (yX 202 0 [some (.ref 190), some (.int ((a1 / 8) % 14)), some (.int (((a1 / 8) / 16) % 14)), some (.int 1), none] [] M 0 0) fun v38 M37 => yV M37 else if (a1 % 8) = 5 then if (((a1 / 8) / 256) % 4) = 0 then yCi false (yX 202 0 [some (.ref 190), some (.int ((a1 / 8) % 14)), some (.int (((a1 / 8) / 16) % 14)), some (.int 0), none] [] M 0 0) fun v42 M41 => yV M41 else yCi false (yX 202 0 [some (.ref 190), some (.int ((a1 / 8) % 14)), some (.int (((a1 / 8) / 16) % 14)), some (.int 1), none] [] M 0 0) fun v44 M43 => yV M43 else if (a1 % 8) = 6 then if (((a1 / 8) / 64) % 2) = 0 then yCi false (yX 203 0 [some (.ref 190), some (.int ((a1 / 8) % 4)), some (.int (((a1 / 8) / 4) % 4))] [] M 0 0) fun v48 M47 => yV M47 else yCi false (yX 200 0 [some (.ref 190), some (.int (1 + ((a1 / 8) % 24))), some (.int (1 + (((a1 / 8) / 128) % 24)))] [] M 0 0) fun v50 M49 => yV M49 else yCi false (yX 204 0 [some (.ref 190), some (.int ((a1 / 8) % 5)), some (.int (((a1 / 8) / 8) % 16))] [] M 0 0) fun v52 M51 => yV M51) (yX 208 0 [some (.ref 190), some (.int a1), none, none, none] [] M 0 0) := by
  refine yL.eq (y_iload_n (pc := 0) (x := a1) d208_0 rfl) ?_
  refine yL.eq (y_bipush (pc := 1) (v := 8) d208_1 kb_8) ?_
  refine yL.eq (y_idivc (pc := 3) d208_3 nzI_8) ?_
  refine yL.eq (y_istore_n (pc := 4) (ls' := [some (.ref 190), some (.int a1), some (.int (a1 / 8)), none, none]) d208_4 rfl rfl) ?_
  refine yL.eq (y_iload_n (pc := 5) (x := a1) d208_5 rfl) ?_
  refine yL.eq (y_bipush (pc := 6) (v := 8) d208_6 kb_8) ?_
  refine yL.eq (y_imodc (pc := 8) d208_8 nzI_8) ?_
  refine yL.eq (y_tsw (pc := 9) (ts := [52, 85, 85, 142, 219, 219, 254]) (d := 303) d208_9 (by decide +kernel)) ?_
  refine yL.eq (y_ts (c := 0) (lo' := 1) kc_0 (by decide)) ?_
  refine yL.ite (fun h1 => ?_) (fun h1 => ?_)
  ·
    refine yL.eq (y_aload_n (pc := 52) (x := 190) d208_52 rfl) ?_
    refine yL.eq (y_getr (pc := 53) (r := 192) d208_53 q208_13 s_r_190_2) ?_
    refine yL.eq (y_iconst (pc := 56) (v := 0) d208_56 kc_0) ?_
    refine yL.eq (y_iald (pc := 57) (n := 95) d208_57 (yR_a yR192)) ?_
    refine yL.eq (if_pos in_0_95) ?_
    show yL _ (yX 208 58 [some (.ref 190), some (.int a1), some (.int (a1 / 8)), none, none] ([.int (M 192 0)]) M 0 0)
    refine yL.eq (y_bipush (pc := 58) (v := 12) d208_58 kb_12) ?_
    refine yL.eq (y_icmp_ge (pc := 60) (t := 80) d208_60 (by decide)) ?_
    refine yL.ite (fun h2 => ?_) (fun h2 => ?_)
    ·
      refine yL.eq (y_aload_n (pc := 63) (x := 190) d208_63 rfl) ?_
      refine yL.eq (y_getr (pc := 64) (r := 192) d208_64 q208_13 s_r_190_2) ?_
      refine yL.eq (y_iconst (pc := 67) (v := 1) d208_67 kc_1) ?_
      refine yL.eq (y_iload_n (pc := 68) (x := (a1 / 8)) d208_68 rfl) ?_
      refine yL.eq (y_sipush (pc := 69) (v := 5000) d208_69 ks_5000) ?_
      refine yL.eq (y_imodc (pc := 72) d208_72 nzI_5000) ?_
      refine yL.eq (y_iadd (pc := 73) d208_73) ?_
      refine y_calls_i (pc := 74) (n := 2) (n' := 2) (nc' := 0) (ns' := 0) [.ref 192, .int (1 + ((a1 / 8) % 5000))] [] false d208_74 q208_196 rfl rfl rfl (Nat.le_of_ble_eq_true rfl) (Nat.le_of_ble_eq_true rfl) rfl (by decide +kernel) (by decide +kernel) (fun v4 M3 => ?_)
      refine yL.eq (y_goto (pc := 77) (t := 81) d208_77 (by decide)) ?_
      refine yL.eq (y_istore_n (pc := 81) (ls' := [some (.ref 190), some (.int a1), some (.int (a1 / 8)), some (.int v4), none]) d208_81 rfl rfl) ?_
      refine yL.eq (y_goto (pc := 82) (t := 319) d208_82 (by decide)) ?_
      exact yL.eq (y_ret (pc := 319) d208_319 mr_208) yL.rf
    ·
      refine yL.eq (y_iconst (pc := 80) (v := 0) d208_80 kc_0) ?_
      refine yL.eq (y_istore_n (pc := 81) (ls' := [some (.ref 190), some (.int a1), some (.int (a1 / 8)), some (.int 0), none]) d208_81 rfl rfl) ?_
      refine yL.eq (y_goto (pc := 82) (t := 319) d208_82 (by decide)) ?_
      exact yL.eq (y_ret (pc := 319) d208_319 mr_208) yL.rf
  ·
    refine yL.eq (y_ts (c := 1) (lo' := 2) kc_1 (by decide)) ?_
    refine yL.ite (fun h5 => ?_) (fun h5 => ?_)
    ·
      refine yL.eq (y_aload_n (pc := 85) (x := 190) d208_85 rfl) ?_
      refine yL.eq (y_getr (pc := 86) (r := 192) d208_86 q208_13 s_r_190_2) ?_
      refine yL.eq (y_bipush (pc := 89) (v := 15) d208_89 kb_15) ?_
      refine yL.eq (y_iald (pc := 91) (n := 95) d208_91 (yR_a yR192)) ?_
      refine yL.eq (if_pos in_15_95) ?_
      show yL _ (yX 208 92 [some (.ref 190), some (.int a1), some (.int (a1 / 8)), none, none] ([.int (M 192 15)]) M 0 0)
      refine yL.eq (y_bipush (pc := 92) (v := 14) d208_92 kb_14) ?_
      refine yL.eq (y_icmp_ge (pc := 94) (t := 137) d208_94 (by decide)) ?_
      refine yL.ite (fun h6 => ?_) (fun h6 => ?_)
      ·
        refine yL.eq (y_aload_n (pc := 97) (x := 190) d208_97 rfl) ?_
        refine yL.eq (y_getr (pc := 98) (r := 192) d208_98 q208_13 s_r_190_2) ?_
        refine yL.eq (y_iconst (pc := 101) (v := 1) d208_101 kc_1) ?_
        refine yL.eq (y_iload_n (pc := 102) (x := (a1 / 8)) d208_102 rfl) ?_
        refine yL.eq (y_bipush (pc := 103) (v := 40) d208_103 kb_40) ?_
        refine yL.eq (y_imodc (pc := 105) d208_105 nzI_40) ?_
        refine yL.eq (y_iadd (pc := 106) d208_106) ?_
        refine yL.eq (y_iload_n (pc := 107) (x := (a1 / 8)) d208_107 rfl) ?_
        refine yL.eq (y_bipush (pc := 108) (v := 64) d208_108 kb_64) ?_
        refine yL.eq (y_idivc (pc := 110) d208_110 nzI_64) ?_
        refine yL.eq (y_iconst (pc := 111) (v := 5) d208_111 kc_5) ?_
        refine yL.eq (y_imodc (pc := 112) d208_112 nzI_5) ?_
        refine yL.eq (y_iconst (pc := 113) (v := 1) d208_113 kc_1) ?_
        refine yL.eq (y_isub (pc := 114) d208_114) ?_
        refine yL.eq (y_iload_n (pc := 115) (x := (a1 / 8)) d208_115 rfl) ?_
        refine yL.eq (y_sipush (pc := 116) (v := 512) d208_116 ks_512) ?_
        refine yL.eq (y_idivc (pc := 119) d208_119 nzI_512) ?_
        refine yL.eq (y_iconst (pc := 120) (v := 2) d208_120 kc_2) ?_
        refine yL.eq (y_imodc (pc := 121) d208_121 nzI_2) ?_
        refine yL.eq (y_iconst (pc := 122) (v := 1) d208_122 kc_1) ?_
        refine yL.eq (y_icmp_ne (pc := 123) (t := 130) d208_123 (by decide)) ?_
        refine yL.ite (fun h7 => ?_) (fun h7 => ?_)
        ·
          refine yL.eq (y_iconst (pc := 126) (v := 1) d208_126 kc_1) ?_
          refine yL.eq (y_goto (pc := 127) (t := 131) d208_127 (by decide)) ?_
          refine y_calls_i (pc := 131) (n := 4) (n' := 5) (nc' := 0) (ns' := 0) [.ref 192, .int (1 + ((a1 / 8) % 40)), .int ((((a1 / 8) / 64) % 5) - 1), .int 1] [] false d208_131 q208_199 rfl rfl rfl (Nat.le_of_ble_eq_true rfl) (Nat.le_of_ble_eq_true rfl) rfl (by decide +kernel) (by decide +kernel) (fun v9 M8 => ?_)
          refine yL.eq (y_goto (pc := 134) (t := 138) d208_134 (by decide)) ?_
          refine yL.eq (y_istore_n (pc := 138) (ls' := [some (.ref 190), some (.int a1), some (.int (a1 / 8)), some (.int v9), none]) d208_138 rfl rfl) ?_
          refine yL.eq (y_goto (pc := 139) (t := 319) d208_139 (by decide)) ?_
          exact yL.eq (y_ret (pc := 319) d208_319 mr_208) yL.rf
        ·
          refine yL.eq (y_iconst (pc := 130) (v := 0) d208_130 kc_0) ?_
          refine y_calls_i (pc := 131) (n := 4) (n' := 5) (nc' := 0) (ns' := 0) [.ref 192, .int (1 + ((a1 / 8) % 40)), .int ((((a1 / 8) / 64) % 5) - 1), .int 0] [] false d208_131 q208_199 rfl rfl rfl (Nat.le_of_ble_eq_true rfl) (Nat.le_of_ble_eq_true rfl) rfl (by decide +kernel) (by decide +kernel) (fun v11 M10 => ?_)
          refine yL.eq (y_goto (pc := 134) (t := 138) d208_134 (by decide)) ?_
          refine yL.eq (y_istore_n (pc := 138) (ls' := [some (.ref 190), some (.int a1), some (.int (a1 / 8)), some (.int v11), none]) d208_138 rfl rfl) ?_
          refine yL.eq (y_goto (pc := 139) (t := 319) d208_139 (by decide)) ?_
          exact yL.eq (y_ret (pc := 319) d208_319 mr_208) yL.rf
      ·
        refine yL.eq (y_iconst (pc := 137) (v := 0) d208_137 kc_0) ?_
        refine yL.eq (y_istore_n (pc := 138) (ls' := [some (.ref 190), some (.int a1), some (.int (a1 / 8)), some (.int 0), none]) d208_138 rfl rfl) ?_
        refine yL.eq (y_goto (pc := 139) (t := 319) d208_139 (by decide)) ?_
        exact yL.eq (y_ret (pc := 319) d208_319 mr_208) yL.rf
    ·
      refine yL.eq (y_ts (c := 2) (lo' := 3) kc_2 (by decide)) ?_
      refine yL.ite (fun h12 => ?_) (fun h12 => ?_)
      ·
        refine yL.eq (y_aload_n (pc := 85) (x := 190) d208_85 rfl) ?_
        refine yL.eq (y_getr (pc := 86) (r := 192) d208_86 q208_13 s_r_190_2) ?_
        refine yL.eq (y_bipush (pc := 89) (v := 15) d208_89 kb_15) ?_
        refine yL.eq (y_iald (pc := 91) (n := 95) d208_91 (yR_a yR192)) ?_
        refine yL.eq (if_pos in_15_95) ?_
        show yL _ (yX 208 92 [some (.ref 190), some (.int a1), some (.int (a1 / 8)), none, none] ([.int (M 192 15)]) M 0 0)
        refine yL.eq (y_bipush (pc := 92) (v := 14) d208_92 kb_14) ?_
        refine yL.eq (y_icmp_ge (pc := 94) (t := 137) d208_94 (by decide)) ?_
        refine yL.ite (fun h13 => ?_) (fun h13 => ?_)
        ·
          refine yL.eq (y_aload_n (pc := 97) (x := 190) d208_97 rfl) ?_
          refine yL.eq (y_getr (pc := 98) (r := 192) d208_98 q208_13 s_r_190_2) ?_
          refine yL.eq (y_iconst (pc := 101) (v := 1) d208_101 kc_1) ?_
          refine yL.eq (y_iload_n (pc := 102) (x := (a1 / 8)) d208_102 rfl) ?_
          refine yL.eq (y_bipush (pc := 103) (v := 40) d208_103 kb_40) ?_
          refine yL.eq (y_imodc (pc := 105) d208_105 nzI_40) ?_
          refine yL.eq (y_iadd (pc := 106) d208_106) ?_
          refine yL.eq (y_iload_n (pc := 107) (x := (a1 / 8)) d208_107 rfl) ?_
          refine yL.eq (y_bipush (pc := 108) (v := 64) d208_108 kb_64) ?_
          refine yL.eq (y_idivc (pc := 110) d208_110 nzI_64) ?_
          refine yL.eq (y_iconst (pc := 111) (v := 5) d208_111 kc_5) ?_
          refine yL.eq (y_imodc (pc := 112) d208_112 nzI_5) ?_
          refine yL.eq (y_iconst (pc := 113) (v := 1) d208_113 kc_1) ?_
          refine yL.eq (y_isub (pc := 114) d208_114) ?_
          refine yL.eq (y_iload_n (pc := 115) (x := (a1 / 8)) d208_115 rfl) ?_
          refine yL.eq (y_sipush (pc := 116) (v := 512) d208_116 ks_512) ?_
          refine yL.eq (y_idivc (pc := 119) d208_119 nzI_512) ?_
          refine yL.eq (y_iconst (pc := 120) (v := 2) d208_120 kc_2) ?_
          refine yL.eq (y_imodc (pc := 121) d208_121 nzI_2) ?_
          refine yL.eq (y_iconst (pc := 122) (v := 1) d208_122 kc_1) ?_
          refine yL.eq (y_icmp_ne (pc := 123) (t := 130) d208_123 (by decide)) ?_
          refine yL.ite (fun h14 => ?_) (fun h14 => ?_)
          ·
            refine yL.eq (y_iconst (pc := 126) (v := 1) d208_126 kc_1) ?_
            refine yL.eq (y_goto (pc := 127) (t := 131) d208_127 (by decide)) ?_
            refine y_calls_i (pc := 131) (n := 4) (n' := 5) (nc' := 0) (ns' := 0) [.ref 192, .int (1 + ((a1 / 8) % 40)), .int ((((a1 / 8) / 64) % 5) - 1), .int 1] [] false d208_131 q208_199 rfl rfl rfl (Nat.le_of_ble_eq_true rfl) (Nat.le_of_ble_eq_true rfl) rfl (by decide +kernel) (by decide +kernel) (fun v16 M15 => ?_)
            refine yL.eq (y_goto (pc := 134) (t := 138) d208_134 (by decide)) ?_
            refine yL.eq (y_istore_n (pc := 138) (ls' := [some (.ref 190), some (.int a1), some (.int (a1 / 8)), some (.int v16), none]) d208_138 rfl rfl) ?_
            refine yL.eq (y_goto (pc := 139) (t := 319) d208_139 (by decide)) ?_
            exact yL.eq (y_ret (pc := 319) d208_319 mr_208) yL.rf
          ·
            refine yL.eq (y_iconst (pc := 130) (v := 0) d208_130 kc_0) ?_
            refine y_calls_i (pc := 131) (n := 4) (n' := 5) (nc' := 0) (ns' := 0) [.ref 192, .int (1 + ((a1 / 8) % 40)), .int ((((a1 / 8) / 64) % 5) - 1), .int 0] [] false d208_131 q208_199 rfl rfl rfl (Nat.le_of_ble_eq_true rfl) (Nat.le_of_ble_eq_true rfl) rfl (by decide +kernel) (by decide +kernel) (fun v18 M17 => ?_)
            refine yL.eq (y_goto (pc := 134) (t := 138) d208_134 (by decide)) ?_
            refine yL.eq (y_istore_n (pc := 138) (ls' := [some (.ref 190), some (.int a1), some (.int (a1 / 8)), some (.int v18), none]) d208_138 rfl rfl) ?_
            refine yL.eq (y_goto (pc := 139) (t := 319) d208_139 (by decide)) ?_
            exact yL.eq (y_ret (pc := 319) d208_319 mr_208) yL.rf
        ·
          refine yL.eq (y_iconst (pc := 137) (v := 0) d208_137 kc_0) ?_
          refine yL.eq (y_istore_n (pc := 138) (ls' := [some (.ref 190), some (.int a1), some (.int (a1 / 8)), some (.int 0), none]) d208_138 rfl rfl) ?_
          refine yL.eq (y_goto (pc := 139) (t := 319) d208_139 (by decide)) ?_
          exact yL.eq (y_ret (pc := 319) d208_319 mr_208) yL.rf
      ·
        refine yL.eq (y_ts (c := 3) (lo' := 4) kc_3 (by decide)) ?_
        refine yL.ite (fun h19 => ?_) (fun h19 => ?_)
        ·
          refine yL.eq (y_aload_n (pc := 142) (x := 190) d208_142 rfl) ?_
          refine yL.eq (y_getr (pc := 143) (r := 192) d208_143 q208_13 s_r_190_2) ?_
          refine yL.eq (y_iload_n (pc := 146) (x := (a1 / 8)) d208_146 rfl) ?_
          refine yL.eq (y_bipush (pc := 147) (v := 14) d208_147 kb_14) ?_
          refine yL.eq (y_imodc (pc := 149) d208_149 nzI_14) ?_
          refine y_calls_i (pc := 150) (n := 2) (n' := 2) (nc' := 0) (ns' := 0) [.ref 192, .int ((a1 / 8) % 14)] [] false d208_150 q208_203 rfl rfl rfl (Nat.le_of_ble_eq_true rfl) (Nat.le_of_ble_eq_true rfl) rfl (by decide +kernel) (by decide +kernel) (fun v21 M20 => ?_)
          refine yL.eq (y_if_eq (pc := 153) (t := 213) d208_153 (by decide)) ?_
          refine yL.ite (fun h22 => ?_) (fun h22 => ?_)
          ·
            refine yL.eq (y_iconst (pc := 213) (v := 0) d208_213 kc_0) ?_
            refine yL.eq (y_istore (pc := 214) (ls' := [some (.ref 190), some (.int a1), some (.int (a1 / 8)), none, some (.int 0)]) d208_214 rfl rfl) ?_
            refine yL.eq (y_goto (pc := 216) (t := 319) d208_216 (by decide)) ?_
            exact yL.eq (y_ret (pc := 319) d208_319 mr_208) yL.rf
          ·
            refine yL.eq (y_aload_n (pc := 156) (x := 190) d208_156 rfl) ?_
            refine yL.eq (y_getr (pc := 157) (r := 192) d208_157 q208_13 s_r_190_2) ?_
            refine yL.eq (y_iload_n (pc := 160) (x := (a1 / 8)) d208_160 rfl) ?_
            refine yL.eq (y_bipush (pc := 161) (v := 16) d208_161 kb_16) ?_
            refine yL.eq (y_idivc (pc := 163) d208_163 nzI_16) ?_
            refine yL.eq (y_bipush (pc := 164) (v := 12) d208_164 kb_12) ?_
            refine yL.eq (y_imodc (pc := 166) d208_166 nzI_12) ?_
            refine y_calls_i (pc := 167) (n := 2) (n' := 2) (nc' := 0) (ns' := 0) [.ref 192, .int (((a1 / 8) / 16) % 12)] [] false d208_167 q208_207 rfl rfl rfl (Nat.le_of_ble_eq_true rfl) (Nat.le_of_ble_eq_true rfl) rfl (by decide +kernel) (by decide +kernel) (fun v24 M23 => ?_)
            refine yL.eq (y_if_eq (pc := 170) (t := 213) d208_170 (by decide)) ?_
            refine yL.ite (fun h25 => ?_) (fun h25 => ?_)
            ·
              refine yL.eq (y_iconst (pc := 213) (v := 0) d208_213 kc_0) ?_
              refine yL.eq (y_istore (pc := 214) (ls' := [some (.ref 190), some (.int a1), some (.int (a1 / 8)), none, some (.int 0)]) d208_214 rfl rfl) ?_
              refine yL.eq (y_goto (pc := 216) (t := 319) d208_216 (by decide)) ?_
              exact yL.eq (y_ret (pc := 319) d208_319 mr_208) yL.rf
            ·
              refine yL.eq (y_aload_n (pc := 173) (x := 190) d208_173 rfl) ?_
              refine yL.eq (y_getr (pc := 174) (r := 192) d208_174 q208_13 s_r_190_2) ?_
              refine yL.eq (y_iload_n (pc := 177) (x := (a1 / 8)) d208_177 rfl) ?_
              refine yL.eq (y_bipush (pc := 178) (v := 14) d208_178 kb_14) ?_
              refine yL.eq (y_imodc (pc := 180) d208_180 nzI_14) ?_
              refine yL.eq (y_iload_n (pc := 181) (x := (a1 / 8)) d208_181 rfl) ?_
              refine yL.eq (y_bipush (pc := 182) (v := 16) d208_182 kb_16) ?_
              refine yL.eq (y_idivc (pc := 184) d208_184 nzI_16) ?_
              refine yL.eq (y_bipush (pc := 185) (v := 12) d208_185 kb_12) ?_
              refine yL.eq (y_imodc (pc := 187) d208_187 nzI_12) ?_
              refine yL.eq (y_iload_n (pc := 188) (x := (a1 / 8)) d208_188 rfl) ?_
              refine yL.eq (y_sipush (pc := 189) (v := 256) d208_189 ks_256) ?_
              refine yL.eq (y_idivc (pc := 192) d208_192 nzI_256) ?_
              refine yL.eq (y_iconst (pc := 193) (v := 4) d208_193 kc_4) ?_
              refine yL.eq (y_imodc (pc := 194) d208_194 nzI_4) ?_
              refine yL.eq (y_if_eq (pc := 195) (t := 202) d208_195 (by decide)) ?_
              refine yL.ite (fun h26 => ?_) (fun h26 => ?_)
              ·
                refine yL.eq (y_iconst (pc := 202) (v := 0) d208_202 kc_0) ?_
                refine y_calls_i (pc := 203) (n := 4) (n' := 5) (nc' := 0) (ns' := 0) [.ref 192, .int ((a1 / 8) % 14), .int (((a1 / 8) / 16) % 12), .int 0] [] false d208_203 q208_210 rfl rfl rfl (Nat.le_of_ble_eq_true rfl) (Nat.le_of_ble_eq_true rfl) rfl (by decide +kernel) (by decide +kernel) (fun v28 M27 => ?_)
                refine yL.eq (y_if_lt (pc := 206) (t := 213) d208_206 (by decide)) ?_
                refine yL.ite (fun h29 => ?_) (fun h29 => ?_)
                ·
                  refine yL.eq (y_iconst (pc := 213) (v := 0) d208_213 kc_0) ?_
                  refine yL.eq (y_istore (pc := 214) (ls' := [some (.ref 190), some (.int a1), some (.int (a1 / 8)), none, some (.int 0)]) d208_214 rfl rfl) ?_
                  refine yL.eq (y_goto (pc := 216) (t := 319) d208_216 (by decide)) ?_
                  exact yL.eq (y_ret (pc := 319) d208_319 mr_208) yL.rf
                ·
                  refine yL.eq (y_iconst (pc := 209) (v := 1) d208_209 kc_1) ?_
                  refine yL.eq (y_goto (pc := 210) (t := 214) d208_210 (by decide)) ?_
                  refine yL.eq (y_istore (pc := 214) (ls' := [some (.ref 190), some (.int a1), some (.int (a1 / 8)), none, some (.int 1)]) d208_214 rfl rfl) ?_
                  refine yL.eq (y_goto (pc := 216) (t := 319) d208_216 (by decide)) ?_
                  exact yL.eq (y_ret (pc := 319) d208_319 mr_208) yL.rf
              ·
                refine yL.eq (y_iconst (pc := 198) (v := 1) d208_198 kc_1) ?_
                refine yL.eq (y_goto (pc := 199) (t := 203) d208_199 (by decide)) ?_
                refine y_calls_i (pc := 203) (n := 4) (n' := 5) (nc' := 0) (ns' := 0) [.ref 192, .int ((a1 / 8) % 14), .int (((a1 / 8) / 16) % 12), .int 1] [] false d208_203 q208_210 rfl rfl rfl (Nat.le_of_ble_eq_true rfl) (Nat.le_of_ble_eq_true rfl) rfl (by decide +kernel) (by decide +kernel) (fun v31 M30 => ?_)
                refine yL.eq (y_if_lt (pc := 206) (t := 213) d208_206 (by decide)) ?_
                refine yL.ite (fun h32 => ?_) (fun h32 => ?_)
                ·
                  refine yL.eq (y_iconst (pc := 213) (v := 0) d208_213 kc_0) ?_
                  refine yL.eq (y_istore (pc := 214) (ls' := [some (.ref 190), some (.int a1), some (.int (a1 / 8)), none, some (.int 0)]) d208_214 rfl rfl) ?_
                  refine yL.eq (y_goto (pc := 216) (t := 319) d208_216 (by decide)) ?_
                  exact yL.eq (y_ret (pc := 319) d208_319 mr_208) yL.rf
                ·
                  refine yL.eq (y_iconst (pc := 209) (v := 1) d208_209 kc_1) ?_
                  refine yL.eq (y_goto (pc := 210) (t := 214) d208_210 (by decide)) ?_
                  refine yL.eq (y_istore (pc := 214) (ls' := [some (.ref 190), some (.int a1), some (.int (a1 / 8)), none, some (.int 1)]) d208_214 rfl rfl) ?_
                  refine yL.eq (y_goto (pc := 216) (t := 319) d208_216 (by decide)) ?_
                  exact yL.eq (y_ret (pc := 319) d208_319 mr_208) yL.rf
        ·
          refine yL.eq (y_ts (c := 4) (lo' := 5) kc_4 (by decide)) ?_
          refine yL.ite (fun h33 => ?_) (fun h33 => ?_)
          ·
            refine yL.eq (y_aload_n (pc := 219) (x := 190) d208_219 rfl) ?_
            refine yL.eq (y_iload_n (pc := 220) (x := (a1 / 8)) d208_220 rfl) ?_
            refine yL.eq (y_bipush (pc := 221) (v := 14) d208_221 kb_14) ?_
            refine yL.eq (y_imodc (pc := 223) d208_223 nzI_14) ?_
            refine yL.eq (y_iload_n (pc := 224) (x := (a1 / 8)) d208_224 rfl) ?_
            refine yL.eq (y_bipush (pc := 225) (v := 16) d208_225 kb_16) ?_
            refine yL.eq (y_idivc (pc := 227) d208_227 nzI_16) ?_
            refine yL.eq (y_bipush (pc := 228) (v := 14) d208_228 kb_14) ?_
            refine yL.eq (y_imodc (pc := 230) d208_230 nzI_14) ?_
            refine yL.eq (y_iload_n (pc := 231) (x := (a1 / 8)) d208_231 rfl) ?_
            refine yL.eq (y_sipush (pc := 232) (v := 256) d208_232 ks_256) ?_
            refine yL.eq (y_idivc (pc := 235) d208_235 nzI_256) ?_
            refine yL.eq (y_iconst (pc := 236) (v := 4) d208_236 kc_4) ?_
            refine yL.eq (y_imodc (pc := 237) d208_237 nzI_4) ?_
            refine yL.eq (y_if_eq (pc := 238) (t := 245) d208_238 (by decide)) ?_
            refine yL.ite (fun h34 => ?_) (fun h34 => ?_)
            ·
              refine yL.eq (y_iconst (pc := 245) (v := 0) d208_245 kc_0) ?_
              refine y_callv_i (pc := 246) (n := 4) (n' := 5) (nc' := 0) (ns' := 0) [.int ((a1 / 8) % 14), .int (((a1 / 8) / 16) % 14), .int 0] [] false d208_246 q208_315 mk_202 s_t_190 rfl rfl (Nat.le_of_ble_eq_true rfl) (Nat.le_of_ble_eq_true rfl) rfl (by decide +kernel) (by decide +kernel) (fun v36 M35 => ?_)
              refine yL.eq (y_istore (pc := 249) (ls' := [some (.ref 190), some (.int a1), some (.int (a1 / 8)), none, some (.int v36)]) d208_249 rfl rfl) ?_
              refine yL.eq (y_goto (pc := 251) (t := 319) d208_251 (by decide)) ?_
              exact yL.eq (y_ret (pc := 319) d208_319 mr_208) yL.rf
            ·
              refine yL.eq (y_iconst (pc := 241) (v := 1) d208_241 kc_1) ?_
              refine yL.eq (y_goto (pc := 242) (t := 246) d208_242 (by decide)) ?_
              refine y_callv_i (pc := 246) (n := 4) (n' := 5) (nc' := 0) (ns' := 0) [.int ((a1 / 8) % 14), .int (((a1 / 8) / 16) % 14), .int 1] [] false d208_246 q208_315 mk_202 s_t_190 rfl rfl (Nat.le_of_ble_eq_true rfl) (Nat.le_of_ble_eq_true rfl) rfl (by decide +kernel) (by decide +kernel) (fun v38 M37 => ?_)
              refine yL.eq (y_istore (pc := 249) (ls' := [some (.ref 190), some (.int a1), some (.int (a1 / 8)), none, some (.int v38)]) d208_249 rfl rfl) ?_
              refine yL.eq (y_goto (pc := 251) (t := 319) d208_251 (by decide)) ?_
              exact yL.eq (y_ret (pc := 319) d208_319 mr_208) yL.rf
          ·
            refine yL.eq (y_ts (c := 5) (lo' := 6) kc_5 (by decide)) ?_
            refine yL.ite (fun h39 => ?_) (fun h39 => ?_)
            ·
              refine yL.eq (y_aload_n (pc := 219) (x := 190) d208_219 rfl) ?_
              refine yL.eq (y_iload_n (pc := 220) (x := (a1 / 8)) d208_220 rfl) ?_
              refine yL.eq (y_bipush (pc := 221) (v := 14) d208_221 kb_14) ?_
              refine yL.eq (y_imodc (pc := 223) d208_223 nzI_14) ?_
              refine yL.eq (y_iload_n (pc := 224) (x := (a1 / 8)) d208_224 rfl) ?_
              refine yL.eq (y_bipush (pc := 225) (v := 16) d208_225 kb_16) ?_
              refine yL.eq (y_idivc (pc := 227) d208_227 nzI_16) ?_
              refine yL.eq (y_bipush (pc := 228) (v := 14) d208_228 kb_14) ?_
              refine yL.eq (y_imodc (pc := 230) d208_230 nzI_14) ?_
              refine yL.eq (y_iload_n (pc := 231) (x := (a1 / 8)) d208_231 rfl) ?_
              refine yL.eq (y_sipush (pc := 232) (v := 256) d208_232 ks_256) ?_
              refine yL.eq (y_idivc (pc := 235) d208_235 nzI_256) ?_
              refine yL.eq (y_iconst (pc := 236) (v := 4) d208_236 kc_4) ?_
              refine yL.eq (y_imodc (pc := 237) d208_237 nzI_4) ?_
              refine yL.eq (y_if_eq (pc := 238) (t := 245) d208_238 (by decide)) ?_
              refine yL.ite (fun h40 => ?_) (fun h40 => ?_)
              ·
                refine yL.eq (y_iconst (pc := 245) (v := 0) d208_245 kc_0) ?_
                refine y_callv_i (pc := 246) (n := 4) (n' := 5) (nc' := 0) (ns' := 0) [.int ((a1 / 8) % 14), .int (((a1 / 8) / 16) % 14), .int 0] [] false d208_246 q208_315 mk_202 s_t_190 rfl rfl (Nat.le_of_ble_eq_true rfl) (Nat.le_of_ble_eq_true rfl) rfl (by decide +kernel) (by decide +kernel) (fun v42 M41 => ?_)
                refine yL.eq (y_istore (pc := 249) (ls' := [some (.ref 190), some (.int a1), some (.int (a1 / 8)), none, some (.int v42)]) d208_249 rfl rfl) ?_
                refine yL.eq (y_goto (pc := 251) (t := 319) d208_251 (by decide)) ?_
                exact yL.eq (y_ret (pc := 319) d208_319 mr_208) yL.rf
              ·
                refine yL.eq (y_iconst (pc := 241) (v := 1) d208_241 kc_1) ?_
                refine yL.eq (y_goto (pc := 242) (t := 246) d208_242 (by decide)) ?_
                refine y_callv_i (pc := 246) (n := 4) (n' := 5) (nc' := 0) (ns' := 0) [.int ((a1 / 8) % 14), .int (((a1 / 8) / 16) % 14), .int 1] [] false d208_246 q208_315 mk_202 s_t_190 rfl rfl (Nat.le_of_ble_eq_true rfl) (Nat.le_of_ble_eq_true rfl) rfl (by decide +kernel) (by decide +kernel) (fun v44 M43 => ?_)
                refine yL.eq (y_istore (pc := 249) (ls' := [some (.ref 190), some (.int a1), some (.int (a1 / 8)), none, some (.int v44)]) d208_249 rfl rfl) ?_
                refine yL.eq (y_goto (pc := 251) (t := 319) d208_251 (by decide)) ?_
                exact yL.eq (y_ret (pc := 319) d208_319 mr_208) yL.rf
            ·
              refine yL.eq (y_ts (c := 6) (lo' := 7) kc_6 (by decide)) ?_
              refine yL.ite (fun h45 => ?_) (fun h45 => ?_)
              ·
                refine yL.eq (y_iload_n (pc := 254) (x := (a1 / 8)) d208_254 rfl) ?_
                refine yL.eq (y_bipush (pc := 255) (v := 64) d208_255 kb_64) ?_
                refine yL.eq (y_idivc (pc := 257) d208_257 nzI_64) ?_
                refine yL.eq (y_iconst (pc := 258) (v := 2) d208_258 kc_2) ?_
                refine yL.eq (y_imodc (pc := 259) d208_259 nzI_2) ?_
                refine yL.eq (y_if_ne (pc := 260) (t := 278) d208_260 (by decide)) ?_
                refine yL.ite (fun h46 => ?_) (fun h46 => ?_)
                ·
                  refine yL.eq (y_aload_n (pc := 263) (x := 190) d208_263 rfl) ?_
                  refine yL.eq (y_iload_n (pc := 264) (x := (a1 / 8)) d208_264 rfl) ?_
                  refine yL.eq (y_iconst (pc := 265) (v := 4) d208_265 kc_4) ?_
                  refine yL.eq (y_imodc (pc := 266) d208_266 nzI_4) ?_
                  refine yL.eq (y_iload_n (pc := 267) (x := (a1 / 8)) d208_267 rfl) ?_
                  refine yL.eq (y_iconst (pc := 268) (v := 4) d208_268 kc_4) ?_
                  refine yL.eq (y_idivc (pc := 269) d208_269 nzI_4) ?_
                  refine yL.eq (y_iconst (pc := 270) (v := 4) d208_270 kc_4) ?_
                  refine yL.eq (y_imodc (pc := 271) d208_271 nzI_4) ?_
                  refine y_callv_i (pc := 272) (n := 3) (n' := 3) (nc' := 0) (ns' := 0) [.int ((a1 / 8) % 4), .int (((a1 / 8) / 4) % 4)] [] false d208_272 q208_319 mk_203 s_t_190 rfl rfl (Nat.le_of_ble_eq_true rfl) (Nat.le_of_ble_eq_true rfl) rfl (by decide +kernel) (by decide +kernel) (fun v48 M47 => ?_)
                  refine yL.eq (y_goto (pc := 275) (t := 298) d208_275 (by decide)) ?_
                  refine yL.eq (y_istore (pc := 298) (ls' := [some (.ref 190), some (.int a1), some (.int (a1 / 8)), none, some (.int v48)]) d208_298 rfl rfl) ?_
                  refine yL.eq (y_goto (pc := 300) (t := 319) d208_300 (by decide)) ?_
                  exact yL.eq (y_ret (pc := 319) d208_319 mr_208) yL.rf
                ·
                  refine yL.eq (y_aload_n (pc := 278) (x := 190) d208_278 rfl) ?_
                  refine yL.eq (y_iconst (pc := 279) (v := 1) d208_279 kc_1) ?_
                  refine yL.eq (y_iload_n (pc := 280) (x := (a1 / 8)) d208_280 rfl) ?_
                  refine yL.eq (y_bipush (pc := 281) (v := 24) d208_281 kb_24) ?_
                  refine yL.eq (y_imodc (pc := 283) d208_283 nzI_24) ?_
                  refine yL.eq (y_iadd (pc := 284) d208_284) ?_
                  refine yL.eq (y_iconst (pc := 285) (v := 1) d208_285 kc_1) ?_
                  refine yL.eq (y_iload_n (pc := 286) (x := (a1 / 8)) d208_286 rfl) ?_
                  refine yL.eq (y_sipush (pc := 287) (v := 128) d208_287 ks_128) ?_
                  refine yL.eq (y_idivc (pc := 290) d208_290 nzI_128) ?_
                  refine yL.eq (y_bipush (pc := 291) (v := 24) d208_291 kb_24) ?_
                  refine yL.eq (y_imodc (pc := 293) d208_293 nzI_24) ?_
                  refine yL.eq (y_iadd (pc := 294) d208_294) ?_
                  refine y_callv_i (pc := 295) (n := 3) (n' := 3) (nc' := 0) (ns' := 0) [.int (1 + ((a1 / 8) % 24)), .int (1 + (((a1 / 8) / 128) % 24))] [] false d208_295 q208_309 mk_200 s_t_190 rfl rfl (Nat.le_of_ble_eq_true rfl) (Nat.le_of_ble_eq_true rfl) rfl (by decide +kernel) (by decide +kernel) (fun v50 M49 => ?_)
                  refine yL.eq (y_istore (pc := 298) (ls' := [some (.ref 190), some (.int a1), some (.int (a1 / 8)), none, some (.int v50)]) d208_298 rfl rfl) ?_
                  refine yL.eq (y_goto (pc := 300) (t := 319) d208_300 (by decide)) ?_
                  exact yL.eq (y_ret (pc := 319) d208_319 mr_208) yL.rf
              ·
                refine yL.eq y_tsn ?_
                refine yL.eq (y_aload_n (pc := 303) (x := 190) d208_303 rfl) ?_
                refine yL.eq (y_iload_n (pc := 304) (x := (a1 / 8)) d208_304 rfl) ?_
                refine yL.eq (y_iconst (pc := 305) (v := 5) d208_305 kc_5) ?_
                refine yL.eq (y_imodc (pc := 306) d208_306 nzI_5) ?_
                refine yL.eq (y_iload_n (pc := 307) (x := (a1 / 8)) d208_307 rfl) ?_
                refine yL.eq (y_bipush (pc := 308) (v := 8) d208_308 kb_8) ?_
                refine yL.eq (y_idivc (pc := 310) d208_310 nzI_8) ?_
                refine yL.eq (y_bipush (pc := 311) (v := 16) d208_311 kb_16) ?_
                refine yL.eq (y_imodc (pc := 313) d208_313 nzI_16) ?_
                refine y_callv_i (pc := 314) (n := 3) (n' := 3) (nc' := 0) (ns' := 0) [.int ((a1 / 8) % 5), .int (((a1 / 8) / 8) % 16)] [] false d208_314 q208_322 mk_204 s_t_190 rfl rfl (Nat.le_of_ble_eq_true rfl) (Nat.le_of_ble_eq_true rfl) rfl (by decide +kernel) (by decide +kernel) (fun v52 M51 => ?_)
                refine yL.eq (y_istore (pc := 317) (ls' := [some (.ref 190), some (.int a1), some (.int (a1 / 8)), none, some (.int v52)]) d208_317 rfl rfl) ?_
                exact yL.eq (y_ret (pc := 319) d208_319 mr_208) yL.rf
set_option maxRecDepth 20000 in
set_option maxHeartbeats 4000000 in
theorem e209 {a1 : Int64} {a3 : Int32} {M : yM} : yL (yCi false (yX 108 0 [some (.long a3.toInt64), none, some (.long 1), none, some (.long 60), none] [] M 0 0) fun v2 M1 => if v2 = 0 then yCi false (yX 107 0 [some (.ref 190), some (.int 1)] [] M1 0 0) fun v5 M4 => if v5 = 0 then yCv false (yX 113 0 [some (.ref 191), some (.ref 192), none] [] M4 0 0) fun M7 => yX 209 43 [some (.ref 190), some (.long a1), none, some (.int a3), some (.long a1), none, some (.int 0)] [] M7 0 0 else yI 0 M4 else yCi false (yX 107 0 [some (.ref 190), some (.int 0)] [] M1 0 0) fun v9 M8 => if v9 = 0 then yCv false (yX 113 0 [some (.ref 191), some (.ref 192), none] [] M8 0 0) fun M11 => yX 209 43 [some (.ref 190), some (.long a1), none, some (.int a3), some (.long a1), none, some (.int 0)] [] M11 0 0 else yI 0 M8) (yX 209 0 [some (.ref 190), some (.long a1), none, some (.int a3), none, none, none] [] M 0 0) := by
  refine yL.eq (y_aload_n (pc := 0) (x := 190) d209_0 rfl) ?_
  refine yL.eq (y_iload_n (pc := 1) (x := a3) d209_1 rfl) ?_
  refine yL.eq (y_i2l (pc := 2) d209_2) ?_
  refine yL.eq (y_lconst (pc := 3) (v := 1) d209_3 kl_1) ?_
  refine yL.eq (y_ldc2_w (pc := 4) (v := 60) d209_4 q209_337) ?_
  refine y_calls_i (pc := 7) (n := 3) (n' := 6) (nc' := 0) (ns' := 0) [.long a3.toInt64, .long 1, .long 60] [.ref 190] false d209_7 q209_58 rfl rfl rfl (Nat.le_of_ble_eq_true rfl) (Nat.le_of_ble_eq_true rfl) rfl (by decide +kernel) (by decide +kernel) (fun v2 M1 => ?_)
  refine yL.eq (y_if_eq (pc := 10) (t := 17) d209_10 (by decide)) ?_
  refine yL.ite (fun h3 => ?_) (fun h3 => ?_)
  ·
    refine yL.eq (y_iconst (pc := 17) (v := 1) d209_17 kc_1) ?_
    refine y_callv_i (pc := 18) (n := 2) (n' := 2) (nc' := 0) (ns' := 0) [.int 1] [] false d209_18 q209_159 mk_107 s_t_190 rfl rfl (Nat.le_of_ble_eq_true rfl) (Nat.le_of_ble_eq_true rfl) rfl (by decide +kernel) (by decide +kernel) (fun v5 M4 => ?_)
    refine yL.eq (y_if_eq (pc := 21) (t := 26) d209_21 (by decide)) ?_
    refine yL.ite (fun h6 => ?_) (fun h6 => ?_)
    ·
      refine yL.eq (y_aload_n (pc := 26) (x := 190) d209_26 rfl) ?_
      refine yL.eq (y_getr (pc := 27) (r := 191) d209_27 q209_7 s_r_190_1) ?_
      refine yL.eq (y_aload_n (pc := 30) (x := 190) d209_30 rfl) ?_
      refine yL.eq (y_getr (pc := 31) (r := 192) d209_31 q209_13 s_r_190_2) ?_
      refine y_calls_v (pc := 34) (n := 2) (n' := 3) (nc' := 0) (ns' := 0) [.ref 191, .ref 192] [] false d209_34 q209_242 rfl rfl rfl (Nat.le_of_ble_eq_true rfl) (Nat.le_of_ble_eq_true rfl) rfl (by decide +kernel) (by decide +kernel) (fun M7 => ?_)
      refine yL.eq (y_lload_n (pc := 37) (x := a1) d209_37 rfl) ?_
      refine yL.eq (y_lstore (pc := 38) (ls' := [some (.ref 190), some (.long a1), none, some (.int a3), some (.long a1), none, none]) d209_38 rfl rfl) ?_
      refine yL.eq (y_iconst (pc := 40) (v := 0) d209_40 kc_0) ?_
      refine yL.eq (y_istore (pc := 41) (ls' := [some (.ref 190), some (.long a1), none, some (.int a3), some (.long a1), none, some (.int 0)]) d209_41 rfl rfl) ?_
      exact yL.rf
    ·
      refine yL.eq (y_iconst (pc := 24) (v := 0) d209_24 kc_0) ?_
      exact yL.eq (y_ireti (pc := 25) d209_25 mr_209) yL.rf
  ·
    refine yL.eq (y_iconst (pc := 13) (v := 0) d209_13 kc_0) ?_
    refine yL.eq (y_goto (pc := 14) (t := 18) d209_14 (by decide)) ?_
    refine y_callv_i (pc := 18) (n := 2) (n' := 2) (nc' := 0) (ns' := 0) [.int 0] [] false d209_18 q209_159 mk_107 s_t_190 rfl rfl (Nat.le_of_ble_eq_true rfl) (Nat.le_of_ble_eq_true rfl) rfl (by decide +kernel) (by decide +kernel) (fun v9 M8 => ?_)
    refine yL.eq (y_if_eq (pc := 21) (t := 26) d209_21 (by decide)) ?_
    refine yL.ite (fun h10 => ?_) (fun h10 => ?_)
    ·
      refine yL.eq (y_aload_n (pc := 26) (x := 190) d209_26 rfl) ?_
      refine yL.eq (y_getr (pc := 27) (r := 191) d209_27 q209_7 s_r_190_1) ?_
      refine yL.eq (y_aload_n (pc := 30) (x := 190) d209_30 rfl) ?_
      refine yL.eq (y_getr (pc := 31) (r := 192) d209_31 q209_13 s_r_190_2) ?_
      refine y_calls_v (pc := 34) (n := 2) (n' := 3) (nc' := 0) (ns' := 0) [.ref 191, .ref 192] [] false d209_34 q209_242 rfl rfl rfl (Nat.le_of_ble_eq_true rfl) (Nat.le_of_ble_eq_true rfl) rfl (by decide +kernel) (by decide +kernel) (fun M11 => ?_)
      refine yL.eq (y_lload_n (pc := 37) (x := a1) d209_37 rfl) ?_
      refine yL.eq (y_lstore (pc := 38) (ls' := [some (.ref 190), some (.long a1), none, some (.int a3), some (.long a1), none, none]) d209_38 rfl rfl) ?_
      refine yL.eq (y_iconst (pc := 40) (v := 0) d209_40 kc_0) ?_
      refine yL.eq (y_istore (pc := 41) (ls' := [some (.ref 190), some (.long a1), none, some (.int a3), some (.long a1), none, some (.int 0)]) d209_41 rfl rfl) ?_
      exact yL.rf
    ·
      refine yL.eq (y_iconst (pc := 24) (v := 0) d209_24 kc_0) ?_
      exact yL.eq (y_ireti (pc := 25) d209_25 mr_209) yL.rf
set_option maxRecDepth 20000 in
set_option maxHeartbeats 4000000 in
theorem e209_43 {o1 : Option Value} {o2 : Option Value} {x3 : Int32} {x4 : Int64} {x6 : Int32} {M : yM} : yL (if x6 < x3 then yCv false (yX 208 0 [some (.ref 190), some (.int (((((x4 * 6364136223846793005) + 1442695040888963407).toUInt64 >>> ((33 : Int32).toInt64.toUInt64 &&& Int64.toUInt64 63)).toInt64).toInt32)), none, none, none] [] M 0 0) fun M2 => yX 209 43 [some (.ref 190), o1, o2, some (.int x3), some (.long ((x4 * 6364136223846793005) + 1442695040888963407)), none, some (.int (x6 + 1))] [] M2 0 0 else yCi false (yX 144 0 [some (.ref 190), some (.ref 192), none, none] [] M 0 0) fun v4 M3 => yCi false (yX 128 0 [some (.ref 192), none, none] [] M3 0 0) fun v6 M5 => yI (((1000 * v4) + (10 * ((M3 192 15) - (M3 190 11)))) + (v6 % 10)) M5) (yX 209 43 [some (.ref 190), o1, o2, some (.int x3), some (.long x4), none, some (.int x6)] [] M 0 0) := by
  refine yL.eq (y_iload (pc := 43) (x := x6) d209_43 rfl) ?_
  refine yL.eq (y_iload_n (pc := 45) (x := x3) d209_45 rfl) ?_
  refine yL.eq (y_icmp_ge (pc := 46) (t := 77) d209_46 (by decide)) ?_
  refine yL.ite (fun h1 => ?_) (fun h1 => ?_)
  ·
    refine yL.eq (y_lload (pc := 49) (x := x4) d209_49 rfl) ?_
    refine yL.eq (y_ldc2_w (pc := 51) (v := 6364136223846793005) d209_51 q209_339) ?_
    refine yL.eq (y_lmul (pc := 54) d209_54) ?_
    refine yL.eq (y_ldc2_w (pc := 55) (v := 1442695040888963407) d209_55 q209_341) ?_
    refine yL.eq (y_ladd (pc := 58) d209_58) ?_
    refine yL.eq (y_lstore (pc := 59) (ls' := [some (.ref 190), o1, o2, some (.int x3), some (.long ((x4 * 6364136223846793005) + 1442695040888963407)), none, some (.int x6)]) d209_59 rfl rfl) ?_
    refine yL.eq (y_aload_n (pc := 61) (x := 190) d209_61 rfl) ?_
    refine yL.eq (y_lload (pc := 62) (x := ((x4 * 6364136223846793005) + 1442695040888963407)) d209_62 rfl) ?_
    refine yL.eq (y_bipush (pc := 64) (v := 33) d209_64 kb_33) ?_
    refine yL.eq (y_lushr (pc := 66) d209_66) ?_
    refine yL.eq (y_l2i (pc := 67) d209_67) ?_
    refine y_callv_v (pc := 68) (n := 2) (n' := 5) (nc' := 0) (ns' := 0) [.int (((((x4 * 6364136223846793005) + 1442695040888963407).toUInt64 >>> ((33 : Int32).toInt64.toUInt64 &&& Int64.toUInt64 63)).toInt64).toInt32)] [] false d209_68 q209_343 mk_208 s_t_190 rfl rfl (Nat.le_of_ble_eq_true rfl) (Nat.le_of_ble_eq_true rfl) rfl (by decide +kernel) (by decide +kernel) (fun M2 => ?_)
    refine yL.eq (y_iinc (pc := 71) (v := 1) (x := x6) (ls' := [some (.ref 190), o1, o2, some (.int x3), some (.long ((x4 * 6364136223846793005) + 1442695040888963407)), none, some (.int (x6 + 1))]) d209_71 kc_1 rfl (Nat.le_of_ble_eq_true rfl) rfl) ?_
    refine yL.eq (y_goto (pc := 74) (t := 43) d209_74 (by decide)) ?_
    exact yL.rf
  ·
    refine yL.eq (y_aload_n (pc := 77) (x := 190) d209_77 rfl) ?_
    refine yL.eq (y_aload_n (pc := 78) (x := 190) d209_78 rfl) ?_
    refine yL.eq (y_getr (pc := 79) (r := 192) d209_79 q209_13 s_r_190_2) ?_
    refine y_callv_i (pc := 82) (n := 2) (n' := 4) (nc' := 0) (ns' := 0) [.ref 192] [] false d209_82 q209_248 mk_144 s_t_190 rfl rfl (Nat.le_of_ble_eq_true rfl) (Nat.le_of_ble_eq_true rfl) rfl (by decide +kernel) (by decide +kernel) (fun v4 M3 => ?_)
    refine yL.eq (y_istore (pc := 85) (ls' := [some (.ref 190), o1, o2, some (.int x3), some (.long x4), none, some (.int v4)]) d209_85 rfl rfl) ?_
    refine yL.eq (y_sipush (pc := 87) (v := 1000) d209_87 ks_1000) ?_
    refine yL.eq (y_iload (pc := 90) (x := v4) d209_90 rfl) ?_
    refine yL.eq (y_imul (pc := 92) d209_92) ?_
    refine yL.eq (y_bipush (pc := 93) (v := 10) d209_93 kb_10) ?_
    refine yL.eq (y_aload_n (pc := 95) (x := 190) d209_95 rfl) ?_
    refine yL.eq (y_getr (pc := 96) (r := 192) d209_96 q209_13 s_r_190_2) ?_
    refine yL.eq (y_bipush (pc := 99) (v := 15) d209_99 kb_15) ?_
    refine yL.eq (y_iald (pc := 101) (n := 95) d209_101 (yR_a yR192)) ?_
    refine yL.eq (if_pos in_15_95) ?_
    show yL _ (yX 209 102 [some (.ref 190), o1, o2, some (.int x3), some (.long x4), none, some (.int v4)] ([.int (M3 192 15), .int 10, .int (1000 * v4)]) M3 0 0)
    refine yL.eq (y_aload_n (pc := 102) (x := 190) d209_102 rfl) ?_
    refine yL.eq (y_geti (pc := 103) d209_103 q209_127 s_i_190_11) ?_
    refine yL.eq (y_isub (pc := 106) d209_106) ?_
    refine yL.eq (y_imul (pc := 107) d209_107) ?_
    refine yL.eq (y_iadd (pc := 108) d209_108) ?_
    refine yL.eq (y_aload_n (pc := 109) (x := 190) d209_109 rfl) ?_
    refine yL.eq (y_getr (pc := 110) (r := 192) d209_110 q209_13 s_r_190_2) ?_
    refine y_calls_i (pc := 113) (n := 1) (n' := 3) (nc' := 0) (ns' := 0) [.ref 192] [.int ((1000 * v4) + (10 * ((M3 192 15) - (M3 190 11))))] false d209_113 q209_139 rfl rfl rfl (Nat.le_of_ble_eq_true rfl) (Nat.le_of_ble_eq_true rfl) rfl (by decide +kernel) (by decide +kernel) (fun v6 M5 => ?_)
    refine yL.eq (y_bipush (pc := 116) (v := 10) d209_116 kb_10) ?_
    refine yL.eq (y_imodc (pc := 118) d209_118 nzI_10) ?_
    refine yL.eq (y_iadd (pc := 119) d209_119) ?_
    exact yL.eq (y_ireti (pc := 120) d209_120 mr_209) yL.rf
set_option maxRecDepth 20000 in
set_option maxHeartbeats 4000000 in
theorem e210 {a1 : Int32} {M : yM} : yL (yCi false (yX 108 0 [some (.long a1.toInt64), none, some (.long 0), none, some (.long 1), none] [] M 0 0) fun v2 M1 => if v2 = 0 then yCi false (yX 107 0 [some (.ref 190), some (.int 1)] [] M1 0 0) fun v5 M4 => if v5 = 0 then yX 210 26 [some (.ref 190), some (.int a1), some (.int 0)] [] M4 0 0 else yI 0 M4 else yCi false (yX 107 0 [some (.ref 190), some (.int 0)] [] M1 0 0) fun v8 M7 => if v8 = 0 then yX 210 26 [some (.ref 190), some (.int a1), some (.int 0)] [] M7 0 0 else yI 0 M7) (yX 210 0 [some (.ref 190), some (.int a1), none] [] M 0 0) := by
  refine yL.eq (y_aload_n (pc := 0) (x := 190) d210_0 rfl) ?_
  refine yL.eq (y_iload_n (pc := 1) (x := a1) d210_1 rfl) ?_
  refine yL.eq (y_i2l (pc := 2) d210_2) ?_
  refine yL.eq (y_lconst (pc := 3) (v := 0) d210_3 kl_0) ?_
  refine yL.eq (y_lconst (pc := 4) (v := 1) d210_4 kl_1) ?_
  refine y_calls_i (pc := 5) (n := 3) (n' := 6) (nc' := 0) (ns' := 0) [.long a1.toInt64, .long 0, .long 1] [.ref 190] false d210_5 q210_58 rfl rfl rfl (Nat.le_of_ble_eq_true rfl) (Nat.le_of_ble_eq_true rfl) rfl (by decide +kernel) (by decide +kernel) (fun v2 M1 => ?_)
  refine yL.eq (y_if_eq (pc := 8) (t := 15) d210_8 (by decide)) ?_
  refine yL.ite (fun h3 => ?_) (fun h3 => ?_)
  ·
    refine yL.eq (y_iconst (pc := 15) (v := 1) d210_15 kc_1) ?_
    refine y_callv_i (pc := 16) (n := 2) (n' := 2) (nc' := 0) (ns' := 0) [.int 1] [] false d210_16 q210_159 mk_107 s_t_190 rfl rfl (Nat.le_of_ble_eq_true rfl) (Nat.le_of_ble_eq_true rfl) rfl (by decide +kernel) (by decide +kernel) (fun v5 M4 => ?_)
    refine yL.eq (y_if_eq (pc := 19) (t := 24) d210_19 (by decide)) ?_
    refine yL.ite (fun h6 => ?_) (fun h6 => ?_)
    ·
      refine yL.eq (y_iconst (pc := 24) (v := 0) d210_24 kc_0) ?_
      refine yL.eq (y_istore_n (pc := 25) (ls' := [some (.ref 190), some (.int a1), some (.int 0)]) d210_25 rfl rfl) ?_
      exact yL.rf
    ·
      refine yL.eq (y_iconst (pc := 22) (v := 0) d210_22 kc_0) ?_
      exact yL.eq (y_ireti (pc := 23) d210_23 mr_210) yL.rf
  ·
    refine yL.eq (y_iconst (pc := 11) (v := 0) d210_11 kc_0) ?_
    refine yL.eq (y_goto (pc := 12) (t := 16) d210_12 (by decide)) ?_
    refine y_callv_i (pc := 16) (n := 2) (n' := 2) (nc' := 0) (ns' := 0) [.int 0] [] false d210_16 q210_159 mk_107 s_t_190 rfl rfl (Nat.le_of_ble_eq_true rfl) (Nat.le_of_ble_eq_true rfl) rfl (by decide +kernel) (by decide +kernel) (fun v8 M7 => ?_)
    refine yL.eq (y_if_eq (pc := 19) (t := 24) d210_19 (by decide)) ?_
    refine yL.ite (fun h9 => ?_) (fun h9 => ?_)
    ·
      refine yL.eq (y_iconst (pc := 24) (v := 0) d210_24 kc_0) ?_
      refine yL.eq (y_istore_n (pc := 25) (ls' := [some (.ref 190), some (.int a1), some (.int 0)]) d210_25 rfl rfl) ?_
      exact yL.rf
    ·
      refine yL.eq (y_iconst (pc := 22) (v := 0) d210_22 kc_0) ?_
      exact yL.eq (y_ireti (pc := 23) d210_23 mr_210) yL.rf
set_option maxRecDepth 20000 in
set_option maxHeartbeats 4000000 in
theorem e210_26 {x1 : Int32} {x2 : Int32} {M : yM} : yL (if x2 < 95 then if yinB x2 95 = true then if yinB ((95 * x1) + x2) 190 = true then yLet (yU M 195 (yx ((95 * x1) + x2)) (M 191 (yx x2))) fun M3 => yX 210 26 [some (.ref 190), some (.int x1), some (.int (x2 + 1))] [] M3 0 0 else none else none else if yinB x1 2 = true then yLet (yU M 196 (yx x1) (vp_nar .boolean 1)) fun M5 => yI (M5 191 15) M5 else none) (yX 210 26 [some (.ref 190), some (.int x1), some (.int x2)] [] M 0 0) := by
  refine yL.eq (y_iload_n (pc := 26) (x := x2) d210_26 rfl) ?_
  refine yL.eq (y_bipush (pc := 27) (v := 95) d210_27 kb_95) ?_
  refine yL.eq (y_icmp_ge (pc := 29) (t := 55) d210_29 (by decide)) ?_
  refine yL.ite (fun h1 => ?_) (fun h1 => ?_)
  ·
    refine yL.eq (y_aload_n (pc := 32) (x := 190) d210_32 rfl) ?_
    refine yL.eq (y_getr (pc := 33) (r := 195) d210_33 q210_22 s_r_190_6) ?_
    refine yL.eq (y_bipush (pc := 36) (v := 95) d210_36 kb_95) ?_
    refine yL.eq (y_iload_n (pc := 38) (x := x1) d210_38 rfl) ?_
    refine yL.eq (y_imul (pc := 39) d210_39) ?_
    refine yL.eq (y_iload_n (pc := 40) (x := x2) d210_40 rfl) ?_
    refine yL.eq (y_iadd (pc := 41) d210_41) ?_
    refine yL.eq (y_aload_n (pc := 42) (x := 190) d210_42 rfl) ?_
    refine yL.eq (y_getr (pc := 43) (r := 191) d210_43 q210_7 s_r_190_1) ?_
    refine yL.eq (y_iload_n (pc := 46) (x := x2) d210_46 rfl) ?_
    refine yL.eq (y_iald (pc := 47) (n := 95) d210_47 (yR_a yR191)) ?_
    refine yL.gd (fun h2 => ?_)
    refine y_iastL (pc := 48) (n := 190) d210_48 s_a_195 (fun h4 M3 => ?_)
    refine yL.eq (y_iinc (pc := 49) (v := 1) (x := x2) (ls' := [some (.ref 190), some (.int x1), some (.int (x2 + 1))]) d210_49 kc_1 rfl (Nat.le_of_ble_eq_true rfl) rfl) ?_
    refine yL.eq (y_goto (pc := 52) (t := 26) d210_52 (by decide)) ?_
    exact yL.rf
  ·
    refine yL.eq (y_aload_n (pc := 55) (x := 190) d210_55 rfl) ?_
    refine yL.eq (y_getr (pc := 56) (r := 196) d210_56 q210_25 s_r_190_7) ?_
    refine yL.eq (y_iload_n (pc := 59) (x := x1) d210_59 rfl) ?_
    refine yL.eq (y_iconst (pc := 60) (v := 1) d210_60 kc_1) ?_
    refine y_bastL (pc := 61) (n := 2) d210_61 s_a_196 (fun h6 M5 => ?_)
    refine yL.eq (y_aload_n (pc := 62) (x := 190) d210_62 rfl) ?_
    refine yL.eq (y_getr (pc := 63) (r := 191) d210_63 q210_7 s_r_190_1) ?_
    refine yL.eq (y_bipush (pc := 66) (v := 15) d210_66 kb_15) ?_
    refine yL.eq (y_iald (pc := 68) (n := 95) d210_68 (yR_a yR191)) ?_
    refine yL.eq (if_pos in_15_95) ?_
    show yL _ (yX 210 69 [some (.ref 190), some (.int x1), some (.int x2)] ([.int (M5 191 15)]) M5 0 0)
    exact yL.eq (y_ireti (pc := 69) d210_69 mr_210) yL.rf
set_option maxRecDepth 20000 in
set_option maxHeartbeats 4000000 in
theorem e211 {a1 : Int32} {M : yM} : yL (yCi false (yX 108 0 [some (.long a1.toInt64), none, some (.long 0), none, some (.long 1), none] [] M 0 0) fun v2 M1 => if v2 = 0 then yCi false (yX 107 0 [some (.ref 190), some (.int 1)] [] M1 0 0) fun v5 M4 => if v5 = 0 then yX 211 39 [some (.ref 190), some (.int a1), some (.int 0)] [] M4 0 0 else yI 0 M4 else if yinB a1 2 = true then if (M1 196 (yx a1)) = 0 then yCi false (yX 107 0 [some (.ref 190), some (.int 2)] [] M1 0 0) fun v10 M9 => if v10 = 0 then yX 211 39 [some (.ref 190), some (.int a1), some (.int 0)] [] M9 0 0 else yI 0 M9 else yCi false (yX 107 0 [some (.ref 190), some (.int 0)] [] M1 0 0) fun v13 M12 => if v13 = 0 then yX 211 39 [some (.ref 190), some (.int a1), some (.int 0)] [] M12 0 0 else yI 0 M12 else none) (yX 211 0 [some (.ref 190), some (.int a1), none] [] M 0 0) := by
  refine yL.eq (y_aload_n (pc := 0) (x := 190) d211_0 rfl) ?_
  refine yL.eq (y_iload_n (pc := 1) (x := a1) d211_1 rfl) ?_
  refine yL.eq (y_i2l (pc := 2) d211_2) ?_
  refine yL.eq (y_lconst (pc := 3) (v := 0) d211_3 kl_0) ?_
  refine yL.eq (y_lconst (pc := 4) (v := 1) d211_4 kl_1) ?_
  refine y_calls_i (pc := 5) (n := 3) (n' := 6) (nc' := 0) (ns' := 0) [.long a1.toInt64, .long 0, .long 1] [.ref 190] false d211_5 q211_58 rfl rfl rfl (Nat.le_of_ble_eq_true rfl) (Nat.le_of_ble_eq_true rfl) rfl (by decide +kernel) (by decide +kernel) (fun v2 M1 => ?_)
  refine yL.eq (y_if_ne (pc := 8) (t := 15) d211_8 (by decide)) ?_
  refine yL.ite (fun h3 => ?_) (fun h3 => ?_)
  ·
    refine yL.eq (y_iconst (pc := 11) (v := 1) d211_11 kc_1) ?_
    refine yL.eq (y_goto (pc := 12) (t := 29) d211_12 (by decide)) ?_
    refine y_callv_i (pc := 29) (n := 2) (n' := 2) (nc' := 0) (ns' := 0) [.int 1] [] false d211_29 q211_159 mk_107 s_t_190 rfl rfl (Nat.le_of_ble_eq_true rfl) (Nat.le_of_ble_eq_true rfl) rfl (by decide +kernel) (by decide +kernel) (fun v5 M4 => ?_)
    refine yL.eq (y_if_eq (pc := 32) (t := 37) d211_32 (by decide)) ?_
    refine yL.ite (fun h6 => ?_) (fun h6 => ?_)
    ·
      refine yL.eq (y_iconst (pc := 37) (v := 0) d211_37 kc_0) ?_
      refine yL.eq (y_istore_n (pc := 38) (ls' := [some (.ref 190), some (.int a1), some (.int 0)]) d211_38 rfl rfl) ?_
      exact yL.rf
    ·
      refine yL.eq (y_iconst (pc := 35) (v := 0) d211_35 kc_0) ?_
      exact yL.eq (y_ireti (pc := 36) d211_36 mr_211) yL.rf
  ·
    refine yL.eq (y_aload_n (pc := 15) (x := 190) d211_15 rfl) ?_
    refine yL.eq (y_getr (pc := 16) (r := 196) d211_16 q211_25 s_r_190_7) ?_
    refine yL.eq (y_iload_n (pc := 19) (x := a1) d211_19 rfl) ?_
    refine yL.eq (y_bald (pc := 20) (n := 2) d211_20 s_a_196) ?_
    refine yL.gd (fun h7 => ?_)
    refine yL.eq (y_if_ne (pc := 21) (t := 28) d211_21 (by decide)) ?_
    refine yL.ite (fun h8 => ?_) (fun h8 => ?_)
    ·
      refine yL.eq (y_iconst (pc := 24) (v := 2) d211_24 kc_2) ?_
      refine yL.eq (y_goto (pc := 25) (t := 29) d211_25 (by decide)) ?_
      refine y_callv_i (pc := 29) (n := 2) (n' := 2) (nc' := 0) (ns' := 0) [.int 2] [] false d211_29 q211_159 mk_107 s_t_190 rfl rfl (Nat.le_of_ble_eq_true rfl) (Nat.le_of_ble_eq_true rfl) rfl (by decide +kernel) (by decide +kernel) (fun v10 M9 => ?_)
      refine yL.eq (y_if_eq (pc := 32) (t := 37) d211_32 (by decide)) ?_
      refine yL.ite (fun h11 => ?_) (fun h11 => ?_)
      ·
        refine yL.eq (y_iconst (pc := 37) (v := 0) d211_37 kc_0) ?_
        refine yL.eq (y_istore_n (pc := 38) (ls' := [some (.ref 190), some (.int a1), some (.int 0)]) d211_38 rfl rfl) ?_
        exact yL.rf
      ·
        refine yL.eq (y_iconst (pc := 35) (v := 0) d211_35 kc_0) ?_
        exact yL.eq (y_ireti (pc := 36) d211_36 mr_211) yL.rf
    ·
      refine yL.eq (y_iconst (pc := 28) (v := 0) d211_28 kc_0) ?_
      refine y_callv_i (pc := 29) (n := 2) (n' := 2) (nc' := 0) (ns' := 0) [.int 0] [] false d211_29 q211_159 mk_107 s_t_190 rfl rfl (Nat.le_of_ble_eq_true rfl) (Nat.le_of_ble_eq_true rfl) rfl (by decide +kernel) (by decide +kernel) (fun v13 M12 => ?_)
      refine yL.eq (y_if_eq (pc := 32) (t := 37) d211_32 (by decide)) ?_
      refine yL.ite (fun h14 => ?_) (fun h14 => ?_)
      ·
        refine yL.eq (y_iconst (pc := 37) (v := 0) d211_37 kc_0) ?_
        refine yL.eq (y_istore_n (pc := 38) (ls' := [some (.ref 190), some (.int a1), some (.int 0)]) d211_38 rfl rfl) ?_
        exact yL.rf
      ·
        refine yL.eq (y_iconst (pc := 35) (v := 0) d211_35 kc_0) ?_
        exact yL.eq (y_ireti (pc := 36) d211_36 mr_211) yL.rf
set_option maxRecDepth 20000 in
set_option maxHeartbeats 4000000 in
theorem e211_39 {x1 : Int32} {x2 : Int32} {M : yM} : yL (if x2 < 95 then if yinB ((95 * x1) + x2) 190 = true then if yinB x2 95 = true then yLet (yU M 191 (yx x2) (M 195 (yx ((95 * x1) + x2)))) fun M3 => yX 211 39 [some (.ref 190), some (.int x1), some (.int (x2 + 1))] [] M3 0 0 else none else none else yLet (yU M 190 5 0) fun M5 => yI (M5 191 15) M5) (yX 211 39 [some (.ref 190), some (.int x1), some (.int x2)] [] M 0 0) := by
  refine yL.eq (y_iload_n (pc := 39) (x := x2) d211_39 rfl) ?_
  refine yL.eq (y_bipush (pc := 40) (v := 95) d211_40 kb_95) ?_
  refine yL.eq (y_icmp_ge (pc := 42) (t := 68) d211_42 (by decide)) ?_
  refine yL.ite (fun h1 => ?_) (fun h1 => ?_)
  ·
    refine yL.eq (y_aload_n (pc := 45) (x := 190) d211_45 rfl) ?_
    refine yL.eq (y_getr (pc := 46) (r := 191) d211_46 q211_7 s_r_190_1) ?_
    refine yL.eq (y_iload_n (pc := 49) (x := x2) d211_49 rfl) ?_
    refine yL.eq (y_aload_n (pc := 50) (x := 190) d211_50 rfl) ?_
    refine yL.eq (y_getr (pc := 51) (r := 195) d211_51 q211_22 s_r_190_6) ?_
    refine yL.eq (y_bipush (pc := 54) (v := 95) d211_54 kb_95) ?_
    refine yL.eq (y_iload_n (pc := 56) (x := x1) d211_56 rfl) ?_
    refine yL.eq (y_imul (pc := 57) d211_57) ?_
    refine yL.eq (y_iload_n (pc := 58) (x := x2) d211_58 rfl) ?_
    refine yL.eq (y_iadd (pc := 59) d211_59) ?_
    refine yL.eq (y_iald (pc := 60) (n := 190) d211_60 s_a_195) ?_
    refine yL.gd (fun h2 => ?_)
    refine y_iastL (pc := 61) (n := 95) d211_61 (yR_a yR191) (fun h4 M3 => ?_)
    refine yL.eq (y_iinc (pc := 62) (v := 1) (x := x2) (ls' := [some (.ref 190), some (.int x1), some (.int (x2 + 1))]) d211_62 kc_1 rfl (Nat.le_of_ble_eq_true rfl) rfl) ?_
    refine yL.eq (y_goto (pc := 65) (t := 39) d211_65 (by decide)) ?_
    exact yL.rf
  ·
    refine yL.eq (y_aload_n (pc := 68) (x := 190) d211_68 rfl) ?_
    refine yL.eq (y_iconst (pc := 69) (v := 0) d211_69 kc_0) ?_
    refine y_putiL (pc := 70) d211_70 q211_151 s_i_190_5 rfl (fun M5 => ?_)
    refine yL.eq (y_aload_n (pc := 73) (x := 190) d211_73 rfl) ?_
    refine yL.eq (y_getr (pc := 74) (r := 191) d211_74 q211_7 s_r_190_1) ?_
    refine yL.eq (y_bipush (pc := 77) (v := 15) d211_77 kb_15) ?_
    refine yL.eq (y_iald (pc := 79) (n := 95) d211_79 (yR_a yR191)) ?_
    refine yL.eq (if_pos in_15_95) ?_
    show yL _ (yX 211 80 [some (.ref 190), some (.int x1), some (.int x2)] ([.int (M5 191 15)]) M5 0 0)
    exact yL.eq (y_ireti (pc := 80) d211_80 mr_211) yL.rf
set_option maxRecDepth 20000 in
set_option maxHeartbeats 4000000 in
theorem e241 {a0 : Int32} {M : yM} : yL (yI ((((((((a0 - (((a0.toUInt32 >>> ((1 : Int32).toUInt32 &&& Int32.toUInt32 31)).toInt32) &&& 1431655765)) &&& 858993459) + ((((a0 - (((a0.toUInt32 >>> ((1 : Int32).toUInt32 &&& Int32.toUInt32 31)).toInt32) &&& 1431655765)).toUInt32 >>> ((2 : Int32).toUInt32 &&& Int32.toUInt32 31)).toInt32) &&& 858993459)) + (((((a0 - (((a0.toUInt32 >>> ((1 : Int32).toUInt32 &&& Int32.toUInt32 31)).toInt32) &&& 1431655765)) &&& 858993459) + ((((a0 - (((a0.toUInt32 >>> ((1 : Int32).toUInt32 &&& Int32.toUInt32 31)).toInt32) &&& 1431655765)).toUInt32 >>> ((2 : Int32).toUInt32 &&& Int32.toUInt32 31)).toInt32) &&& 858993459)).toUInt32 >>> ((4 : Int32).toUInt32 &&& Int32.toUInt32 31)).toInt32)) &&& 252645135) + (((((((a0 - (((a0.toUInt32 >>> ((1 : Int32).toUInt32 &&& Int32.toUInt32 31)).toInt32) &&& 1431655765)) &&& 858993459) + ((((a0 - (((a0.toUInt32 >>> ((1 : Int32).toUInt32 &&& Int32.toUInt32 31)).toInt32) &&& 1431655765)).toUInt32 >>> ((2 : Int32).toUInt32 &&& Int32.toUInt32 31)).toInt32) &&& 858993459)) + (((((a0 - (((a0.toUInt32 >>> ((1 : Int32).toUInt32 &&& Int32.toUInt32 31)).toInt32) &&& 1431655765)) &&& 858993459) + ((((a0 - (((a0.toUInt32 >>> ((1 : Int32).toUInt32 &&& Int32.toUInt32 31)).toInt32) &&& 1431655765)).toUInt32 >>> ((2 : Int32).toUInt32 &&& Int32.toUInt32 31)).toInt32) &&& 858993459)).toUInt32 >>> ((4 : Int32).toUInt32 &&& Int32.toUInt32 31)).toInt32)) &&& 252645135).toUInt32 >>> ((8 : Int32).toUInt32 &&& Int32.toUInt32 31)).toInt32)) + ((((((((a0 - (((a0.toUInt32 >>> ((1 : Int32).toUInt32 &&& Int32.toUInt32 31)).toInt32) &&& 1431655765)) &&& 858993459) + ((((a0 - (((a0.toUInt32 >>> ((1 : Int32).toUInt32 &&& Int32.toUInt32 31)).toInt32) &&& 1431655765)).toUInt32 >>> ((2 : Int32).toUInt32 &&& Int32.toUInt32 31)).toInt32) &&& 858993459)) + (((((a0 - (((a0.toUInt32 >>> ((1 : Int32).toUInt32 &&& Int32.toUInt32 31)).toInt32) &&& 1431655765)) &&& 858993459) + ((((a0 - (((a0.toUInt32 >>> ((1 : Int32).toUInt32 &&& Int32.toUInt32 31)).toInt32) &&& 1431655765)).toUInt32 >>> ((2 : Int32).toUInt32 &&& Int32.toUInt32 31)).toInt32) &&& 858993459)).toUInt32 >>> ((4 : Int32).toUInt32 &&& Int32.toUInt32 31)).toInt32)) &&& 252645135) + (((((((a0 - (((a0.toUInt32 >>> ((1 : Int32).toUInt32 &&& Int32.toUInt32 31)).toInt32) &&& 1431655765)) &&& 858993459) + ((((a0 - (((a0.toUInt32 >>> ((1 : Int32).toUInt32 &&& Int32.toUInt32 31)).toInt32) &&& 1431655765)).toUInt32 >>> ((2 : Int32).toUInt32 &&& Int32.toUInt32 31)).toInt32) &&& 858993459)) + (((((a0 - (((a0.toUInt32 >>> ((1 : Int32).toUInt32 &&& Int32.toUInt32 31)).toInt32) &&& 1431655765)) &&& 858993459) + ((((a0 - (((a0.toUInt32 >>> ((1 : Int32).toUInt32 &&& Int32.toUInt32 31)).toInt32) &&& 1431655765)).toUInt32 >>> ((2 : Int32).toUInt32 &&& Int32.toUInt32 31)).toInt32) &&& 858993459)).toUInt32 >>> ((4 : Int32).toUInt32 &&& Int32.toUInt32 31)).toInt32)) &&& 252645135).toUInt32 >>> ((8 : Int32).toUInt32 &&& Int32.toUInt32 31)).toInt32)).toUInt32 >>> ((16 : Int32).toUInt32 &&& Int32.toUInt32 31)).toInt32)) &&& 63) M) (yX 241 0 [some (.int a0)] [] M 0 0) := by
  refine yL.eq (y_iload_n (pc := 0) (x := a0) d241_0 rfl) ?_
  refine yL.eq (y_iload_n (pc := 1) (x := a0) d241_1 rfl) ?_
  refine yL.eq (y_iconst (pc := 2) (v := 1) d241_2 kc_1) ?_
  refine yL.eq (y_iushr (pc := 3) d241_3) ?_
  refine yL.eq (y_ldc_w (pc := 4) (v := 1431655765) d241_4 q241_265) ?_
  refine yL.eq (y_iand (pc := 7) d241_7) ?_
  refine yL.eq (y_isub (pc := 8) d241_8) ?_
  refine yL.eq (y_istore_n (pc := 9) (ls' := [some (.int (a0 - (((a0.toUInt32 >>> ((1 : Int32).toUInt32 &&& Int32.toUInt32 31)).toInt32) &&& 1431655765)))]) d241_9 rfl rfl) ?_
  refine yL.eq (y_iload_n (pc := 10) (x := (a0 - (((a0.toUInt32 >>> ((1 : Int32).toUInt32 &&& Int32.toUInt32 31)).toInt32) &&& 1431655765))) d241_10 rfl) ?_
  refine yL.eq (y_ldc_w (pc := 11) (v := 858993459) d241_11 q241_266) ?_
  refine yL.eq (y_iand (pc := 14) d241_14) ?_
  refine yL.eq (y_iload_n (pc := 15) (x := (a0 - (((a0.toUInt32 >>> ((1 : Int32).toUInt32 &&& Int32.toUInt32 31)).toInt32) &&& 1431655765))) d241_15 rfl) ?_
  refine yL.eq (y_iconst (pc := 16) (v := 2) d241_16 kc_2) ?_
  refine yL.eq (y_iushr (pc := 17) d241_17) ?_
  refine yL.eq (y_ldc_w (pc := 18) (v := 858993459) d241_18 q241_266) ?_
  refine yL.eq (y_iand (pc := 21) d241_21) ?_
  refine yL.eq (y_iadd (pc := 22) d241_22) ?_
  refine yL.eq (y_istore_n (pc := 23) (ls' := [some (.int (((a0 - (((a0.toUInt32 >>> ((1 : Int32).toUInt32 &&& Int32.toUInt32 31)).toInt32) &&& 1431655765)) &&& 858993459) + ((((a0 - (((a0.toUInt32 >>> ((1 : Int32).toUInt32 &&& Int32.toUInt32 31)).toInt32) &&& 1431655765)).toUInt32 >>> ((2 : Int32).toUInt32 &&& Int32.toUInt32 31)).toInt32) &&& 858993459)))]) d241_23 rfl rfl) ?_
  refine yL.eq (y_iload_n (pc := 24) (x := (((a0 - (((a0.toUInt32 >>> ((1 : Int32).toUInt32 &&& Int32.toUInt32 31)).toInt32) &&& 1431655765)) &&& 858993459) + ((((a0 - (((a0.toUInt32 >>> ((1 : Int32).toUInt32 &&& Int32.toUInt32 31)).toInt32) &&& 1431655765)).toUInt32 >>> ((2 : Int32).toUInt32 &&& Int32.toUInt32 31)).toInt32) &&& 858993459))) d241_24 rfl) ?_
  refine yL.eq (y_iload_n (pc := 25) (x := (((a0 - (((a0.toUInt32 >>> ((1 : Int32).toUInt32 &&& Int32.toUInt32 31)).toInt32) &&& 1431655765)) &&& 858993459) + ((((a0 - (((a0.toUInt32 >>> ((1 : Int32).toUInt32 &&& Int32.toUInt32 31)).toInt32) &&& 1431655765)).toUInt32 >>> ((2 : Int32).toUInt32 &&& Int32.toUInt32 31)).toInt32) &&& 858993459))) d241_25 rfl) ?_
  refine yL.eq (y_iconst (pc := 26) (v := 4) d241_26 kc_4) ?_
  refine yL.eq (y_iushr (pc := 27) d241_27) ?_
  refine yL.eq (y_iadd (pc := 28) d241_28) ?_
  refine yL.eq (y_ldc_w (pc := 29) (v := 252645135) d241_29 q241_267) ?_
  refine yL.eq (y_iand (pc := 32) d241_32) ?_
  refine yL.eq (y_istore_n (pc := 33) (ls' := [some (.int (((((a0 - (((a0.toUInt32 >>> ((1 : Int32).toUInt32 &&& Int32.toUInt32 31)).toInt32) &&& 1431655765)) &&& 858993459) + ((((a0 - (((a0.toUInt32 >>> ((1 : Int32).toUInt32 &&& Int32.toUInt32 31)).toInt32) &&& 1431655765)).toUInt32 >>> ((2 : Int32).toUInt32 &&& Int32.toUInt32 31)).toInt32) &&& 858993459)) + (((((a0 - (((a0.toUInt32 >>> ((1 : Int32).toUInt32 &&& Int32.toUInt32 31)).toInt32) &&& 1431655765)) &&& 858993459) + ((((a0 - (((a0.toUInt32 >>> ((1 : Int32).toUInt32 &&& Int32.toUInt32 31)).toInt32) &&& 1431655765)).toUInt32 >>> ((2 : Int32).toUInt32 &&& Int32.toUInt32 31)).toInt32) &&& 858993459)).toUInt32 >>> ((4 : Int32).toUInt32 &&& Int32.toUInt32 31)).toInt32)) &&& 252645135))]) d241_33 rfl rfl) ?_
  refine yL.eq (y_iload_n (pc := 34) (x := (((((a0 - (((a0.toUInt32 >>> ((1 : Int32).toUInt32 &&& Int32.toUInt32 31)).toInt32) &&& 1431655765)) &&& 858993459) + ((((a0 - (((a0.toUInt32 >>> ((1 : Int32).toUInt32 &&& Int32.toUInt32 31)).toInt32) &&& 1431655765)).toUInt32 >>> ((2 : Int32).toUInt32 &&& Int32.toUInt32 31)).toInt32) &&& 858993459)) + (((((a0 - (((a0.toUInt32 >>> ((1 : Int32).toUInt32 &&& Int32.toUInt32 31)).toInt32) &&& 1431655765)) &&& 858993459) + ((((a0 - (((a0.toUInt32 >>> ((1 : Int32).toUInt32 &&& Int32.toUInt32 31)).toInt32) &&& 1431655765)).toUInt32 >>> ((2 : Int32).toUInt32 &&& Int32.toUInt32 31)).toInt32) &&& 858993459)).toUInt32 >>> ((4 : Int32).toUInt32 &&& Int32.toUInt32 31)).toInt32)) &&& 252645135)) d241_34 rfl) ?_
  refine yL.eq (y_iload_n (pc := 35) (x := (((((a0 - (((a0.toUInt32 >>> ((1 : Int32).toUInt32 &&& Int32.toUInt32 31)).toInt32) &&& 1431655765)) &&& 858993459) + ((((a0 - (((a0.toUInt32 >>> ((1 : Int32).toUInt32 &&& Int32.toUInt32 31)).toInt32) &&& 1431655765)).toUInt32 >>> ((2 : Int32).toUInt32 &&& Int32.toUInt32 31)).toInt32) &&& 858993459)) + (((((a0 - (((a0.toUInt32 >>> ((1 : Int32).toUInt32 &&& Int32.toUInt32 31)).toInt32) &&& 1431655765)) &&& 858993459) + ((((a0 - (((a0.toUInt32 >>> ((1 : Int32).toUInt32 &&& Int32.toUInt32 31)).toInt32) &&& 1431655765)).toUInt32 >>> ((2 : Int32).toUInt32 &&& Int32.toUInt32 31)).toInt32) &&& 858993459)).toUInt32 >>> ((4 : Int32).toUInt32 &&& Int32.toUInt32 31)).toInt32)) &&& 252645135)) d241_35 rfl) ?_
  refine yL.eq (y_bipush (pc := 36) (v := 8) d241_36 kb_8) ?_
  refine yL.eq (y_iushr (pc := 38) d241_38) ?_
  refine yL.eq (y_iadd (pc := 39) d241_39) ?_
  refine yL.eq (y_istore_n (pc := 40) (ls' := [some (.int ((((((a0 - (((a0.toUInt32 >>> ((1 : Int32).toUInt32 &&& Int32.toUInt32 31)).toInt32) &&& 1431655765)) &&& 858993459) + ((((a0 - (((a0.toUInt32 >>> ((1 : Int32).toUInt32 &&& Int32.toUInt32 31)).toInt32) &&& 1431655765)).toUInt32 >>> ((2 : Int32).toUInt32 &&& Int32.toUInt32 31)).toInt32) &&& 858993459)) + (((((a0 - (((a0.toUInt32 >>> ((1 : Int32).toUInt32 &&& Int32.toUInt32 31)).toInt32) &&& 1431655765)) &&& 858993459) + ((((a0 - (((a0.toUInt32 >>> ((1 : Int32).toUInt32 &&& Int32.toUInt32 31)).toInt32) &&& 1431655765)).toUInt32 >>> ((2 : Int32).toUInt32 &&& Int32.toUInt32 31)).toInt32) &&& 858993459)).toUInt32 >>> ((4 : Int32).toUInt32 &&& Int32.toUInt32 31)).toInt32)) &&& 252645135) + (((((((a0 - (((a0.toUInt32 >>> ((1 : Int32).toUInt32 &&& Int32.toUInt32 31)).toInt32) &&& 1431655765)) &&& 858993459) + ((((a0 - (((a0.toUInt32 >>> ((1 : Int32).toUInt32 &&& Int32.toUInt32 31)).toInt32) &&& 1431655765)).toUInt32 >>> ((2 : Int32).toUInt32 &&& Int32.toUInt32 31)).toInt32) &&& 858993459)) + (((((a0 - (((a0.toUInt32 >>> ((1 : Int32).toUInt32 &&& Int32.toUInt32 31)).toInt32) &&& 1431655765)) &&& 858993459) + ((((a0 - (((a0.toUInt32 >>> ((1 : Int32).toUInt32 &&& Int32.toUInt32 31)).toInt32) &&& 1431655765)).toUInt32 >>> ((2 : Int32).toUInt32 &&& Int32.toUInt32 31)).toInt32) &&& 858993459)).toUInt32 >>> ((4 : Int32).toUInt32 &&& Int32.toUInt32 31)).toInt32)) &&& 252645135).toUInt32 >>> ((8 : Int32).toUInt32 &&& Int32.toUInt32 31)).toInt32)))]) d241_40 rfl rfl) ?_
  refine yL.eq (y_iload_n (pc := 41) (x := ((((((a0 - (((a0.toUInt32 >>> ((1 : Int32).toUInt32 &&& Int32.toUInt32 31)).toInt32) &&& 1431655765)) &&& 858993459) + ((((a0 - (((a0.toUInt32 >>> ((1 : Int32).toUInt32 &&& Int32.toUInt32 31)).toInt32) &&& 1431655765)).toUInt32 >>> ((2 : Int32).toUInt32 &&& Int32.toUInt32 31)).toInt32) &&& 858993459)) + (((((a0 - (((a0.toUInt32 >>> ((1 : Int32).toUInt32 &&& Int32.toUInt32 31)).toInt32) &&& 1431655765)) &&& 858993459) + ((((a0 - (((a0.toUInt32 >>> ((1 : Int32).toUInt32 &&& Int32.toUInt32 31)).toInt32) &&& 1431655765)).toUInt32 >>> ((2 : Int32).toUInt32 &&& Int32.toUInt32 31)).toInt32) &&& 858993459)).toUInt32 >>> ((4 : Int32).toUInt32 &&& Int32.toUInt32 31)).toInt32)) &&& 252645135) + (((((((a0 - (((a0.toUInt32 >>> ((1 : Int32).toUInt32 &&& Int32.toUInt32 31)).toInt32) &&& 1431655765)) &&& 858993459) + ((((a0 - (((a0.toUInt32 >>> ((1 : Int32).toUInt32 &&& Int32.toUInt32 31)).toInt32) &&& 1431655765)).toUInt32 >>> ((2 : Int32).toUInt32 &&& Int32.toUInt32 31)).toInt32) &&& 858993459)) + (((((a0 - (((a0.toUInt32 >>> ((1 : Int32).toUInt32 &&& Int32.toUInt32 31)).toInt32) &&& 1431655765)) &&& 858993459) + ((((a0 - (((a0.toUInt32 >>> ((1 : Int32).toUInt32 &&& Int32.toUInt32 31)).toInt32) &&& 1431655765)).toUInt32 >>> ((2 : Int32).toUInt32 &&& Int32.toUInt32 31)).toInt32) &&& 858993459)).toUInt32 >>> ((4 : Int32).toUInt32 &&& Int32.toUInt32 31)).toInt32)) &&& 252645135).toUInt32 >>> ((8 : Int32).toUInt32 &&& Int32.toUInt32 31)).toInt32))) d241_41 rfl) ?_
  refine yL.eq (y_iload_n (pc := 42) (x := ((((((a0 - (((a0.toUInt32 >>> ((1 : Int32).toUInt32 &&& Int32.toUInt32 31)).toInt32) &&& 1431655765)) &&& 858993459) + ((((a0 - (((a0.toUInt32 >>> ((1 : Int32).toUInt32 &&& Int32.toUInt32 31)).toInt32) &&& 1431655765)).toUInt32 >>> ((2 : Int32).toUInt32 &&& Int32.toUInt32 31)).toInt32) &&& 858993459)) + (((((a0 - (((a0.toUInt32 >>> ((1 : Int32).toUInt32 &&& Int32.toUInt32 31)).toInt32) &&& 1431655765)) &&& 858993459) + ((((a0 - (((a0.toUInt32 >>> ((1 : Int32).toUInt32 &&& Int32.toUInt32 31)).toInt32) &&& 1431655765)).toUInt32 >>> ((2 : Int32).toUInt32 &&& Int32.toUInt32 31)).toInt32) &&& 858993459)).toUInt32 >>> ((4 : Int32).toUInt32 &&& Int32.toUInt32 31)).toInt32)) &&& 252645135) + (((((((a0 - (((a0.toUInt32 >>> ((1 : Int32).toUInt32 &&& Int32.toUInt32 31)).toInt32) &&& 1431655765)) &&& 858993459) + ((((a0 - (((a0.toUInt32 >>> ((1 : Int32).toUInt32 &&& Int32.toUInt32 31)).toInt32) &&& 1431655765)).toUInt32 >>> ((2 : Int32).toUInt32 &&& Int32.toUInt32 31)).toInt32) &&& 858993459)) + (((((a0 - (((a0.toUInt32 >>> ((1 : Int32).toUInt32 &&& Int32.toUInt32 31)).toInt32) &&& 1431655765)) &&& 858993459) + ((((a0 - (((a0.toUInt32 >>> ((1 : Int32).toUInt32 &&& Int32.toUInt32 31)).toInt32) &&& 1431655765)).toUInt32 >>> ((2 : Int32).toUInt32 &&& Int32.toUInt32 31)).toInt32) &&& 858993459)).toUInt32 >>> ((4 : Int32).toUInt32 &&& Int32.toUInt32 31)).toInt32)) &&& 252645135).toUInt32 >>> ((8 : Int32).toUInt32 &&& Int32.toUInt32 31)).toInt32))) d241_42 rfl) ?_
  refine yL.eq (y_bipush (pc := 43) (v := 16) d241_43 kb_16) ?_
  refine yL.eq (y_iushr (pc := 45) d241_45) ?_
  refine yL.eq (y_iadd (pc := 46) d241_46) ?_
  refine yL.eq (y_istore_n (pc := 47) (ls' := [some (.int (((((((a0 - (((a0.toUInt32 >>> ((1 : Int32).toUInt32 &&& Int32.toUInt32 31)).toInt32) &&& 1431655765)) &&& 858993459) + ((((a0 - (((a0.toUInt32 >>> ((1 : Int32).toUInt32 &&& Int32.toUInt32 31)).toInt32) &&& 1431655765)).toUInt32 >>> ((2 : Int32).toUInt32 &&& Int32.toUInt32 31)).toInt32) &&& 858993459)) + (((((a0 - (((a0.toUInt32 >>> ((1 : Int32).toUInt32 &&& Int32.toUInt32 31)).toInt32) &&& 1431655765)) &&& 858993459) + ((((a0 - (((a0.toUInt32 >>> ((1 : Int32).toUInt32 &&& Int32.toUInt32 31)).toInt32) &&& 1431655765)).toUInt32 >>> ((2 : Int32).toUInt32 &&& Int32.toUInt32 31)).toInt32) &&& 858993459)).toUInt32 >>> ((4 : Int32).toUInt32 &&& Int32.toUInt32 31)).toInt32)) &&& 252645135) + (((((((a0 - (((a0.toUInt32 >>> ((1 : Int32).toUInt32 &&& Int32.toUInt32 31)).toInt32) &&& 1431655765)) &&& 858993459) + ((((a0 - (((a0.toUInt32 >>> ((1 : Int32).toUInt32 &&& Int32.toUInt32 31)).toInt32) &&& 1431655765)).toUInt32 >>> ((2 : Int32).toUInt32 &&& Int32.toUInt32 31)).toInt32) &&& 858993459)) + (((((a0 - (((a0.toUInt32 >>> ((1 : Int32).toUInt32 &&& Int32.toUInt32 31)).toInt32) &&& 1431655765)) &&& 858993459) + ((((a0 - (((a0.toUInt32 >>> ((1 : Int32).toUInt32 &&& Int32.toUInt32 31)).toInt32) &&& 1431655765)).toUInt32 >>> ((2 : Int32).toUInt32 &&& Int32.toUInt32 31)).toInt32) &&& 858993459)).toUInt32 >>> ((4 : Int32).toUInt32 &&& Int32.toUInt32 31)).toInt32)) &&& 252645135).toUInt32 >>> ((8 : Int32).toUInt32 &&& Int32.toUInt32 31)).toInt32)) + ((((((((a0 - (((a0.toUInt32 >>> ((1 : Int32).toUInt32 &&& Int32.toUInt32 31)).toInt32) &&& 1431655765)) &&& 858993459) + ((((a0 - (((a0.toUInt32 >>> ((1 : Int32).toUInt32 &&& Int32.toUInt32 31)).toInt32) &&& 1431655765)).toUInt32 >>> ((2 : Int32).toUInt32 &&& Int32.toUInt32 31)).toInt32) &&& 858993459)) + (((((a0 - (((a0.toUInt32 >>> ((1 : Int32).toUInt32 &&& Int32.toUInt32 31)).toInt32) &&& 1431655765)) &&& 858993459) + ((((a0 - (((a0.toUInt32 >>> ((1 : Int32).toUInt32 &&& Int32.toUInt32 31)).toInt32) &&& 1431655765)).toUInt32 >>> ((2 : Int32).toUInt32 &&& Int32.toUInt32 31)).toInt32) &&& 858993459)).toUInt32 >>> ((4 : Int32).toUInt32 &&& Int32.toUInt32 31)).toInt32)) &&& 252645135) + (((((((a0 - (((a0.toUInt32 >>> ((1 : Int32).toUInt32 &&& Int32.toUInt32 31)).toInt32) &&& 1431655765)) &&& 858993459) + ((((a0 - (((a0.toUInt32 >>> ((1 : Int32).toUInt32 &&& Int32.toUInt32 31)).toInt32) &&& 1431655765)).toUInt32 >>> ((2 : Int32).toUInt32 &&& Int32.toUInt32 31)).toInt32) &&& 858993459)) + (((((a0 - (((a0.toUInt32 >>> ((1 : Int32).toUInt32 &&& Int32.toUInt32 31)).toInt32) &&& 1431655765)) &&& 858993459) + ((((a0 - (((a0.toUInt32 >>> ((1 : Int32).toUInt32 &&& Int32.toUInt32 31)).toInt32) &&& 1431655765)).toUInt32 >>> ((2 : Int32).toUInt32 &&& Int32.toUInt32 31)).toInt32) &&& 858993459)).toUInt32 >>> ((4 : Int32).toUInt32 &&& Int32.toUInt32 31)).toInt32)) &&& 252645135).toUInt32 >>> ((8 : Int32).toUInt32 &&& Int32.toUInt32 31)).toInt32)).toUInt32 >>> ((16 : Int32).toUInt32 &&& Int32.toUInt32 31)).toInt32)))]) d241_47 rfl rfl) ?_
  refine yL.eq (y_iload_n (pc := 48) (x := (((((((a0 - (((a0.toUInt32 >>> ((1 : Int32).toUInt32 &&& Int32.toUInt32 31)).toInt32) &&& 1431655765)) &&& 858993459) + ((((a0 - (((a0.toUInt32 >>> ((1 : Int32).toUInt32 &&& Int32.toUInt32 31)).toInt32) &&& 1431655765)).toUInt32 >>> ((2 : Int32).toUInt32 &&& Int32.toUInt32 31)).toInt32) &&& 858993459)) + (((((a0 - (((a0.toUInt32 >>> ((1 : Int32).toUInt32 &&& Int32.toUInt32 31)).toInt32) &&& 1431655765)) &&& 858993459) + ((((a0 - (((a0.toUInt32 >>> ((1 : Int32).toUInt32 &&& Int32.toUInt32 31)).toInt32) &&& 1431655765)).toUInt32 >>> ((2 : Int32).toUInt32 &&& Int32.toUInt32 31)).toInt32) &&& 858993459)).toUInt32 >>> ((4 : Int32).toUInt32 &&& Int32.toUInt32 31)).toInt32)) &&& 252645135) + (((((((a0 - (((a0.toUInt32 >>> ((1 : Int32).toUInt32 &&& Int32.toUInt32 31)).toInt32) &&& 1431655765)) &&& 858993459) + ((((a0 - (((a0.toUInt32 >>> ((1 : Int32).toUInt32 &&& Int32.toUInt32 31)).toInt32) &&& 1431655765)).toUInt32 >>> ((2 : Int32).toUInt32 &&& Int32.toUInt32 31)).toInt32) &&& 858993459)) + (((((a0 - (((a0.toUInt32 >>> ((1 : Int32).toUInt32 &&& Int32.toUInt32 31)).toInt32) &&& 1431655765)) &&& 858993459) + ((((a0 - (((a0.toUInt32 >>> ((1 : Int32).toUInt32 &&& Int32.toUInt32 31)).toInt32) &&& 1431655765)).toUInt32 >>> ((2 : Int32).toUInt32 &&& Int32.toUInt32 31)).toInt32) &&& 858993459)).toUInt32 >>> ((4 : Int32).toUInt32 &&& Int32.toUInt32 31)).toInt32)) &&& 252645135).toUInt32 >>> ((8 : Int32).toUInt32 &&& Int32.toUInt32 31)).toInt32)) + ((((((((a0 - (((a0.toUInt32 >>> ((1 : Int32).toUInt32 &&& Int32.toUInt32 31)).toInt32) &&& 1431655765)) &&& 858993459) + ((((a0 - (((a0.toUInt32 >>> ((1 : Int32).toUInt32 &&& Int32.toUInt32 31)).toInt32) &&& 1431655765)).toUInt32 >>> ((2 : Int32).toUInt32 &&& Int32.toUInt32 31)).toInt32) &&& 858993459)) + (((((a0 - (((a0.toUInt32 >>> ((1 : Int32).toUInt32 &&& Int32.toUInt32 31)).toInt32) &&& 1431655765)) &&& 858993459) + ((((a0 - (((a0.toUInt32 >>> ((1 : Int32).toUInt32 &&& Int32.toUInt32 31)).toInt32) &&& 1431655765)).toUInt32 >>> ((2 : Int32).toUInt32 &&& Int32.toUInt32 31)).toInt32) &&& 858993459)).toUInt32 >>> ((4 : Int32).toUInt32 &&& Int32.toUInt32 31)).toInt32)) &&& 252645135) + (((((((a0 - (((a0.toUInt32 >>> ((1 : Int32).toUInt32 &&& Int32.toUInt32 31)).toInt32) &&& 1431655765)) &&& 858993459) + ((((a0 - (((a0.toUInt32 >>> ((1 : Int32).toUInt32 &&& Int32.toUInt32 31)).toInt32) &&& 1431655765)).toUInt32 >>> ((2 : Int32).toUInt32 &&& Int32.toUInt32 31)).toInt32) &&& 858993459)) + (((((a0 - (((a0.toUInt32 >>> ((1 : Int32).toUInt32 &&& Int32.toUInt32 31)).toInt32) &&& 1431655765)) &&& 858993459) + ((((a0 - (((a0.toUInt32 >>> ((1 : Int32).toUInt32 &&& Int32.toUInt32 31)).toInt32) &&& 1431655765)).toUInt32 >>> ((2 : Int32).toUInt32 &&& Int32.toUInt32 31)).toInt32) &&& 858993459)).toUInt32 >>> ((4 : Int32).toUInt32 &&& Int32.toUInt32 31)).toInt32)) &&& 252645135).toUInt32 >>> ((8 : Int32).toUInt32 &&& Int32.toUInt32 31)).toInt32)).toUInt32 >>> ((16 : Int32).toUInt32 &&& Int32.toUInt32 31)).toInt32))) d241_48 rfl) ?_
  refine yL.eq (y_bipush (pc := 49) (v := 63) d241_49 kb_63) ?_
  refine yL.eq (y_iand (pc := 51) d241_51) ?_
  exact yL.eq (y_ireti (pc := 52) d241_52 mr_241) yL.rf
