set_option maxRecDepth 20000 in
set_option maxHeartbeats 4000000 in
theorem e212 {a1 : Int32} {M : yM} : yL (yCh (yX 58 0 [some (.ref 7), some (.int a1)] [] M 0 0) (fun v2 M1 => yLet (yU M1 202 0 v2) fun M3 => yI 0 M3) (fun E M1 => if E = 1 then yI 1 M1 else if E = 2 then yI 2 M1 else none)) (yX 212 0 [some (.ref 7), some (.int a1), some (.ref 202), none] [] M 0 0) := by
  refine yL.eq (y_aload_n (pc := 0) (x := 202) d212_0 rfl) ?_
  refine yL.eq (y_iconst (pc := 1) (v := 0) d212_1 kc_0) ?_
  refine yL.eq (y_aload_n (pc := 2) (x := 7) d212_2 rfl) ?_
  refine yL.eq (y_iload_n (pc := 3) (x := a1) d212_3 rfl) ?_
  refine y_callh (pc := 4) (n := 2) (n' := 2) (nc' := 2) (ns' := 12) [.int a1] [.int 0, .ref 202] d212_4 q212_7 mk_58 s_t_7 rfl rfl (Nat.le_of_ble_eq_true rfl) (Nat.le_of_ble_eq_true rfl) rfl (by decide +kernel) (by decide +kernel) (fun v2 M1 => ?_) (fun E M1 => ?_)
  ·
    refine yL.eq (y_i2l (pc := 7) d212_7) ?_
    refine y_lastL (pc := 8) d212_8 s_21 (fun M3 => ?_)
    refine yL.eq (y_goto (pc := 9) (t := 18) d212_9 (by decide)) ?_
    refine yL.eq (y_iconst (pc := 18) (v := 0) d212_18 kc_0) ?_
    exact yL.eq (y_ireti (pc := 19) d212_19 mr_212) yL.rf
  ·
    refine yL.il (fun h => ?_) (fun h => ?_)
    ·
      subst h
      exact yL.eq (y_hd (tpc := 13) (i := 3) (v := 1) hx212_1 rfl d212_13 kc_1 d212_14 mr_212) yL.rf
    ·
      refine yL.il (fun h => ?_) (fun h => ?_)
      ·
        subst h
        exact yL.eq (y_hd (tpc := 16) (i := 3) (v := 2) hx212_2 rfl d212_16 kc_2 d212_17 mr_212) yL.rf
      ·
        exact yL.nn
set_option maxRecDepth 20000 in
set_option maxHeartbeats 4000000 in
theorem e213  {M : yM} : yL (yCh (yX 61 0 [some (.ref 7), none] [] M 0 0) (fun v2 M1 => yLet (yU M1 202 0 v2) fun M3 => yI 0 M3) (fun E M1 => if E = 2 then yI 1 M1 else none)) (yX 213 0 [some (.ref 7), some (.ref 202), none] [] M 0 0) := by
  refine yL.eq (y_aload_n (pc := 0) (x := 202) d213_0 rfl) ?_
  refine yL.eq (y_iconst (pc := 1) (v := 0) d213_1 kc_0) ?_
  refine yL.eq (y_aload_n (pc := 2) (x := 7) d213_2 rfl) ?_
  refine y_callh (pc := 3) (n := 1) (n' := 2) (nc' := 1) (ns' := 6) [] [.int 0, .ref 202] d213_3 q213_17 mk_61 s_t_7 rfl rfl (Nat.le_of_ble_eq_true rfl) (Nat.le_of_ble_eq_true rfl) rfl (by decide +kernel) (by decide +kernel) (fun v2 M1 => ?_) (fun E M1 => ?_)
  ·
    refine yL.eq (y_i2l (pc := 6) d213_6) ?_
    refine y_lastL (pc := 7) d213_7 s_21 (fun M3 => ?_)
    refine yL.eq (y_goto (pc := 8) (t := 14) d213_8 (by decide)) ?_
    refine yL.eq (y_iconst (pc := 14) (v := 0) d213_14 kc_0) ?_
    exact yL.eq (y_ireti (pc := 15) d213_15 mr_213) yL.rf
  ·
    refine yL.il (fun h => ?_) (fun h => ?_)
    ·
      subst h
      exact yL.eq (y_hd (tpc := 12) (i := 2) (v := 1) hx213_2 rfl d213_12 kc_1 d213_13 mr_213) yL.rf
    ·
      exact yL.nn
set_option maxRecDepth 20000 in
set_option maxHeartbeats 4000000 in
theorem e214 {a1 : Int32} {M : yM} : yL (yCh (yX 62 0 [some (.ref 7), some (.int a1)] [] M 0 0) (fun v2 M1 => yLet (yU M1 202 0 v2) fun M3 => yI 0 M3) (fun E M1 => if E = 1 then yI 1 M1 else none)) (yX 214 0 [some (.ref 7), some (.int a1), some (.ref 202), none] [] M 0 0) := by
  refine yL.eq (y_aload_n (pc := 0) (x := 202) d214_0 rfl) ?_
  refine yL.eq (y_iconst (pc := 1) (v := 0) d214_1 kc_0) ?_
  refine yL.eq (y_aload_n (pc := 2) (x := 7) d214_2 rfl) ?_
  refine yL.eq (y_iload_n (pc := 3) (x := a1) d214_3 rfl) ?_
  refine y_callh (pc := 4) (n := 2) (n' := 2) (nc' := 1) (ns' := 6) [.int a1] [.int 0, .ref 202] d214_4 q214_21 mk_62 s_t_7 rfl rfl (Nat.le_of_ble_eq_true rfl) (Nat.le_of_ble_eq_true rfl) rfl (by decide +kernel) (by decide +kernel) (fun v2 M1 => ?_) (fun E M1 => ?_)
  ·
    refine yL.eq (y_i2l (pc := 7) d214_7) ?_
    refine y_lastL (pc := 8) d214_8 s_21 (fun M3 => ?_)
    refine yL.eq (y_goto (pc := 9) (t := 15) d214_9 (by decide)) ?_
    refine yL.eq (y_iconst (pc := 15) (v := 0) d214_15 kc_0) ?_
    exact yL.eq (y_ireti (pc := 16) d214_16 mr_214) yL.rf
  ·
    refine yL.il (fun h => ?_) (fun h => ?_)
    ·
      subst h
      exact yL.eq (y_hd (tpc := 13) (i := 3) (v := 1) hx214_1 rfl d214_13 kc_1 d214_14 mr_214) yL.rf
    ·
      exact yL.nn
set_option maxRecDepth 20000 in
set_option maxHeartbeats 4000000 in
theorem e215 {a1 : Int32} {a2 : Int32} {M : yM} : yL (yCh (yX 63 0 [some (.ref 7), some (.int a1), some (.int a2), none] [] M 0 0) (fun v2 M1 => yLet (yU M1 202 0 v2) fun M3 => yI 0 M3) (fun E M1 => if E = 0 then yI 1 M1 else if E = 1 then yI 2 M1 else none)) (yX 215 0 [some (.ref 7), some (.int a1), some (.int a2), some (.ref 202), none] [] M 0 0) := by
  refine yL.eq (y_aload_n (pc := 0) (x := 202) d215_0 rfl) ?_
  refine yL.eq (y_iconst (pc := 1) (v := 0) d215_1 kc_0) ?_
  refine yL.eq (y_aload_n (pc := 2) (x := 7) d215_2 rfl) ?_
  refine yL.eq (y_iload_n (pc := 3) (x := a1) d215_3 rfl) ?_
  refine yL.eq (y_iload_n (pc := 4) (x := a2) d215_4 rfl) ?_
  refine y_callh (pc := 5) (n := 3) (n' := 4) (nc' := 2) (ns' := 12) [.int a1, .int a2] [.int 0, .ref 202] d215_5 q215_24 mk_63 s_t_7 rfl rfl (Nat.le_of_ble_eq_true rfl) (Nat.le_of_ble_eq_true rfl) rfl (by decide +kernel) (by decide +kernel) (fun v2 M1 => ?_) (fun E M1 => ?_)
  ·
    refine yL.eq (y_i2l (pc := 8) d215_8) ?_
    refine y_lastL (pc := 9) d215_9 s_21 (fun M3 => ?_)
    refine yL.eq (y_goto (pc := 10) (t := 21) d215_10 (by decide)) ?_
    refine yL.eq (y_iconst (pc := 21) (v := 0) d215_21 kc_0) ?_
    exact yL.eq (y_ireti (pc := 22) d215_22 mr_215) yL.rf
  ·
    refine yL.il (fun h => ?_) (fun h => ?_)
    ·
      subst h
      exact yL.eq (y_hd (tpc := 15) (i := 4) (v := 1) hx215_0 rfl d215_15 kc_1 d215_16 mr_215) yL.rf
    ·
      refine yL.il (fun h => ?_) (fun h => ?_)
      ·
        subst h
        exact yL.eq (y_hd (tpc := 19) (i := 4) (v := 2) hx215_1 rfl d215_19 kc_2 d215_20 mr_215) yL.rf
      ·
        exact yL.nn
set_option maxRecDepth 20000 in
set_option maxHeartbeats 4000000 in
theorem e216 {a1 : Int32} {a2 : Int32} {M : yM} : yL (yCh (yX 64 0 [some (.ref 7), some (.int a1), some (.int a2)] [] M 0 0) (fun v2 M1 => yLet (yU M1 202 0 v2) fun M3 => yI 0 M3) (fun E M1 => if E = 0 then yI 1 M1 else if E = 1 then yI 2 M1 else none)) (yX 216 0 [some (.ref 7), some (.int a1), some (.int a2), some (.ref 202), none] [] M 0 0) := by
  refine yL.eq (y_aload_n (pc := 0) (x := 202) d216_0 rfl) ?_
  refine yL.eq (y_iconst (pc := 1) (v := 0) d216_1 kc_0) ?_
  refine yL.eq (y_aload_n (pc := 2) (x := 7) d216_2 rfl) ?_
  refine yL.eq (y_iload_n (pc := 3) (x := a1) d216_3 rfl) ?_
  refine yL.eq (y_iload_n (pc := 4) (x := a2) d216_4 rfl) ?_
  refine y_callh (pc := 5) (n := 3) (n' := 3) (nc' := 2) (ns' := 12) [.int a1, .int a2] [.int 0, .ref 202] d216_5 q216_30 mk_64 s_t_7 rfl rfl (Nat.le_of_ble_eq_true rfl) (Nat.le_of_ble_eq_true rfl) rfl (by decide +kernel) (by decide +kernel) (fun v2 M1 => ?_) (fun E M1 => ?_)
  ·
    refine yL.eq (y_i2l (pc := 8) d216_8) ?_
    refine y_lastL (pc := 9) d216_9 s_21 (fun M3 => ?_)
    refine yL.eq (y_goto (pc := 10) (t := 21) d216_10 (by decide)) ?_
    refine yL.eq (y_iconst (pc := 21) (v := 0) d216_21 kc_0) ?_
    exact yL.eq (y_ireti (pc := 22) d216_22 mr_216) yL.rf
  ·
    refine yL.il (fun h => ?_) (fun h => ?_)
    ·
      subst h
      exact yL.eq (y_hd (tpc := 15) (i := 4) (v := 1) hx216_0 rfl d216_15 kc_1 d216_16 mr_216) yL.rf
    ·
      refine yL.il (fun h => ?_) (fun h => ?_)
      ·
        subst h
        exact yL.eq (y_hd (tpc := 19) (i := 4) (v := 2) hx216_1 rfl d216_19 kc_2 d216_20 mr_216) yL.rf
      ·
        exact yL.nn
set_option maxRecDepth 20000 in
set_option maxHeartbeats 4000000 in
theorem e217 {a1 : Int32} {a2 : Int32} {M : yM} : yL (yCh (yX 65 0 [some (.ref 7), some (.int a1), some (.int a2)] [] M 0 0) (fun v2 M1 => yLet (yU M1 202 0 v2) fun M3 => yI 0 M3) (fun E M1 => if E = 0 then yI 1 M1 else if E = 1 then yI 2 M1 else none)) (yX 217 0 [some (.ref 7), some (.int a1), some (.int a2), some (.ref 202), none] [] M 0 0) := by
  refine yL.eq (y_aload_n (pc := 0) (x := 202) d217_0 rfl) ?_
  refine yL.eq (y_iconst (pc := 1) (v := 0) d217_1 kc_0) ?_
  refine yL.eq (y_aload_n (pc := 2) (x := 7) d217_2 rfl) ?_
  refine yL.eq (y_iload_n (pc := 3) (x := a1) d217_3 rfl) ?_
  refine yL.eq (y_iload_n (pc := 4) (x := a2) d217_4 rfl) ?_
  refine y_callh (pc := 5) (n := 3) (n' := 3) (nc' := 2) (ns' := 12) [.int a1, .int a2] [.int 0, .ref 202] d217_5 q217_33 mk_65 s_t_7 rfl rfl (Nat.le_of_ble_eq_true rfl) (Nat.le_of_ble_eq_true rfl) rfl (by decide +kernel) (by decide +kernel) (fun v2 M1 => ?_) (fun E M1 => ?_)
  ·
    refine yL.eq (y_i2l (pc := 8) d217_8) ?_
    refine y_lastL (pc := 9) d217_9 s_21 (fun M3 => ?_)
    refine yL.eq (y_goto (pc := 10) (t := 21) d217_10 (by decide)) ?_
    refine yL.eq (y_iconst (pc := 21) (v := 0) d217_21 kc_0) ?_
    exact yL.eq (y_ireti (pc := 22) d217_22 mr_217) yL.rf
  ·
    refine yL.il (fun h => ?_) (fun h => ?_)
    ·
      subst h
      exact yL.eq (y_hd (tpc := 15) (i := 4) (v := 1) hx217_0 rfl d217_15 kc_1 d217_16 mr_217) yL.rf
    ·
      refine yL.il (fun h => ?_) (fun h => ?_)
      ·
        subst h
        exact yL.eq (y_hd (tpc := 19) (i := 4) (v := 2) hx217_1 rfl d217_19 kc_2 d217_20 mr_217) yL.rf
      ·
        exact yL.nn
set_option maxRecDepth 20000 in
set_option maxHeartbeats 4000000 in
theorem e218 {a1 : Int32} {M : yM} : yL (yCh (yX 66 0 [some (.ref 7), some (.int a1)] [] M 0 0) (fun v2 M1 => yLet (yU M1 202 0 v2) fun M3 => yI 0 M3) (fun E M1 => if E = 0 then yI 1 M1 else none)) (yX 218 0 [some (.ref 7), some (.int a1), some (.ref 202), none] [] M 0 0) := by
  refine yL.eq (y_aload_n (pc := 0) (x := 202) d218_0 rfl) ?_
  refine yL.eq (y_iconst (pc := 1) (v := 0) d218_1 kc_0) ?_
  refine yL.eq (y_aload_n (pc := 2) (x := 7) d218_2 rfl) ?_
  refine yL.eq (y_iload_n (pc := 3) (x := a1) d218_3 rfl) ?_
  refine y_callh (pc := 4) (n := 2) (n' := 2) (nc' := 1) (ns' := 6) [.int a1] [.int 0, .ref 202] d218_4 q218_36 mk_66 s_t_7 rfl rfl (Nat.le_of_ble_eq_true rfl) (Nat.le_of_ble_eq_true rfl) rfl (by decide +kernel) (by decide +kernel) (fun v2 M1 => ?_) (fun E M1 => ?_)
  ·
    refine yL.eq (y_i2l (pc := 7) d218_7) ?_
    refine y_lastL (pc := 8) d218_8 s_21 (fun M3 => ?_)
    refine yL.eq (y_goto (pc := 9) (t := 15) d218_9 (by decide)) ?_
    refine yL.eq (y_iconst (pc := 15) (v := 0) d218_15 kc_0) ?_
    exact yL.eq (y_ireti (pc := 16) d218_16 mr_218) yL.rf
  ·
    refine yL.il (fun h => ?_) (fun h => ?_)
    ·
      subst h
      exact yL.eq (y_hd (tpc := 13) (i := 3) (v := 1) hx218_0 rfl d218_13 kc_1 d218_14 mr_218) yL.rf
    ·
      exact yL.nn
set_option maxRecDepth 20000 in
set_option maxHeartbeats 4000000 in
theorem e219 {a1 : Int32} {M : yM} : yL (yCh (yX 67 0 [some (.ref 7), some (.int a1)] [] M 0 0) (fun v2 M1 => yLet (yU M1 202 0 v2) fun M3 => yI 0 M3) (fun E M1 => if E = 0 then yI 1 M1 else none)) (yX 219 0 [some (.ref 7), some (.int a1), some (.ref 202), none] [] M 0 0) := by
  refine yL.eq (y_aload_n (pc := 0) (x := 202) d219_0 rfl) ?_
  refine yL.eq (y_iconst (pc := 1) (v := 0) d219_1 kc_0) ?_
  refine yL.eq (y_aload_n (pc := 2) (x := 7) d219_2 rfl) ?_
  refine yL.eq (y_iload_n (pc := 3) (x := a1) d219_3 rfl) ?_
  refine y_callh (pc := 4) (n := 2) (n' := 2) (nc' := 1) (ns' := 6) [.int a1] [.int 0, .ref 202] d219_4 q219_39 mk_67 s_t_7 rfl rfl (Nat.le_of_ble_eq_true rfl) (Nat.le_of_ble_eq_true rfl) rfl (by decide +kernel) (by decide +kernel) (fun v2 M1 => ?_) (fun E M1 => ?_)
  ·
    refine yL.eq (y_i2l (pc := 7) d219_7) ?_
    refine y_lastL (pc := 8) d219_8 s_21 (fun M3 => ?_)
    refine yL.eq (y_goto (pc := 9) (t := 15) d219_9 (by decide)) ?_
    refine yL.eq (y_iconst (pc := 15) (v := 0) d219_15 kc_0) ?_
    exact yL.eq (y_ireti (pc := 16) d219_16 mr_219) yL.rf
  ·
    refine yL.il (fun h => ?_) (fun h => ?_)
    ·
      subst h
      exact yL.eq (y_hd (tpc := 13) (i := 3) (v := 1) hx219_0 rfl d219_13 kc_1 d219_14 mr_219) yL.rf
    ·
      exact yL.nn
set_option maxRecDepth 20000 in
set_option maxHeartbeats 4000000 in
theorem e220 {a1 : Int32} {M : yM} : yL (yCh (yX 68 0 [some (.ref 7), some (.int a1)] [] M 0 0) (fun v2 M1 => yLet (yU M1 202 0 v2) fun M3 => yI 0 M3) (fun E M1 => if E = 1 then yI 1 M1 else none)) (yX 220 0 [some (.ref 7), some (.int a1), some (.ref 202), none] [] M 0 0) := by
  refine yL.eq (y_aload_n (pc := 0) (x := 202) d220_0 rfl) ?_
  refine yL.eq (y_iconst (pc := 1) (v := 0) d220_1 kc_0) ?_
  refine yL.eq (y_aload_n (pc := 2) (x := 7) d220_2 rfl) ?_
  refine yL.eq (y_iload_n (pc := 3) (x := a1) d220_3 rfl) ?_
  refine y_callh (pc := 4) (n := 2) (n' := 2) (nc' := 1) (ns' := 6) [.int a1] [.int 0, .ref 202] d220_4 q220_42 mk_68 s_t_7 rfl rfl (Nat.le_of_ble_eq_true rfl) (Nat.le_of_ble_eq_true rfl) rfl (by decide +kernel) (by decide +kernel) (fun v2 M1 => ?_) (fun E M1 => ?_)
  ·
    refine yL.eq (y_i2l (pc := 7) d220_7) ?_
    refine y_lastL (pc := 8) d220_8 s_21 (fun M3 => ?_)
    refine yL.eq (y_goto (pc := 9) (t := 15) d220_9 (by decide)) ?_
    refine yL.eq (y_iconst (pc := 15) (v := 0) d220_15 kc_0) ?_
    exact yL.eq (y_ireti (pc := 16) d220_16 mr_220) yL.rf
  ·
    refine yL.il (fun h => ?_) (fun h => ?_)
    ·
      subst h
      exact yL.eq (y_hd (tpc := 13) (i := 3) (v := 1) hx220_1 rfl d220_13 kc_1 d220_14 mr_220) yL.rf
    ·
      exact yL.nn
set_option maxRecDepth 20000 in
set_option maxHeartbeats 4000000 in
theorem e221 {a1 : Int32} {a2 : Int32} {M : yM} : yL (yCh (yX 69 0 [some (.ref 7), some (.int a1), some (.int a2)] [] M 0 0) (fun v2 M1 => yLet (yU M1 202 0 v2) fun M3 => yI 0 M3) (fun E M1 => if E = 1 then yI 1 M1 else none)) (yX 221 0 [some (.ref 7), some (.int a1), some (.int a2), some (.ref 202), none] [] M 0 0) := by
  refine yL.eq (y_aload_n (pc := 0) (x := 202) d221_0 rfl) ?_
  refine yL.eq (y_iconst (pc := 1) (v := 0) d221_1 kc_0) ?_
  refine yL.eq (y_aload_n (pc := 2) (x := 7) d221_2 rfl) ?_
  refine yL.eq (y_iload_n (pc := 3) (x := a1) d221_3 rfl) ?_
  refine yL.eq (y_iload_n (pc := 4) (x := a2) d221_4 rfl) ?_
  refine y_callh (pc := 5) (n := 3) (n' := 3) (nc' := 1) (ns' := 6) [.int a1, .int a2] [.int 0, .ref 202] d221_5 q221_45 mk_69 s_t_7 rfl rfl (Nat.le_of_ble_eq_true rfl) (Nat.le_of_ble_eq_true rfl) rfl (by decide +kernel) (by decide +kernel) (fun v2 M1 => ?_) (fun E M1 => ?_)
  ·
    refine yL.eq (y_i2l (pc := 8) d221_8) ?_
    refine y_lastL (pc := 9) d221_9 s_21 (fun M3 => ?_)
    refine yL.eq (y_goto (pc := 10) (t := 17) d221_10 (by decide)) ?_
    refine yL.eq (y_iconst (pc := 17) (v := 0) d221_17 kc_0) ?_
    exact yL.eq (y_ireti (pc := 18) d221_18 mr_221) yL.rf
  ·
    refine yL.il (fun h => ?_) (fun h => ?_)
    ·
      subst h
      exact yL.eq (y_hd (tpc := 15) (i := 4) (v := 1) hx221_1 rfl d221_15 kc_1 d221_16 mr_221) yL.rf
    ·
      exact yL.nn
set_option maxRecDepth 20000 in
set_option maxHeartbeats 4000000 in
theorem e222 {a1 : Int32} {M : yM} : yL (yCh (yX 70 0 [some (.ref 7), some (.int a1)] [] M 0 0) (fun v2 M1 => yLet (yU M1 202 0 v2) fun M3 => yI 0 M3) (fun E M1 => if E = 1 then yI 1 M1 else if E = 2 then yI 2 M1 else none)) (yX 222 0 [some (.ref 7), some (.int a1), some (.ref 202), none] [] M 0 0) := by
  refine yL.eq (y_aload_n (pc := 0) (x := 202) d222_0 rfl) ?_
  refine yL.eq (y_iconst (pc := 1) (v := 0) d222_1 kc_0) ?_
  refine yL.eq (y_aload_n (pc := 2) (x := 7) d222_2 rfl) ?_
  refine yL.eq (y_iload_n (pc := 3) (x := a1) d222_3 rfl) ?_
  refine y_callh (pc := 4) (n := 2) (n' := 2) (nc' := 3) (ns' := 18) [.int a1] [.int 0, .ref 202] d222_4 q222_48 mk_70 s_t_7 rfl rfl (Nat.le_of_ble_eq_true rfl) (Nat.le_of_ble_eq_true rfl) rfl (by decide +kernel) (by decide +kernel) (fun v2 M1 => ?_) (fun E M1 => ?_)
  ·
    refine yL.eq (y_i2l (pc := 7) d222_7) ?_
    refine y_lastL (pc := 8) d222_8 s_21 (fun M3 => ?_)
    refine yL.eq (y_goto (pc := 9) (t := 18) d222_9 (by decide)) ?_
    refine yL.eq (y_iconst (pc := 18) (v := 0) d222_18 kc_0) ?_
    exact yL.eq (y_ireti (pc := 19) d222_19 mr_222) yL.rf
  ·
    refine yL.il (fun h => ?_) (fun h => ?_)
    ·
      subst h
      exact yL.eq (y_hd (tpc := 13) (i := 3) (v := 1) hx222_1 rfl d222_13 kc_1 d222_14 mr_222) yL.rf
    ·
      refine yL.il (fun h => ?_) (fun h => ?_)
      ·
        subst h
        exact yL.eq (y_hd (tpc := 16) (i := 3) (v := 2) hx222_2 rfl d222_16 kc_2 d222_17 mr_222) yL.rf
      ·
        exact yL.nn
set_option maxRecDepth 20000 in
set_option maxHeartbeats 4000000 in
theorem e223 {a1 : Int32} {a2 : Int32} {M : yM} : yL (yCh (yX 71 0 [some (.ref 7), some (.int a1), some (.int a2)] [] M 0 0) (fun v2 M1 => yLet (yU M1 202 0 v2) fun M3 => yI 0 M3) (fun E M1 => if E = 0 then yI 1 M1 else if E = 1 then yI 2 M1 else none)) (yX 223 0 [some (.ref 7), some (.int a1), some (.int a2), some (.ref 202), none] [] M 0 0) := by
  refine yL.eq (y_aload_n (pc := 0) (x := 202) d223_0 rfl) ?_
  refine yL.eq (y_iconst (pc := 1) (v := 0) d223_1 kc_0) ?_
  refine yL.eq (y_aload_n (pc := 2) (x := 7) d223_2 rfl) ?_
  refine yL.eq (y_iload_n (pc := 3) (x := a1) d223_3 rfl) ?_
  refine yL.eq (y_iload_n (pc := 4) (x := a2) d223_4 rfl) ?_
  refine y_callh (pc := 5) (n := 3) (n' := 3) (nc' := 3) (ns' := 18) [.int a1, .int a2] [.int 0, .ref 202] d223_5 q223_51 mk_71 s_t_7 rfl rfl (Nat.le_of_ble_eq_true rfl) (Nat.le_of_ble_eq_true rfl) rfl (by decide +kernel) (by decide +kernel) (fun v2 M1 => ?_) (fun E M1 => ?_)
  ·
    refine yL.eq (y_i2l (pc := 8) d223_8) ?_
    refine y_lastL (pc := 9) d223_9 s_21 (fun M3 => ?_)
    refine yL.eq (y_goto (pc := 10) (t := 21) d223_10 (by decide)) ?_
    refine yL.eq (y_iconst (pc := 21) (v := 0) d223_21 kc_0) ?_
    exact yL.eq (y_ireti (pc := 22) d223_22 mr_223) yL.rf
  ·
    refine yL.il (fun h => ?_) (fun h => ?_)
    ·
      subst h
      exact yL.eq (y_hd (tpc := 15) (i := 4) (v := 1) hx223_0 rfl d223_15 kc_1 d223_16 mr_223) yL.rf
    ·
      refine yL.il (fun h => ?_) (fun h => ?_)
      ·
        subst h
        exact yL.eq (y_hd (tpc := 19) (i := 4) (v := 2) hx223_1 rfl d223_19 kc_2 d223_20 mr_223) yL.rf
      ·
        exact yL.nn
set_option maxRecDepth 20000 in
set_option maxHeartbeats 4000000 in
theorem e224 {a1 : Int32} {a2 : Int32} {M : yM} : yL (yCh (yX 72 0 [some (.ref 7), some (.int a1), some (.int a2)] [] M 0 0) (fun v2 M1 => yLet (yU M1 202 0 v2) fun M3 => yI 0 M3) (fun E M1 => if E = 1 then yI 1 M1 else none)) (yX 224 0 [some (.ref 7), some (.int a1), some (.int a2), some (.ref 202), none] [] M 0 0) := by
  refine yL.eq (y_aload_n (pc := 0) (x := 202) d224_0 rfl) ?_
  refine yL.eq (y_iconst (pc := 1) (v := 0) d224_1 kc_0) ?_
  refine yL.eq (y_aload_n (pc := 2) (x := 7) d224_2 rfl) ?_
  refine yL.eq (y_iload_n (pc := 3) (x := a1) d224_3 rfl) ?_
  refine yL.eq (y_iload_n (pc := 4) (x := a2) d224_4 rfl) ?_
  refine y_callh (pc := 5) (n := 3) (n' := 3) (nc' := 3) (ns' := 18) [.int a1, .int a2] [.int 0, .ref 202] d224_5 q224_54 mk_72 s_t_7 rfl rfl (Nat.le_of_ble_eq_true rfl) (Nat.le_of_ble_eq_true rfl) rfl (by decide +kernel) (by decide +kernel) (fun v2 M1 => ?_) (fun E M1 => ?_)
  ·
    refine yL.eq (y_i2l (pc := 8) d224_8) ?_
    refine y_lastL (pc := 9) d224_9 s_21 (fun M3 => ?_)
    refine yL.eq (y_goto (pc := 10) (t := 17) d224_10 (by decide)) ?_
    refine yL.eq (y_iconst (pc := 17) (v := 0) d224_17 kc_0) ?_
    exact yL.eq (y_ireti (pc := 18) d224_18 mr_224) yL.rf
  ·
    refine yL.il (fun h => ?_) (fun h => ?_)
    ·
      subst h
      exact yL.eq (y_hd (tpc := 15) (i := 4) (v := 1) hx224_1 rfl d224_15 kc_1 d224_16 mr_224) yL.rf
    ·
      exact yL.nn
set_option maxRecDepth 20000 in
set_option maxHeartbeats 4000000 in
theorem e225 {a1 : Int32} {a2 : Int32} {a3 : Int32} {M : yM} : yL (yCh (yX 73 0 [some (.ref 7), some (.int a1), some (.int a2), some (.int a3)] [] M 0 0) (fun v2 M1 => yLet (yU M1 202 0 v2) fun M3 => yI 0 M3) (fun E M1 => if E = 1 then yI 1 M1 else if E = 2 then yI 2 M1 else none)) (yX 225 0 [some (.ref 7), some (.int a1), some (.int a2), some (.int a3), some (.ref 202), none] [] M 0 0) := by
  refine yL.eq (y_aload (pc := 0) (x := 202) d225_0 rfl) ?_
  refine yL.eq (y_iconst (pc := 2) (v := 0) d225_2 kc_0) ?_
  refine yL.eq (y_aload_n (pc := 3) (x := 7) d225_3 rfl) ?_
  refine yL.eq (y_iload_n (pc := 4) (x := a1) d225_4 rfl) ?_
  refine yL.eq (y_iload_n (pc := 5) (x := a2) d225_5 rfl) ?_
  refine yL.eq (y_iload_n (pc := 6) (x := a3) d225_6 rfl) ?_
  refine y_callh (pc := 7) (n := 4) (n' := 4) (nc' := 3) (ns' := 18) [.int a1, .int a2, .int a3] [.int 0, .ref 202] d225_7 q225_57 mk_73 s_t_7 rfl rfl (Nat.le_of_ble_eq_true rfl) (Nat.le_of_ble_eq_true rfl) rfl (by decide +kernel) (by decide +kernel) (fun v2 M1 => ?_) (fun E M1 => ?_)
  ·
    refine yL.eq (y_i2l (pc := 10) d225_10) ?_
    refine y_lastL (pc := 11) d225_11 s_21 (fun M3 => ?_)
    refine yL.eq (y_goto (pc := 12) (t := 23) d225_12 (by decide)) ?_
    refine yL.eq (y_iconst (pc := 23) (v := 0) d225_23 kc_0) ?_
    exact yL.eq (y_ireti (pc := 24) d225_24 mr_225) yL.rf
  ·
    refine yL.il (fun h => ?_) (fun h => ?_)
    ·
      subst h
      exact yL.eq (y_hd (tpc := 17) (i := 5) (v := 1) hx225_1 rfl d225_17 kc_1 d225_18 mr_225) yL.rf
    ·
      refine yL.il (fun h => ?_) (fun h => ?_)
      ·
        subst h
        exact yL.eq (y_hd (tpc := 21) (i := 5) (v := 2) hx225_2 rfl d225_21 kc_2 d225_22 mr_225) yL.rf
      ·
        exact yL.nn
set_option maxRecDepth 20000 in
set_option maxHeartbeats 4000000 in
theorem e226 {a1 : Int32} {a2 : Int32} {M : yM} : yL (yCh (yX 74 0 [some (.ref 7), some (.int a1), some (.int a2)] [] M 0 0) (fun v2 M1 => yLet (yU M1 202 0 v2) fun M3 => yI 0 M3) (fun E M1 => if E = 0 then yI 1 M1 else if E = 1 then yI 2 M1 else none)) (yX 226 0 [some (.ref 7), some (.int a1), some (.int a2), some (.ref 202), none] [] M 0 0) := by
  refine yL.eq (y_aload_n (pc := 0) (x := 202) d226_0 rfl) ?_
  refine yL.eq (y_iconst (pc := 1) (v := 0) d226_1 kc_0) ?_
  refine yL.eq (y_aload_n (pc := 2) (x := 7) d226_2 rfl) ?_
  refine yL.eq (y_iload_n (pc := 3) (x := a1) d226_3 rfl) ?_
  refine yL.eq (y_iload_n (pc := 4) (x := a2) d226_4 rfl) ?_
  refine y_callh (pc := 5) (n := 3) (n' := 3) (nc' := 3) (ns' := 18) [.int a1, .int a2] [.int 0, .ref 202] d226_5 q226_61 mk_74 s_t_7 rfl rfl (Nat.le_of_ble_eq_true rfl) (Nat.le_of_ble_eq_true rfl) rfl (by decide +kernel) (by decide +kernel) (fun v2 M1 => ?_) (fun E M1 => ?_)
  ·
    refine yL.eq (y_i2l (pc := 8) d226_8) ?_
    refine y_lastL (pc := 9) d226_9 s_21 (fun M3 => ?_)
    refine yL.eq (y_goto (pc := 10) (t := 21) d226_10 (by decide)) ?_
    refine yL.eq (y_iconst (pc := 21) (v := 0) d226_21 kc_0) ?_
    exact yL.eq (y_ireti (pc := 22) d226_22 mr_226) yL.rf
  ·
    refine yL.il (fun h => ?_) (fun h => ?_)
    ·
      subst h
      exact yL.eq (y_hd (tpc := 15) (i := 4) (v := 1) hx226_0 rfl d226_15 kc_1 d226_16 mr_226) yL.rf
    ·
      refine yL.il (fun h => ?_) (fun h => ?_)
      ·
        subst h
        exact yL.eq (y_hd (tpc := 19) (i := 4) (v := 2) hx226_1 rfl d226_19 kc_2 d226_20 mr_226) yL.rf
      ·
        exact yL.nn
set_option maxRecDepth 20000 in
set_option maxHeartbeats 4000000 in
theorem e227 {a1 : Int32} {a2 : Int32} {a3 : Int32} {M : yM} : yL (yCh (yX 75 0 [some (.ref 7), some (.int a1), some (.int a2), some (.int a3)] [] M 0 0) (fun v2 M1 => yLet (yU M1 202 0 v2) fun M3 => yI 0 M3) (fun E M1 => if E = 0 then yI 1 M1 else none)) (yX 227 0 [some (.ref 7), some (.int a1), some (.int a2), some (.int a3), some (.ref 202), none] [] M 0 0) := by
  refine yL.eq (y_aload (pc := 0) (x := 202) d227_0 rfl) ?_
  refine yL.eq (y_iconst (pc := 2) (v := 0) d227_2 kc_0) ?_
  refine yL.eq (y_aload_n (pc := 3) (x := 7) d227_3 rfl) ?_
  refine yL.eq (y_iload_n (pc := 4) (x := a1) d227_4 rfl) ?_
  refine yL.eq (y_iload_n (pc := 5) (x := a2) d227_5 rfl) ?_
  refine yL.eq (y_iload_n (pc := 6) (x := a3) d227_6 rfl) ?_
  refine y_callh (pc := 7) (n := 4) (n' := 4) (nc' := 3) (ns' := 18) [.int a1, .int a2, .int a3] [.int 0, .ref 202] d227_7 q227_64 mk_75 s_t_7 rfl rfl (Nat.le_of_ble_eq_true rfl) (Nat.le_of_ble_eq_true rfl) rfl (by decide +kernel) (by decide +kernel) (fun v2 M1 => ?_) (fun E M1 => ?_)
  ·
    refine yL.eq (y_i2l (pc := 10) d227_10) ?_
    refine y_lastL (pc := 11) d227_11 s_21 (fun M3 => ?_)
    refine yL.eq (y_goto (pc := 12) (t := 19) d227_12 (by decide)) ?_
    refine yL.eq (y_iconst (pc := 19) (v := 0) d227_19 kc_0) ?_
    exact yL.eq (y_ireti (pc := 20) d227_20 mr_227) yL.rf
  ·
    refine yL.il (fun h => ?_) (fun h => ?_)
    ·
      subst h
      exact yL.eq (y_hd (tpc := 17) (i := 5) (v := 1) hx227_0 rfl d227_17 kc_1 d227_18 mr_227) yL.rf
    ·
      exact yL.nn
set_option maxRecDepth 20000 in
set_option maxHeartbeats 4000000 in
theorem e228 {a1 : Int32} {a2 : Int32} {a3 : Int32} {M : yM} : yL (yCh (yX 76 0 [some (.ref 7), some (.int a1), some (.int a2), some (.int a3)] [] M 0 0) (fun v2 M1 => yLet (yU M1 202 0 v2) fun M3 => yI 0 M3) (fun E M1 => if E = 0 then yI 1 M1 else if E = 2 then yI 2 M1 else none)) (yX 228 0 [some (.ref 7), some (.int a1), some (.int a2), some (.int a3), some (.ref 202), none] [] M 0 0) := by
  refine yL.eq (y_aload (pc := 0) (x := 202) d228_0 rfl) ?_
  refine yL.eq (y_iconst (pc := 2) (v := 0) d228_2 kc_0) ?_
  refine yL.eq (y_aload_n (pc := 3) (x := 7) d228_3 rfl) ?_
  refine yL.eq (y_iload_n (pc := 4) (x := a1) d228_4 rfl) ?_
  refine yL.eq (y_iload_n (pc := 5) (x := a2) d228_5 rfl) ?_
  refine yL.eq (y_iload_n (pc := 6) (x := a3) d228_6 rfl) ?_
  refine y_callh (pc := 7) (n := 4) (n' := 4) (nc' := 3) (ns' := 18) [.int a1, .int a2, .int a3] [.int 0, .ref 202] d228_7 q228_67 mk_76 s_t_7 rfl rfl (Nat.le_of_ble_eq_true rfl) (Nat.le_of_ble_eq_true rfl) rfl (by decide +kernel) (by decide +kernel) (fun v2 M1 => ?_) (fun E M1 => ?_)
  ·
    refine yL.eq (y_i2l (pc := 10) d228_10) ?_
    refine y_lastL (pc := 11) d228_11 s_21 (fun M3 => ?_)
    refine yL.eq (y_goto (pc := 12) (t := 23) d228_12 (by decide)) ?_
    refine yL.eq (y_iconst (pc := 23) (v := 0) d228_23 kc_0) ?_
    exact yL.eq (y_ireti (pc := 24) d228_24 mr_228) yL.rf
  ·
    refine yL.il (fun h => ?_) (fun h => ?_)
    ·
      subst h
      exact yL.eq (y_hd (tpc := 17) (i := 5) (v := 1) hx228_0 rfl d228_17 kc_1 d228_18 mr_228) yL.rf
    ·
      refine yL.il (fun h => ?_) (fun h => ?_)
      ·
        subst h
        exact yL.eq (y_hd (tpc := 21) (i := 5) (v := 2) hx228_2 rfl d228_21 kc_2 d228_22 mr_228) yL.rf
      ·
        exact yL.nn
set_option maxRecDepth 20000 in
set_option maxHeartbeats 4000000 in
theorem e229 {a1 : Int32} {a2 : Int32} {M : yM} : yL (yCh (yX 77 0 [some (.ref 7), some (.int a1), some (.int a2)] [] M 0 0) (fun v2 M1 => yLet (yU M1 202 0 v2) fun M3 => yI 0 M3) (fun E M1 => if E = 0 then yI 1 M1 else if E = 1 then yI 2 M1 else none)) (yX 229 0 [some (.ref 7), some (.int a1), some (.int a2), some (.ref 202), none] [] M 0 0) := by
  refine yL.eq (y_aload_n (pc := 0) (x := 202) d229_0 rfl) ?_
  refine yL.eq (y_iconst (pc := 1) (v := 0) d229_1 kc_0) ?_
  refine yL.eq (y_aload_n (pc := 2) (x := 7) d229_2 rfl) ?_
  refine yL.eq (y_iload_n (pc := 3) (x := a1) d229_3 rfl) ?_
  refine yL.eq (y_iload_n (pc := 4) (x := a2) d229_4 rfl) ?_
  refine y_callh (pc := 5) (n := 3) (n' := 3) (nc' := 3) (ns' := 18) [.int a1, .int a2] [.int 0, .ref 202] d229_5 q229_70 mk_77 s_t_7 rfl rfl (Nat.le_of_ble_eq_true rfl) (Nat.le_of_ble_eq_true rfl) rfl (by decide +kernel) (by decide +kernel) (fun v2 M1 => ?_) (fun E M1 => ?_)
  ·
    refine yL.eq (y_i2l (pc := 8) d229_8) ?_
    refine y_lastL (pc := 9) d229_9 s_21 (fun M3 => ?_)
    refine yL.eq (y_goto (pc := 10) (t := 21) d229_10 (by decide)) ?_
    refine yL.eq (y_iconst (pc := 21) (v := 0) d229_21 kc_0) ?_
    exact yL.eq (y_ireti (pc := 22) d229_22 mr_229) yL.rf
  ·
    refine yL.il (fun h => ?_) (fun h => ?_)
    ·
      subst h
      exact yL.eq (y_hd (tpc := 15) (i := 4) (v := 1) hx229_0 rfl d229_15 kc_1 d229_16 mr_229) yL.rf
    ·
      refine yL.il (fun h => ?_) (fun h => ?_)
      ·
        subst h
        exact yL.eq (y_hd (tpc := 19) (i := 4) (v := 2) hx229_1 rfl d229_19 kc_2 d229_20 mr_229) yL.rf
      ·
        exact yL.nn
set_option maxRecDepth 20000 in
set_option maxHeartbeats 4000000 in
theorem e230 {a1 : Int32} {a2 : Int32} {M : yM} : yL (yCh (yX 78 0 [some (.ref 7), some (.int a1), some (.int a2)] [] M 0 0) (fun v2 M1 => yLet (yU M1 202 0 v2) fun M3 => yI 0 M3) (fun E M1 => if E = 1 then yI 1 M1 else none)) (yX 230 0 [some (.ref 7), some (.int a1), some (.int a2), some (.ref 202), none] [] M 0 0) := by
  refine yL.eq (y_aload_n (pc := 0) (x := 202) d230_0 rfl) ?_
  refine yL.eq (y_iconst (pc := 1) (v := 0) d230_1 kc_0) ?_
  refine yL.eq (y_aload_n (pc := 2) (x := 7) d230_2 rfl) ?_
  refine yL.eq (y_iload_n (pc := 3) (x := a1) d230_3 rfl) ?_
  refine yL.eq (y_iload_n (pc := 4) (x := a2) d230_4 rfl) ?_
  refine y_callh (pc := 5) (n := 3) (n' := 3) (nc' := 3) (ns' := 18) [.int a1, .int a2] [.int 0, .ref 202] d230_5 q230_73 mk_78 s_t_7 rfl rfl (Nat.le_of_ble_eq_true rfl) (Nat.le_of_ble_eq_true rfl) rfl (by decide +kernel) (by decide +kernel) (fun v2 M1 => ?_) (fun E M1 => ?_)
  ·
    refine yL.eq (y_i2l (pc := 8) d230_8) ?_
    refine y_lastL (pc := 9) d230_9 s_21 (fun M3 => ?_)
    refine yL.eq (y_goto (pc := 10) (t := 17) d230_10 (by decide)) ?_
    refine yL.eq (y_iconst (pc := 17) (v := 0) d230_17 kc_0) ?_
    exact yL.eq (y_ireti (pc := 18) d230_18 mr_230) yL.rf
  ·
    refine yL.il (fun h => ?_) (fun h => ?_)
    ·
      subst h
      exact yL.eq (y_hd (tpc := 15) (i := 4) (v := 1) hx230_1 rfl d230_15 kc_1 d230_16 mr_230) yL.rf
    ·
      exact yL.nn
set_option maxRecDepth 20000 in
set_option maxHeartbeats 4000000 in
theorem e231  {M : yM} : yL (yCh (yX 79 0 [some (.ref 7)] [] M 0 0) (fun v2 M1 => yLet (yU M1 202 0 v2) fun M3 => yI 0 M3) (fun E M1 => if E = 2 then yI 1 M1 else none)) (yX 231 0 [some (.ref 7), some (.ref 202), none] [] M 0 0) := by
  refine yL.eq (y_aload_n (pc := 0) (x := 202) d231_0 rfl) ?_
  refine yL.eq (y_iconst (pc := 1) (v := 0) d231_1 kc_0) ?_
  refine yL.eq (y_aload_n (pc := 2) (x := 7) d231_2 rfl) ?_
  refine y_callh (pc := 3) (n := 1) (n' := 1) (nc' := 1) (ns' := 6) [] [.int 0, .ref 202] d231_3 q231_76 mk_79 s_t_7 rfl rfl (Nat.le_of_ble_eq_true rfl) (Nat.le_of_ble_eq_true rfl) rfl (by decide +kernel) (by decide +kernel) (fun v2 M1 => ?_) (fun E M1 => ?_)
  ·
    refine yL.eq (y_i2l (pc := 6) d231_6) ?_
    refine y_lastL (pc := 7) d231_7 s_21 (fun M3 => ?_)
    refine yL.eq (y_goto (pc := 8) (t := 14) d231_8 (by decide)) ?_
    refine yL.eq (y_iconst (pc := 14) (v := 0) d231_14 kc_0) ?_
    exact yL.eq (y_ireti (pc := 15) d231_15 mr_231) yL.rf
  ·
    refine yL.il (fun h => ?_) (fun h => ?_)
    ·
      subst h
      exact yL.eq (y_hd (tpc := 12) (i := 2) (v := 1) hx231_2 rfl d231_12 kc_1 d231_13 mr_231) yL.rf
    ·
      exact yL.nn
set_option maxRecDepth 20000 in
set_option maxHeartbeats 4000000 in
theorem e232 {a1 : Int32} {a2 : Int32} {M : yM} : yL (yCh (yX 80 0 [some (.ref 7), some (.int a1), some (.int a2)] [] M 0 0) (fun v2 M1 => yLet (yU M1 202 0 v2) fun M3 => yI 0 M3) (fun E M1 => if E = 0 then yI 1 M1 else if E = 1 then yI 2 M1 else none)) (yX 232 0 [some (.ref 7), some (.int a1), some (.int a2), some (.ref 202), none] [] M 0 0) := by
  refine yL.eq (y_aload_n (pc := 0) (x := 202) d232_0 rfl) ?_
  refine yL.eq (y_iconst (pc := 1) (v := 0) d232_1 kc_0) ?_
  refine yL.eq (y_aload_n (pc := 2) (x := 7) d232_2 rfl) ?_
  refine yL.eq (y_iload_n (pc := 3) (x := a1) d232_3 rfl) ?_
  refine yL.eq (y_iload_n (pc := 4) (x := a2) d232_4 rfl) ?_
  refine y_callh (pc := 5) (n := 3) (n' := 3) (nc' := 2) (ns' := 12) [.int a1, .int a2] [.int 0, .ref 202] d232_5 q232_79 mk_80 s_t_7 rfl rfl (Nat.le_of_ble_eq_true rfl) (Nat.le_of_ble_eq_true rfl) rfl (by decide +kernel) (by decide +kernel) (fun v2 M1 => ?_) (fun E M1 => ?_)
  ·
    refine yL.eq (y_i2l (pc := 8) d232_8) ?_
    refine y_lastL (pc := 9) d232_9 s_21 (fun M3 => ?_)
    refine yL.eq (y_goto (pc := 10) (t := 21) d232_10 (by decide)) ?_
    refine yL.eq (y_iconst (pc := 21) (v := 0) d232_21 kc_0) ?_
    exact yL.eq (y_ireti (pc := 22) d232_22 mr_232) yL.rf
  ·
    refine yL.il (fun h => ?_) (fun h => ?_)
    ·
      subst h
      exact yL.eq (y_hd (tpc := 15) (i := 4) (v := 1) hx232_0 rfl d232_15 kc_1 d232_16 mr_232) yL.rf
    ·
      refine yL.il (fun h => ?_) (fun h => ?_)
      ·
        subst h
        exact yL.eq (y_hd (tpc := 19) (i := 4) (v := 2) hx232_1 rfl d232_19 kc_2 d232_20 mr_232) yL.rf
      ·
        exact yL.nn
set_option maxRecDepth 20000 in
set_option maxHeartbeats 4000000 in
theorem e233 {a1 : Int32} {a2 : Int32} {M : yM} : yL (yCh (yX 81 0 [some (.ref 7), some (.int a1), some (.int a2)] [] M 0 0) (fun v2 M1 => yLet (yU M1 202 0 v2) fun M3 => yI 0 M3) (fun E M1 => if E = 1 then yI 1 M1 else none)) (yX 233 0 [some (.ref 7), some (.int a1), some (.int a2), some (.ref 202), none] [] M 0 0) := by
  refine yL.eq (y_aload_n (pc := 0) (x := 202) d233_0 rfl) ?_
  refine yL.eq (y_iconst (pc := 1) (v := 0) d233_1 kc_0) ?_
  refine yL.eq (y_aload_n (pc := 2) (x := 7) d233_2 rfl) ?_
  refine yL.eq (y_iload_n (pc := 3) (x := a1) d233_3 rfl) ?_
  refine yL.eq (y_iload_n (pc := 4) (x := a2) d233_4 rfl) ?_
  refine y_callh (pc := 5) (n := 3) (n' := 3) (nc' := 1) (ns' := 6) [.int a1, .int a2] [.int 0, .ref 202] d233_5 q233_82 mk_81 s_t_7 rfl rfl (Nat.le_of_ble_eq_true rfl) (Nat.le_of_ble_eq_true rfl) rfl (by decide +kernel) (by decide +kernel) (fun v2 M1 => ?_) (fun E M1 => ?_)
  ·
    refine yL.eq (y_i2l (pc := 8) d233_8) ?_
    refine y_lastL (pc := 9) d233_9 s_21 (fun M3 => ?_)
    refine yL.eq (y_goto (pc := 10) (t := 17) d233_10 (by decide)) ?_
    refine yL.eq (y_iconst (pc := 17) (v := 0) d233_17 kc_0) ?_
    exact yL.eq (y_ireti (pc := 18) d233_18 mr_233) yL.rf
  ·
    refine yL.il (fun h => ?_) (fun h => ?_)
    ·
      subst h
      exact yL.eq (y_hd (tpc := 15) (i := 4) (v := 1) hx233_1 rfl d233_15 kc_1 d233_16 mr_233) yL.rf
    ·
      exact yL.nn
set_option maxRecDepth 20000 in
set_option maxHeartbeats 4000000 in
theorem e234 {a1 : Int32} {M : yM} : yL (yCh (yX 82 0 [some (.ref 7), some (.int a1), none] [] M 0 0) (fun v2 M1 => yLet (yU M1 202 0 v2) fun M3 => yI 0 M3) (fun E M1 => if E = 0 then yI 1 M1 else none)) (yX 234 0 [some (.ref 7), some (.int a1), some (.ref 202), none] [] M 0 0) := by
  refine yL.eq (y_aload_n (pc := 0) (x := 202) d234_0 rfl) ?_
  refine yL.eq (y_iconst (pc := 1) (v := 0) d234_1 kc_0) ?_
  refine yL.eq (y_aload_n (pc := 2) (x := 7) d234_2 rfl) ?_
  refine yL.eq (y_iload_n (pc := 3) (x := a1) d234_3 rfl) ?_
  refine y_callh (pc := 4) (n := 2) (n' := 3) (nc' := 1) (ns' := 6) [.int a1] [.int 0, .ref 202] d234_4 q234_85 mk_82 s_t_7 rfl rfl (Nat.le_of_ble_eq_true rfl) (Nat.le_of_ble_eq_true rfl) rfl (by decide +kernel) (by decide +kernel) (fun v2 M1 => ?_) (fun E M1 => ?_)
  ·
    refine yL.eq (y_i2l (pc := 7) d234_7) ?_
    refine y_lastL (pc := 8) d234_8 s_21 (fun M3 => ?_)
    refine yL.eq (y_goto (pc := 9) (t := 15) d234_9 (by decide)) ?_
    refine yL.eq (y_iconst (pc := 15) (v := 0) d234_15 kc_0) ?_
    exact yL.eq (y_ireti (pc := 16) d234_16 mr_234) yL.rf
  ·
    refine yL.il (fun h => ?_) (fun h => ?_)
    ·
      subst h
      exact yL.eq (y_hd (tpc := 13) (i := 3) (v := 1) hx234_0 rfl d234_13 kc_1 d234_14 mr_234) yL.rf
    ·
      exact yL.nn
set_option maxRecDepth 20000 in
set_option maxHeartbeats 4000000 in
theorem e235 {a1 : Int32} {a2 : Int32} {M : yM} : yL (yCh (yX 84 0 [some (.ref 7), some (.int a1), some (.int a2), none, none, none, none] [] M 0 0) (fun v2 M1 => yLet (yU M1 202 0 v2) fun M3 => yI 0 M3) (fun E M1 => if E = 1 then yI 1 M1 else none)) (yX 235 0 [some (.ref 7), some (.int a1), some (.int a2), some (.ref 202), none] [] M 0 0) := by
  refine yL.eq (y_aload_n (pc := 0) (x := 202) d235_0 rfl) ?_
  refine yL.eq (y_iconst (pc := 1) (v := 0) d235_1 kc_0) ?_
  refine yL.eq (y_aload_n (pc := 2) (x := 7) d235_2 rfl) ?_
  refine yL.eq (y_iload_n (pc := 3) (x := a1) d235_3 rfl) ?_
  refine yL.eq (y_iload_n (pc := 4) (x := a2) d235_4 rfl) ?_
  refine y_callh (pc := 5) (n := 3) (n' := 7) (nc' := 1) (ns' := 6) [.int a1, .int a2] [.int 0, .ref 202] d235_5 q235_88 mk_84 s_t_7 rfl rfl (Nat.le_of_ble_eq_true rfl) (Nat.le_of_ble_eq_true rfl) rfl (by decide +kernel) (by decide +kernel) (fun v2 M1 => ?_) (fun E M1 => ?_)
  ·
    refine yL.eq (y_i2l (pc := 8) d235_8) ?_
    refine y_lastL (pc := 9) d235_9 s_21 (fun M3 => ?_)
    refine yL.eq (y_goto (pc := 10) (t := 17) d235_10 (by decide)) ?_
    refine yL.eq (y_iconst (pc := 17) (v := 0) d235_17 kc_0) ?_
    exact yL.eq (y_ireti (pc := 18) d235_18 mr_235) yL.rf
  ·
    refine yL.il (fun h => ?_) (fun h => ?_)
    ·
      subst h
      exact yL.eq (y_hd (tpc := 15) (i := 4) (v := 1) hx235_1 rfl d235_15 kc_1 d235_16 mr_235) yL.rf
    ·
      exact yL.nn
set_option maxRecDepth 20000 in
set_option maxHeartbeats 4000000 in
theorem e236 {a1 : Int32} {a2 : Int64} {M : yM} : yL (yCh (yX 85 0 [some (.ref 7), some (.int a1), some (.long a2), none, none, none, none, none, none, none, none] [] M 0 0) (fun v2 M1 => yLet (yU M1 202 0 v2) fun M3 => yI 0 M3) (fun E M1 => if E = 1 then yI 1 M1 else none)) (yX 236 0 [some (.ref 7), some (.int a1), some (.long a2), none, some (.ref 202), none] [] M 0 0) := by
  refine yL.eq (y_aload (pc := 0) (x := 202) d236_0 rfl) ?_
  refine yL.eq (y_iconst (pc := 2) (v := 0) d236_2 kc_0) ?_
  refine yL.eq (y_aload_n (pc := 3) (x := 7) d236_3 rfl) ?_
  refine yL.eq (y_iload_n (pc := 4) (x := a1) d236_4 rfl) ?_
  refine yL.eq (y_lload_n (pc := 5) (x := a2) d236_5 rfl) ?_
  refine y_callh (pc := 6) (n := 3) (n' := 11) (nc' := 2) (ns' := 12) [.int a1, .long a2] [.int 0, .ref 202] d236_6 q236_91 mk_85 s_t_7 rfl rfl (Nat.le_of_ble_eq_true rfl) (Nat.le_of_ble_eq_true rfl) rfl (by decide +kernel) (by decide +kernel) (fun v2 M1 => ?_) (fun E M1 => ?_)
  ·
    refine yL.eq (y_i2l (pc := 9) d236_9) ?_
    refine y_lastL (pc := 10) d236_10 s_21 (fun M3 => ?_)
    refine yL.eq (y_goto (pc := 11) (t := 18) d236_11 (by decide)) ?_
    refine yL.eq (y_iconst (pc := 18) (v := 0) d236_18 kc_0) ?_
    exact yL.eq (y_ireti (pc := 19) d236_19 mr_236) yL.rf
  ·
    refine yL.il (fun h => ?_) (fun h => ?_)
    ·
      subst h
      exact yL.eq (y_hd (tpc := 16) (i := 5) (v := 1) hx236_1 rfl d236_16 kc_1 d236_17 mr_236) yL.rf
    ·
      exact yL.nn
set_option maxRecDepth 20000 in
set_option maxHeartbeats 4000000 in
theorem e237 {a1 : Int64} {a3 : Int32} {M : yM} : yL (yCh (yX 86 0 [some (.ref 7), some (.long a1), none, some (.int a3), none, none, none, none] [] M 0 0) (fun v2 M1 => yLet (yU M1 202 0 v2) fun M3 => yI 0 M3) (fun E M1 => if E = 1 then yI 1 M1 else none)) (yX 237 0 [some (.ref 7), some (.long a1), none, some (.int a3), some (.ref 202), none] [] M 0 0) := by
  refine yL.eq (y_aload (pc := 0) (x := 202) d237_0 rfl) ?_
  refine yL.eq (y_iconst (pc := 2) (v := 0) d237_2 kc_0) ?_
  refine yL.eq (y_aload_n (pc := 3) (x := 7) d237_3 rfl) ?_
  refine yL.eq (y_lload_n (pc := 4) (x := a1) d237_4 rfl) ?_
  refine yL.eq (y_iload_n (pc := 5) (x := a3) d237_5 rfl) ?_
  refine y_callh (pc := 6) (n := 3) (n' := 8) (nc' := 1) (ns' := 6) [.long a1, .int a3] [.int 0, .ref 202] d237_6 q237_95 mk_86 s_t_7 rfl rfl (Nat.le_of_ble_eq_true rfl) (Nat.le_of_ble_eq_true rfl) rfl (by decide +kernel) (by decide +kernel) (fun v2 M1 => ?_) (fun E M1 => ?_)
  ·
    refine yL.eq (y_i2l (pc := 9) d237_9) ?_
    refine y_lastL (pc := 10) d237_10 s_21 (fun M3 => ?_)
    refine yL.eq (y_goto (pc := 11) (t := 18) d237_11 (by decide)) ?_
    refine yL.eq (y_iconst (pc := 18) (v := 0) d237_18 kc_0) ?_
    exact yL.eq (y_ireti (pc := 19) d237_19 mr_237) yL.rf
  ·
    refine yL.il (fun h => ?_) (fun h => ?_)
    ·
      subst h
      exact yL.eq (y_hd (tpc := 16) (i := 5) (v := 1) hx237_1 rfl d237_16 kc_1 d237_17 mr_237) yL.rf
    ·
      exact yL.nn
set_option maxRecDepth 20000 in
set_option maxHeartbeats 4000000 in
theorem e238 {a1 : Int32} {M : yM} : yL (yCh (yX 87 0 [some (.ref 7), some (.int a1)] [] M 0 0) (fun v2 M1 => yLet (yU M1 202 0 v2) fun M3 => yI 0 M3) (fun E M1 => if E = 0 then yI 1 M1 else none)) (yX 238 0 [some (.ref 7), some (.int a1), some (.ref 202), none] [] M 0 0) := by
  refine yL.eq (y_aload_n (pc := 0) (x := 202) d238_0 rfl) ?_
  refine yL.eq (y_iconst (pc := 1) (v := 0) d238_1 kc_0) ?_
  refine yL.eq (y_aload_n (pc := 2) (x := 7) d238_2 rfl) ?_
  refine yL.eq (y_iload_n (pc := 3) (x := a1) d238_3 rfl) ?_
  refine y_callh (pc := 4) (n := 2) (n' := 2) (nc' := 1) (ns' := 6) [.int a1] [.int 0, .ref 202] d238_4 q238_99 mk_87 s_t_7 rfl rfl (Nat.le_of_ble_eq_true rfl) (Nat.le_of_ble_eq_true rfl) rfl (by decide +kernel) (by decide +kernel) (fun v2 M1 => ?_) (fun E M1 => ?_)
  ·
    refine yL.eq (y_i2l (pc := 7) d238_7) ?_
    refine y_lastL (pc := 8) d238_8 s_21 (fun M3 => ?_)
    refine yL.eq (y_goto (pc := 9) (t := 15) d238_9 (by decide)) ?_
    refine yL.eq (y_iconst (pc := 15) (v := 0) d238_15 kc_0) ?_
    exact yL.eq (y_ireti (pc := 16) d238_16 mr_238) yL.rf
  ·
    refine yL.il (fun h => ?_) (fun h => ?_)
    ·
      subst h
      exact yL.eq (y_hd (tpc := 13) (i := 3) (v := 1) hx238_0 rfl d238_13 kc_1 d238_14 mr_238) yL.rf
    ·
      exact yL.nn
set_option maxRecDepth 20000 in
set_option maxHeartbeats 4000000 in
theorem e239 {a1 : Int32} {M : yM} : yL (yCh (yX 88 0 [some (.ref 7), some (.int a1)] [] M 0 0) (fun v2 M1 => yLet (yU M1 202 0 v2) fun M3 => yI 0 M3) (fun E M1 => if E = 0 then yI 1 M1 else if E = 2 then yI 2 M1 else none)) (yX 239 0 [some (.ref 7), some (.int a1), some (.ref 202), none] [] M 0 0) := by
  refine yL.eq (y_aload_n (pc := 0) (x := 202) d239_0 rfl) ?_
  refine yL.eq (y_iconst (pc := 1) (v := 0) d239_1 kc_0) ?_
  refine yL.eq (y_aload_n (pc := 2) (x := 7) d239_2 rfl) ?_
  refine yL.eq (y_iload_n (pc := 3) (x := a1) d239_3 rfl) ?_
  refine y_callh (pc := 4) (n := 2) (n' := 2) (nc' := 2) (ns' := 12) [.int a1] [.int 0, .ref 202] d239_4 q239_102 mk_88 s_t_7 rfl rfl (Nat.le_of_ble_eq_true rfl) (Nat.le_of_ble_eq_true rfl) rfl (by decide +kernel) (by decide +kernel) (fun v2 M1 => ?_) (fun E M1 => ?_)
  ·
    refine yL.eq (y_i2l (pc := 7) d239_7) ?_
    refine y_lastL (pc := 8) d239_8 s_21 (fun M3 => ?_)
    refine yL.eq (y_goto (pc := 9) (t := 18) d239_9 (by decide)) ?_
    refine yL.eq (y_iconst (pc := 18) (v := 0) d239_18 kc_0) ?_
    exact yL.eq (y_ireti (pc := 19) d239_19 mr_239) yL.rf
  ·
    refine yL.il (fun h => ?_) (fun h => ?_)
    ·
      subst h
      exact yL.eq (y_hd (tpc := 13) (i := 3) (v := 1) hx239_0 rfl d239_13 kc_1 d239_14 mr_239) yL.rf
    ·
      refine yL.il (fun h => ?_) (fun h => ?_)
      ·
        subst h
        exact yL.eq (y_hd (tpc := 16) (i := 3) (v := 2) hx239_2 rfl d239_16 kc_2 d239_17 mr_239) yL.rf
      ·
        exact yL.nn
