/-! the law's loop -/
theorem ofN_ad {n m : Nat} {v : Int32} (hv : Int32.ofNat m = v) : Int32.ofNat n + v = Int32.ofNat (n + m) := by rw [← hv, Int32.ofNat_add]
theorem law_loop {S : Nat → Int32} {N : Nat} (hN : N ≤ 2048) : ∀ d i (M : yM) (A : yAb) (o5 o6 : Option Value) (nc ns : Nat), N < 4 * (i + d) → i ≤ 600 → LI M A S N → nc ≤ 500000 + 3 * i → ns ≤ 7000000 + 18 * i → ∃ M', yX 240 23 [some (.ref 0), some (.ref 7), some (.ref 190), some (.ref 202), some (.int (Int32.ofNat (4 * i))), o5, o6] [] M nc ns = yI 1 M' := by
  have out : ∀ (i : Nat) (M : yM) (o5 o6 : Option Value) (nc ns : Nat), N < 4 * i + 4 → i ≤ 600 → ylen M = N → (nc + 4 ≤ 601024 ∧ ns + 24 ≤ 7293034) → ∃ M', yX 240 23 [some (.ref 0), some (.ref 7), some (.ref 190), some (.ref 202), some (.int (Int32.ofNat (4 * i))), o5, o6] [] M nc ns = yI 1 M' := by
    intro i M o5 o6 nc ns h hi hl hn
    refine ⟨M, yL.I (e240_23 hn) ?_⟩
    rw [hl, if_neg]
    intro z
    have h4 : (4 : Int32).toInt = 4 := by decide
    have hs0 : (Int32.ofNat N - 4).toInt = (N : Int) - 4 := by rw [i32_sub (by rw [ofN_toInt (by omega), h4]; omega) (by rw [ofN_toInt (by omega), h4]; omega), ofN_toInt (by omega), h4]
    rw [i32_le, hs0, ofN_toInt (by omega)] at z
    omega
  intro d
  induction d with
  | zero =>
    intro i M A o5 o6 nc ns h hi hI hc hs0
    exact out i M o5 o6 nc ns (by omega) hi hI.2.2.2.2.2 (by omega)
  | succ d ih =>
    intro i M A o5 o6 nc ns h hi hI hc hs0
    have hl : ylen M = N := hI.2.2.2.2.2
    have hn : nc + 4 ≤ 601024 ∧ ns + 24 ≤ 7293034 := by omega
    by_cases q : 4 * i + 4 ≤ N
    · have e := e240_23 (x4 := Int32.ofNat (4 * i)) (o5 := o5) (o6 := o6) (M := M) hn
      have h4 : (4 : Int32).toInt = 4 := by decide
      have hs1 : (Int32.ofNat N - 4).toInt = (N : Int) - 4 := by rw [i32_sub (by rw [ofN_toInt (by omega), h4]; omega) (by rw [ofN_toInt (by omega), h4]; omega), ofN_toInt (by omega), h4]
      rw [hl, if_pos (by rw [i32_le, hs1, ofN_toInt (by omega)]; omega), if_pos (yin_ofN (by omega) (by omega))] at e
      have y1 : yinB (Int32.ofNat (4 * i) + 1) N = true := by rw [ofN_ad (m := 1) (v := 1) rfl]; exact yin_ofN (by omega) (by omega)
      have y2 : yinB (Int32.ofNat (4 * i) + 2) N = true := by rw [ofN_ad (m := 2) (v := 2) rfl]; exact yin_ofN (by omega) (by omega)
      have y3 : yinB (Int32.ofNat (4 * i) + 3) N = true := by rw [ofN_ad (m := 3) (v := 3) rfl]; exact yin_ofN (by omega) (by omega)
      have hk : LK S N (Int32.ofNat (4 * i)) nc ns := fun M' A' p5 p6 nc' ns' hI' c1 c2 => by
        rw [ofN_ad (m := 4) (v := 4) rfl, show 4 * i + 4 = 4 * (i + 1) by omega]
        exact ih (i + 1) M' A' p5 p6 nc' ns' (by omega) (by omega) hI' (by omega) (by omega)
      by_cases z0 : (M 0 (yx (Int32.ofNat (4 * i))) &&& 31) = 0
      · rw [if_pos z0] at e
        obtain ⟨M', k⟩ := l_176 (o5 := o5) (o6 := o6) hI hn y1 y2 y3 hk
        exact ⟨M', yL.I e k⟩
      rw [if_neg z0] at e
      by_cases z1 : (M 0 (yx (Int32.ofNat (4 * i))) &&& 31) = 1
      · rw [if_pos z1] at e
        obtain ⟨M', k⟩ := l_232 (o5 := o5) (o6 := o6) hI hn y1 y2 y3 hk
        exact ⟨M', yL.I e k⟩
      rw [if_neg z1] at e
      by_cases z2 : (M 0 (yx (Int32.ofNat (4 * i))) &&& 31) = 2
      · rw [if_pos z2] at e
        obtain ⟨M', k⟩ := l_245 (o5 := o5) (o6 := o6) hI hn y1 y2 y3 hk
        exact ⟨M', yL.I e k⟩
      rw [if_neg z2] at e
      by_cases z3 : (M 0 (yx (Int32.ofNat (4 * i))) &&& 31) = 3
      · rw [if_pos z3] at e
        obtain ⟨M', k⟩ := l_258 (o5 := o5) (o6 := o6) hI hn y1 y2 y3 hk
        exact ⟨M', yL.I e k⟩
      rw [if_neg z3] at e
      by_cases z4 : (M 0 (yx (Int32.ofNat (4 * i))) &&& 31) = 4
      · rw [if_pos z4] at e
        obtain ⟨M', k⟩ := l_302 (o5 := o5) (o6 := o6) hI hn y1 y2 y3 hk
        exact ⟨M', yL.I e k⟩
      rw [if_neg z4] at e
      by_cases z5 : (M 0 (yx (Int32.ofNat (4 * i))) &&& 31) = 5
      · rw [if_pos z5] at e
        obtain ⟨M', k⟩ := l_358 (o5 := o5) (o6 := o6) hI hn y1 y2 y3 hk
        exact ⟨M', yL.I e k⟩
      rw [if_neg z5] at e
      by_cases z6 : (M 0 (yx (Int32.ofNat (4 * i))) &&& 31) = 6
      · rw [if_pos z6] at e
        obtain ⟨M', k⟩ := l_426 (o5 := o5) (o6 := o6) hI hn y1 y2 y3 hk
        exact ⟨M', yL.I e k⟩
      rw [if_neg z6] at e
      by_cases z7 : (M 0 (yx (Int32.ofNat (4 * i))) &&& 31) = 7
      · rw [if_pos z7] at e
        obtain ⟨M', k⟩ := l_494 (o5 := o5) (o6 := o6) hI hn y1 y2 y3 hk
        exact ⟨M', yL.I e k⟩
      rw [if_neg z7] at e
      by_cases z8 : (M 0 (yx (Int32.ofNat (4 * i))) &&& 31) = 8
      · rw [if_pos z8] at e
        obtain ⟨M', k⟩ := l_562 (o5 := o5) (o6 := o6) hI hn y1 y2 y3 hk
        exact ⟨M', yL.I e k⟩
      rw [if_neg z8] at e
      by_cases z9 : (M 0 (yx (Int32.ofNat (4 * i))) &&& 31) = 9
      · rw [if_pos z9] at e
        obtain ⟨M', k⟩ := l_618 (o5 := o5) (o6 := o6) hI hn y1 y2 y3 hk
        exact ⟨M', yL.I e k⟩
      rw [if_neg z9] at e
      by_cases z10 : (M 0 (yx (Int32.ofNat (4 * i))) &&& 31) = 10
      · rw [if_pos z10] at e
        obtain ⟨M', k⟩ := l_674 (o5 := o5) (o6 := o6) hI hn y1 y2 y3 hk
        exact ⟨M', yL.I e k⟩
      rw [if_neg z10] at e
      by_cases z11 : (M 0 (yx (Int32.ofNat (4 * i))) &&& 31) = 11
      · rw [if_pos z11] at e
        obtain ⟨M', k⟩ := l_730 (o5 := o5) (o6 := o6) hI hn y1 y2 y3 hk
        exact ⟨M', yL.I e k⟩
      rw [if_neg z11] at e
      by_cases z12 : (M 0 (yx (Int32.ofNat (4 * i))) &&& 31) = 12
      · rw [if_pos z12] at e
        obtain ⟨M', k⟩ := l_798 (o5 := o5) (o6 := o6) hI hn y1 y2 y3 hk
        exact ⟨M', yL.I e k⟩
      rw [if_neg z12] at e
      by_cases z13 : (M 0 (yx (Int32.ofNat (4 * i))) &&& 31) = 13
      · rw [if_pos z13] at e
        obtain ⟨M', k⟩ := l_854 (o5 := o5) (o6 := o6) hI hn y1 y2 y3 hk
        exact ⟨M', yL.I e k⟩
      rw [if_neg z13] at e
      by_cases z14 : (M 0 (yx (Int32.ofNat (4 * i))) &&& 31) = 14
      · rw [if_pos z14] at e
        obtain ⟨M', k⟩ := l_922 (o5 := o5) (o6 := o6) hI hn y1 y2 y3 hk
        exact ⟨M', yL.I e k⟩
      rw [if_neg z14] at e
      by_cases z15 : (M 0 (yx (Int32.ofNat (4 * i))) &&& 31) = 15
      · rw [if_pos z15] at e
        obtain ⟨M', k⟩ := l_990 (o5 := o5) (o6 := o6) hI hn y1 y2 y3 hk
        exact ⟨M', yL.I e k⟩
      rw [if_neg z15] at e
      by_cases z16 : (M 0 (yx (Int32.ofNat (4 * i))) &&& 31) = 16
      · rw [if_pos z16] at e
        obtain ⟨M', k⟩ := l_1086 (o5 := o5) (o6 := o6) hI hn y1 y2 y3 hk
        exact ⟨M', yL.I e k⟩
      rw [if_neg z16] at e
      by_cases z17 : (M 0 (yx (Int32.ofNat (4 * i))) &&& 31) = 17
      · rw [if_pos z17] at e
        obtain ⟨M', k⟩ := l_1154 (o5 := o5) (o6 := o6) hI hn y1 y2 y3 hk
        exact ⟨M', yL.I e k⟩
      rw [if_neg z17] at e
      by_cases z18 : (M 0 (yx (Int32.ofNat (4 * i))) &&& 31) = 18
      · rw [if_pos z18] at e
        obtain ⟨M', k⟩ := l_1250 (o5 := o5) (o6 := o6) hI hn y1 y2 y3 hk
        exact ⟨M', yL.I e k⟩
      rw [if_neg z18] at e
      by_cases z19 : (M 0 (yx (Int32.ofNat (4 * i))) &&& 31) = 19
      · rw [if_pos z19] at e
        obtain ⟨M', k⟩ := l_1346 (o5 := o5) (o6 := o6) hI hn y1 y2 y3 hk
        exact ⟨M', yL.I e k⟩
      rw [if_neg z19] at e
      by_cases z20 : (M 0 (yx (Int32.ofNat (4 * i))) &&& 31) = 20
      · rw [if_pos z20] at e
        obtain ⟨M', k⟩ := l_1414 (o5 := o5) (o6 := o6) hI hn y1 y2 y3 hk
        exact ⟨M', yL.I e k⟩
      rw [if_neg z20] at e
      by_cases z21 : (M 0 (yx (Int32.ofNat (4 * i))) &&& 31) = 21
      · rw [if_pos z21] at e
        obtain ⟨M', k⟩ := l_1482 (o5 := o5) (o6 := o6) hI hn y1 y2 y3 hk
        exact ⟨M', yL.I e k⟩
      rw [if_neg z21] at e
      by_cases z22 : (M 0 (yx (Int32.ofNat (4 * i))) &&& 31) = 22
      · rw [if_pos z22] at e
        obtain ⟨M', k⟩ := l_1526 (o5 := o5) (o6 := o6) hI hn y1 y2 y3 hk
        exact ⟨M', yL.I e k⟩
      rw [if_neg z22] at e
      by_cases z23 : (M 0 (yx (Int32.ofNat (4 * i))) &&& 31) = 23
      · rw [if_pos z23] at e
        obtain ⟨M', k⟩ := l_1594 (o5 := o5) (o6 := o6) hI hn y1 y2 y3 hk
        exact ⟨M', yL.I e k⟩
      rw [if_neg z23] at e
      by_cases z24 : (M 0 (yx (Int32.ofNat (4 * i))) &&& 31) = 24
      · rw [if_pos z24] at e
        obtain ⟨M', k⟩ := l_1662 (o5 := o5) (o6 := o6) hI hn y1 y2 y3 hk
        exact ⟨M', yL.I e k⟩
      rw [if_neg z24] at e
      by_cases z25 : (M 0 (yx (Int32.ofNat (4 * i))) &&& 31) = 25
      · rw [if_pos z25] at e
        obtain ⟨M', k⟩ := l_1718 (o5 := o5) (o6 := o6) hI hn y1 y2 y3 hk
        exact ⟨M', yL.I e k⟩
      rw [if_neg z25] at e
      by_cases z26 : (M 0 (yx (Int32.ofNat (4 * i))) &&& 31) = 26
      · rw [if_pos z26] at e
        obtain ⟨M', k⟩ := l_1731 (o5 := o5) (o6 := o6) hI hn y1 y2 y3 hk
        exact ⟨M', yL.I e k⟩
      rw [if_neg z26] at e
      by_cases z27 : (M 0 (yx (Int32.ofNat (4 * i))) &&& 31) = 27
      · rw [if_pos z27] at e
        obtain ⟨M', k⟩ := l_1799 (o5 := o5) (o6 := o6) hI hn y1 y2 y3 hk
        exact ⟨M', yL.I e k⟩
      rw [if_neg z27] at e
      by_cases z28 : (M 0 (yx (Int32.ofNat (4 * i))) &&& 31) = 28
      · rw [if_pos z28] at e
        obtain ⟨M', k⟩ := l_1899 (o5 := o5) (o6 := o6) hI hn y1 y2 y3 hk
        exact ⟨M', yL.I e k⟩
      rw [if_neg z28] at e
      by_cases z29 : (M 0 (yx (Int32.ofNat (4 * i))) &&& 31) = 29
      · rw [if_pos z29] at e
        obtain ⟨M', k⟩ := l_1999 (o5 := o5) (o6 := o6) hI hn y1 y2 y3 hk
        exact ⟨M', yL.I e k⟩
      rw [if_neg z29] at e
      by_cases z30 : (M 0 (yx (Int32.ofNat (4 * i))) &&& 31) = 30
      · rw [if_pos z30] at e
        obtain ⟨M', k⟩ := l_2055 (o5 := o5) (o6 := o6) hI hn y1 y2 y3 hk
        exact ⟨M', yL.I e k⟩
      rw [if_neg z30] at e
      obtain ⟨M', k⟩ := hk M A o5 o6 nc ns hI (by omega) (by omega)
      exact ⟨M', yL.I e k⟩
    · exact out i M o5 o6 nc ns (by omega) hi hl hn
