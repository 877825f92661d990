/-! amounts: a card as a row of 95 numbers; what both sides work out of it -/
abbrev yRow : Type := Nat → Int32
def many (r : yRow) : Nat := yx (r 0)
def stps (r : yRow) : Nat := yx (r 15)
abbrev bet (x l m : Int32) : Prop := l ≤ x ∧ x ≤ m
/-- the numbers of a row keep their bounds -/
def rok (r : yRow) : Prop := bet (r 0) 0 12 ∧ bet (r 15) 0 14 ∧ bet (r 13) 1 24 ∧ bet (r 14) 1 24 ∧ (∀ i, i < many r → bet (r (1 + i)) 1 50000) ∧ (∀ s, s < stps r → bet (r (16 + s)) 1 150 ∧ bet (r (30 + s)) (-1) 3 ∧ bet (r (44 + s)) 0 1 ∧ blw (r (58 + s)) 12 ∧ blw (r (72 + s)) (stps r)) ∧ (∀ k, k < 4 → bet (r (86 + k)) 0 4) ∧ bet (r 90) 1 15 ∧ bet (r 91) 0 2 ∧ bet (r 92) 0 20 ∧ bet (r 93) 1 3 ∧ bet (r 94) 0 3
/-- the card at c is told by the row r -/
def rc (M : yM) (c : Nat) (r : yRow) : Prop := M c 0 = r 0 ∧ M c 1 = r 15 ∧ M c 2 = r 13 ∧ M c 3 = r 14 ∧ (∀ i, i < many r → M (c + 1) i = r (1 + i)) ∧ (∀ s, s < stps r → M (c + 2) s = r (16 + s) ∧ M (c + 3) s = r (30 + s) ∧ M (c + 4) s = r (44 + s) ∧ M (c + 5) s = r (58 + s) ∧ M (c + 6) s = r (72 + s)) ∧ (∀ k, k < 4 → M (c + 7) k = r (86 + k)) ∧ (∀ k, k < 5 → M (c + 8) k = r (90 + k))
theorem bet_nat {x m : Int32} {N : Nat} (h : bet x 0 m) (hm : Int32.ofNat N = m) (hN : N < 2147483648) : yx x ≤ N ∧ x = Int32.ofNat (yx x) := by
  subst hm
  obtain ⟨h1, h2⟩ := h
  rw [i32_le] at h1 h2
  rw [ofN_toInt hN] at h2
  have e0 : (0 : Int32).toInt = 0 := rfl
  rw [e0] at h1
  have e := yx_def x
  exact ⟨by omega, of_yx h1⟩
section ROK
variable {r : yRow}
theorem rokm (h : rok r) : many r ≤ 12 ∧ r 0 = Int32.ofNat (many r) := bet_nat h.1 rfl (by omega)
theorem roks (h : rok r) : stps r ≤ 14 ∧ r 15 = Int32.ofNat (stps r) := bet_nat h.2.1 rfl (by omega)
theorem rok13 (h : rok r) : bet (r 13) 1 24 := h.2.2.1
theorem rok14 (h : rok r) : bet (r 14) 1 24 := h.2.2.2.1
theorem roka (h : rok r) {i : Nat} (hi : i < many r) : bet (r (1 + i)) 1 50000 := h.2.2.2.2.1 i hi
theorem rokst (h : rok r) {s : Nat} (hi : s < stps r) : bet (r (16 + s)) 1 150 ∧ bet (r (30 + s)) (-1) 3 ∧ bet (r (44 + s)) 0 1 ∧ blw (r (58 + s)) 12 ∧ blw (r (72 + s)) (stps r) := h.2.2.2.2.2.1 s hi
theorem rokp (h : rok r) {k : Nat} (hi : k < 4) : bet (r (86 + k)) 0 4 := h.2.2.2.2.2.2.1 k hi
theorem rokse (h : rok r) : bet (r 90) 1 15 ∧ bet (r 91) 0 2 ∧ bet (r 92) 0 20 ∧ bet (r 93) 1 3 ∧ bet (r 94) 0 3 := h.2.2.2.2.2.2.2
theorem ing_nat (h : rok r) {i : Int32} : (0 ≤ i ∧ i ≤ r 0 - 1) ↔ ∃ n, n < many r ∧ i = Int32.ofNat n := by
  obtain ⟨h1, h2⟩ := rokm h
  have hb := h.1
  constructor
  · intro ⟨ha, hb2⟩
    obtain ⟨g1, g2⟩ := bet_nat (x := i) (m := 11) ⟨ha, by grind⟩ (N := 11) rfl (by omega)
    refine ⟨yx i, ?_, g2⟩
    have h3 : i < r 0 := by grind
    rw [g2, h2, ofN_lt (by omega) (by omega)] at h3
    exact h3
  · intro ⟨n, hn, e⟩
    subst e
    have h3 : Int32.ofNat n < r 0 := by rw [h2, ofN_lt (by omega) (by omega)]; exact hn
    have h4 : 0 ≤ Int32.ofNat n := by
      rw [i32_le, ofN_toInt (by omega)]
      have e0 : (0 : Int32).toInt = 0 := rfl
      omega
    exact ⟨h4, by grind⟩
theorem stp_nat (h : rok r) {i : Int32} : (0 ≤ i ∧ i ≤ r 15 - 1) ↔ ∃ n, n < stps r ∧ i = Int32.ofNat n := by
  obtain ⟨h1, h2⟩ := roks h
  have hb := h.2.1
  constructor
  · intro ⟨ha, hb2⟩
    obtain ⟨g1, g2⟩ := bet_nat (x := i) (m := 13) ⟨ha, by grind⟩ (N := 13) rfl (by omega)
    refine ⟨yx i, ?_, g2⟩
    have h3 : i < r 15 := by grind
    rw [g2, h2, ofN_lt (by omega) (by omega)] at h3
    exact h3
  · intro ⟨n, hn, e⟩
    subst e
    have h3 : Int32.ofNat n < r 15 := by rw [h2, ofN_lt (by omega) (by omega)]; exact hn
    have h4 : 0 ≤ Int32.ofNat n := by
      rw [i32_le, ofN_toInt (by omega)]
      have e0 : (0 : Int32).toInt = 0 := rfl
      omega
    exact ⟨h4, by grind⟩
end ROK
theorem ofN_addl {c n : Nat} {v : Int32} (hv : Int32.ofNat c = v) : v + Int32.ofNat n = Int32.ofNat (c + n) := by rw [← hv, Int32.ofNat_add]
theorem rofs {c n : Nat} (hn : c + n < 95) {v : Int32} (hv : Int32.ofNat c = v) : yinB (v + Int32.ofNat n) 95 = true ∧ yx (v + Int32.ofNat n) = c + n := by
  rw [ofN_addl hv]
  exact ⟨yin_ofN hn (by omega), yx_ofN (by omega)⟩
def Ssc (r : yRow) (i : Nat) (w : Int32) : Int32 := if (r (1 + i) * w) / r 13 < 1 then 1 else (r (1 + i) * w) / r 13
def Sun (r : yRow) : Int32 := if hs (r 90) 0 then 6 else if hs (r 90) 1 then 48 else if hs (r 90) 2 then 144 else 2304
def Srq (u x : Int32) : Int32 := if x / u < 1 then u else x / u * u
def Sro (r : yRow) (i : Nat) (w : Int32) : Int32 := if r 91 = 0 then Srq (Sun r) (Ssc r i w + 0) else if r 91 = 1 then Srq (Sun r) (Ssc r i w + Sun r / 2) else Srq (Sun r) (Ssc r i w + (Sun r - 1))
theorem kit15 : ∀ n, n < 16 → 1 ≤ n → hs (Int32.ofNat n) 0 ∨ hs (Int32.ofNat n) 1 ∨ hs (Int32.ofNat n) 2 ∨ hs (Int32.ofNat n) 3 := by decide +kernel
theorem kit_some {r : yRow} (ok : rok r) : hs (r 90) 0 ∨ hs (r 90) 1 ∨ hs (r 90) 2 ∨ hs (r 90) 3 := by
  have hb := (rokse ok).1
  obtain ⟨g1, g2⟩ := bet_nat (x := r 90) (m := 15) ⟨by grind, hb.2⟩ (N := 15) rfl (by omega)
  have h1 := hb.1
  rw [g2] at h1 ⊢
  rw [i32_le, ofN_toInt (by omega)] at h1
  have e1 : (1 : Int32).toInt = 1 := rfl
  rw [e1] at h1
  exact kit15 _ (by omega) (by omega)
theorem Sun_cases (r : yRow) : Sun r = 6 ∨ Sun r = 48 ∨ Sun r = 144 ∨ Sun r = 2304 := by
  unfold Sun
  split
  · exact Or.inl rfl
  · split
    · exact Or.inr (Or.inl rfl)
    · split
      · exact Or.inr (Or.inr (Or.inl rfl))
      · exact Or.inr (Or.inr (Or.inr rfl))
section AMT
variable {M : yM}
theorem Srq_ite {u x : Int32} (hu : u ≠ 0) {M : yM} : (if u = 0 then none else if x / u < 1 then yI u M else yI (x / u * u) M) = yI (Srq u x) M := by
  unfold Srq
  rw [if_neg hu]
  split <;> rfl
theorem Sun_nz (r : yRow) : Sun r ≠ 0 := by rcases Sun_cases r with h | h | h | h <;> rw [h] <;> decide
theorem c3 {c : Nat} (hc : yC c) {r : yRow} (h : rc M c r) {i : Int32} : yX 3 0 [some (.ref c), some (.int i)] [] M 0 0 = yI (yb (0 ≤ i ∧ i ≤ r 0 - 1)) M :=
  yL.I (e3 hc) (by rw [c94, yCi_I, yZ_b, h.1])
theorem c4 {c : Nat} (hc : yC c) {r : yRow} (h : rc M c r) {i : Int32} : yX 4 0 [some (.ref c), some (.int i)] [] M 0 0 = yI (yb (0 ≤ i ∧ i ≤ r 15 - 1)) M :=
  yL.I (e4 hc) (by rw [c94, yCi_I, yZ_b, h.2.1])
theorem c11 {c : Nat} (hc : yC c) {r : yRow} (h : rc M c r) (ok : rok r) {n : Nat} (hn : n < many r) {w : Int32} : yX 11 0 [some (.ref c), some (.int (Int32.ofNat n)), some (.int w), none] [] M 0 0 = yI (Ssc r n w) M := by
  obtain ⟨h0, h1, h2, h3, ha, hst, hp, hse⟩ := h
  have hm := (rokm ok).1
  have h13 := rok13 ok
  refine yL.I (e11 hc) ?_
  rw [h2, if_neg (by grind), if_pos (yin_ofN (by omega) (by omega)), if_neg (by grind), yx_ofN (by omega), ha n hn]
  unfold Ssc
  split <;> rfl
/-- the least measure's number -/
def Slm (r : yRow) : Nat := if hs (r 90) 0 then 0 else if hs (r 90) 1 then 1 else if hs (r 90) 2 then 2 else 3
theorem Slm_lt (r : yRow) : Slm r < 4 := by
  unfold Slm
  repeat' split
  all_goals omega
theorem Sun_lm (r : yRow) : xsR0 4 (Slm r) = Sun r := by
  unfold Slm Sun
  repeat' split
  all_goals rfl
theorem c13 {c : Nat} (hc : yC c) {r : yRow} (h : rc M c r) (ok : rok r) : yX 13 0 [some (.ref c), none] [] M 0 0 = yI (Int32.ofNat (Slm r)) M := by
  have hk := kit_some ok
  have e0 : M (c + 8) 0 = r 90 := h.2.2.2.2.2.2.2 0 (by omega)
  refine yL.I (e13 hc) (yL.I (e13_2 hc) ?_)
  unfold Slm
  rw [if_pos (by decide), c99, yCi_I, e0]
  simp only [yb_0]
  by_cases h0 : hs (r 90) 0
  · rw [if_neg (not_not_intro h0), if_pos h0]; rfl
  · rw [if_pos h0, if_neg h0]
    refine yL.I (e13_2 hc) ?_
    rw [show (0 : Int32) + 1 = 1 from rfl, if_pos (by decide), c99, yCi_I, e0]
    simp only [yb_0]
    by_cases h1 : hs (r 90) 1
    · rw [if_neg (not_not_intro h1), if_pos h1]; rfl
    · rw [if_pos h1, if_neg h1]
      refine yL.I (e13_2 hc) ?_
      rw [show (1 : Int32) + 1 = 2 from rfl, if_pos (by decide), c99, yCi_I, e0]
      simp only [yb_0]
      by_cases h2 : hs (r 90) 2
      · rw [if_neg (not_not_intro h2), if_pos h2]; rfl
      · rw [if_pos h2, if_neg h2]
        have h3 : hs (r 90) 3 := by
          rcases hk with h | h | h | h
          · exact absurd h h0
          · exact absurd h h1
          · exact absurd h h2
          · exact h
        refine yL.I (e13_2 hc) ?_
        rw [show (2 : Int32) + 1 = 3 from rfl, if_pos (by decide), c99, yCi_I, e0]
        simp only [yb_0]
        rw [if_neg (not_not_intro h3)]; rfl
/-- a scaled amount is no more than 1200000 -/
theorem Ssc_bet {r : yRow} (ok : rok r) {n : Nat} (hn : n < many r) {w : Int32} (hw : bet w 1 24) : bet (Ssc r n w) 1 1200000 := by
  have ha := roka ok hn
  have h13 := rok13 ok
  unfold Ssc
  split
  · exact ⟨by decide, by decide⟩
  · next h =>
    obtain ⟨a1, a2⟩ := ha
    obtain ⟨w1, w2⟩ := hw
    obtain ⟨k1, k2⟩ := h13
    refine ⟨by grind, ?_⟩
    rw [i32_le] at a1 a2 w1 w2 k1 k2 ⊢
    have e1 : (1 : Int32).toInt = 1 := rfl
    have e2 : (50000 : Int32).toInt = 50000 := rfl
    have e3 : (24 : Int32).toInt = 24 := rfl
    have e4 : (1200000 : Int32).toInt = 1200000 := rfl
    rw [e1] at a1 w1 k1
    rw [e2] at a2
    rw [e3] at w2 k2
    rw [e4]
    have m1 : 0 ≤ (r (1 + n)).toInt * w.toInt := Int.mul_nonneg (by omega) (by omega)
    have m2 : (r (1 + n)).toInt * w.toInt ≤ 50000 * 24 := Int.mul_le_mul a2 w2 (by omega) (by omega)
    have m3 := i32_mul (a := r (1 + n)) (b := w) (by omega) (by omega)
    rw [i32_div (by omega) (by omega), m3]
    have m4 := Int.ediv_le_self (r 13).toInt m1
    omega
theorem half_eq {v u : Int32} (hv : bet v 1 1200000) (hu : u = 6 ∨ u = 48 ∨ u = 144 ∨ u = 2304) : (2 * v + u) / (2 * u) = (v + u / 2) / u := by
  obtain ⟨v1, v2⟩ := hv
  rw [i32_le] at v1 v2
  have e1 : (1 : Int32).toInt = 1 := rfl
  have e4 : (1200000 : Int32).toInt = 1200000 := rfl
  have e2 : (2 : Int32).toInt = 2 := rfl
  rw [e1] at v1
  rw [e4] at v2
  have hU : u.toInt = 6 ∨ u.toInt = 48 ∨ u.toInt = 144 ∨ u.toInt = 2304 := by
    rcases hu with h | h | h | h <;> rw [h]
    · exact Or.inl rfl
    · exact Or.inr (Or.inl rfl)
    · exact Or.inr (Or.inr (Or.inl rfl))
    · exact Or.inr (Or.inr (Or.inr rfl))
  have t1 := i32_mul (a := 2) (b := v) (by rw [e2]; omega) (by rw [e2]; omega)
  have t2 := i32_mul (a := 2) (b := u) (by rw [e2]; omega) (by rw [e2]; omega)
  rw [e2] at t1 t2
  have t3 := i32_add (a := 2 * v) (b := u) (by omega) (by omega)
  have t4 := i32_div (a := u) (b := 2) (by omega) (by rw [e2]; omega)
  rw [e2] at t4
  have t5 := i32_add (a := v) (b := u / 2) (by omega) (by omega)
  rw [i32_eq, i32_div (by omega) (by omega), i32_div (by omega) (by omega), t3, t5, t1, t2, t4]
  rcases hU with h | h | h | h <;> rw [h] <;> omega
theorem c12 {c : Nat} (hc : yC c) {r : yRow} (h : rc M c r) (ok : rok r) {n : Nat} (hn : n < many r) {w : Int32} (hw : bet w 1 24) : yX 12 0 [some (.ref c), some (.int (Int32.ofNat n)), some (.int w), none, none, none] [] M 0 0 = yI (Sro r n w) M := by
  have e1 : M (c + 8) 1 = r 91 := h.2.2.2.2.2.2.2 1 (by omega)
  have hl := Slm_lt r
  have hv := Ssc_bet ok hn hw
  refine yL.I (e12 hc) ?_
  rw [c13 hc h ok, yCi_I, if_pos (yin_ofN hl (by omega)), c11 hc h ok hn, yCi_I, e1, yx_ofN (by omega), Sun_lm]
  unfold Sro
  by_cases h0 : r 91 = 0
  · rw [if_pos h0, if_pos h0, Srq_ite (Sun_nz _), show Ssc r n w + 0 = Ssc r n w by grind]
  · rw [if_neg h0, if_neg h0]
    by_cases h1 : r 91 = 1
    · have hz : ¬ 2 * Sun r = 0 := by rcases Sun_cases r with h | h | h | h <;> rw [h] <;> decide
      rw [if_pos h1, if_pos h1, if_neg hz, half_eq hv (Sun_cases r)]
      unfold Srq
      split <;> rfl
    · rw [if_neg h1, if_neg h1, show Ssc r n w + Sun r - 1 = Ssc r n w + (Sun r - 1) by grind, Srq_ite (Sun_nz _)]
end AMT
