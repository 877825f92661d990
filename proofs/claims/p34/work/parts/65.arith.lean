/-! numbers: quotients and rests, and counts that are never below nothing -/
theorem ofN_div {a b : Nat} (ha : a < 2147483648) (hb : b < 2147483648) (h0 : 0 < b) : Int32.ofNat a / Int32.ofNat b = Int32.ofNat (a / b) := by
  have h := Nat.div_le_self a b
  rw [i32_eq, i32_div (by rw [ofN_toInt ha]; omega) (by rw [ofN_toInt hb]; omega), ofN_toInt ha, ofN_toInt hb, ofN_toInt (by omega)]
  exact (Int.natCast_ediv a b).symm
theorem ofN_mod {a b : Nat} (ha : a < 2147483648) (hb : b < 2147483648) : Int32.ofNat a % Int32.ofNat b = Int32.ofNat (a % b) := by
  have h := Nat.mod_le a b
  rw [i32_eq, i32_mod (by rw [ofN_toInt ha]; omega), ofN_toInt ha, ofN_toInt hb, ofN_toInt (by omega)]
  exact (Int.natCast_emod a b).symm
theorem dv {a b : Nat} {V : Int32} (hV : Int32.ofNat b = V) (ha : a < 2147483648) (hb : b < 2147483648) (h0 : 0 < b) : Int32.ofNat a / V = Int32.ofNat (a / b) := by rw [← hV, ofN_div ha hb h0]
theorem md {a b : Nat} {V : Int32} (hV : Int32.ofNat b = V) (ha : a < 2147483648) (hb : b < 2147483648) : Int32.ofNat a % V = Int32.ofNat (a % b) := by rw [← hV, ofN_mod ha hb]
theorem oe {a b : Nat} {V : Int32} (hV : Int32.ofNat b = V) (ha : a < 2147483648) (hb : b < 2147483648) : (Int32.ofNat a = V) = (a = b) := by
  rw [← hV]
  refine propext ⟨fun z => ?_, fun z => by rw [z]⟩
  have := congrArg yx z
  rw [yx_ofN ha, yx_ofN hb] at this
  exact this
theorem ole {a b : Nat} {V : Int32} (hV : Int32.ofNat b = V) (ha : a < 2147483648) (hb : b < 2147483648) : (Int32.ofNat a ≤ V) = (a ≤ b) := by
  rw [← hV]
  exact propext (ofN_leI ha hb)
theorem olt {a b : Nat} {V : Int32} (hV : Int32.ofNat b = V) (ha : a < 2147483648) (hb : b < 2147483648) : (Int32.ofNat a < V) = (a < b) := by
  rw [← hV]
  exact propext (ofN_lt ha hb)
section NN
theorem bet_t {x : Int32} {n : Nat} {V : Int32} (hV : Int32.ofNat n = V) (hn : n < 2147483648) : bet x 0 V ↔ 0 ≤ x.toInt ∧ x.toInt ≤ n := by
  unfold bet
  rw [i32_le, i32_le, ← hV, ofN_toInt hn]
  exact Iff.rfl
/-- sums of what is not below nothing -/
theorem sum_nn {f : Nat → Int32} {K : Nat} : ∀ d, K * d < 2147483648 → (∀ m, m < d → 0 ≤ (f m).toInt ∧ (f m).toInt ≤ K) → 0 ≤ (yfo (fun m a => a + f m) 0 d 0).toInt ∧ (yfo (fun m a => a + f m) 0 d 0).toInt ≤ (K * d : Nat) := by
  intro d
  induction d with
  | zero =>
    intro _ _
    have e0 : (0 : Int32).toInt = 0 := rfl
    show 0 ≤ (0 : Int32).toInt ∧ (0 : Int32).toInt ≤ (K * 0 : Nat)
    rw [e0]
    omega
  | succ d ih =>
    intro hK hf
    have e : K * (d + 1) = K * d + K := Nat.mul_succ K d
    obtain ⟨h1, h2⟩ := ih (by omega) (fun m hm => hf m (by omega))
    obtain ⟨f1, f2⟩ := hf d (by omega)
    rw [yfo_s, Nat.zero_add]
    show 0 ≤ (yfo (fun m a => a + f m) 0 d 0 + f d).toInt ∧ (yfo (fun m a => a + f m) 0 d 0 + f d).toInt ≤ (K * (d + 1) : Nat)
    rw [i32_add (by omega) (by omega)]
    omega
theorem gr_t : ∀ m, m < 4 → 6 ≤ (gr m).toInt ∧ (gr m).toInt ≤ 2304 := by decide +kernel
theorem Sun_t (r : yRow) : 6 ≤ (Sun r).toInt ∧ (Sun r).toInt ≤ 2304 := by
  rcases Sun_cases r with h | h | h | h <;> rw [h] <;> decide +kernel
theorem Srq_t {u x : Int32} (hu : 6 ≤ u.toInt ∧ u.toInt ≤ 2304) (hx : 0 ≤ x.toInt ∧ x.toInt ≤ 1300000) : 0 ≤ (Srq u x).toInt ∧ (Srq u x).toInt ≤ 1300000 := by
  unfold Srq
  split
  · omega
  · have h1 := i32_div (a := x) (b := u) hx.1 (by omega)
    have h2 := Int.ediv_mul_le x.toInt (show u.toInt ≠ 0 by omega)
    have h3 := Int.ediv_nonneg hx.1 (show 0 ≤ u.toInt by omega)
    have h4 := Int.mul_nonneg h3 (show 0 ≤ u.toInt by omega)
    rw [i32_mul (by rw [h1]; omega) (by rw [h1]; omega), h1]
    omega
theorem Sro_t {r : yRow} (ok : rok r) {n : Nat} (hn : n < many r) {w : Int32} (hw : bet w 1 24) : 0 ≤ (Sro r n w).toInt ∧ (Sro r n w).toInt ≤ 1300000 := by
  obtain ⟨s1, s2⟩ := Ssc_bet ok hn hw
  rw [i32_le] at s1 s2
  have e1 : (1 : Int32).toInt = 1 := rfl
  have e4 : (1200000 : Int32).toInt = 1200000 := rfl
  have e0 : (0 : Int32).toInt = 0 := rfl
  have e2 : (2 : Int32).toInt = 2 := rfl
  rw [e1] at s1
  rw [e4] at s2
  have hu := Sun_t r
  unfold Sro
  split
  · refine Srq_t hu ?_
    rw [x_0]
    omega
  · split
    · refine Srq_t hu ?_
      have h1 := i32_div (a := Sun r) (b := 2) (by omega) (by decide)
      rw [e2] at h1
      rw [i32_add (by omega) (by omega)]
      omega
    · refine Srq_t hu ?_
      have h1 := i32_sub (a := Sun r) (b := 1) (by omega) (by omega)
      rw [e1] at h1
      rw [i32_add (by omega) (by omega)]
      omega
theorem Srd_t (k : Int32) (m : Nat) : ∀ d (x : Int32), m + d < 4 → 0 ≤ x.toInt ∧ x.toInt ≤ 1300000 → 0 ≤ (Srd k m d x).toInt ∧ (Srd k m d x).toInt ≤ 1300000 := by
  intro d
  induction d with
  | zero => intro x _ h; exact h
  | succ d ih =>
    intro x hm h
    rw [Srd_s]
    refine ih _ (by omega) ?_
    split
    · have hg := gr_t (m + d + 1) (by omega)
      rw [i32_mod h.1]
      have h1 := Int.emod_nonneg x.toInt (show (gr (m + d + 1)).toInt ≠ 0 by omega)
      have h2 := Int.emod_lt_of_pos x.toInt (show 0 < (gr (m + d + 1)).toInt by omega)
      omega
    · exact h
theorem Ssp_t (k : Int32) {m : Nat} (hm : m < 4) {x : Int32} (h : 0 ≤ x.toInt ∧ x.toInt ≤ 1300000) : 0 ≤ (Ssp k m x).toInt ∧ (Ssp k m x).toInt ≤ 1300000 := by
  unfold Ssp
  split
  · have hg := gr_t m hm
    have h1 := Srd_t k m (3 - m) x (by omega) h
    rw [i32_div h1.1 (by omega)]
    have h2 := Int.ediv_nonneg h1.1 (show 0 ≤ (gr m).toInt by omega)
    have h3 := Int.ediv_le_self (gr m).toInt h1.1
    omega
  · exact ⟨by decide, by decide⟩
theorem Ssa_t {r : yRow} (ok : rok r) {n : Nat} (hn : n < many r) {w : Int32} (hw : bet w 1 24) : 0 ≤ (Ssa r n w).toInt ∧ (Ssa r n w).toInt ≤ 5200000 :=
  sum_nn (K := 1300000) 4 (by omega) (fun m hm => Ssp_t (r 90) hm (Sro_t ok hn hw))
theorem Sall_t {r : yRow} (ok : rok r) {w : Int32} (hw : bet w 1 24) : 0 ≤ (Sall r w).toInt := by
  have hm := (rokm ok).1
  exact (sum_nn (f := fun n => Ssa r n w) (K := 5200000) (many r) (by omega) (fun n hn => Ssa_t ok hn hw)).1
theorem Sall_nn {r : yRow} (ok : rok r) {w : Int32} (hw : bet w 1 24) : ¬ Sall r w < 0 := by
  have := Sall_t ok hw
  rw [i32_lt]
  have e0 : (0 : Int32).toInt = 0 := rfl
  omega
theorem bts_nn (s : Int32) {d : Nat} (hd : d ≤ 31) : ¬ bts s d < 0 := by
  rw [bts_cnt]
  have := cnt_le (fun n => hs s (Int32.ofNat n)) d
  rw [olt (b := 0) (V := 0) rfl (by omega) (by omega)]
  omega
end NN
section L64
theorem l_eq {a b : Int64} : a = b ↔ a.toInt = b.toInt := Int64.toInt_inj.symm
theorem l_toInt {n : Nat} (h : n < 9223372036854775808) : (Int64.ofNat n).toInt = n := Int64.toInt_ofNat_of_lt h
theorem l_le {a b : Nat} (ha : a < 9223372036854775808) (hb : b < 9223372036854775808) : (Int64.ofNat a ≤ Int64.ofNat b) = (a ≤ b) := by
  refine propext ?_
  rw [Int64.le_iff_toInt_le, l_toInt ha, l_toInt hb]
  omega
theorem l_lt {a b : Nat} (ha : a < 9223372036854775808) (hb : b < 9223372036854775808) : (Int64.ofNat a < Int64.ofNat b) = (a < b) := by
  refine propext ?_
  rw [Int64.lt_iff_toInt_lt, l_toInt ha, l_toInt hb]
  omega
theorem l_mul {a b : Nat} : Int64.ofNat a * Int64.ofNat b = Int64.ofNat (a * b) := (Int64.ofNat_mul a b).symm
theorem l_div {a b : Nat} (ha : a < 9223372036854775808) (hb : b < 9223372036854775808) (h0 : 0 < b) : Int64.ofNat a / Int64.ofNat b = Int64.ofNat (a / b) := by
  have h := Nat.div_le_self a b
  have h3 : (((a / b : Nat) : Int)) < 9223372036854775808 := by omega
  rw [l_eq, Int64.toInt_div, l_toInt ha, l_toInt hb, l_toInt (by omega), Int.tdiv_eq_ediv_of_nonneg (by omega), ← Int.natCast_ediv]
  generalize a / b = c at h h3 ⊢
  exact Int.bmod_eq_of_le (by omega) (by omega)
theorem l_mod {a b : Nat} (ha : a < 9223372036854775808) (hb : b < 9223372036854775808) : Int64.ofNat a % Int64.ofNat b = Int64.ofNat (a % b) := by
  have h := Nat.mod_le a b
  rw [l_eq, Int64.toInt_mod, l_toInt ha, l_toInt hb, l_toInt (by omega), Int.tmod_eq_emod_of_nonneg (by omega)]
  exact (Int.natCast_emod a b).symm
theorem l_sub {a b : Nat} (ha : a < 9223372036854775808) (h : b ≤ a) : Int64.ofNat a - Int64.ofNat b = Int64.ofNat (a - b) := by
  rw [l_eq, Int64.toInt_sub, l_toInt ha, l_toInt (by omega), l_toInt (by omega)]
  have : ((a - b : Nat) : Int) = (a : Int) - b := by omega
  rw [this]
  exact Int.bmod_eq_of_le (by omega) (by omega)
theorem l_32 {n : Nat} (h : n < 2147483648) : (Int64.ofNat n).toInt32 = Int32.ofNat n := by
  rw [i32_eq, Int64.toInt_toInt32, l_toInt (by omega), ofN_toInt h]
  exact Int.bmod_eq_of_le (by omega) (by omega)
theorem of_l {x : Int64} (h : 0 ≤ x.toInt) : ∃ n, n < 9223372036854775808 ∧ x = Int64.ofNat n := by
  have h2 := x.toInt_lt
  refine ⟨x.toInt.toNat, by omega, ?_⟩
  rw [l_eq, l_toInt (by omega)]
  omega
end L64
