/-! longs out of ints; bits of a long; spoons make up what is rounded -/
theorem i64n {n : Nat} (h : n < 2147483648) : (Int32.ofNat n).toInt64 = Int64.ofNat n := nI_l h
theorem ls_k : ∀ k, k < 14 → (((Int32.ofNat k).toInt64 &&& 63).toBitVec.smod 64).toNat = k := by decide +kernel
theorem l_shr {n k : Nat} (hn : n < 2147483648) (hk : k < 14) : Int64.ofNat n >>> ((Int32.ofNat k).toInt64 &&& 63) = Int64.ofNat (n / 2 ^ k) := by
  apply Int64.toInt_inj.mp
  have h2 : n / 2 ^ k ≤ n := Nat.div_le_self _ _
  have h1 : (Int64.ofNat n >>> ((Int32.ofNat k).toInt64 &&& 63)).toInt = (Int64.ofNat n).toInt >>> k := by
    show ((Int64.ofNat n).toBitVec.sshiftRight (((Int32.ofNat k).toInt64 &&& 63).toBitVec.smod 64).toNat).toInt = _
    rw [ls_k k hk, BitVec.toInt_sshiftRight]
    rfl
  rw [h1, l_toInt (by omega), l_toInt (by omega), Int.shiftRight_eq_div_pow]
  rfl
theorem l_and1 {n : Nat} (hn : n < 2147483648) : Int64.ofNat n &&& 1 = Int64.ofNat (n % 2) := by
  apply Int64.toBitVec_inj.mp
  apply BitVec.eq_of_toNat_eq
  have e1 : (1 : Int64).toBitVec.toNat = 2 ^ 1 - 1 := by decide
  have e2 : (Int64.ofNat n).toBitVec.toNat = n := Nat.mod_eq_of_lt (Nat.lt_of_lt_of_le hn (by decide))
  rw [Int64.toBitVec_and, BitVec.toNat_and, e1, Nat.and_two_pow_sub_one_eq_mod, e2]
  show _ = (BitVec.ofNat 64 _).toNat
  rw [BitVec.toNat_ofNat]
  exact (Nat.mod_eq_of_lt (Nat.lt_of_le_of_lt (Nat.mod_le _ _) (Nat.lt_of_lt_of_le hn (by decide)))).symm
theorem sh_k2 : ∀ k, k < 14 → ((Int32.ofNat k &&& 31).toBitVec.smod 32).toNat = k := by decide +kernel
theorem hs_nat {n k : Nat} (hn : n < 2147483648) (hk : k < 14) : hs (Int32.ofNat n) (Int32.ofNat k) ↔ n / 2 ^ k % 2 = 1 := by
  have h1 : Int32.ofNat n >>> (Int32.ofNat k &&& 31) = Int32.ofNat (n / 2 ^ k) := pk_shrN hn _ k (sh_k2 k hk)
  have h2 : n / 2 ^ k ≤ n := Nat.div_le_self _ _
  have h3 : Int32.ofNat (n / 2 ^ k) &&& 1 = Int32.ofNat (n / 2 ^ k % 2) := pk_andN (by omega) 1 (by decide)
  show (Int32.ofNat n >>> (Int32.ofNat k &&& 31)) &&& 1 = 1 ↔ _
  rw [h1, h3, oe (b := 1) (V := 1) rfl (by omega) (by omega)]
/-- a bit of a set, asked of its long -/
theorem lb {x : Int32} {m k : Nat} (hb : blw x m) (hm : m ≤ 14) (hk : k < 14) : ((((x.toInt64 >>> ((Int32.ofNat k).toInt64 &&& 63)) &&& 1) = 1) ↔ hs x (Int32.ofNat k)) ∧ ((((x.toInt64 >>> ((Int32.ofNat k).toInt64 &&& 63)) &&& 1) = 0) ↔ ¬ hs x (Int32.ofNat k)) := by
  obtain ⟨n, hn, rfl⟩ := blw_nat hb (by omega)
  have h0 : 2 ^ m ≤ 2 ^ 14 := Nat.pow_le_pow_right (by omega) hm
  have hn : n < 16384 := by omega
  have h2 : n / 2 ^ k ≤ n := Nat.div_le_self _ _
  rw [i64n (by omega), l_shr (by omega) hk, l_and1 (by omega), hs_nat (by omega) hk]
  have e1 : (1 : Int64) = Int64.ofNat 1 := rfl
  have e0 : (0 : Int64) = Int64.ofNat 0 := rfl
  have h3 := Nat.mod_lt (n / 2 ^ k) (show 0 < 2 by omega)
  rw [e1, e0, l_eq, l_eq, l_toInt (by omega), l_toInt (by omega), l_toInt (by omega)]
  omega
theorem sub_le1 {u : Nat} (h : 1 ≤ u) : Int32.ofNat u - 1 = Int32.ofNat (u - 1) := by
  have e : u = u - 1 + 1 := by omega
  have h2 := ofN_succ (u - 1)
  rw [← e] at h2
  rw [← h2]
  grind
section SPN
variable {k : Int32} {p : Nat}
theorem gr_n : gr 0 = Int32.ofNat 6 ∧ gr 1 = Int32.ofNat 48 ∧ gr 2 = Int32.ofNat 144 ∧ gr 3 = Int32.ofNat 2304 := by decide +kernel
theorem Ssp3 (hp : p ≤ 1300000) : Ssp k 3 (Int32.ofNat p) = Int32.ofNat (if hs k (Int32.ofNat 3) then p / 2304 else 0) := by
  show (if hs k (Int32.ofNat 3) then Int32.ofNat p / gr 3 else 0) = _
  split
  · rw [gr_n.2.2.2, ofN_div (by omega) (by omega) (by omega)]
  · rfl
def r3 (k : Int32) (p : Nat) : Nat := if hs k (Int32.ofNat 3) then p % 2304 else p
def r2 (k : Int32) (p : Nat) : Nat := if hs k (Int32.ofNat 2) then r3 k p % 144 else r3 k p
def r1 (k : Int32) (p : Nat) : Nat := if hs k (Int32.ofNat 1) then r2 k p % 48 else r2 k p
theorem r_le (hp : p ≤ 1300000) : r3 k p ≤ p ∧ r2 k p ≤ p ∧ r1 k p ≤ p := by
  have h3 : r3 k p ≤ p := by unfold r3; split; exact Nat.mod_le _ _; exact Nat.le_refl _
  have h2 : r2 k p ≤ r3 k p := by unfold r2; split; exact Nat.mod_le _ _; exact Nat.le_refl _
  have h1 : r1 k p ≤ r2 k p := by unfold r1; split; exact Nat.mod_le _ _; exact Nat.le_refl _
  omega
theorem r3_e (hp : p ≤ 1300000) : (if hs k (Int32.ofNat 3) then Int32.ofNat p % gr 3 else Int32.ofNat p) = Int32.ofNat (r3 k p) := by
  unfold r3
  split
  · rw [gr_n.2.2.2, ofN_mod (by omega) (by omega)]
  · rfl
theorem r2_e (hp : p ≤ 1300000) : (if hs k (Int32.ofNat 2) then Int32.ofNat (r3 k p) % gr 2 else Int32.ofNat (r3 k p)) = Int32.ofNat (r2 k p) := by
  have := r_le (k := k) hp
  unfold r2
  split
  · rw [gr_n.2.2.1, ofN_mod (by omega) (by omega)]
  · rfl
theorem r1_e (hp : p ≤ 1300000) : (if hs k (Int32.ofNat 1) then Int32.ofNat (r2 k p) % gr 1 else Int32.ofNat (r2 k p)) = Int32.ofNat (r1 k p) := by
  have := r_le (k := k) hp
  unfold r1
  split
  · rw [gr_n.2.1, ofN_mod (by omega) (by omega)]
  · rfl
theorem Ssp2 (hp : p ≤ 1300000) : Ssp k 2 (Int32.ofNat p) = Int32.ofNat (if hs k (Int32.ofNat 2) then r3 k p / 144 else 0) := by
  have := r_le (k := k) hp
  show (if hs k (Int32.ofNat 2) then (if hs k (Int32.ofNat 3) then Int32.ofNat p % gr 3 else Int32.ofNat p) / gr 2 else 0) = _
  rw [r3_e hp]
  split
  · rw [gr_n.2.2.1, ofN_div (by omega) (by omega) (by omega)]
  · rfl
theorem Ssp1 (hp : p ≤ 1300000) : Ssp k 1 (Int32.ofNat p) = Int32.ofNat (if hs k (Int32.ofNat 1) then r2 k p / 48 else 0) := by
  have := r_le (k := k) hp
  show (if hs k (Int32.ofNat 1) then (if hs k (Int32.ofNat 2) then (if hs k (Int32.ofNat 3) then Int32.ofNat p % gr 3 else Int32.ofNat p) % gr 2 else (if hs k (Int32.ofNat 3) then Int32.ofNat p % gr 3 else Int32.ofNat p)) / gr 1 else 0) = _
  rw [r3_e hp, r2_e hp]
  split
  · rw [gr_n.2.1, ofN_div (by omega) (by omega) (by omega)]
  · rfl
theorem Ssp0 (hp : p ≤ 1300000) : Ssp k 0 (Int32.ofNat p) = Int32.ofNat (if hs k (Int32.ofNat 0) then r1 k p / 6 else 0) := by
  have := r_le (k := k) hp
  show (if hs k (Int32.ofNat 0) then (if hs k (Int32.ofNat 1) then (if hs k (Int32.ofNat 2) then (if hs k (Int32.ofNat 3) then Int32.ofNat p % gr 3 else Int32.ofNat p) % gr 2 else (if hs k (Int32.ofNat 3) then Int32.ofNat p % gr 3 else Int32.ofNat p)) % gr 1 else (if hs k (Int32.ofNat 2) then (if hs k (Int32.ofNat 3) then Int32.ofNat p % gr 3 else Int32.ofNat p) % gr 2 else (if hs k (Int32.ofNat 3) then Int32.ofNat p % gr 3 else Int32.ofNat p))) / gr 0 else 0) = _
  rw [r3_e hp, r2_e hp, r1_e hp]
  split
  · rw [gr_n.1, ofN_div (by omega) (by omega) (by omega)]
  · rfl
def uN (k : Int32) : Nat := if hs k (Int32.ofNat 0) then 6 else if hs k (Int32.ofNat 1) then 48 else if hs k (Int32.ofNat 2) then 144 else 2304
theorem Sun_n (r : yRow) : Sun r = Int32.ofNat (uN (r 90)) := by
  unfold Sun uN
  show (if hs (r 90) (Int32.ofNat 0) then (6 : Int32) else if hs (r 90) (Int32.ofNat 1) then 48 else if hs (r 90) (Int32.ofNat 2) then 144 else 2304) = _
  (repeat' split) <;> rfl
theorem uN_c (k : Int32) : uN k = 6 ∨ uN k = 48 ∨ uN k = 144 ∨ uN k = 2304 := by
  unfold uN
  (repeat' split) <;> omega
theorem spoons_up0 {p : Nat} (P0 P1 P2 P3 : Prop) [Decidable P0] [Decidable P1] [Decidable P2] [Decidable P3] (hk : P0 ∨ P1 ∨ P2 ∨ P3) (hu : p % (if P0 then 6 else if P1 then 48 else if P2 then 144 else 2304) = 0) : 6 * (if P0 then (if P1 then (if P2 then (if P3 then p % 2304 else p) % 144 else (if P3 then p % 2304 else p)) % 48 else (if P2 then (if P3 then p % 2304 else p) % 144 else (if P3 then p % 2304 else p))) / 6 else 0) + 48 * (if P1 then (if P2 then (if P3 then p % 2304 else p) % 144 else (if P3 then p % 2304 else p)) / 48 else 0) + 144 * (if P2 then (if P3 then p % 2304 else p) / 144 else 0) + 2304 * (if P3 then p / 2304 else 0) = p := by
  by_cases h0 : P0 <;> by_cases h1 : P1 <;> by_cases h2 : P2 <;> by_cases h3 : P3 <;> first | exact (hk.elim h0 fun z => z.elim h1 fun z => z.elim h2 h3).elim | (simp only [h0, h1, h2, h3, if_true, if_false] at hu ⊢; omega)
/-- the spoons of a rounded amount make it up -/
theorem spoons_up (hk : hs k (Int32.ofNat 0) ∨ hs k (Int32.ofNat 1) ∨ hs k (Int32.ofNat 2) ∨ hs k (Int32.ofNat 3)) (hp : p ≤ 1300000) (hu : p % uN k = 0) : ∃ s0 s1 s2 s3 : Nat, Ssp k 0 (Int32.ofNat p) = Int32.ofNat s0 ∧ Ssp k 1 (Int32.ofNat p) = Int32.ofNat s1 ∧ Ssp k 2 (Int32.ofNat p) = Int32.ofNat s2 ∧ Ssp k 3 (Int32.ofNat p) = Int32.ofNat s3 ∧ 6 * s0 + 48 * s1 + 144 * s2 + 2304 * s3 = p := by
  refine ⟨_, _, _, _, Ssp0 hp, Ssp1 hp, Ssp2 hp, Ssp3 hp, ?_⟩
  exact spoons_up0 (p := p) (hs k (Int32.ofNat 0)) (hs k (Int32.ofNat 1)) (hs k (Int32.ofNat 2)) (hs k (Int32.ofNat 3)) hk hu
theorem Ssc_n {r : yRow} (ok : rok r) {n : Nat} (hn : n < many r) {w : Int32} (hw : bet w 1 24) : ∃ c, Ssc r n w = Int32.ofNat c ∧ 1 ≤ c ∧ c ≤ 1200000 := by
  have h := Ssc_bet ok hn hw
  obtain ⟨h1, h2⟩ := bet_nat (x := Ssc r n w) (m := 1200000) ⟨by have := h.1; grind, h.2⟩ (N := 1200000) rfl (by omega)
  refine ⟨_, h2, ?_, h1⟩
  have h3 := h.1
  rw [h2, show (1 : Int32) = Int32.ofNat 1 from rfl, ofN_leI (by omega) (by omega)] at h3
  exact h3
theorem Srq_n {u c : Nat} (hu : 6 ≤ u ∧ u ≤ 2304) (hc : c ≤ 1210000) : Srq (Int32.ofNat u) (Int32.ofNat c) = Int32.ofNat (if c / u < 1 then u else c / u * u) := by
  have hd : c / u ≤ c := Nat.div_le_self _ _
  have hm : c / u * u ≤ c := Nat.div_mul_le_self _ _
  unfold Srq
  rw [ofN_div (by omega) (by omega) (by omega)]
  by_cases h : c / u < 1
  · rw [if_pos h, if_pos (ofN_lti (v := 1) (m := 1) rfl (by omega) h)]
  · rw [if_neg h, if_neg (ofN_nlti (v := 1) (m := 1) rfl (by omega) (by omega) h), Int32.ofNat_mul]
/-- what is rounded, in numbers: a multiple of the least measure, near the scaled amount -/
theorem Sro_n {r : yRow} (ok : rok r) {n : Nat} (hn : n < many r) {w : Int32} (hw : bet w 1 24) : ∃ c p, Ssc r n w = Int32.ofNat c ∧ Sro r n w = Int32.ofNat p ∧ 1 ≤ c ∧ c ≤ 1200000 ∧ p ≤ 1210000 ∧ p % uN (r 90) = 0 ∧ c ≤ p + 2303 ∧ p ≤ c + 2304 ∧ (r 91 = 2 → c ≤ p) := by
  obtain ⟨c, h1, h2, h3⟩ := Ssc_n ok hn hw
  have hu := uN_c (r 90)
  have e2 : Int32.ofNat (uN (r 90)) / 2 = Int32.ofNat (uN (r 90) / 2) := dv (b := 2) rfl (by omega) (by omega) (by omega)
  have e1 : Int32.ofNat (uN (r 90)) - 1 = Int32.ofNat (uN (r 90) - 1) := sub_le1 (by omega)
  have e3 : ∃ p, Sro r n w = Int32.ofNat p ∧ (p = (if c / uN (r 90) < 1 then uN (r 90) else c / uN (r 90) * uN (r 90)) ∧ ¬ r 91 = 2 ∨ p = (if (c + uN (r 90) / 2) / uN (r 90) < 1 then uN (r 90) else (c + uN (r 90) / 2) / uN (r 90) * uN (r 90)) ∧ ¬ r 91 = 2 ∨ p = (if (c + (uN (r 90) - 1)) / uN (r 90) < 1 then uN (r 90) else (c + (uN (r 90) - 1)) / uN (r 90) * uN (r 90))) := by
    unfold Sro
    rw [h1, Sun_n, e2, e1]
    by_cases q0 : r 91 = 0
    · rw [if_pos q0, x_0, Srq_n (by omega) (by omega)]
      exact ⟨_, rfl, Or.inl ⟨rfl, by rw [q0]; decide⟩⟩
    · rw [if_neg q0]
      by_cases q1 : r 91 = 1
      · rw [if_pos q1, ofN_add, Srq_n (by omega) (by omega)]
        exact ⟨_, rfl, Or.inr (Or.inl ⟨rfl, by rw [q1]; decide⟩)⟩
      · rw [if_neg q1, ofN_add, Srq_n (by omega) (by omega)]
        exact ⟨_, rfl, Or.inr (Or.inr rfl)⟩
  obtain ⟨p, h4, h5⟩ := e3
  have key : p ≤ 1210000 ∧ p % uN (r 90) = 0 ∧ c ≤ p + 2303 ∧ p ≤ c + 2304 ∧ (r 91 = 2 → c ≤ p) := by
    rcases hu with hu | hu | hu | hu <;> rw [hu] at h5 ⊢ <;> rcases h5 with ⟨h5, h6⟩ | ⟨h5, h6⟩ | h5 <;> refine ⟨?_, ?_, ?_, ?_, fun z => ?_⟩ <;> first | exact absurd z h6 | (split at h5 <;> omega)
  exact ⟨c, p, h1, h4, h2, h3, key⟩
end SPN
