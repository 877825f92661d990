/-! sets of small numbers in an int -/
theorem bv_k : ∀ k, k < 32 → (Int32.ofNat k &&& 31) = Int32.ofNat k ∧ ((Int32.ofNat k).toBitVec.smod 32).toNat = k := by decide +kernel
theorem bv_and1 (b : BitVec 32) : b &&& 1#32 = 1#32 ↔ b.getLsbD 0 = true := by
  rw [BitVec.and_one_eq_setWidth_ofBool_getLsbD]
  cases b.getLsbD 0 <;> decide
theorem hs_bv (s : Int32) {k : Nat} (hk : k < 32) : hs s (Int32.ofNat k) ↔ s.toBitVec.getLsbD k = true := by
  obtain ⟨e1, e2⟩ := bv_k k hk
  show ((s >>> (Int32.ofNat k &&& 31)) &&& 1) = 1 ↔ _
  rw [e1, ← Int32.toBitVec_inj, Int32.toBitVec_and, Int32.toBitVec_shiftRight]
  show (s.toBitVec.sshiftRight ((Int32.ofNat k).toBitVec.smod 32).toNat) &&& 1#32 = 1#32 ↔ _
  rw [e2, bv_and1, BitVec.getLsbD_sshiftRight]
  simp [hk]
def msk (e : Int32) : Int32 := (1 : Int32) <<< (e &&& 31)
theorem msk_bv {k j : Nat} (hk : k < 32) (hj : j < 32) : (msk (Int32.ofNat k)).toBitVec.getLsbD j = decide (j = k) := by
  obtain ⟨e1, e2⟩ := bv_k k hk
  unfold msk
  rw [e1, Int32.toBitVec_shiftLeft]
  show ((1#32) <<< ((Int32.ofNat k).toBitVec.smod 32).toNat).getLsbD j = _
  rw [e2, BitVec.getLsbD_shiftLeft, BitVec.getLsbD_one]
  by_cases h : j = k
  · subst h
    simp [hj]
  · have : (j < k) ∨ (j - k ≠ 0) := by omega
    rcases this with h2 | h2
    · simp [h2, h]
    · simp [h2, h]
section BITS
variable {a b : Int32} {k j : Nat}
theorem hs_or (hk : k < 32) : hs (a ||| b) (Int32.ofNat k) ↔ hs a (Int32.ofNat k) ∨ hs b (Int32.ofNat k) := by
  rw [hs_bv _ hk, hs_bv _ hk, hs_bv _ hk, Int32.toBitVec_or, BitVec.getLsbD_or, Bool.or_eq_true]
theorem hs_and (hk : k < 32) : hs (a &&& b) (Int32.ofNat k) ↔ hs a (Int32.ofNat k) ∧ hs b (Int32.ofNat k) := by
  rw [hs_bv _ hk, hs_bv _ hk, hs_bv _ hk, Int32.toBitVec_and, BitVec.getLsbD_and, Bool.and_eq_true]
theorem hs_not (hk : k < 32) : hs (a ^^^ (-1)) (Int32.ofNat k) ↔ ¬ hs a (Int32.ofNat k) := by
  rw [hs_bv _ hk, hs_bv _ hk, Int32.toBitVec_xor, BitVec.getLsbD_xor]
  have e : ((-1 : Int32).toBitVec).getLsbD k = true := by
    have : ∀ k, k < 32 → ((-1 : Int32).toBitVec).getLsbD k = true := by decide +kernel
    exact this k hk
  rw [e]
  cases a.toBitVec.getLsbD k <;> decide
theorem hs_msk (hk : k < 32) (hj : j < 32) : hs (msk (Int32.ofNat k)) (Int32.ofNat j) ↔ j = k := by
  rw [hs_bv _ hj, msk_bv hk hj, decide_eq_true_iff]
theorem hs_clr (hk : k < 32) (hj : j < 32) : hs (a &&& (msk (Int32.ofNat k) ^^^ (-1))) (Int32.ofNat j) ↔ hs a (Int32.ofNat j) ∧ j ≠ k := by
  rw [hs_and hj, hs_not hj, hs_msk hk hj]
theorem hs_0 (hk : k < 32) : ¬ hs 0 (Int32.ofNat k) := by
  rw [hs_bv _ hk]
  have e : (0 : Int32).toBitVec = 0#32 := rfl
  rw [e, BitVec.getLsbD_zero]
  decide
theorem hs_ext (h : ∀ k, k < 32 → (hs a (Int32.ofNat k) ↔ hs b (Int32.ofNat k))) : a = b := by
  rw [← Int32.toBitVec_inj]
  apply BitVec.eq_of_getLsbD_eq
  intro k hk
  have h1 := h k hk
  rw [hs_bv _ hk, hs_bv _ hk] at h1
  cases h2 : a.toBitVec.getLsbD k <;> cases h3 : b.toBitVec.getLsbD k <;> simp_all
/-- no member from n on -/
def blw (x : Int32) (n : Nat) : Prop := ∀ k, n ≤ k → k < 32 → ¬ hs x (Int32.ofNat k)
theorem blw_0 (n : Nat) : blw 0 n := fun _ _ hk => hs_0 hk
theorem blw_mono {x : Int32} {n m : Nat} (h : blw x n) (hm : n ≤ m) : blw x m := fun k h1 h2 => h k (by omega) h2
theorem blw_or {n : Nat} (h : blw a n) (h2 : blw b n) : blw (a ||| b) n := fun k h3 h4 => by
  rw [hs_or h4]
  exact fun z => z.elim (h k h3 h4) (h2 k h3 h4)
theorem blw_msk {n : Nat} (hk : k < n) (hn : n ≤ 32) : blw (msk (Int32.ofNat k)) n := fun j h1 h2 => by
  rw [hs_msk (by omega) h2]
  omega
theorem blw_clr {n : Nat} (h : blw a n) (hk : k < 32) : blw (a &&& (msk (Int32.ofNat k) ^^^ (-1))) n := fun j h1 h2 => by
  rw [hs_clr hk h2]
  exact fun z => h j h1 h2 z.1
theorem blw_nat {x : Int32} {n : Nat} (h : blw x n) (hn : n ≤ 30) : ∃ m, m < 2 ^ n ∧ x = Int32.ofNat m := by
  refine ⟨x.toBitVec.toNat, ?_, ?_⟩
  · apply Nat.lt_pow_two_of_testBit
    intro i hi
    by_cases h2 : i < 32
    · have := h i hi h2
      rw [hs_bv _ h2] at this
      simpa [BitVec.getLsbD] using this
    · apply Nat.testBit_lt_two_pow
      have h3 : x.toBitVec.toNat < 2 ^ 32 := x.toBitVec.isLt
      exact Nat.lt_of_lt_of_le h3 (Nat.pow_le_pow_right (by omega) (by omega))
  · rw [← Int32.toBitVec_inj]
    show x.toBitVec = BitVec.ofNat 32 x.toBitVec.toNat
    simp
theorem or_msk_clr : (a &&& (msk b ^^^ (-1))) ||| msk b = a ||| msk b := by
  rw [← Int32.toBitVec_inj]
  simp only [Int32.toBitVec_or, Int32.toBitVec_and, Int32.toBitVec_xor]
  have e : (-1 : Int32).toBitVec = BitVec.allOnes 32 := rfl
  rw [e]
  apply BitVec.eq_of_getLsbD_eq
  intro k hk
  simp only [BitVec.getLsbD_or, BitVec.getLsbD_and, BitVec.getLsbD_xor, BitVec.getLsbD_allOnes, hk, decide_true]
  cases a.toBitVec.getLsbD k <;> cases (msk b).toBitVec.getLsbD k <;> rfl
theorem or_0 : a ||| 0 = a := by
  rw [← Int32.toBitVec_inj, Int32.toBitVec_or]
  show a.toBitVec ||| 0#32 = _
  simp
end BITS
theorem wth_hs {a : Int32} {k j : Nat} {p : Prop} [Decidable p] (hk : k < 32) (hj : j < 32) : hs (wth a (Int32.ofNat k) p) (Int32.ofNat j) ↔ (if j = k then p else hs a (Int32.ofNat j)) := by
  unfold wth
  by_cases hp : p
  · rw [if_pos hp]
    show hs (a ||| msk (Int32.ofNat k)) _ ↔ _
    rw [hs_or hj, hs_msk hk hj]
    by_cases h : j = k
    · rw [if_pos h]
      exact ⟨fun _ => hp, fun _ => Or.inr h⟩
    · rw [if_neg h]
      exact ⟨fun z => z.elim id (fun z => absurd z h), Or.inl⟩
  · rw [if_neg hp]
    show hs (a &&& (msk (Int32.ofNat k) ^^^ (-1))) _ ↔ _
    rw [hs_clr hk hj]
    by_cases h : j = k
    · rw [if_pos h]
      exact ⟨fun z => absurd h z.2, fun z => absurd z hp⟩
    · rw [if_neg h]
      exact ⟨fun z => z.1, fun z => ⟨z, h⟩⟩
-- Integer.bitCount
def bc1 (x : Int32) : Int32 := x - ((x.toUInt32 >>> ((1 : Int32).toUInt32 &&& Int32.toUInt32 31)).toInt32 &&& 1431655765)
def bc2 (x : Int32) : Int32 := (x &&& 858993459) + ((x.toUInt32 >>> ((2 : Int32).toUInt32 &&& Int32.toUInt32 31)).toInt32 &&& 858993459)
def bc3 (x : Int32) : Int32 := (x + (x.toUInt32 >>> ((4 : Int32).toUInt32 &&& Int32.toUInt32 31)).toInt32) &&& 252645135
def bc4 (x : Int32) : Int32 := x + (x.toUInt32 >>> ((8 : Int32).toUInt32 &&& Int32.toUInt32 31)).toInt32
def bc5 (x : Int32) : Int32 := (x + (x.toUInt32 >>> ((16 : Int32).toUInt32 &&& Int32.toUInt32 31)).toInt32) &&& 63
def bct (x : Int32) : Int32 := bc5 (bc4 (bc3 (bc2 (bc1 x))))
theorem c144 {x : Int32} {M : yM} : yX 144 0 [some (.int x)] [] M 0 0 = yI (bct x) M := yL.I e144 rfl
def bchk (f n : Nat) : Bool := match f with
  | 0 => true
  | f + 1 => (bct (Int32.ofNat n) == bts (Int32.ofNat n) 14) && bchk f (n + 1)
theorem bchk_of : ∀ f n, bchk f n = true → ∀ m, n ≤ m → m < n + f → bct (Int32.ofNat m) = bts (Int32.ofNat m) 14 := by
  intro f
  induction f with
  | zero => intro n _ m h1 h2; omega
  | succ f ih =>
    intro n h m h1 h2
    simp only [bchk, Bool.and_eq_true, beq_iff_eq] at h
    by_cases e : m = n
    · rw [e]; exact h.1
    · exact ih (n + 1) h.2 m (by omega) (by omega)
set_option maxRecDepth 100000 in
theorem bchk_0 : bchk 1024 0 = true := by decide +kernel
set_option maxRecDepth 100000 in
theorem bchk_1 : bchk 1024 1024 = true := by decide +kernel
set_option maxRecDepth 100000 in
theorem bchk_2 : bchk 1024 2048 = true := by decide +kernel
set_option maxRecDepth 100000 in
theorem bchk_3 : bchk 1024 3072 = true := by decide +kernel
set_option maxRecDepth 100000 in
theorem bchk_4 : bchk 1024 4096 = true := by decide +kernel
set_option maxRecDepth 100000 in
theorem bchk_5 : bchk 1024 5120 = true := by decide +kernel
set_option maxRecDepth 100000 in
theorem bchk_6 : bchk 1024 6144 = true := by decide +kernel
set_option maxRecDepth 100000 in
theorem bchk_7 : bchk 1024 7168 = true := by decide +kernel
set_option maxRecDepth 100000 in
theorem bchk_8 : bchk 1024 8192 = true := by decide +kernel
set_option maxRecDepth 100000 in
theorem bchk_9 : bchk 1024 9216 = true := by decide +kernel
set_option maxRecDepth 100000 in
theorem bchk_10 : bchk 1024 10240 = true := by decide +kernel
set_option maxRecDepth 100000 in
theorem bchk_11 : bchk 1024 11264 = true := by decide +kernel
set_option maxRecDepth 100000 in
theorem bchk_12 : bchk 1024 12288 = true := by decide +kernel
set_option maxRecDepth 100000 in
theorem bchk_13 : bchk 1024 13312 = true := by decide +kernel
set_option maxRecDepth 100000 in
theorem bchk_14 : bchk 1024 14336 = true := by decide +kernel
set_option maxRecDepth 100000 in
theorem bchk_15 : bchk 1024 15360 = true := by decide +kernel
theorem bct_bts {x : Int32} (h : blw x 14) : bct x = bts x 14 := by
  obtain ⟨m, hm, e⟩ := blw_nat h (by omega)
  rw [e]
  have h14 : (2 : Nat) ^ 14 = 16384 := rfl
  rw [h14] at hm
  by_cases h0 : m < 1024
  · exact bchk_of 1024 0 bchk_0 m (by omega) (by omega)
  by_cases h1 : m < 2048
  · exact bchk_of 1024 1024 bchk_1 m (by omega) (by omega)
  by_cases h2 : m < 3072
  · exact bchk_of 1024 2048 bchk_2 m (by omega) (by omega)
  by_cases h3 : m < 4096
  · exact bchk_of 1024 3072 bchk_3 m (by omega) (by omega)
  by_cases h4 : m < 5120
  · exact bchk_of 1024 4096 bchk_4 m (by omega) (by omega)
  by_cases h5 : m < 6144
  · exact bchk_of 1024 5120 bchk_5 m (by omega) (by omega)
  by_cases h6 : m < 7168
  · exact bchk_of 1024 6144 bchk_6 m (by omega) (by omega)
  by_cases h7 : m < 8192
  · exact bchk_of 1024 7168 bchk_7 m (by omega) (by omega)
  by_cases h8 : m < 9216
  · exact bchk_of 1024 8192 bchk_8 m (by omega) (by omega)
  by_cases h9 : m < 10240
  · exact bchk_of 1024 9216 bchk_9 m (by omega) (by omega)
  by_cases h10 : m < 11264
  · exact bchk_of 1024 10240 bchk_10 m (by omega) (by omega)
  by_cases h11 : m < 12288
  · exact bchk_of 1024 11264 bchk_11 m (by omega) (by omega)
  by_cases h12 : m < 13312
  · exact bchk_of 1024 12288 bchk_12 m (by omega) (by omega)
  by_cases h13 : m < 14336
  · exact bchk_of 1024 13312 bchk_13 m (by omega) (by omega)
  by_cases h14 : m < 15360
  · exact bchk_of 1024 14336 bchk_14 m (by omega) (by omega)
  by_cases h15 : m < 16384
  · exact bchk_of 1024 15360 bchk_15 m (by omega) (by omega)
  omega
