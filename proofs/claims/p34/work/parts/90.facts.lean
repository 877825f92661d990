/-! what the law asks of a card, in numbers -/
theorem l_addI {a b : Int64} (h : -9223372036854775808 ≤ a.toInt + b.toInt) (h2 : a.toInt + b.toInt < 9223372036854775808) : (a + b).toInt = a.toInt + b.toInt := by
  rw [Int64.toInt_add]
  exact Int.bmod_eq_of_le (by omega) (by omega)
theorem l_subI {a b : Int64} (h : -9223372036854775808 ≤ a.toInt - b.toInt) (h2 : a.toInt - b.toInt < 9223372036854775808) : (a - b).toInt = a.toInt - b.toInt := by
  rw [Int64.toInt_sub]
  exact Int.bmod_eq_of_le (by omega) (by omega)
theorem l_add (a b : Nat) : Int64.ofNat a + Int64.ofNat b = Int64.ofNat (a + b) := (Int64.ofNat_add a b).symm
theorem l_lti {a b : Int64} : a < b ↔ a.toInt < b.toInt := Int64.lt_iff_toInt_lt
theorem l_lei {a b : Int64} : a ≤ b ↔ a.toInt ≤ b.toInt := Int64.le_iff_toInt_le
theorem i_l (x : Int32) : x.toInt64.toInt = x.toInt := Int32.toInt_toInt64 x
section OLS
variable {r : yRow}
theorem bet_ing (ok : rok r) {i : Nat} (hi : i < many r) : bet (Int32.ofNat i) 0 (r 0 - 1) := (ing_nat ok).mpr ⟨i, hi, rfl⟩
theorem bet_stp (ok : rok r) {s : Nat} (hi : s < stps r) : bet (Int32.ofNat s) 0 (r 15 - 1) := (stp_nat ok).mpr ⟨s, hi, rfl⟩
theorem o_spn (ok : rok r) {i m : Nat} {mm : Int32} (hi : i < many r) (hm : Int32.ofNat m = mm) (h4 : m < 4) : ol (oSpn r (Int32.ofNat i) mm) = (Ssp (r 90) m (Sro r i (r 14))).toInt64 := by
  subst hm
  have h12 := (rokm ok).1
  unfold oSpn
  rw [if_pos (bet_ing ok hi), if_pos (show bet (Int32.ofNat m) 0 3 from ofN_bd (N := 3) rfl (by omega) (by omega)), yx_ofN (by omega), yx_ofN (by omega)]
  rfl
theorem o_ing (ok : rok r) {i : Nat} {w : Int32} (hi : i < many r) (hw : bet w 0 6) : ol (oIng r (Int32.ofNat i) w) = (Sing r (Int32.ofNat i) w).toInt64 := by
  unfold oIng
  rw [if_pos (bet_ing ok hi), if_pos hw]
  rfl
theorem o_ing1 (ok : rok r) {i : Nat} (hi : i < many r) : ol (oIng r (Int32.ofNat i) 1) = (Ssc r i (r 14)).toInt64 := by
  have h12 := (rokm ok).1
  rw [o_ing ok hi (by decide)]
  unfold Sing
  rw [if_neg (by decide), if_pos rfl, yx_ofN (by omega)]
theorem o_ing2 (ok : rok r) {i : Nat} (hi : i < many r) : ol (oIng r (Int32.ofNat i) 2) = (Sro r i (r 14)).toInt64 := by
  have h12 := (rokm ok).1
  rw [o_ing ok hi (by decide)]
  unfold Sing
  rw [if_neg (by decide), if_neg (by decide), if_pos rfl, yx_ofN (by omega)]
theorem o_ing3 (ok : rok r) {i : Nat} (hi : i < many r) : ol (oIng r (Int32.ofNat i) 3) = (Ssa r i (r 14)).toInt64 := by
  have h12 := (rokm ok).1
  rw [o_ing ok hi (by decide)]
  unfold Sing
  rw [if_neg (by decide), if_neg (by decide), if_neg (by decide), if_pos rfl, yx_ofN (by omega)]
theorem o_ing4 (ok : rok r) {i : Nat} (hi : i < many r) : ol (oIng r (Int32.ofNat i) 4) = (Sro r i (r 14) - Ssc r i (r 14)).toInt64 := by
  have h12 := (rokm ok).1
  rw [o_ing ok hi (by decide)]
  unfold Sing
  rw [if_neg (by decide), if_neg (by decide), if_neg (by decide), if_neg (by decide), if_pos rfl, yx_ofN (by omega)]
theorem o_set {w : Nat} {ww : Int32} (hw : Int32.ofNat w = ww) (h : w < 5) : ol (oSet r ww) = (r (90 + w)).toInt64 := by
  subst hw
  unfold oSet
  rw [if_pos (show bet (Int32.ofNat w) 0 4 from ofN_bd (N := 4) rfl (by omega) (by omega)), yx_ofN (by omega)]
  rfl
theorem o_pcs {w : Nat} {ww : Int32} (hw : Int32.ofNat w = ww) (h : w < 4) : ol (oPcs r ww) = (r (86 + w)).toInt64 := by
  subst hw
  unfold oPcs
  rw [if_pos (show bet (Int32.ofNat w) 0 3 from ofN_bd (N := 3) rfl (by omega) (by omega)), yx_ofN (by omega)]
  rfl
theorem o_stp (ok : rok r) {s : Nat} {w : Int32} (hi : s < stps r) (hw : bet w 0 9) : ol (oStp r (Int32.ofNat s) w) = (Sstp r s w).toInt64 := by
  have h14 := (roks ok).1
  unfold oStp
  rw [if_pos (bet_stp ok hi), if_pos hw, yx_ofN (by omega)]
  rfl
/-- an ingredient: its spoons make up what is rounded, which is near what is scaled -/
theorem ing_fact (ok : rok r) {i : Nat} (hi : i < many r) :
    6 * ol (oSpn r (Int32.ofNat i) 0) + 48 * ol (oSpn r (Int32.ofNat i) 1) + 144 * ol (oSpn r (Int32.ofNat i) 2) + 2304 * ol (oSpn r (Int32.ofNat i) 3) = ol (oIng r (Int32.ofNat i) 2) ∧
    ol (oSpn r (Int32.ofNat i) 0) + ol (oSpn r (Int32.ofNat i) 1) + ol (oSpn r (Int32.ofNat i) 2) + ol (oSpn r (Int32.ofNat i) 3) = ol (oIng r (Int32.ofNat i) 3) ∧
    ol (oIng r (Int32.ofNat i) 4) = 6 * ol (oSpn r (Int32.ofNat i) 0) + 48 * ol (oSpn r (Int32.ofNat i) 1) + 144 * ol (oSpn r (Int32.ofNat i) 2) + 2304 * ol (oSpn r (Int32.ofNat i) 3) - ol (oIng r (Int32.ofNat i) 1) ∧
    ol (oIng r (Int32.ofNat i) 4) ≥ -2303 ∧ ol (oIng r (Int32.ofNat i) 4) ≤ 2304 ∧ (ol (oSet r 1) = 2 → ¬ ol (oIng r (Int32.ofNat i) 4) < 0) ∧ ∃ q, Ssa r i (r 14) = Int32.ofNat q ∧ q ≤ 1210000 := by
  obtain ⟨c, p, h1, h2, h3, h4, h5, h6, h7, h8, h9⟩ := Sro_n ok hi (rok14 ok)
  obtain ⟨s0, s1, s2, s3, g0, g1, g2, g3, g4⟩ := spoons_up (k := r 90) (p := p) (kit_some ok) (by omega) h6
  have e3 : Ssa r i (r 14) = Int32.ofNat (s0 + s1 + s2 + s3) := by
    show (0 : Int32) + Ssp (r 90) 0 (Sro r i (r 14)) + Ssp (r 90) 1 (Sro r i (r 14)) + Ssp (r 90) 2 (Sro r i (r 14)) + Ssp (r 90) 3 (Sro r i (r 14)) = _
    rw [h2, g0, g1, g2, g3, show (0 : Int32) = Int32.ofNat 0 from rfl, ofN_add, ofN_add, ofN_add, ofN_add, Nat.zero_add]
  have e4 : (Int32.ofNat p - Int32.ofNat c).toInt64.toInt = (p : Int) - c := by
    rw [i_l, i32_sub (by rw [ofN_toInt (by omega), ofN_toInt (by omega)]; omega) (by rw [ofN_toInt (by omega), ofN_toInt (by omega)]; omega), ofN_toInt (by omega), ofN_toInt (by omega)]
  rw [o_spn ok hi (m := 0) (mm := 0) rfl (by omega), o_spn ok hi (m := 1) (mm := 1) rfl (by omega), o_spn ok hi (m := 2) (mm := 2) rfl (by omega), o_spn ok hi (m := 3) (mm := 3) rfl (by omega), o_ing1 ok hi, o_ing2 ok hi, o_ing3 ok hi, o_ing4 ok hi, o_set (w := 1) (ww := 1) rfl (by omega), e3, h1, h2, g0, g1, g2, g3, i64n (by omega), i64n (by omega), i64n (by omega), i64n (by omega), i64n (by omega), i64n (by omega), i64n (by omega)]
  rw [show (6 : Int64) = Int64.ofNat 6 from rfl, show (48 : Int64) = Int64.ofNat 48 from rfl, show (144 : Int64) = Int64.ofNat 144 from rfl, show (2304 : Int64) = Int64.ofNat 2304 from rfl, l_mul, l_mul, l_mul, l_mul, l_add, l_add, l_add, l_add, l_add, l_add, g4]
  refine ⟨rfl, rfl, ?_, ?_, ?_, fun z => ?_, _, rfl, by omega⟩
  · rw [l_eq, e4, l_subI (by rw [l_toInt (by omega), l_toInt (by omega)]; omega) (by rw [l_toInt (by omega), l_toInt (by omega)]; omega), l_toInt (by omega), l_toInt (by omega)]
  · rw [ge_iff_le, l_lei, e4]
    have : (-2303 : Int64).toInt = -2303 := by decide
    omega
  · rw [l_lei, e4, l_toInt (by omega)]
    omega
  · rw [l_lti, e4]
    have z2 : r 91 = 2 := by
      rw [show (2 : Int64) = (2 : Int32).toInt64 from rfl, w_eq] at z
      exact z
    have := h9 z2
    have : (0 : Int64).toInt = 0 := rfl
    omega
theorem sum64 {g : Nat → Int32} {K N : Nat} (hg : ∀ n, n < N → ∃ q, g n = Int32.ofNat q ∧ q ≤ K) : ∀ d n acc, n + d = N → acc + K * d < 2147483648 → yfo (fun n a => a + (g n).toInt64) n d (Int64.ofNat acc) = (yfo (fun n a => a + g n) n d (Int32.ofNat acc)).toInt64 := by
  intro d
  induction d with
  | zero => intro n acc h h2; exact (i64n (by omega)).symm
  | succ d ih =>
    intro n acc h h2
    obtain ⟨q, h3, h4⟩ := hg n (by omega)
    rw [Nat.mul_succ] at h2
    show yfo _ (n + 1) d (Int64.ofNat acc + (g n).toInt64) = (yfo _ (n + 1) d (Int32.ofNat acc + g n)).toInt64
    rw [h3, i64n (by omega), l_add, ofN_add]
    exact ih (n + 1) (acc + q) (by omega) (by omega)
/-- all spoons -/
def f1 (r : yRow) (n : Nat) (a : Int64) : Int64 := a + (ol (oSpn r (Int32.ofNat n) 0) + ol (oSpn r (Int32.ofNat n) 1) + ol (oSpn r (Int32.ofNat n) 2) + ol (oSpn r (Int32.ofNat n) 3))
theorem f1_sum (ok : rok r) : yfo (f1 r) 0 (many r) 0 = (Sall r (r 14)).toInt64 := by
  have h12 := (rokm ok).1
  have h1 : yfo (f1 r) 0 (many r) 0 = yfo (fun n a => a + (Ssa r n (r 14)).toInt64) 0 (many r) 0 := yfo_congr _ _ _ (fun m b _ hm => by
    have := (ing_fact ok (i := m) (by omega)).2.1
    unfold f1
    rw [this, o_ing3 ok (by omega)])
  rw [h1]
  exact sum64 (K := 1210000) (N := many r) (fun n hn => (ing_fact ok hn).2.2.2.2.2.2) (many r) 0 0 (by omega) (by omega)
theorem f2_sum (ok : rok r) : yfo (fun n a => a + (r (16 + n)).toInt64) 0 (stps r) (Int64.ofNat 0) = (Smn r).toInt64 := by
  have h14 := (roks ok).1
  exact sum64 (K := 150) (N := stps r) (fun n hn => ⟨_, (mN_le ok hn).2.2, (mN_le ok hn).2.1⟩) (stps r) 0 0 (by omega) (by omega)
theorem Wy_90 (ok : rok r) (ht : tgt r) : ∀ j s, s < stps r → Wy r j s ≤ 90 * j := by
  intro j
  induction j with
  | zero => intro s _; exact Nat.zero_le _
  | succ j ih =>
    intro s h
    have h0 := ht.2 s h
    have h1 : mN r s ≤ 90 := (bet_nat (x := r (16 + s)) (m := 90) ⟨by have := h0.1; grind, h0.2⟩ (N := 90) rfl (by omega)).1
    have h2 : mx (fun t => if nd r t s then Wy r j t else 0) (stps r) ≤ 90 * j := mx_le _ (fun t ht => by
      show (if nd r t s then Wy r j t else 0) ≤ 90 * j
      split
      · exact ih t ht
      · exact Nat.zero_le _)
    show mN r s + mx _ _ ≤ _
    omega
theorem Wf_1260 (ok : rok r) (ht : tgt r) {s : Nat} (h : s < stps r) : Wf r s ≤ 1260 := by
  have h1 := Wy_90 ok ht (stps r) s h
  have h2 := (roks ok).1
  unfold Wf
  omega
theorem Wf_ge (ha : acy r) {s : Nat} (h : s < stps r) : mN r s ≤ Wf r s ∧ ∀ t, t < stps r → nd r t s → mN r s + Wf r t ≤ Wf r s := by
  obtain ⟨g, g1, g2⟩ := acy_h ha
  have h1 := Wf_eq g1 g2 h
  refine ⟨by omega, fun t ht hn => ?_⟩
  have h2 := mx_ge (f := fun t => if nd r t s then Wf r t else 0) (stps r) ht
  have h3 : (if nd r t s then Wf r t else 0) = Wf r t := if_pos hn
  have h2 : (if nd r t s then Wf r t else 0) ≤ mx (fun t => if nd r t s then Wf r t else 0) (stps r) := h2
  omega
theorem nd_self (ha : acy r) {s : Nat} (h : s < stps r) : ¬ nd r s s := by
  obtain ⟨ρ, hρ⟩ := ha
  exact fun z => Nat.lt_irrefl _ (hρ s s h h z)
theorem hs_Snb (ok : rok r) {s t : Nat} (ht : t < 14) : hs (Snb r (Int32.ofNat s)) (Int32.ofNat t) ↔ t < stps r ∧ nd r t s := by
  have h14 := (roks ok).1
  have key := yfo_I (f := fun t a => if hs (r (72 + t)) (Int32.ofNat s) then a ||| msk (Int32.ofNat t) else a) (I := fun n a => ∀ u, u < 14 → (hs a (Int32.ofNat u) ↔ u < n ∧ nd r u s)) (stps r) 0 0 (fun n a _ h2 h3 u hu => by
    show hs (if hs (r (72 + n)) (Int32.ofNat s) then a ||| msk (Int32.ofNat n) else a) (Int32.ofNat u) ↔ _
    by_cases hn : hs (r (72 + n)) (Int32.ofNat s)
    · rw [if_pos hn, hs_or (by omega), h3 u hu, hs_msk (by omega) (by omega)]
      constructor
      · intro z
        rcases z with z | z
        · exact ⟨by omega, z.2⟩
        · rw [z]; exact ⟨by omega, hn⟩
      · intro z
        by_cases e : u = n
        · exact Or.inr e
        · exact Or.inl ⟨by omega, z.2⟩
    · rw [if_neg hn, h3 u hu]
      constructor
      · exact fun z => ⟨by omega, z.2⟩
      · intro z
        by_cases e : u = n
        · rw [e] at z; exact absurd z.2 hn
        · exact ⟨by omega, z.2⟩) (fun u hu => ⟨fun z => absurd z (hs_0 (by omega)), fun z => absurd z.1 (Nat.not_lt_zero u)⟩)
  rw [Nat.zero_add] at key
  exact key t ht
end OLS
