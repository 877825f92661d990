/-! whole scripts -/
def dgt (n c i : Nat) : Nat := n / 1000000 ^ (c - 1 - i) % 1000000
theorem dgt_lt (n c i : Nat) : dgt n c i < 1000000 := Nat.mod_lt _ (by omega)
def Srs (n c : Nat) : Nat → Nat → yRow → Int32
  | 0, _, _ => -1
  | f + 1, i, r => if Sk r (dgt n c i) = 0 then Int32.ofNat i else Srs n c f (i + 1) (Srow r (dgt n c i))
def oRun (r g : yRow) (k : Int32) (w : Int64) : yO := if bet k 1 3 then (if 0 ≤ w ∧ w < Int64.ofNat (1000000 ^ yx k) then .inr (Srs w.toInt.toNat (yx k) (yx k) 0 (rj r g)) else .inl 1) else .inl 1
theorem pw_le {e : Nat} (h : e ≤ 3) : 1 ≤ 1000000 ^ e ∧ 1000000 ^ e ≤ 1000000000000000000 := by
  have : e = 0 ∨ e = 1 ∨ e = 2 ∨ e = 3 := by omega
  rcases this with h | h | h | h <;> subst h <;> exact ⟨by decide, by decide⟩
theorem yL_tr {a b c : Option yRes} (h : yL a b) (h2 : yL b c) : yL a c := fun q hq => h2 q (h q hq)
theorem cnt_ix {k : Int32} (h : bet k 1 3) : 1 ≤ yx k ∧ yx k ≤ 3 ∧ k = Int32.ofNat (yx k) := by
  obtain ⟨g1, g2⟩ := bet_nat (x := k) (m := 3) ⟨by have := h.1; grind, h.2⟩ (N := 3) rfl (by omega)
  refine ⟨?_, g1, g2⟩
  apply Classical.byContradiction
  intro z
  have h1 := h.1
  rw [g2, show yx k = 0 by omega] at h1
  exact absurd h1 (by decide)
theorem w_nat {w : Int64} (h : 0 ≤ w) : w.toInt.toNat < 9223372036854775808 ∧ w = Int64.ofNat w.toInt.toNat := by
  rw [Int64.le_iff_toInt_le] at h
  have h0 : (0 : Int64).toInt = 0 := by decide
  rw [h0] at h
  obtain ⟨n, h1, h2⟩ := of_l h
  have h3 : w.toInt = n := by rw [h2, l_toInt h1]
  rw [h3]
  exact ⟨by omega, by rw [h2]; congr 1⟩
section RUNC
variable {M : yM} {A : yAb}
theorem mil : (1000000 : Int64) = Int64.ofNat 1000000 := rfl
theorem c85_15 {c : Nat} (hc : c ≤ 3) {w : Int64} {o7 o8 o9 o10 : Option Value} : ∀ d n, n + d = c → yL (yX 85 15 [some (.ref 7), some (.int (Int32.ofNat c)), some (.long w), none, some (.long (Int64.ofNat (1000000 ^ c))), none, some (.int (Int32.ofNat c)), o7, o8, o9, o10] [] M 1 6) (yX 85 15 [some (.ref 7), some (.int (Int32.ofNat c)), some (.long w), none, some (.long (Int64.ofNat (1000000 ^ n))), none, some (.int (Int32.ofNat n)), o7, o8, o9, o10] [] M 1 6) := by
  intro d
  induction d with
  | zero =>
    intro n hn
    have hn : n = c := hn
    subst hn
    exact fun q hq => hq
  | succ d ih =>
    intro n hn
    refine yL_tr (ih (n + 1) (by omega)) (yL.fr e85_15 ?_)
    rw [if_pos (by rw [ofN_lt (by omega) (by omega)]; omega), ofN_succ, mil, l_mul, ← Nat.pow_succ]
theorem c85_73 (h : RelC M A) (n c : Nat) (hc : c ≤ 3) (o2 : Option Value) : ∀ f i (r : yRow) (M2 : yM) o3 o9 o10, i + f = c → rc M2 27 r → rok r → acy r → (∀ a, (a < 26 ∨ 41 < a) → M2 a = M a) → ∃ M3, yX 85 73 [some (.ref 7), some (.int (Int32.ofNat c)), o2, o3, some (.long (Int64.ofNat (1000000 ^ (c - i)))), none, some (.long (Int64.ofNat (n % 1000000 ^ (c - i)))), none, some (.int (Int32.ofNat i)), o9, o10] [] M2 2 12 = yI (Srs n c f i r) M3 ∧ ∀ a, (a < 26 ∨ 41 < a) → M3 a = M a := by
  intro f
  induction f with
  | zero =>
    intro i r M2 o3 o9 o10 hi _ _ _ hf
    have hi : i = c := hi
    subst hi
    refine ⟨M2, yL.I e85_73 ?_, hf⟩
    rw [if_neg (by rw [ofN_lt (by omega) (by omega)]; omega)]
    rfl
  | succ f ih =>
    intro i r M2 o3 o9 o10 hi hr ok ha hf
    obtain ⟨p, hp⟩ : ∃ p, p = 1000000 ^ (c - 1 - i) := ⟨_, rfl⟩
    obtain ⟨p1, p2⟩ := pw_le (show c - 1 - i ≤ 3 by omega)
    obtain ⟨p3, p4⟩ := pw_le (show c - i ≤ 3 by omega)
    have pc : 1000000 ^ (c - i) = p * 1000000 := by
      rw [show c - i = (c - 1 - i) + 1 by omega, Nat.pow_succ, hp]
    have pi : c - (i + 1) = c - 1 - i := by omega
    rw [← hp] at p1 p2
    rw [pc] at p3 p4
    have hm := Nat.mod_lt n (show 0 < p * 1000000 by omega)
    have d1 : Int64.ofNat (p * 1000000) / 1000000 = Int64.ofNat p := by
      rw [mil, l_div (by omega) (by omega) (by omega), Nat.mul_div_cancel _ (by omega)]
    have d2 : Int64.ofNat (n % (p * 1000000)) / Int64.ofNat p = Int64.ofNat (dgt n c i) := by
      rw [l_div (by omega) (by omega) (by omega), Nat.mod_mul_right_div_self]
      unfold dgt
      rw [hp]
    have d3 : Int64.ofNat (n % (p * 1000000)) - Int64.ofNat (dgt n c i) * Int64.ofNat p = Int64.ofNat (n % p) := by
      have e : n % (p * 1000000) = n % p + p * (n / p % 1000000) := Nat.mod_mul
      have e2 : dgt n c i * p = p * (n / p % 1000000) := by unfold dgt; rw [← hp, Nat.mul_comm]
      rw [l_mul, l_sub (by omega) (by omega), e2]
      congr 1
      omega
    obtain ⟨M3, q1, q2, q3, q4⟩ := c45 yP26 hr ok ha
    have fr3 : ∀ a, (a < 26 ∨ 41 < a) → M3 a = M a := fun a haa => by rw [q2.1 a (by omega) (by omega), hf a haa]
    have r3 : rc M3 27 r := rc_fr hr (fun a h1 h2 => q2.1 a (by omega) (by omega))
    obtain ⟨M4, s1, s2, s3⟩ := c101 r3 ok ⟨q3, q4, fun s hs0 => (q2.2.2.1 s hs0).1⟩ (dgt_lt n c i)
    have fr4 : ∀ a, (a < 26 ∨ 41 < a) → M4 a = M a := fun a haa => by rw [s3 a (by omega), fr3 a haa]
    have n1 : ¬ Int64.ofNat p < 1 := by
      have : (1 : Int64) = Int64.ofNat 1 := rfl
      rw [this, l_lt (by omega) (by omega)]
      omega
    have n2 : ¬ Int64.ofNat p = 0 := by
      intro z
      have z := congrArg Int64.toInt z
      rw [l_toInt (by omega)] at z
      have h0 : (0 : Int64).toInt = 0 := by decide
      omega
    have hlt : Int32.ofNat i < Int32.ofNat c := by rw [ofN_lt (by omega) (by omega)]; omega
    have hdg := dgt_lt n c i
    show ∃ M3, _ = yI (if Sk r (dgt n c i) = 0 then Int32.ofNat i else Srs n c f (i + 1) (Srow r (dgt n c i))) M3 ∧ _
    by_cases z : Sk r (dgt n c i) = 0
    · refine ⟨M4, yL.I e85_73 ?_, fr4⟩
      rw [if_pos hlt, pc, d1, if_neg n1, if_neg n2, q1, yCv_V, d2, l_32 (by omega), s1, yCi_I, if_pos z, if_pos z]
    · obtain ⟨o1, o2'⟩ := Srow_ok ok ha (dgt n c i)
      obtain ⟨M5, t1, t2⟩ := ih (i + 1) (Srow r (dgt n c i)) M4 (xUn o3) (some (.long (Int64.ofNat (dgt n c i)))) none (by omega) s2 o1 o2' fr4
      rw [pi, ← hp] at t1
      refine ⟨M5, yL.I e85_73 ?_, t2⟩
      rw [if_pos hlt, pc, d1, if_neg n1, if_neg n2, q1, yCv_V, d2, l_32 (by omega), s1, yCi_I, if_neg z, if_neg z, d3, ofN_succ]
      exact t1
theorem c85 (h : RelC M A) (hA : Aok A) (g : yRow) {k : Int32} {w : Int64} : CR (yX 85 0 [some (.ref 7), some (.int k), some (.long w), none, none, none, none, none, none, none, none] [] M 0 0) M (oRun A.1 g k w) A := by
  have ok := hA.1
  refine CR.of ?_ e85
  unfold oRun
  rw [c94, yCi_I, c92]
  by_cases q1 : bet k 1 3
  · obtain ⟨c1, c2, c3⟩ := cnt_ix q1
    obtain ⟨p1, p2⟩ := pw_le c2
    rw [if_pos q1, if_pos q1, yCv_V]
    refine CR.of ?_ (yL_tr (c85_15 (M := M) c2 (w := w) (yx k) 0 (by omega)) (by rw [← c3]; exact fun q hq => hq))
    refine CR.of ?_ e85_15
    rw [if_neg (by rw [ofN_lt (by omega) (by omega)]; omega)]
    by_cases q2 : w < 0
    · rw [if_pos q2, if_neg (fun z => by have := z.1; grind), c92_0]
      exact CR.th h rfl
    · have hw : 0 ≤ w := by grind
      by_cases q3 : w < Int64.ofNat (1000000 ^ yx k)
      · obtain ⟨w1, w2⟩ := w_nat hw
        obtain ⟨M2, a1, a2, a3⟩ := trial h hA g
        have hlt : w.toInt.toNat < 1000000 ^ yx k := by
          rw [w2, l_lt w1 (by omega)] at q3
          exact q3
        obtain ⟨M3, t1, t2⟩ := c85_73 h w.toInt.toNat (yx k) c2 (some (.long w)) (yx k) 0 (rj A.1 g) M2 none none none (by omega) a2 (rj_ok ok) (rj_acy ok hA.2.1) (fun a ha => a3 a (by omega))
        rw [Nat.sub_zero, Nat.mod_eq_of_lt hlt, ← w2] at t1
        have t1 : yX 85 73 [some (.ref 7), some (.int (Int32.ofNat (yx k))), some (.long w), none, some (.long (Int64.ofNat (1000000 ^ yx k))), none, some (.long w), none, some (.int 0), none, none] [] M2 2 12 = yI (Srs w.toInt.toNat (yx k) (yx k) 0 (rj A.1 g)) M3 := t1
        rw [if_neg q2, if_pos q3, if_pos ⟨hw, q3⟩, c92_1, yCv_V, a1, yCv_V, t1]
        exact CR.tr h (fun a ha => t2 a (by omega)) (fun a b1 b3 => t2 a (by omega)) rfl
      · rw [if_neg q2, if_neg q3, if_neg (fun z => q3 z.2), c92_0]
        exact CR.th h rfl
  · rw [if_neg q1, if_neg q1]
    exact CR.th h rfl
end RUNC
section RUNR
variable {M : yM} {A : yAb}
theorem tenN : (10 : Int64) = Int64.ofNat 10 := rfl
theorem six {c : Nat} : (6 : Int32) * Int32.ofNat c = Int32.ofNat (6 * c) := by
  rw [show (6 : Int32) = Int32.ofNat 6 from rfl, ofN_mul]
theorem p106 (c : Nat) : 10 ^ (6 * c) = 1000000 ^ c := Nat.pow_mul 10 6 c
end RUNR
