/-! a hand that errs: simulate -/
def nxr (x : Int64) : Int64 := x * 6364136223846793005 + 1442695040888963407
def rdn (x : Int64) : Nat := ((nxr x).toUInt64 >>> ((33 : Int32).toInt64.toUInt64 &&& Int64.toUInt64 63)).toNat
theorem rdn_lt (x : Int64) : rdn x < 2147483648 := by
  unfold rdn
  rw [UInt64.toNat_shiftRight]
  have e : ((33 : Int32).toInt64.toUInt64 &&& Int64.toUInt64 63).toNat % 64 = 33 := by decide
  rw [e, Nat.shiftRight_eq_div_pow]
  have := (nxr x).toUInt64.toNat_lt
  omega
theorem rdn_eq (x : Int64) : ((((x * 6364136223846793005 + 1442695040888963407).toUInt64 >>> ((33 : Int32).toInt64.toUInt64 &&& Int64.toUInt64 63)).toInt64).toInt32) = Int32.ofNat (rdn x) := by
  have h := rdn_lt x
  have e : ((nxr x).toUInt64 >>> ((33 : Int32).toInt64.toUInt64 &&& Int64.toUInt64 63)).toInt64.toInt = ((nxr x).toUInt64 >>> ((33 : Int32).toInt64.toUInt64 &&& Int64.toUInt64 63)).toNat := BitVec.toInt_eq_toNat_of_lt (by
    have h2 : ((nxr x).toUInt64 >>> ((33 : Int32).toInt64.toUInt64 &&& Int64.toUInt64 63)).toNat < 2147483648 := h
    show 2 * ((nxr x).toUInt64 >>> ((33 : Int32).toInt64.toUInt64 &&& Int64.toUInt64 63)).toNat < 2 ^ 64
    omega)
  show (((nxr x).toUInt64 >>> ((33 : Int32).toInt64.toUInt64 &&& Int64.toUInt64 63)).toInt64).toInt32 = Int32.ofNat (rdn x)
  rw [i32_eq, Int64.toInt_toInt32, e, ofN_toInt h]
  exact Int.bmod_eq_of_le (by have : ((nxr x).toUInt64 >>> ((33 : Int32).toInt64.toUInt64 &&& Int64.toUInt64 63)).toNat = rdn x := rfl; omega) (by have : ((nxr x).toUInt64 >>> ((33 : Int32).toInt64.toUInt64 &&& Int64.toUInt64 63)).toNat = rdn x := rfl; omega)
def fl4 (m : Nat) : Int32 := if m / 256 % 4 = 0 then 0 else 1
def Ssm (r : yRow) (n : Nat) : yRow := if n % 8 = 0 then prfI r 0 (Int32.ofNat (1 + n / 8 % 5000)) 0 0 else if n % 8 = 1 ∨ n % 8 = 2 then prfI r 1 (Int32.ofNat (1 + n / 8 % 40)) (Int32.ofNat (n / 8 / 64 % 5) - 1) (Int32.ofNat (n / 8 / 512 % 2)) else if n % 8 = 3 then prfI r 2 (Int32.ofNat (n / 8 % 14)) (Int32.ofNat (n / 8 / 16 % 12)) (fl4 (n / 8)) else if n % 8 = 4 ∨ n % 8 = 5 then prfI r 3 (Int32.ofNat (n / 8 % 14)) (Int32.ofNat (n / 8 / 16 % 14)) (fl4 (n / 8)) else if n % 8 = 6 then (if n / 8 / 64 % 2 = 0 then prfI r 4 (Int32.ofNat (n / 8 % 4)) (Int32.ofNat (n / 8 / 4 % 4)) 0 else prfI r 5 (Int32.ofNat (1 + n / 8 % 24)) (Int32.ofNat (1 + n / 8 / 128 % 24)) 0) else prfI r 6 (Int32.ofNat (n / 8 % 5)) (Int32.ofNat (n / 8 / 8 % 16)) 0
def Sit {α β : Type} (st : α → α) (g : β → α → β) : Nat → α → β → β
  | 0, _, r => r
  | f + 1, x, r => Sit st g f (st x) (g r x)
theorem Sit_0 {α β : Type} (st : α → α) (g : β → α → β) (x : α) (r : β) : Sit st g 0 x r = r := rfl
theorem Sit_s {α β : Type} (st : α → α) (g : β → α → β) (f : Nat) (x : α) (r : β) : Sit st g (f + 1) x r = Sit st g f (st x) (g r x) := rfl
def Ssg (r : yRow) (x : Int64) : yRow := Ssm r (rdn x)
theorem Ssg_eq (r : yRow) (x : Int64) : Ssg r x = Ssm r (rdn x) := rfl
def Ssi (f : Nat) (x : Int64) (r : yRow) : yRow := Sit nxr Ssg f x r
theorem Ssi_0 (x : Int64) (r : yRow) : Ssi 0 x r = r := by unfold Ssi; rw [Sit_0]
theorem Ssi_s (f : Nat) (x : Int64) (r : yRow) : Ssi (f + 1) x r = Ssi f (nxr x) (Ssm r (rdn x)) := by unfold Ssi; rw [Sit_s, Ssg_eq]
theorem nxr_eq (x : Int64) : x * 6364136223846793005 + 1442695040888963407 = nxr x := rfl
def Sans (r : yRow) : Int32 := 1000 * Swh r (Spl r) + 10 * Sstk r (Spl r) + Sall r (r 14) % 10
def oSim (r g : yRow) (x : Int64) (k : Int32) : yO := if bet k 1 60 then .inr (Sans (Ssi (yx k) x (rj r g))) else .inl 1
theorem fl4_bit (m : Nat) : bet (fl4 m) 0 1 := by
  unfold fl4
  split
  · exact ⟨by decide, by decide⟩
  · exact ⟨by decide, by decide⟩
theorem Ssm_ok {r : yRow} (ok : rok r) (ha : acy r) (n : Nat) : rok (Ssm r n) ∧ acy (Ssm r n) := by
  have h2 : bet (Int32.ofNat (n / 8 / 512 % 2)) 0 1 := ofN_bd (N := 1) rfl (by omega) (by omega)
  have h4 := fl4_bit (n / 8)
  unfold Ssm
  split
  · exact prfI_ok ok ha b00
  · split
    · exact prfI_ok ok ha h2
    · split
      · exact prfI_ok ok ha h4
      · split
        · exact prfI_ok ok ha h4
        · split
          · split
            · exact prfI_ok ok ha b00
            · exact prfI_ok ok ha b00
          · exact prfI_ok ok ha b00
theorem sim_ix {k : Int32} (h : bet k 1 60) : yx k ≤ 60 ∧ k = Int32.ofNat (yx k) := bet_nat (x := k) (m := 60) ⟨by have := h.1; grind, h.2⟩ (N := 60) rfl (by omega)
section DG8
variable {m : Nat}
theorem x1 {a : Nat} : (1 : Int32) + Int32.ofNat a = Int32.ofNat (1 + a) := by rw [show (1 : Int32) = Int32.ofNat 1 from rfl, ofN_add]
theorem dm {a b c : Nat} {B C : Int32} (hB : Int32.ofNat b = B) (hC : Int32.ofNat c = C) (ha : a < 2147483648) (hb : b < 2147483648) (h0 : 0 < b) (hc : c < 2147483648) : Int32.ofNat a / B % C = Int32.ofNat (a / b % c) := by
  have h := Nat.div_le_self a b
  rw [dv hB ha hb h0, md hC (by omega) hc]
end DG8
section SIMC
variable {M : yM} {r : yRow}
theorem c104 (h : rc M 27 r) (ok : rok r) {n : Nat} (hn : n < 2147483648) : ∃ M', yX 104 0 [some (.ref 7), some (.int (Int32.ofNat (n % 8))), some (.int (Int32.ofNat (n / 8)))] [] M 0 0 = yV M' ∧ rc M' 27 (Ssm r n) ∧ ∀ q, (q < 27 ∨ 35 < q) → M' q = M q := by
  have hm : n / 8 < 2147483648 := by omega
  have hd : ∀ {Z : Option yRes} {R : yRow}, (∃ M', Z = yV M' ∧ rc M' 27 R ∧ ∀ q, (q < 27 ∨ 35 < q) → M' q = M q) → yL Z (yX 104 0 [some (.ref 7), some (.int (Int32.ofNat (n % 8))), some (.int (Int32.ofNat (n / 8)))] [] M 0 0) → ∃ M', yX 104 0 [some (.ref 7), some (.int (Int32.ofNat (n % 8))), some (.int (Int32.ofNat (n / 8)))] [] M 0 0 = yV M' ∧ rc M' 27 R ∧ ∀ q, (q < 27 ∨ 35 < q) → M' q = M q := by
    intro Z R hz hl
    obtain ⟨M4, z1, z2⟩ := hz
    exact ⟨M4, yL.V hl z1, z2⟩
  have act : ∀ {a1 a2 a3 a4 : Int32}, ∃ M', (yCi false (yX 5 0 [some (.ref 27), some (.int a1), some (.int a2), some (.int a3), some (.int a4)] [] M 0 0) fun v4 M3 => yV M3) = yV M' ∧ rc M' 27 (prfI r a1 a2 a3 a4) ∧ ∀ q, (q < 27 ∨ 35 < q) → M' q = M q := by
    intro a1 a2 a3 a4
    obtain ⟨M', b1, b2, b3⟩ := c5t h ok (act := a1) (a := a2) (b := a3) (d := a4)
    exact ⟨M', by rw [b1, yCi_I], b2, b3⟩
  refine hd ?_ e104
  rw [c98_0, yCi_I, c98_1, yCi_I]
  simp only [md (a := n / 8) (b := 5000) (V := 5000) rfl hm (by omega), md (a := n / 8) (b := 40) (V := 40) rfl hm (by omega), md (a := n / 8) (b := 14) (V := 14) rfl hm (by omega), md (a := n / 8) (b := 4) (V := 4) rfl hm (by omega), md (a := n / 8) (b := 24) (V := 24) rfl hm (by omega), md (a := n / 8) (b := 5) (V := 5) rfl hm (by omega), dm (a := n / 8) (b := 64) (c := 5) (B := 64) (C := 5) rfl rfl hm (by omega) (by omega) (by omega), dm (a := n / 8) (b := 512) (c := 2) (B := 512) (C := 2) rfl rfl hm (by omega) (by omega) (by omega), dm (a := n / 8) (b := 256) (c := 4) (B := 256) (C := 4) rfl rfl hm (by omega) (by omega) (by omega), dm (a := n / 8) (b := 16) (c := 12) (B := 16) (C := 12) rfl rfl hm (by omega) (by omega) (by omega), dm (a := n / 8) (b := 16) (c := 14) (B := 16) (C := 14) rfl rfl hm (by omega) (by omega) (by omega), dm (a := n / 8) (b := 64) (c := 2) (B := 64) (C := 2) rfl rfl hm (by omega) (by omega) (by omega), dm (a := n / 8) (b := 4) (c := 4) (B := 4) (C := 4) rfl rfl hm (by omega) (by omega) (by omega), dm (a := n / 8) (b := 128) (c := 24) (B := 128) (C := 24) rfl rfl hm (by omega) (by omega) (by omega), dm (a := n / 8) (b := 8) (c := 16) (B := 8) (C := 16) rfl rfl hm (by omega) (by omega) (by omega), x1]
  have k0 : (Int32.ofNat (n % 8) = 0) = (n % 8 = 0) := oe rfl (by omega) (by omega)
  have k1 : (Int32.ofNat (n % 8) = 1) = (n % 8 = 1) := oe rfl (by omega) (by omega)
  have k2 : (Int32.ofNat (n % 8) = 2) = (n % 8 = 2) := oe rfl (by omega) (by omega)
  have k3 : (Int32.ofNat (n % 8) = 3) = (n % 8 = 3) := oe rfl (by omega) (by omega)
  have k4 : (Int32.ofNat (n % 8) = 4) = (n % 8 = 4) := oe rfl (by omega) (by omega)
  have k5 : (Int32.ofNat (n % 8) = 5) = (n % 8 = 5) := oe rfl (by omega) (by omega)
  have k6 : (Int32.ofNat (n % 8) = 6) = (n % 8 = 6) := oe rfl (by omega) (by omega)
  have z1 : (Int32.ofNat (n / 8 / 256 % 4) = 0) = (n / 8 / 256 % 4 = 0) := oe rfl (by omega) (by omega)
  have z2 : (Int32.ofNat (n / 8 / 64 % 2) = 0) = (n / 8 / 64 % 2 = 0) := oe rfl (by omega) (by omega)
  simp only [k0, k1, k2, k3, k4, k5, k6, z1, z2]
  have d3 : (3 : Int32) = 3 := rfl
  unfold Ssm fl4
  by_cases q0 : n % 8 = 0
  · simp only [if_pos q0]; exact act
  · simp only [if_neg q0]
    by_cases q1 : n % 8 = 1
    · simp only [if_pos q1, if_pos (Or.inl q1 : n % 8 = 1 ∨ n % 8 = 2)]; exact act
    · simp only [if_neg q1]
      by_cases q2 : n % 8 = 2
      · simp only [if_pos q2, if_pos (Or.inr q2 : n % 8 = 1 ∨ n % 8 = 2)]; exact act
      · simp only [if_neg q2, if_neg (show ¬ (n % 8 = 1 ∨ n % 8 = 2) by omega)]
        by_cases q3 : n % 8 = 3
        · simp only [if_pos q3]
          by_cases y : n / 8 / 256 % 4 = 0
          · simp only [if_pos y]; exact act
          · simp only [if_neg y]; exact act
        · simp only [if_neg q3]
          by_cases q4 : n % 8 = 4
          · simp only [if_pos q4, if_pos (Or.inl q4 : n % 8 = 4 ∨ n % 8 = 5)]
            by_cases y : n / 8 / 256 % 4 = 0
            · simp only [if_pos y]; exact act
            · simp only [if_neg y]; exact act
          · simp only [if_neg q4]
            by_cases q5 : n % 8 = 5
            · simp only [if_pos q5, if_pos (Or.inr q5 : n % 8 = 4 ∨ n % 8 = 5)]
              by_cases y : n / 8 / 256 % 4 = 0
              · simp only [if_pos y]; exact act
              · simp only [if_neg y]; exact act
            · simp only [if_neg q5, if_neg (show ¬ (n % 8 = 4 ∨ n % 8 = 5) by omega)]
              by_cases q6 : n % 8 = 6
              · simp only [if_pos q6]
                by_cases y : n / 8 / 64 % 2 = 0
                · simp only [if_pos y]; exact act
                · simp only [if_neg y]; exact act
              · simp only [if_neg q6]; exact act
variable {A : yAb}
theorem c86 (h : RelC M A) (hA : Aok A) (g : yRow) {x : Int64} {k : Int32} : CR (yX 86 0 [some (.ref 7), some (.long x), none, some (.int k), none, none, none, none] [] M 0 0) M (oSim A.1 g x k) A := by
  have ok := hA.1
  refine CR.of ?_ e86
  unfold oSim
  rw [c94, yCi_I, c92]
  by_cases q1 : bet k 1 60
  · obtain ⟨c1, c2⟩ := sim_ix q1
    obtain ⟨M2, a1, a2, a3⟩ := trial h hA g
    have key : ∀ f n (x : Int64) (r : yRow) (M2 : yM) (o1 o2 o7 : Option Value), n + f = yx k → rc M2 27 r → rok r → acy r → (∀ a, (a < 26 ∨ 41 < a) → M2 a = M a) → ∃ M3, yX 86 27 [some (.ref 7), o1, o2, some (.int k), some (.long x), none, some (.int (Int32.ofNat n)), o7] [] M2 1 6 = yI (Sans (Ssi f x r)) M3 ∧ ∀ a, (a < 26 ∨ 41 < a) → M3 a = M a := by
      intro f
      induction f with
      | zero =>
        intro n x r M2 o1 o2 o7 hn hr ok ha hf
        obtain ⟨M3, d1, d2, d3, d4⟩ := c45 yP26 hr ok ha
        have fr : ∀ a, (a < 26 ∨ 41 < a) → M3 a = M a := fun a haa => by rw [d2.1 a (by omega) (by omega), hf a haa]
        have r3 : rc M3 27 r := rc_fr hr (fun a h1 h2 => d2.1 a (by omega) (by omega))
        have e3 : M3 27 3 = r 14 := r3.2.2.2.1
        refine ⟨M3, yL.I e86_27 ?_, fr⟩
        rw [if_neg (by rw [c2, ofN_lt (by omega) (by omega)]; omega), d1, yCv_V, e3, c15 yC27 r3 ok (rok14 ok), yCi_I, d3, d4, Ssi_0, Sans]
      | succ f ih =>
        intro n x r M2 o1 o2 o7 hn hr ok ha hf
        have hlt := rdn_lt x
        obtain ⟨M4, s1, s2, s3⟩ := c104 hr ok hlt
        obtain ⟨p1, p2⟩ := Ssm_ok ok ha (rdn x)
        obtain ⟨M5, t1, t2⟩ := ih (n + 1) (nxr x) (Ssm r (rdn x)) M4 o1 o2 (some (.int (Int32.ofNat (rdn x)))) (by omega) s2 p1 p2 (fun a haa => by rw [s3 a (by omega), hf a haa])
        refine ⟨M5, yL.I e86_27 ?_, t2⟩
        rw [if_pos (by rw [c2, ofN_lt (by omega) (by omega)]; omega), rdn_eq, md (b := 8) (V := 8) rfl hlt (by omega), dv (b := 8) (V := 8) rfl hlt (by omega) (by omega), s1, yCv_V, ofN_succ, nxr_eq, Ssi_s]
        exact t1
    obtain ⟨M3, t1, t2⟩ := key (yx k) 0 x (rj A.1 g) M2 (some (.long x)) none none (by omega) a2 (rj_ok ok) (rj_acy ok hA.2.1) (fun a ha => a3 a (by omega))
    have t1 : yX 86 27 [some (.ref 7), some (.long x), none, some (.int k), some (.long x), none, some (.int 0), none] [] M2 1 6 = yI (Sans (Ssi (yx k) x (rj A.1 g))) M3 := t1
    rw [if_pos q1, if_pos q1, yCv_V, a1, yCv_V, t1]
    exact CR.tr h (fun a ha => t2 a (by omega)) (fun a b1 b3 => t2 a (by omega)) rfl
  · rw [if_neg q1, if_neg q1]
    exact CR.th h rfl
end SIMC
