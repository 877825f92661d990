/-! two objects: one called, the other as it was; the law's loop -/
theorem RelC_f7 {M M' : yM} {A : yAb} (h : RelC M A) (hf : ∀ a, 7 ≤ a → a < 190 → M' a = M a) : RelC M' A := ⟨rc_fr h.1 (fun a b1 b2 => hf a (by omega) (by omega)), MemC_fr h.2.1 (fun a b1 b2 => hf a (by omega) (by omega)), SlC_fr h.2.2.1 (fun a b1 b2 => hf a (by omega) (by omega)), TxC_fr h.2.2.2 (by rw [hf 8 (by omega) (by omega)]) (hf 9 (by omega) (by omega))⟩
theorem LW_f7 {M M' : yM} {A : yAb} (h : LW A M) (hf : ∀ a, 7 ≤ a → a < 190 → M' a = M a) : LW A M' := ⟨RelC_f7 h.1 hf, h.2⟩
theorem sg_1 {a : Nat} (h : 7 ≤ a) (h2 : a < 190) : 190 ≤ sg a := by
  unfold sg
  rw [if_neg (by omega), if_pos h2]
  omega
set_option maxRecDepth 100000 in
theorem bud10 {a b c K : Nat} (h1 : a ≤ 9000 + K) (h2 : b ≤ a + 7562) (h3 : c ≤ b + 6003) : c ≤ 9000 + (K + 13600) := by omega
theorem bud1 {a b c n : Nat} (h1 : a ≤ 9000 + 13600 * n) (h2 : b ≤ a + 7562) (h3 : c ≤ b + 6003) : c ≤ 9000 + 13600 * (n + 1) := bud10 h1 h2 h3
set_option maxRecDepth 1000000 in
theorem bud20 {a b c K : Nat} (h1 : a ≤ 60000 + K) (h2 : b ≤ a + 45372) (h3 : c ≤ b + 36018) : c ≤ 60000 + (K + 81600) := by omega
theorem bud2 {a b c n : Nat} (h1 : a ≤ 60000 + 81600 * n) (h2 : b ≤ a + 45372) (h3 : c ≤ b + 36018) : c ≤ 60000 + 81600 * (n + 1) := bud20 h1 h2 h3
def T2 (A B : yAb) (M : yM) : Prop := LW A M ∧ LW B (sgM M)
section TWO
variable {A A' B B' : yAb} {M : yM} {Q : (Option Value ⊕ Nat) → yM → Prop}
theorem T2_p (h : T2 A B M) {M' : yM} (h1 : LW A' M') (hf : fr M M') : T2 A' B M' := ⟨h1, LW_f7 h.2 (fun a h2 h3 => hf (sg a) (Or.inr (sg_1 h2 h3)))⟩
theorem T2_q (h : T2 A B M) {N : yM} (h1 : LW B' N) (hf : fr (sgM M) N) : T2 A B' (sgM N) := by
  refine ⟨LW_f7 h.1 (fun a h2 h3 => ?_), by rw [sgM_M]; exact h1⟩
  show N (sg a) = M a
  rw [hf (sg a) (Or.inr (sg_1 h2 h3))]
  exact congrArg M (sg_sg a)
theorem rpj {X : Option yRes} {v : Int64} {z : Bool} {f : Int64 → yM → Option yRes} (hS : T2 A B M) (h : LW A M → LJ X M v A') (hf : ∀ M', T2 A' B M' → Ret (f v M') Q) : Ret (yCj z X f) Q := by
  obtain ⟨M', h1, h2, h3⟩ := h hS.1
  rw [h1]
  exact hf M' (T2_p hS h2 h3)
theorem rpi {X : Option yRes} {v : Int32} {z : Bool} {f : Int32 → yM → Option yRes} (hS : T2 A B M) (h : LW A M → LI X M v A') (hf : ∀ M', T2 A' B M' → Ret (f v M') Q) : Ret (yCi z X f) Q := by
  obtain ⟨M', h1, h2, h3⟩ := h hS.1
  rw [h1]
  exact hf M' (T2_p hS h2 h3)
theorem rqj {k : Nat} {ls ls' : xLs} {v : Int64} {z : Bool} {f : Int64 → yM → Option yRes} (hS : T2 A B M) (h : ∀ N, LW B N → LJ (yX k 0 ls [] N 0 0) N v B') (e : sgL ls = ls') (hf : ∀ M', T2 A B' M' → Ret (f v M') Q) : Ret (yCj z (yX k 0 ls' [] M 0 0) f) Q := by
  obtain ⟨N, h1, h2, h3⟩ := h (sgM M) hS.2
  have h4 := yX_sg h1
  rw [sgM_M, e] at h4
  have h4 : yX k 0 ls' [] M 0 0 = yJr v (sgM N) := h4
  rw [h4]
  exact hf (sgM N) (T2_q hS h2 h3)
theorem rqi {k : Nat} {ls ls' : xLs} {v : Int32} {z : Bool} {f : Int32 → yM → Option yRes} (hS : T2 A B M) (h : ∀ N, LW B N → LI (yX k 0 ls [] N 0 0) N v B') (e : sgL ls = ls') (hf : ∀ M', T2 A B' M' → Ret (f v M') Q) : Ret (yCi z (yX k 0 ls' [] M 0 0) f) Q := by
  obtain ⟨N, h1, h2, h3⟩ := h (sgM M) hS.2
  have h4 := yX_sg h1
  rw [sgM_M, e] at h4
  have h4 : yX k 0 ls' [] M 0 0 = yI v (sgM N) := h4
  rw [h4]
  exact hf (sgM N) (T2_q hS h2 h3)
theorem rai {X : Option yRes} {z : Bool} {f : Int32 → yM → Option yRes} {v : Int32} (h : ∃ M', X = yI v M' ∧ T2 A' B' M') (hf : ∀ M', T2 A' B' M' → Ret (f v M') Q) : Ret (yCi z X f) Q := by
  obtain ⟨M', h1, h2⟩ := h
  rw [h1]
  exact hf M' h2
/-- two cards in one state answer alike -/
theorem w139 {x : Int32} (S : T2 A A M) : ∃ M', yX 139 0 [some (.ref 7), some (.ref 190), some (.int x)] [] M 0 0 = yI 1 M' ∧ T2 A A M' := by
  have key : Ret (yX 139 0 [some (.ref 7), some (.ref 190), some (.int x)] [] M 0 0) (fun o M' => o = .inl (some (.int 1)) ∧ T2 A A M') := by
    refine Ret.E h139 ?_
    refine rpj S w135 (fun M1 S1 => rqj S1 (fun N L => w135 L) rfl (fun M2 S2 => Ret.pos rfl ?_))
    refine rpi S2 w60 (fun M3 S3 => rqi S3 (fun N L => w60 L) rfl (fun M4 S4 => Ret.pos rfl ?_))
    refine Ret.E h139_23 ?_
    refine rpi S4 w83 (fun M5 S5 => rqi S5 (fun N L => w83 L) rfl (fun M6 S6 => Ret.pos rfl ?_))
    refine rpj S6 w128 (fun M7 S7 => rqj S7 (fun N L => w128 L) rfl (fun M8 S8 => Ret.pos rfl ?_))
    refine Ret.E h139_60 ?_
    refine rpj S8 w116 (fun M9 S9 => rqj S9 (fun N L => w116 L) rfl (fun M10 S10 => Ret.pos rfl ?_))
    refine rpj S10 w132 (fun M11 S11 => rqj S11 (fun N L => w132 L) rfl (fun M12 S12 => Ret.pos rfl ?_))
    refine Ret.E h139_108 ?_
    exact rpj S12 w131 (fun M13 S13 => rqj S13 (fun N L => w131 L) rfl (fun M14 S14 => Ret.pos rfl (Ret.I ⟨rfl, S14⟩)))
  obtain ⟨o, M', h1, h2, h3⟩ := key
  subst h2
  exact ⟨M', h1, h3⟩
def nrm (A : yAb) : yAb := (rj A.1 g0, A.2)
theorem nrm_N : Nrm (nrm A).1 := by
  funext j
  show rj (rj A.1 g0) g0 j = rj A.1 g0 j
  unfold rj
  split <;> rfl
theorem LW_nrm (h : LW A M) : LW (nrm A) M := ⟨⟨rj_rc h.2.1.1 h.1.1, h.1.2⟩, ⟨rj_ok h.2.1.1, rj_acy h.2.1.1 h.2.1.2.1, h.2.1.2.2⟩, ⟨rj_tgt h.2.1.1 h.2.2.1, h.2.2.2⟩⟩
theorem T2_nrm (h : T2 A A M) : T2 (nrm A) (nrm A) M := ⟨LW_nrm h.1, LW_nrm h.2⟩
/-- a draw is a number not below nothing -/
theorem w105 {i : Nat} {ii : Int32} (hi : Int32.ofNat i = ii) (h : i < 200) : ∃ n, n < 2147483648 ∧ yX 105 0 [some (.ref 0), some (.int ii)] [] M 0 0 = yI (Int32.ofNat n) M := by
  subst hi
  have hm : ∀ x : Int32, ∃ n, n < 2147483648 ∧ x &&& 2147483647 = Int32.ofNat n := fun x => by
    obtain ⟨j, j1, j2⟩ := pk_andE x (m := 2147483647) 31 (by decide)
    exact ⟨j, j1, j2⟩
  have hy : ylen M < 2147483648 := by
    unfold ylen
    have h1 : ∀ x : Int32, x.toNatClampNeg < 2147483648 := fun x => by
      have h2 := Int32.toInt_lt x
      show x.toInt.toNat < _
      omega
    exact h1 _
  by_cases hc : i < ylen M
  · obtain ⟨n, n1, n2⟩ := hm (M 0 (yx (Int32.ofNat i)))
    refine ⟨n, n1, yL.I e105 ?_⟩
    rw [if_pos ((ofN_lt (by omega) hy).mpr hc), if_pos (yin_ofN hc hy), n2]
  · obtain ⟨n, n1, n2⟩ := hm (15594227 * Int32.ofNat i + 10799)
    refine ⟨n, n1, yL.I e105 ?_⟩
    rw [if_neg (fun z => hc ((ofN_lt (by omega) hy).mp z)), n2]
theorem two_n (n : Nat) : (2 : Int32) * Int32.ofNat n = Int32.ofNat (2 * n) := by rw [Int32.ofNat_mul]; rfl
theorem two_n1 (n : Nat) : (2 : Int32) * Int32.ofNat n + 1 = Int32.ofNat (2 * n + 1) := by rw [two_n, ofN_succ]
def QL (o : Option Value ⊕ Nat) (_ : yM) : Prop := o = .inl (some (.int 1))
theorem law_237 {n m : Nat} (hn : n < 40) {o5 : Option Value} {nc ns : Nat} (S : T2 A A M) (hc : nc ≤ 580000) (hn2 : ns ≤ 6000000) (hk : ∀ (M' : yM) (nc' ns' : Nat) (o5 o6 : Option Value), T2 A A M' → nc' ≤ nc + 1000 → ns' ≤ ns + 6000 → Ret (yX 143 52 [some (.ref 0), some (.ref 7), some (.ref 190), some (.int 1), some (.int (Int32.ofNat (n + 1))), o5, o6] [] M' nc' ns') QL) : Ret (yX 143 237 [some (.ref 0), some (.ref 7), some (.ref 190), some (.int 1), some (.int (Int32.ofNat n)), o5, some (.int (Int32.ofNat m))] [] M nc ns) QL := by
  refine Ret.E (e143_237 ⟨by omega, by omega⟩) (Ret.neg (by decide) ?_)
  rw [ofN_succ]
  refine Ret.ite (fun _ => ?_) (fun _ => hk M nc ns _ _ S (by omega) (by omega))
  exact rai (w139 S) (fun M1 S1 => Ret.neg (by decide) (hk M1 _ _ _ _ S1 (by omega) (by omega)))
theorem law_188 {n m : Nat} (hm : m < 2147483648) (hn : n < 40) (hN : Nrm A.1) {o5 : Option Value} {nc ns : Nat} (S : T2 A A M) (hc : nc ≤ 570000) (hn2 : ns ≤ 5000000) (hk : ∀ (A' : yAb) (M' : yM) (nc' ns' : Nat) (o5 o6 : Option Value), T2 A' A' M' → nc' ≤ nc + 6003 → ns' ≤ ns + 36018 → Ret (yX 143 52 [some (.ref 0), some (.ref 7), some (.ref 190), some (.int 1), some (.int (Int32.ofNat (n + 1))), o5, o6] [] M' nc' ns') QL) : Ret (yX 143 188 [some (.ref 0), some (.ref 7), some (.ref 190), some (.int 1), some (.int (Int32.ofNat n)), o5, some (.int (Int32.ofNat m))] [] M nc ns) QL := by
  obtain ⟨s1, s2⟩ := roks S.1.2.1.1
  refine Ret.E (e143_188 ⟨by omega, by omega⟩) ?_
  refine Ret.ite (fun _ => Ret.neg (by decide) ?_) (fun _ => law_237 hn S (by omega) (by omega) (fun M' nc' ns' o5 o6 S' h1 h2 => hk A M' nc' ns' o5 o6 S' (by omega) (by omega)))
  refine rqi S (fun N L => w138 hm L hN) rfl (fun M1 S1 => Ret.neg (by decide) ?_)
  have hb1 : bet (1 : Int32) 0 1 := ⟨by decide, by decide⟩
  have esv : ol (oSav A 1) = (A.1 15).toInt64 := by unfold oSav; rw [if_pos hb1]; rfl
  have wsv : ∀ {M : yM}, LW A M → LJ (yX 133 0 [some (.ref 7), some (.int 1), none] [] M 0 0) M (A.1 15).toInt64 (nSav A 1) := fun L => (w133 (a := 1) L).c esv
  have wrs : ∀ {M : yM}, LW (nSav A 1) M → LJ (yX 134 0 [some (.ref 7), some (.int 1), none] [] M 0 0) M (A.1 15).toInt64 (nRes (nSav A 1) 1) := fun L => (w134 (a := 1) L).c (by rw [(sav_1 (A := A)).1]; exact (res_1 A.2.1).2)
  refine rpj S1 wsv (fun M2 S2 => Ret.neg (by rw [s2]; exact ge_l (by omega)) ?_)
  refine rpj S2 wrs (fun M3 S3 => Ret.neg (by rw [s2]; exact ge_l (by omega)) ?_)
  exact law_237 hn S3 (by omega) (by omega) (fun M' nc' ns' o5 o6 S' h1 h2 => hk _ M' nc' ns' o5 o6 S' (by omega) (by omega))
theorem law_52 : ∀ d n (A : yAb) (M : yM) (nc ns : Nat) (o5 o6 : Option Value), n + d = 40 → Nrm A.1 → T2 A A M → nc ≤ 9000 + 13600 * n → ns ≤ 60000 + 81600 * n → Ret (yX 143 52 [some (.ref 0), some (.ref 7), some (.ref 190), some (.int 1), some (.int (Int32.ofNat n)), o5, o6] [] M nc ns) QL := by
  intro d
  induction d with
  | zero =>
    intro n A M nc ns o5 o6 h hN S hc hn2
    have h : n = 40 := h
    subst h
    refine Ret.E (e143_52 ⟨by omega, by omega⟩) (Ret.neg (by decide) (Ret.neg (by decide) ?_))
    exact rai (w139 S) (fun M1 S1 => Ret.neg (by decide) (Ret.I rfl))
  | succ d ih =>
    intro n A M nc ns o5 o6 h hN S hc hn2
    have hn : n < 40 := by omega
    refine Ret.E (e143_52 ⟨by omega, by omega⟩) (Ret.pos (ofN_lti (v := 40) (m := 40) rfl (by omega) hn) (Ret.neg (by decide) ?_))
    obtain ⟨a, a1, a2⟩ := w105 (M := M) (two_n n).symm (by omega)
    obtain ⟨b, b1, b2⟩ := w105 (M := M) (two_n1 n).symm (by omega)
    rw [a2, yCi_I, b2, yCi_I]
    by_cases h0 : n = 0
    · subst h0
      refine Ret.pos rfl ?_
      refine rpi S (fun L => w141 a1 L) (fun M1 S1 => Ret.neg (by decide) ?_)
      refine rqi S1 (fun N L => w141 a1 L) rfl (fun M2 S2 => Ret.neg (by decide) ?_)
      refine rpj S2 w108 (fun M3 S3 => rqj S3 (fun N L => w108 L) rfl (fun M4 S4 => Ret.pos rfl ?_))
      rw [ofN_succ]
      exact ih 1 _ M4 _ _ _ _ (by omega) nrm_N (T2_nrm S4) (by omega) (by omega)
    · refine Ret.neg (by rw [oe (b := 0) (V := 0) rfl (by omega) (by omega)]; exact h0) ?_
      obtain ⟨v, A', hd⟩ := w142 (A := A) (x := Int32.ofNat a) (y := Int32.ofNat b)
      refine rpj S (fun L => hd M L) (fun M1 S1 => rqj S1 (fun N L => hd N L) rfl (fun M2 S2 => Ret.pos rfl ?_))
      have S2 := T2_nrm S2
      have k188 : ∀ (M : yM) (nc' ns' : Nat) (o5 : Option Value), T2 (nrm A') (nrm A') M → nc' ≤ nc + 7562 → ns' ≤ ns + 45372 → Ret (yX 143 188 [some (.ref 0), some (.ref 7), some (.ref 190), some (.int 1), some (.int (Int32.ofNat n)), o5, some (.int (Int32.ofNat b))] [] M nc' ns') QL := by
        intro M nc' ns' o5 S g1 g2
        have h1 : nc' ≤ 570000 := by omega
        have h2 : ns' ≤ 5000000 := by omega
        refine law_188 b1 hn nrm_N S h1 h2 ?_
        intro A2 M' nc2 ns2 o5 o6 S' h3 h4
        have h5 : nc2 ≤ 9000 + 13600 * (n + 1) := bud1 hc g1 h3
        have h6 : ns2 ≤ 60000 + 81600 * (n + 1) := bud2 hn2 g2 h4
        exact ih (n + 1) (nrm A2) M' nc2 ns2 o5 o6 (by omega) nrm_N (T2_nrm S') h5 h6
      refine Ret.ite (fun _ => ?_) (fun _ => k188 M2 _ _ _ S2 (by omega) (by omega))
      refine rqi S2 (fun N L => w136 L) rfl (fun M3 S3 => Ret.neg (by decide) ?_)
      refine rqi S3 (fun N L => w137 L) rfl (fun M4 S4 => Ret.neg (by decide) ?_)
      exact k188 M4 _ _ _ S4 (by omega) (by omega)
theorem law_16 {nc ns : Nat} {o3 o4 o5 o6 : Option Value} (hN : Nrm A.1) (S : T2 A A M) (hc : nc ≤ 500) (hn2 : ns ≤ 9000) : Ret (yX 143 16 [some (.ref 0), some (.ref 7), some (.ref 190), o3, o4, o5, o6] [] M nc ns) QL := by
  refine Ret.E (e143_16 ⟨by omega, by omega⟩) ?_
  obtain ⟨a, a1, a2⟩ := w105 (M := M) (i := 0) (ii := 0) rfl (by omega)
  rw [a2, yCi_I]
  refine rai (w139 S) (fun M1 S1 => Ret.neg (by decide) ?_)
  refine rpi S1 (fun L => w136 L) (fun M2 S2 => Ret.neg (by decide) ?_)
  refine rpi S2 (fun L => w137 L) (fun M3 S3 => Ret.neg (by decide) ?_)
  exact law_52 40 0 A M3 _ _ _ _ rfl hN S3 (by omega) (by omega)
end TWO
