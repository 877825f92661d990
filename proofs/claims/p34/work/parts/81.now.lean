/-! loops; all that is told of a card, as one number -/
theorem lp {α : Type} {P : Nat → α → yM → Nat → Nat → Prop} {I : Nat → α → Prop} {f : Nat → α → α} {N c s c0 s0 : Nat} {a0 : α} {M0 : yM} {A : yAb}
    (hs : ∀ n a M nc ns, n < N → I n a → St M0 A M → nc ≤ c0 + c * n → ns ≤ s0 + s * n → I (n + 1) (f n a) ∧ ((∀ M' nc' ns', St M0 A M' → nc' ≤ nc + c → ns' ≤ ns + s → P (n + 1) (f n a) M' nc' ns') → P n a M nc ns))
    (he : ∀ M nc ns, I N (yfo f 0 N a0) → St M0 A M → nc ≤ c0 + c * N → ns ≤ s0 + s * N → P N (yfo f 0 N a0) M nc ns) (hi : I 0 a0) {M : yM} {nc ns : Nat} (hS : St M0 A M) (hc : nc ≤ c0) (hn : ns ≤ s0) : P 0 a0 M nc ns := by
  have key : ∀ d n a M nc ns, n + d = N → yfo f n d a = yfo f 0 N a0 → I n a → St M0 A M → nc ≤ c0 + c * n → ns ≤ s0 + s * n → P n a M nc ns := by
    intro d
    induction d with
    | zero =>
      intro n a M nc ns h e i S h1 h2
      have hN : n = N := h
      subst hN
      have ha : a = yfo f 0 n a0 := e
      rw [ha] at i ⊢
      exact he M nc ns i S h1 h2
    | succ d ih =>
      intro n a M nc ns h e i S h1 h2
      obtain ⟨i', hk⟩ := hs n a M nc ns (by omega) i S h1 h2
      refine hk (fun M' nc' ns' S' h3 h4 => ih (n + 1) (f n a) M' nc' ns' (by omega) e i' S' ?_ ?_)
      · rw [Nat.mul_succ]; omega
      · rw [Nat.mul_succ]; omega
  exact key N 0 a0 M nc ns (Nat.zero_add N) rfl hi hS (by omega) (by omega)
section OL
variable {r : yRow} {a b : Int32}
theorem ol_r (v : Int32) : ol (.inr v) = v.toInt64 := rfl
theorem ol_abt (h : bet a 0 9) : ol (oAbt r a) = (Sabt r a).toInt64 := by unfold oAbt; rw [if_pos h]; rfl
theorem ol_abt0 : ol (oAbt r 0) = (r 0).toInt64 := ol_abt ⟨by decide, by decide⟩
theorem ol_abt1 : ol (oAbt r 1) = (r 15).toInt64 := ol_abt ⟨by decide, by decide⟩
theorem abt_lt0 (ok : rok r) {n : Nat} (h : n < 100) : ((Int32.ofNat n).toInt64 < ol (oAbt r 0)) ↔ n < many r := by
  obtain ⟨m1, m2⟩ := rokm ok
  rw [ol_abt0, w_lt, m2, ofN_lt (by omega) (by omega)]
theorem abt_lt1 (ok : rok r) {n : Nat} (h : n < 100) : ((Int32.ofNat n).toInt64 < ol (oAbt r 1)) ↔ n < stps r := by
  obtain ⟨m1, m2⟩ := roks ok
  rw [ol_abt1, w_lt, m2, ofN_lt (by omega) (by omega)]
end OL
def nwA (r : yRow) (n : Nat) (a : Int64) : Int64 := 31 * a + ol (oAbt r (Int32.ofNat n))
def nwB (r : yRow) (n : Nat) (a : Int64) : Int64 := if n < 4 then 31 * a + ol (oSet r (Int32.ofNat n)) + 97 * ol (oPcs r (Int32.ofNat n)) else 31 * a + ol (oSet r (Int32.ofNat n)) + 0
def nwC (r : yRow) (n : Nat) (a : Int64) : Int64 := 31 * a + ol (oIng r (Int32.ofNat n) 0)
def nwD (r : yRow) (s k : Nat) (a : Int64) : Int64 := 31 * a + ol (oStp r (Int32.ofNat s) (Int32.ofNat k))
def nwE (r : yRow) (s : Nat) (a : Int64) : Int64 := yfo (nwD r s) 0 5 a
def oNow (r : yRow) : Int64 := yfo (nwE r) 0 (stps r) (yfo (nwC r) 0 (many r) (yfo (nwB r) 0 5 (yfo (nwA r) 0 10 127)))
section NOW
variable {A : yAb} {M M0 : yM}
theorem w135 (L : LW A M) : LJ (yX 135 0 [some (.ref 7), none, none, none, none] [] M 0 0) M (oNow A.1) A := by
  obtain ⟨m1, m2⟩ := rokm L.2.1.1
  obtain ⟨s1, s2⟩ := roks L.2.1.1
  refine Ret.LJ ?_
  refine Ret.E (e135 ⟨by omega, by omega⟩) ?_
  refine lp (P := fun n (v : Int64) M' nc ns => Ret (yX 135 6 [some (.ref 7), some (.long v), none, some (.int (Int32.ofNat n)), none] [] M' nc ns) _) (I := fun _ _ => True) (f := nwA A.1) (N := 10) (c := 1) (s := 6) (c0 := 0) (s0 := 0) (M0 := M) (A := A) ?_ ?_ trivial (St.rf L) (Nat.le_refl _) (Nat.le_refl _)
  · intro n v M' nc ns hn _ S h1 h2
    refine ⟨trivial, fun hk => ?_⟩
    refine Ret.E (e135_6 ⟨by omega, by omega⟩) (Ret.pos (ofN_lti (v := 10) (m := 10) rfl (by omega) hn) (Ret.cj S w109 (fun M1 S1 => ?_)))
    rw [ofN_succ]
    exact hk M1 (nc + 1) (ns + 6) S1 (by omega) (by omega)
  intro M1 nc1 ns1 _ S1 c1 z1
  refine Ret.E (e135_6 ⟨by omega, by omega⟩) (Ret.neg (by decide) ?_)
  refine lp (P := fun n (v : Int64) M' nc ns => Ret (yX 135 32 [some (.ref 7), some (.long v), none, some (.int (Int32.ofNat n)), none] [] M' nc ns) _) (I := fun _ _ => True) (f := nwB A.1) (N := 5) (c := 2) (s := 12) (c0 := 10) (s0 := 60) (M0 := M) (A := A) ?_ ?_ trivial S1 (by omega) (by omega)
  · intro n v M' nc ns hn _ S h1 h2
    refine ⟨trivial, fun hk => ?_⟩
    refine Ret.E (e135_32 ⟨by omega, by omega⟩) (Ret.pos (ofN_lti (v := 5) (m := 5) rfl (by omega) hn) (Ret.cj S w115 (fun M2 S2 => ?_)))
    by_cases h4 : n < 4
    · refine Ret.pos (ofN_lti (v := 4) (m := 4) rfl (by omega) h4) (Ret.cj S2 w114 (fun M3 S3 => ?_))
      rw [ofN_succ]
      have := hk M3 (nc + 2) (ns + 12) S3 (by omega) (by omega)
      unfold nwB at this
      rw [if_pos h4] at this
      exact this
    · refine Ret.neg (ofN_nlti (v := 4) (m := 4) rfl (by omega) (by omega) h4) ?_
      rw [ofN_succ]
      have := hk M2 (nc + 1) (ns + 6) S2 (by omega) (by omega)
      unfold nwB at this
      rw [if_neg h4] at this
      exact this
  intro M2 nc2 ns2 _ S2 c2 z2
  refine Ret.E (e135_32 ⟨by omega, by omega⟩) (Ret.neg (by decide) ?_)
  refine lp (P := fun n (v : Int64) M' nc ns => Ret (yX 135 76 [some (.ref 7), some (.long v), none, some (.int (Int32.ofNat n)), none] [] M' nc ns) _) (I := fun _ _ => True) (f := nwC A.1) (N := many A.1) (c := 3) (s := 18) (c0 := 20) (s0 := 120) (M0 := M) (A := A) ?_ ?_ trivial S2 (by omega) (by omega)
  · intro n v M' nc ns hn _ S h1 h2
    refine ⟨trivial, fun hk => ?_⟩
    refine Ret.E (e135_76 ⟨by omega, by omega⟩) (Ret.cj S w109 (fun M2 S2 => ?_))
    refine Ret.pos ((abt_lt0 L.2.1.1 (by omega)).mpr hn) (Ret.cj S2 w110 (fun M3 S3 => ?_))
    rw [ofN_succ]
    exact hk M3 (nc + 3) (ns + 18) S3 (by omega) (by omega)
  intro M3 nc3 ns3 _ S3 c3 z3
  refine Ret.E (e135_76 ⟨by omega, by omega⟩) (Ret.cj S3 w109 (fun M4 S4 => ?_))
  refine Ret.neg (fun z => Nat.lt_irrefl _ ((abt_lt0 L.2.1.1 (by omega)).mp z)) ?_
  refine lp (P := fun n (v : Int64) M' nc ns => ∀ o4, Ret (yX 135 108 [some (.ref 7), some (.long v), none, some (.int (Int32.ofNat n)), o4] [] M' nc ns) _) (I := fun _ _ => True) (f := nwE A.1) (N := stps A.1) (c := 11) (s := 66) (c0 := 60) (s0 := 360) (M0 := M) (A := A) ?_ ?_ trivial S4 (by omega) (by omega) none
  · intro n v M' nc ns hn _ S h1 h2
    refine ⟨trivial, fun hk o4 => ?_⟩
    refine Ret.E (e135_108 ⟨by omega, by omega⟩) (Ret.cj S w109 (fun M5 S5 => ?_))
    refine Ret.pos ((abt_lt1 L.2.1.1 (by omega)).mpr hn) ?_
    refine lp (P := fun k (v : Int64) M' nc ns => Ret (yX 135 122 [some (.ref 7), some (.long v), none, some (.int (Int32.ofNat n)), some (.int (Int32.ofNat k))] [] M' nc ns) _) (I := fun _ _ => True) (f := nwD A.1 n) (N := 5) (c := 2) (s := 12) (c0 := nc + 1) (s0 := ns + 6) (M0 := M) (A := A) ?_ ?_ trivial S5 (by omega) (by omega)
    · intro k v M' nc' ns' hk5 _ S h3 h4
      refine ⟨trivial, fun hk => ?_⟩
      refine Ret.E (e135_122 ⟨by omega, by omega⟩) (Ret.pos (ofN_lti (v := 5) (m := 5) rfl (by omega) hk5) (Ret.cj S w112 (fun M2 S2 => ?_)))
      rw [ofN_succ]
      exact hk M2 (nc' + 2) (ns' + 12) S2 (by omega) (by omega)
    intro M6 nc6 ns6 _ S6 c6 z6
    refine Ret.E (e135_122 ⟨by omega, by omega⟩) (Ret.neg (by decide) ?_)
    rw [ofN_succ]
    exact hk M6 nc6 ns6 S6 (by omega) (by omega) _
  intro M5 nc5 ns5 _ S5 c5 z5 o4
  refine Ret.E (e135_108 ⟨by omega, by omega⟩) (Ret.cj S5 w109 (fun M6 S6 => ?_))
  refine Ret.neg (fun z => Nat.lt_irrefl _ ((abt_lt1 L.2.1.1 (by omega)).mp z)) ?_
  exact Ret.J ⟨rfl, S6⟩
theorem w106 {a b c : Int64} (h : a ≥ b) (h2 : a ≤ c) (L : LW A M) : LI (yX 106 0 [some (.long a), none, some (.long b), none, some (.long c), none] [] M 0 0) M 1 A := by
  refine Ret.LI (Ret.E e106 ?_)
  refine Ret.neg (by rw [Int64.lt_iff_toInt_lt]; rw [ge_iff_le, Int64.le_iff_toInt_le] at h; omega) (Ret.pos h2 (Ret.I ⟨rfl, St.rf L⟩))
end NOW
