/-! what would be is so when it is done; what is undone or restored is as it was -/
theorem prf4 {r : yRow} {a b d : Int32} : prfR r 4 a b d = upd r (86 + yx a) b ∧ prfV r 4 a b d = r (86 + yx a) := by
  unfold prfR prfV
  rw [if_neg (by decide), if_neg (by decide), if_neg (by decide), if_neg (by decide), if_pos rfl, if_neg (by decide), if_neg (by decide), if_neg (by decide), if_neg (by decide), if_pos rfl]
  exact ⟨rfl, rfl⟩
theorem prf5 {r : yRow} {a b d : Int32} : prfR r 5 a b d = upd (upd r 13 a) 14 b ∧ prfV r 5 a b d = b := by
  unfold prfR prfV
  rw [if_neg (by decide), if_neg (by decide), if_neg (by decide), if_neg (by decide), if_neg (by decide), if_pos rfl, if_neg (by decide), if_neg (by decide), if_neg (by decide), if_neg (by decide), if_neg (by decide), if_pos rfl]
  exact ⟨rfl, rfl⟩
theorem prf6 {r : yRow} {a b d : Int32} : prfR r 6 a b d = upd r (90 + yx a) b ∧ prfV r 6 a b d = r (90 + yx a) := by
  unfold prfR prfV
  rw [if_neg (by decide), if_neg (by decide), if_neg (by decide), if_neg (by decide), if_neg (by decide), if_neg (by decide), if_pos rfl, if_neg (by decide), if_neg (by decide), if_neg (by decide), if_neg (by decide), if_neg (by decide), if_neg (by decide), if_pos rfl]
  exact ⟨rfl, rfl⟩
theorem prf8 {r : yRow} {a b d : Int32} : prfR r 8 a b d = upd r (16 + yx a) b ∧ prfV r 8 a b d = r (16 + yx a) := by
  unfold prfR prfV
  rw [if_neg (by decide), if_neg (by decide), if_neg (by decide), if_neg (by decide), if_neg (by decide), if_neg (by decide), if_neg (by decide), if_neg (by decide), if_neg (by decide), if_neg (by decide), if_neg (by decide), if_neg (by decide), if_neg (by decide), if_neg (by decide), if_neg (by decide), if_neg (by decide)]
  exact ⟨rfl, rfl⟩
theorem fz4 {r : yRow} {a b : Int32} (h : bet a 0 3) (h2 : bet b 0 3) : flt r 4 a b 0 = 0 := by unfold flt; rw [if_neg (by decide), if_neg (by decide), if_neg (by decide), if_neg (by decide), if_pos rfl, if_pos h, if_pos h2]
theorem fz5 {r : yRow} {a b : Int32} (h : bet a 1 24) (h2 : bet b 1 24) : flt r 5 a b 0 = 0 := by unfold flt; rw [if_neg (by decide), if_neg (by decide), if_neg (by decide), if_neg (by decide), if_neg (by decide), if_pos rfl, if_pos ⟨h, h2⟩]
theorem fz6 {r : yRow} {a b : Int32} (h : bet a 0 4 ∧ bet b (xsR0 2 (yx a)) (xsR0 3 (yx a))) : flt r 6 a b 0 = 0 := by unfold flt; rw [if_neg (by decide), if_neg (by decide), if_neg (by decide), if_neg (by decide), if_neg (by decide), if_neg (by decide), if_pos rfl, if_pos h]
theorem fz8 {r : yRow} {a b : Int32} (h : bet a 0 (r 15 - 1)) (h2 : bet b 1 90) : flt r 8 a b 0 = 0 := by unfold flt; rw [if_neg (by decide), if_neg (by decide), if_neg (by decide), if_neg (by decide), if_neg (by decide), if_neg (by decide), if_neg (by decide), if_neg (by decide), if_pos h, if_pos h2]
section FOL
variable {A B : yAb} {M M0 : yM} {X : Option yRes}
theorem LJ.f0 {act a b d : Int32} (h : LJ X M (ol (oAct B act a b d)) (nAct B act a b d)) (hf : flt B.1 act a b d = 0) : LJ X M (prfV B.1 act a b d).toInt64 (aAct B act a b d) := by
  rw [(oAct_0 hf).1, (oAct_0 hf).2] at h
  exact h
theorem LJ.s0 {a b : Int32} (h : LJ X M (ol (oSrv B a b)) (nAct B 5 a b 0)) (hf : flt B.1 5 a b 0 = 0) : LJ X M (Sall (prfR B.1 5 a b 0) b).toInt64 (aAct B 5 a b 0) := by
  rw [(oAct_0 hf).2] at h
  refine h.c ?_
  unfold oSrv
  rw [(oAct_0 hf).1, prf5.2]
  rfl
theorem undo_back (hB : Aok B) {act a b d : Int32} (hr : rj B.1 (prfR B.1 act a b d) = B.1) : ∃ μ n, nUnd (aAct B act a b d) = (B.1, μ, B.2.2) ∧ ol (oUnd (aAct B act a b d)) = (Int32.ofNat n).toInt64 ∧ n ≤ 14 := by
  have h14 := hB.2.2.1
  have hc : (aAct B act a b d).2.1.1 = min (B.2.1.1 + 1) 14 := rfl
  refine ⟨(min (B.2.1.1 + 1) 14 - 1, mpu B.2.1.1 B.2.1.2 B.1), min (B.2.1.1 + 1) 14 - 1, ?_, ?_, by omega⟩
  · unfold nUnd
    rw [if_neg (by rw [hc]; omega)]
    have e : (aAct B act a b d).2.1.2 ((aAct B act a b d).2.1.1 - 1) = B.1 := by
      show mpu B.2.1.1 B.2.1.2 B.1 (min (B.2.1.1 + 1) 14 - 1) = B.1
      unfold mpu
      by_cases h : B.2.1.1 = 14
      · rw [if_pos h, if_pos (by omega)]
      · rw [if_neg h, if_pos (by omega)]
    rw [e]
    show (rj B.1 (prfR B.1 act a b d), _, _) = _
    rw [hr]
    rfl
  · unfold oUnd
    rw [if_neg (by rw [hc]; omega), hc]
    rfl
theorem ge_l {n : Nat} (h : n < 2147483648) : ¬ (Int32.ofNat n).toInt64 < 0 := by
  rw [show (0 : Int64) = (Int32.ofNat 0).toInt64 from rfl, w_lt, ofN_lt h (by omega)]
  omega
theorem LW_mem0 {r : yRow} {m m' : Nat → yRow} {x : ((Nat → Bool) × (Nat → yRow)) × (Nat × (Nat → Int32))} (h : LW (r, (0, m), x) M) : LW (r, (0, m'), x) M := by
  obtain ⟨⟨h1, h2, h3, h4⟩, ⟨k1, k2, k3, k4, k5⟩, ⟨j1, j2, j3⟩⟩ := h
  obtain ⟨z, z1, z2, z3, _⟩ := h2
  exact ⟨⟨h1, ⟨z, z1, z2, z3, fun u hu => absurd hu (Nat.not_lt_zero u)⟩, h3, h4⟩, ⟨k1, k2, k3, fun u hu => absurd hu (Nat.not_lt_zero u), k5⟩, ⟨j1, fun u hu => absurd hu (Nat.not_lt_zero u), j3⟩⟩
def Bm (A : yAb) (μ : Nat × (Nat → yRow)) : yAb := (A.1, μ, (nSav A 1).2.2)
theorem sav_1 : nSav A 1 = Bm A A.2.1 ∧ (nSav A 1).2.2.1.1 (yx 1) = true ∧ (nSav A 1).2.2.1.2 (yx 1) = A.1 := by
  have h : bet (1 : Int32) 0 1 := ⟨by decide, by decide⟩
  unfold Bm nSav
  rw [if_pos h]
  refine ⟨rfl, ?_, ?_⟩
  · show (if yx 1 = yx 1 then true else A.2.2.1.1 (yx 1)) = true
    exact if_pos rfl
  · show (if yx 1 = yx 1 then A.1 else A.2.2.1.2 (yx 1)) = A.1
    exact if_pos rfl
theorem res_1 (μ : Nat × (Nat → yRow)) : nRes (Bm A μ) 1 = (A.1, (0, μ.2), (nSav A 1).2.2) ∧ ol (oRes (Bm A μ) 1) = (A.1 15).toInt64 := by
  have h : bet (1 : Int32) 0 1 := ⟨by decide, by decide⟩
  have h2 := (sav_1 (A := A)).2.1
  have h3 := (sav_1 (A := A)).2.2
  have h2' : (Bm A μ).2.2.1.1 (yx 1) = true := h2
  have h3' : (Bm A μ).2.2.1.2 (yx 1) = A.1 := h3
  unfold nRes oRes
  rw [if_pos h, if_pos h2', if_pos h, if_pos h2', h3']
  refine ⟨?_, rfl⟩
  show (rj A.1 A.1, _, _) = _
  rw [rj_self]
  rfl
theorem foll_609 {M : yM} {nc ns : Nat} {C : yAb} {μ : Nat × (Nat → yRow)} {n : Nat} (hu1 : nUnd C = Bm A μ) (hu2 : ol (oUnd C) = (Int32.ofNat n).toInt64) (hn : n ≤ 14) (hA : Aok A) {o1 o4 o5 o6 o7 o8 o9 o10 o11 o12 o13 o14 o15 o16 o17 o18 o19 o20 o21 : Option Value} (S : St M0 C M) (hc : nc ≤ 3300) (hn2 : ns ≤ 19800) : Ret (yX 138 609 [some (.ref 7), o1, some (.long (oNow A.1)), none, o4, o5, o6, o7, o8, o9, o10, o11, o12, o13, o14, o15, o16, o17, o18, o19, o20, o21] [] M nc ns) (fun o M' => o = .inl (some (.int 1)) ∧ St M0 (nRes (nSav A 1) 1) M') := by
  obtain ⟨s1, s2⟩ := roks hA.1
  refine Ret.E (e138_609 ⟨by omega, by omega⟩) ?_
  refine Ret.cj S (fun L => by have := (w126 L).c hu2; rw [hu1] at this; exact this) (fun M1 S1 => Ret.neg (ge_l (by omega)) ?_)
  refine Ret.cj S1 (fun L => by have := (w134 (a := 1) L).c (res_1 μ).2; rw [(res_1 μ).1] at this; exact this) (fun M2 S2 => Ret.neg (by rw [s2]; exact ge_l (by omega)) ?_)
  refine Ret.cj S2 w135 (fun M3 S3 => Ret.pos rfl ?_)
  have e1 : ol (oUnd (A.1, (0, μ.2), (nSav A 1).2.2)) = -9000000000000000003 := by
    unfold oUnd
    rw [if_pos rfl]
    rfl
  have e2 : nUnd (A.1, (0, μ.2), (nSav A 1).2.2) = (A.1, (0, μ.2), (nSav A 1).2.2) := by
    unfold nUnd
    rw [if_pos rfl]
  refine Ret.cj S3 (fun L => (w126 L).n e1 e2) (fun M4 S4 => Ret.pos rfl (Ret.I ⟨rfl, ?_, S4.2⟩))
  rw [(sav_1 (A := A)).1, (res_1 A.2.1).1]
  exact LW_mem0 S4.1
theorem foll_515 (hA : Aok A) (hN : Nrm A.1) {μ : Nat × (Nat → yRow)} {M : yM} {nc ns : Nat} {o1 o5 o6 o7 o8 o9 o10 o11 o12 o13 o14 o15 o16 o17 o18 o19 o20 o21 : Option Value} (S : St M0 (Bm A μ) M) (hc : nc ≤ 3200) (hn2 : ns ≤ 19200) : Ret (yX 138 515 [some (.ref 7), o1, some (.long (oNow A.1)), none, some (.int 1), o5, o6, o7, o8, o9, o10, o11, o12, o13, o14, o15, o16, o17, o18, o19, o20, o21] [] M nc ns) (fun o M' => o = .inl (some (.int 1)) ∧ St M0 (nRes (nSav A 1) 1) M') := by
  obtain ⟨n, n1, n2, n3⟩ := bru_f hA.1 hN
  refine Ret.E (e138_515 ⟨by omega, by omega⟩) ?_
  refine Ret.ci S w83 (fun M1 S1 => Ret.cj S1 (fun L => (w115 L).c (o_set (r := A.1) (w := 4) rfl (by omega))) (fun M2 S2 => Ret.cj S2 (fun L => (w109 L).c (o_a6 (r := A.1))) (fun M3 S3 => Ret.cj S3 (fun L => (w109 L).c (o_a5 (r := A.1))) (fun M4 S4 => ?_))))
  refine Ret.E (e138_543 ⟨by omega, by omega⟩) (Ret.neg (by decide) ?_)
  show Ret (yCi false (yX 106 0 [some (.long (Sbr A.1 g0).toInt64), none, some (.long 0), none, some (.long 3), none] [] M4 0 0) _) _
  have g1 : (Sbr A.1 g0).toInt64 ≥ 0 := by
    rw [n2, i64n (by omega), ge_iff_le, show (0 : Int64) = Int64.ofNat 0 from rfl, l_le (by omega) (by omega)]
    omega
  have g2 : (Sbr A.1 g0).toInt64 ≤ 3 := by
    rw [n2, i64n (by omega), show (3 : Int64) = Int64.ofNat 3 from rfl, l_le (by omega) (by omega)]
    omega
  refine Ret.ci S4 (fun L => w106 g1 g2 L) (fun M5 S5 => Ret.neg (by decide) ?_)
  obtain ⟨_, _, _, _, _, _, _, _, l1, l2⟩ := set_lims
  have y4 : yx (4 : Int32) = 4 := rfl
  have hf : flt (Bm A μ).1 6 4 (Sbr A.1 g0) 0 = 0 := fz6 ⟨⟨by decide, by decide⟩, by rw [y4, l1, l2, n2]; exact ofN_bd (N := 3) rfl (by omega) (by omega)⟩
  have hp : prfR (Bm A μ).1 6 4 (Sbr A.1 g0) 0 = upd A.1 94 (Int32.ofNat n) := by rw [prf6.1, n2]; rfl
  have hr : rj (Bm A μ).1 (prfR (Bm A μ).1 6 4 (Sbr A.1 g0) 0) = (Bm A μ).1 := by rw [hp]; exact rj_u (by omega)
  refine Ret.cj S5 (fun L => ((w125 L).f0 hf).c (congrArg Int32.toInt64 prf6.2)) (fun M6 S6 => Ret.pos rfl ?_)
  obtain ⟨μ', n', u1, u2, u3⟩ := undo_back S5.1.2.1 hr
  have hC1 : (aAct (Bm A μ) 6 4 (Sbr A.1 g0) 0).1 = upd A.1 94 (Int32.ofNat n) := hp
  refine Ret.cj S6 (fun L => (w109 L).c o_a6) (fun M7 S7 => ?_)
  rw [hC1]
  rcases n3 with h | ⟨h1, h2⟩
  · refine Ret.pos (by rw [w_lt]; exact h) ?_
    exact foll_609 u1 u2 u3 hA S7 (by omega) (by omega)
  · refine Ret.neg (by rw [w_lt, h1]; grind) (Ret.cj S7 (fun L => (w109 L).c o_a6) (fun M8 S8 => ?_))
    rw [hC1]
    refine Ret.pos (by rw [h1]) (Ret.cj S8 (fun L => (w109 L).c o_a5) (fun M9 S9 => ?_))
    rw [hC1]
    refine Ret.pos (by rw [w_le]; exact h2) ?_
    exact foll_609 u1 u2 u3 hA S9 (by omega) (by omega)
theorem foll_494 (hA : Aok A) (hN : Nrm A.1) {μ : Nat × (Nat → yRow)} {M : yM} {nc ns : Nat} {o1 o5 o6 o7 o8 o9 o10 o11 o12 o13 o14 o15 o16 o17 o18 o19 o20 o21 : Option Value} (S : St M0 (Bm A μ) M) (hc : nc ≤ 2700) (hn2 : ns ≤ 16200) : Ret (yX 138 494 [some (.ref 7), o1, some (.long (oNow A.1)), none, some (.int 1), o5, o6, o7, o8, o9, o10, o11, o12, o13, o14, o15, o16, o17, o18, o19, o20, o21] [] M nc ns) (fun o M' => o = .inl (some (.int 1)) ∧ St M0 (nRes (nSav A 1) 1) M') := by
  refine Ret.E (e138_494 ⟨by omega, by omega⟩) (Ret.neg (by decide) ?_)
  exact Ret.cj S w135 (fun M1 S1 => Ret.pos rfl (foll_515 hA hN S1 (by omega) (by omega)))
theorem foll_420 (hA : Aok A) (hT : Atg A) (hN : Nrm A.1) {s : Nat} (hs0 : s < stps A.1) {v : Int32} (hv : v = -1 ∨ ∃ j, v = Int32.ofNat j ∧ j ≤ 60 ∧ (j < 60 → ¬ Swh (upd A.1 (16 + s) (A.1 (16 + s) + Int32.ofNat j + 1)) (Spl (upd A.1 (16 + s) (A.1 (16 + s) + Int32.ofNat j + 1))) ≤ Swh A.1 (Spl A.1))) {μ : Nat × (Nat → yRow)} {M : yM} {nc ns : Nat} {o1 o5 o6 o7 o8 o9 o10 o11 o12 o13 o14 o20 o21 : Option Value} (S : St M0 (Bm A μ) M) (hc : nc ≤ 2600) (hn2 : ns ≤ 15600) : Ret (yX 138 420 [some (.ref 7), o1, some (.long (oNow A.1)), none, some (.int 1), o5, o6, o7, o8, o9, o10, o11, o12, o13, o14, some (.int (Int32.ofNat s)), some (.int v), some (.int (A.1 (16 + s))), some (.long (Swh A.1 (Spl A.1)).toInt64), none, o20, o21] [] M nc ns) (fun o M' => o = .inl (some (.int 1)) ∧ St M0 (nRes (nSav A 1) 1) M') := by
  have h14 := (roks hA.1).1
  have hm := hT.1.2 s hs0
  refine Ret.E (e138_420 ⟨by omega, by omega⟩) ?_
  rcases hv with hv | ⟨j, j1, j2, j3⟩
  · subst hv
    exact Ret.pos (by decide) (foll_494 hA hN S (by omega) (by omega))
  · subst j1
    have hb := ofN_bd (n := j) (v := 60) (N := 60) rfl (by omega) j2
    refine Ret.neg (by have := hb.1; grind) (Ret.ite (fun h0 => ?_) (fun h0 => ?_))
    · have hj : j < 60 := by rwa [olt (b := 60) (V := 60) rfl (by omega) (by omega)] at h0
      refine Ret.ite (fun h1 => Ret.neg (by decide) ?_) (fun h1 => ?_)
      · have hf : flt (Bm A μ).1 8 (Int32.ofNat s) (A.1 (16 + s) + Int32.ofNat j + 1) 0 = 0 := fz8 (bet_stp hA.1 hs0) ⟨by have := hb.1; have := hm.1; grind, by grind⟩
        have ey : yx (Int32.ofNat s) = s := yx_ofN (by omega)
        have hp : prfR (Bm A μ).1 8 (Int32.ofNat s) (A.1 (16 + s) + Int32.ofNat j + 1) 0 = upd A.1 (16 + s) (A.1 (16 + s) + Int32.ofNat j + 1) := by rw [prf8.1, ey]; rfl
        have hr : rj (Bm A μ).1 (prfR (Bm A μ).1 8 (Int32.ofNat s) (A.1 (16 + s) + Int32.ofNat j + 1) 0) = (Bm A μ).1 := by rw [hp]; exact rj_u (by omega)
        have hv2 : (prfV (Bm A μ).1 8 (Int32.ofNat s) (A.1 (16 + s) + Int32.ofNat j + 1) 0).toInt64 = (A.1 (16 + s)).toInt64 := by rw [prf8.2, ey]; rfl
        refine Ret.cj S (fun L => ((w121 L).f0 hf).c hv2) (fun M1 S1 => Ret.pos rfl ?_)
        obtain ⟨μ', n', u1, u2, u3⟩ := undo_back S.1.2.1 hr
        refine Ret.cj S1 (fun L => (w109 L).c o_a5) (fun M2 S2 => ?_)
        have hC1 : (aAct (Bm A μ) 8 (Int32.ofNat s) (A.1 (16 + s) + Int32.ofNat j + 1) 0).1 = upd A.1 (16 + s) (A.1 (16 + s) + Int32.ofNat j + 1) := hp
        rw [hC1]
        refine Ret.neg (by rw [w_le]; exact j3 hj) ?_
        refine Ret.cj S2 (fun L => by have := (w126 L).c u2; rw [u1] at this; exact this) (fun M3 S3 => Ret.neg (ge_l (by omega)) ?_)
        have S3 : St M0 (Bm A μ') M3 := S3
        refine Ret.E (e138_487 ⟨by omega, by omega⟩) ?_
        exact foll_494 hA hN S3 (by omega) (by omega)
      · exact foll_494 hA hN S (by omega) (by omega)
    · exact foll_494 hA hN S (by omega) (by omega)
theorem foll_303 (hA : Aok A) (hT : Atg A) (hN : Nrm A.1) {xn : Nat} (hx : xn < 2147483648) {μ : Nat × (Nat → yRow)} {M : yM} {nc ns : Nat} {o4 o5 o6 o7 o8 o9 o10 o11 o12 o13 o14 o15 o16 o17 o18 o19 o20 o21 : Option Value} (S : St M0 (Bm A μ) M) (hc : nc ≤ 2500) (hn2 : ns ≤ 15000) : Ret (yX 138 303 [some (.ref 7), some (.int (Int32.ofNat xn)), some (.long (oNow A.1)), none, o4, o5, o6, o7, o8, o9, o10, o11, o12, o13, o14, o15, o16, o17, o18, o19, o20, o21] [] M nc ns) (fun o M' => o = .inl (some (.int 1)) ∧ St M0 (nRes (nSav A 1) 1) M') := by
  obtain ⟨s1, s2⟩ := roks hA.1
  refine Ret.E (e138_303 ⟨by omega, by omega⟩) ?_
  refine Ret.cj S (fun L => (w109 L).c ol_abt1) (fun M1 S1 => ?_)
  have e15 : (Bm A μ).1 15 = Int32.ofNat (stps A.1) := s2
  rw [i64_i32, e15]
  by_cases h0 : stps A.1 = 0
  · refine Ret.pos (by rw [h0]; decide) ?_
    exact foll_515 hA hN S1 (by omega) (by omega)
  · refine Ret.neg (by rw [ole (b := 0) (V := 0) rfl (by omega) (by omega)]; omega) (Ret.neg (by rw [oe (b := 0) (V := 0) rfl (by omega) (by omega)]; omega) ?_)
    rw [ofN_mod (by omega) (by omega)]
    have hs0 : xn % stps A.1 < stps A.1 := Nat.mod_lt _ (by omega)
    generalize xn % stps A.1 = s at hs0
    obtain ⟨v, v1, v2⟩ := slack_f hA.1 hN hs0
    refine Ret.cj S1 (fun L => (w129 L).c v1) (fun M2 S2 => Ret.cj S2 (fun L => (w112 L).c (o_s0 (r := A.1) hA.1 hs0)) (fun M3 S3 => Ret.cj S3 (fun L => (w109 L).c (o_a5 (r := A.1))) (fun M4 S4 => ?_)))
    rw [i64_i32, i64_i32]
    have hm := hT.1.2 s hs0
    have k420 : ∀ (μ' : Nat × (Nat → yRow)) (M : yM) (nc' ns' : Nat) o1 o5 o6 o7 o8 o9 o10 o11 o12 o13 o14 o20 o21, St M0 (Bm A μ') M → nc' ≤ nc + 20 → ns' ≤ ns + 120 → Ret (yX 138 420 [some (.ref 7), o1, some (.long (oNow A.1)), none, some (.int 1), o5, o6, o7, o8, o9, o10, o11, o12, o13, o14, some (.int (Int32.ofNat s)), some (.int v), some (.int (A.1 (16 + s))), some (.long (Swh A.1 (Spl A.1)).toInt64), none, o20, o21] [] M nc' ns') (fun o M' => o = .inl (some (.int 1)) ∧ St M0 (nRes (nSav A 1) 1) M') := by
      intro μ' M nc' ns' o1 o5 o6 o7 o8 o9 o10 o11 o12 o13 o14 o20 o21 S g1 g2
      refine foll_420 hA hT hN hs0 ?_ S (by omega) (by omega)
      rcases v2 with h | ⟨j, j1, j2, j3, j4⟩
      · exact Or.inl h
      · exact Or.inr ⟨j, j1, j2, j4⟩
    refine Ret.ite (fun h1 => k420 μ M4 _ _ _ _ _ _ _ _ _ _ _ _ _ _ _ S4 (by omega) (by omega)) (fun h1 => ?_)
    obtain ⟨j, j1, j2, j3, j4⟩ := v2.resolve_left (fun z => h1 (by rw [z]; decide))
    subst j1
    have hb := ofN_bd (n := j) (v := 60) (N := 60) rfl (by omega) j2
    refine Ret.ite (fun h2 => ?_) (fun h2 => k420 μ M4 _ _ _ _ _ _ _ _ _ _ _ _ _ _ _ S4 (by omega) (by omega))
    have hf : flt (Bm A μ).1 8 (Int32.ofNat s) (A.1 (16 + s) + Int32.ofNat j) 0 = 0 := fz8 (bet_stp hA.1 hs0) ⟨by have := hb.1; have := hm.1; grind, h2⟩
    have ey : yx (Int32.ofNat s) = s := yx_ofN (by omega)
    have hp : prfR (Bm A μ).1 8 (Int32.ofNat s) (A.1 (16 + s) + Int32.ofNat j) 0 = upd A.1 (16 + s) (A.1 (16 + s) + Int32.ofNat j) := by rw [prf8.1, ey]; rfl
    have hr : rj (Bm A μ).1 (prfR (Bm A μ).1 8 (Int32.ofNat s) (A.1 (16 + s) + Int32.ofNat j) 0) = (Bm A μ).1 := by rw [hp]; exact rj_u (by omega)
    have hv2 : (prfV (Bm A μ).1 8 (Int32.ofNat s) (A.1 (16 + s) + Int32.ofNat j) 0).toInt64 = (A.1 (16 + s)).toInt64 := by rw [prf8.2, ey]; rfl
    refine Ret.cj S4 (fun L => ((w121 L).f0 hf).c hv2) (fun M5 S5 => Ret.pos rfl ?_)
    obtain ⟨μ', n', u1, u2, u3⟩ := undo_back S4.1.2.1 hr
    have hC1 : (aAct (Bm A μ) 8 (Int32.ofNat s) (A.1 (16 + s) + Int32.ofNat j) 0).1 = upd A.1 (16 + s) (A.1 (16 + s) + Int32.ofNat j) := hp
    refine Ret.E (e138_393 ⟨by omega, by omega⟩) ?_
    refine Ret.cj S5 (fun L => (w109 L).c o_a5) (fun M6 S6 => ?_)
    rw [hC1]
    refine Ret.pos (by rw [w_le]; exact j3) ?_
    refine Ret.cj S6 (fun L => by have := (w126 L).c u2; rw [u1] at this; exact this) (fun M7 S7 => Ret.neg (ge_l (by omega)) ?_)
    exact k420 μ' M7 _ _ _ _ _ _ _ _ _ _ _ _ _ _ _ S7 (by omega) (by omega)
theorem foll_175 (hA : Aok A) (hT : Atg A) (hN : Nrm A.1) {xn : Nat} (hx : xn < 2147483648) {μ : Nat × (Nat → yRow)} {M : yM} {nc ns : Nat} {o5 o6 o7 o8 o9 o10 o11 o12 o13 o14 o15 o16 o17 o18 o19 o20 o21 : Option Value} (S : St M0 (Bm A μ) M) (hc : nc ≤ 2000) (hn2 : ns ≤ 12000) : Ret (yX 138 175 [some (.ref 7), some (.int (Int32.ofNat xn)), some (.long (oNow A.1)), none, some (.int 1), o5, o6, o7, o8, o9, o10, o11, o12, o13, o14, o15, o16, o17, o18, o19, o20, o21] [] M nc ns) (fun o M' => o = .inl (some (.int 1)) ∧ St M0 (nRes (nSav A 1) 1) M') := by
  have h12 := (rokm hA.1).1
  have ew : (1 : Int32) + Int32.ofNat xn % 24 = Int32.ofNat (1 + xn % 24) := (ch (k := 1) (b := 24) rfl rfl hx (by omega)).symm
  have hd : xn / 24 < 2147483648 := Nat.lt_of_le_of_lt (Nat.div_le_self _ _) hx
  refine Ret.E (e138_175 ⟨by omega, by omega⟩) ?_
  rw [ew]
  have hw1 : 1 ≤ 1 + xn % 24 := by omega
  have hw2 : 1 + xn % 24 ≤ 24 := by omega
  generalize hw : 1 + xn % 24 = w at hw1 hw2
  have el : (1 : Int32) + Int32.ofNat xn / 24 % Int32.ofNat w = Int32.ofNat (1 + xn / 24 % w) := by
    rw [dv (b := 24) (V := 24) rfl hx (by omega) (by omega)]
    exact (ch (k := 1) (b := w) rfl rfl hd (by omega)).symm
  rw [el]
  have hl : 1 + xn / 24 % w ≤ w := by have := Nat.mod_lt (xn / 24) (show 0 < w by omega); omega
  have hl1 : 1 ≤ 1 + xn / 24 % w := by omega
  generalize 1 + xn / 24 % w = l at hl hl1
  have bw : bet (Int32.ofNat w) 1 24 := ⟨(ofN_leI (a := 1) (by omega) (by omega)).mpr hw1, (ofN_bd (N := 24) rfl (by omega) hw2).2⟩
  have bl : bet (Int32.ofNat l) 1 24 := ⟨(ofN_leI (a := 1) (by omega) (by omega)).mpr hl1, (ofN_bd (N := 24) rfl (by omega) (by omega)).2⟩
  have o_sv0 : ∀ {m : Nat}, bet (Int32.ofNat m) 1 24 → ol (oSvd A.1 (Int32.ofNat m) 0) = (Sall A.1 (Int32.ofNat m)).toInt64 := fun h1 => by
    unfold oSvd
    rw [if_pos ⟨h1, by decide, by decide⟩, if_pos rfl]
    rfl
  have o_sv1 : ∀ {m : Nat}, bet (Int32.ofNat m) 1 24 → ol (oSvd A.1 (Int32.ofNat m) 1) = (Soff A.1 (Int32.ofNat m)).toInt64 := fun h1 => by
    unfold oSvd
    rw [if_pos ⟨h1, by decide, by decide⟩, if_neg (by decide)]
    rfl
  obtain ⟨m, m1, m2, m3, m4⟩ := bsv_f (r := A.1) hl1 hl hw2
  have bm : bet (Int32.ofNat m) 1 24 := ⟨(ofN_leI (a := 1) (by omega) (by omega)).mpr (by omega), (ofN_bd (N := 24) rfl (by omega) (by omega)).2⟩
  have o_bsv : ol (oBsv A.1 (Int32.ofNat l) (Int32.ofNat w)) = (Int32.ofNat m).toInt64 := by
    unfold oBsv
    rw [if_pos ⟨bl, (ofN_leI (by omega) (by omega)).mpr hl, bw.2⟩, m1]
    rfl
  refine Ret.cj S (fun L => (w128 L).c (o_sv0 bw)) (fun M1 S1 => Ret.cj S1 (fun L => (w128 L).c (o_sv1 bw)) (fun M2 S2 => ?_))
  refine Ret.neg (by rw [oe (b := 0) (V := 0) rfl (by omega) (by omega)]; omega) ?_
  refine Ret.cj S2 (fun L => (w130 L).c o_bsv) (fun M3 S3 => Ret.neg (by decide) ?_)
  rw [i64_i32]
  have g1 : (Int32.ofNat m).toInt64 ≥ (Int32.ofNat l).toInt64 := by rw [ge_iff_le, w_le]; exact (ofN_leI (by omega) (by omega)).mpr m2
  have g2 : (Int32.ofNat m).toInt64 ≤ (Int32.ofNat w).toInt64 := by rw [w_le]; exact (ofN_leI (by omega) (by omega)).mpr m3
  refine Ret.ci S3 (fun L => w106 g1 g2 L) (fun M4 S4 => Ret.neg (by decide) ?_)
  refine Ret.cj S4 (fun L => (w128 L).c (o_sv1 bm)) (fun M5 S5 => ?_)
  refine Ret.pos (by rw [w_le]; exact m4) ?_
  refine Ret.E (e138_256 ⟨by omega, by omega⟩) ?_
  have e13 : ol (oAbt A.1 2) = (A.1 13).toInt64 := by rw [ol_abt (by decide)]; rfl
  refine Ret.cj S5 (fun L => (w109 L).c e13) (fun M6 S6 => ?_)
  rw [i64_i32]
  have hf : flt (Bm A μ).1 5 (A.1 13) (Int32.ofNat w) 0 = 0 := fz5 (rok13 hA.1) bw
  have hp : prfR (Bm A μ).1 5 (A.1 13) (Int32.ofNat w) 0 = upd (upd A.1 13 (A.1 13)) 14 (Int32.ofNat w) := prf5.1
  have hr : rj (Bm A μ).1 (prfR (Bm A μ).1 5 (A.1 13) (Int32.ofNat w) 0) = (Bm A μ).1 := by rw [hp]; exact rj_uu (by omega) (by omega)
  have hS : ∀ z, Sall (prfR (Bm A μ).1 5 (A.1 13) (Int32.ofNat w) 0) z = Sall A.1 z := fun z => by
    rw [hp]
    exact ((Sall_cg (r := A.1) (r' := upd (upd A.1 13 (A.1 13)) 14 (Int32.ofNat w)) (fun k _ h => by
      rw [upd_eq, if_neg h, upd_same]) h12 z).1).symm
  refine Ret.cj S6 (fun L => ((w119 L).s0 hf).c (congrArg Int32.toInt64 (hS _))) (fun M7 S7 => Ret.pos rfl ?_)
  obtain ⟨μ', n', u1, u2, u3⟩ := undo_back S6.1.2.1 hr
  have e4 : ol (oAbt (aAct (Bm A μ) 5 (A.1 13) (Int32.ofNat w) 0).1 4) = (Sall A.1 (Int32.ofNat w)).toInt64 := by
    rw [o_a4]
    show (Sall (prfR (Bm A μ).1 5 (A.1 13) (Int32.ofNat w) 0) (prfR (Bm A μ).1 5 (A.1 13) (Int32.ofNat w) 0 14)).toInt64 = _
    rw [hS, hp, upd_eq, if_pos rfl]
  refine Ret.cj S7 (fun L => (w109 L).c e4) (fun M8 S8 => Ret.pos rfl ?_)
  refine Ret.cj S8 (fun L => by have := (w126 L).c u2; rw [u1] at this; exact this) (fun M9 S9 => Ret.neg (ge_l (by omega)) ?_)
  refine Ret.cj S9 w135 (fun M10 S10 => Ret.pos rfl ?_)
  exact foll_303 hA hT hN hx S10 (by omega) (by omega)
theorem w138 {xn : Nat} (hx : xn < 2147483648) (L0 : LW A M0) (hN : Nrm A.1) : LI (yX 138 0 [some (.ref 7), some (.int (Int32.ofNat xn)), none, none, none, none, none, none, none, none, none, none, none, none, none, none, none, none, none, none, none, none] [] M0 0 0) M0 1 (nRes (nSav A 1) 1) := by
  have hA := L0.2.1
  have hT := L0.2.2
  obtain ⟨s1, s2⟩ := roks hA.1
  refine Ret.LI (Ret.E (e138 ⟨by omega, by omega⟩) ?_)
  have hb1 : bet (1 : Int32) 0 1 := ⟨by decide, by decide⟩
  have esv : ol (oSav A 1) = (A.1 15).toInt64 := by unfold oSav; rw [if_pos hb1]; rfl
  have wsv : ∀ {M : yM}, LW A M → LJ (yX 133 0 [some (.ref 7), some (.int 1), none] [] M 0 0) M (A.1 15).toInt64 (Bm A A.2.1) := fun L => by
    have := (w133 (a := 1) L).c esv
    rw [(sav_1 (A := A)).1] at this
    exact this
  refine Ret.cj (St.rf L0) w135 (fun M1 S1 => Ret.cj S1 wsv (fun M2 S2 => Ret.cj S2 (fun L => (w109 L).c (ol_abt1 (r := A.1))) (fun M3 S3 => Ret.pos rfl ?_)))
  refine Ret.cj S3 w132 (fun M4 S4 => Ret.cj S4 w132 (fun M5 S5 => Ret.pos rfl ?_))
  refine Ret.E (e138_39 ⟨by omega, by omega⟩) ?_
  refine Ret.cj S5 w135 (fun M6 S6 => Ret.pos rfl ?_)
  have ek : Int32.ofNat xn % 4 = Int32.ofNat (xn % 4) := md (b := 4) rfl hx (by omega)
  have hk : xn % 4 < 4 := Nat.mod_lt _ (by omega)
  rw [ek]
  refine Ret.cj S6 (fun L => (w114 L).c (o_pcs (w := xn % 4) rfl hk)) (fun M7 S7 => ?_)
  rw [i64_i32]
  generalize hkk : xn % 4 = k at hk
  have ht := hT.1.1 k hk
  have bk : bet (Int32.ofNat k) 0 3 := ofN_bd (N := 3) rfl (by omega) (by omega)
  have ey : yx (Int32.ofNat k) = k := yx_ofN (by omega)
  refine Ret.ite (fun h0 => ?_) (fun h0 => foll_175 hA hT hN hx S7 (by omega) (by omega))
  have p0 : ol (oPan A.1 g0 (Int32.ofNat k) 0) = (Swh (Rpan A.1 g0 k) (Spl (Rpan A.1 g0 k))).toInt64 := by
    unfold oPan
    rw [if_pos bk, if_pos ⟨by decide, by decide⟩, if_pos rfl, ey]
    rfl
  have p1 : ol (oPan A.1 g0 (Int32.ofNat k) 1) = (Sstk (Rpan A.1 g0 k) (Spl (Rpan A.1 g0 k))).toInt64 := by
    unfold oPan
    rw [if_pos bk, if_pos ⟨by decide, by decide⟩, if_neg (by decide), ey]
    rfl
  refine Ret.cj S7 (fun L => (w127 L).c p0) (fun M8 S8 => Ret.cj S8 (fun L => (w127 L).c p1) (fun M9 S9 => Ret.cj S9 (fun L => (w109 L).c (o_a6 (r := A.1))) (fun M10 S10 => ?_)))
  refine Ret.pos (by rw [w_le]; exact pan_stuck hA.1 hA.2.1 hT.1 hN hk) ?_
  refine Ret.E (e138_110 ⟨by omega, by omega⟩) ?_
  have h0 : A.1 (86 + k) < 3 := h0
  have h01 : bet (A.1 (86 + k) + 1) 0 3 := by
    clear wsv
    obtain ⟨t1, t2⟩ := ht
    generalize A.1 (86 + k) = z at h0 t1 t2
    exact ⟨by grind, by grind⟩
  have hf : flt (Bm A A.2.1).1 4 (Int32.ofNat k) (A.1 (86 + k) + 1) 0 = 0 := fz4 bk h01
  have hp : prfR (Bm A A.2.1).1 4 (Int32.ofNat k) (A.1 (86 + k) + 1) 0 = Rpan A.1 g0 k := by rw [prf4.1, ey, Rpan_N hN]; rfl
  have hr : rj (Bm A A.2.1).1 (prfR (Bm A A.2.1).1 4 (Int32.ofNat k) (A.1 (86 + k) + 1) 0) = (Bm A A.2.1).1 := by rw [hp, Rpan_N hN]; exact rj_u (by omega)
  have hv2 : (prfV (Bm A A.2.1).1 4 (Int32.ofNat k) (A.1 (86 + k) + 1) 0).toInt64 = (A.1 (86 + k)).toInt64 := by rw [prf4.2, ey]; rfl
  have hC1 : (aAct (Bm A A.2.1) 4 (Int32.ofNat k) (A.1 (86 + k) + 1) 0).1 = Rpan A.1 g0 k := hp
  refine Ret.cj S10 (fun L => ((w124 L).f0 hf).c hv2) (fun M11 S11 => Ret.pos rfl ?_)
  obtain ⟨μ', n', u1, u2, u3⟩ := undo_back S10.1.2.1 hr
  refine Ret.cj S11 (fun L => (w109 L).c o_a5) (fun M12 S12 => Ret.pos (by rw [hC1]) ?_)
  refine Ret.cj S12 (fun L => (w109 L).c o_a6) (fun M13 S13 => Ret.pos (by rw [hC1]) ?_)
  refine Ret.cj S13 (fun L => by have := (w126 L).c u2; rw [u1] at this; exact this) (fun M14 S14 => Ret.neg (ge_l (by omega)) ?_)
  have S14 : St M0 (Bm A μ') M14 := S14
  refine Ret.cj S14 w135 (fun M15 S15 => Ret.pos rfl ?_)
  refine Ret.E (e138_168 ⟨by omega, by omega⟩) ?_
  exact foll_175 hA hT hN hx S15 (by omega) (by omega)
end FOL
