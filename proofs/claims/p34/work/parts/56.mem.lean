/-! cards copied, the memory, both sides -/
theorem rok_cg {r r' : yRow} (h : ∀ k, k < 95 → r k = r' k) (ok : rok r) : rok r' := by
  have e0 := h 0 (by omega)
  have e15 := h 15 (by omega)
  have em : many r' = many r := by unfold many; rw [e0]
  have es : stps r' = stps r := by unfold stps; rw [e15]
  have hm := (rokm ok).1
  have hst := (roks ok).1
  obtain ⟨h1, h2, h3, h4, h5, h6, h7, h8, h9, h10, h11, h12⟩ := ok
  refine ⟨e0 ▸ h1, e15 ▸ h2, h 13 (by omega) ▸ h3, h 14 (by omega) ▸ h4, fun i hi => ?_, fun s hs0 => ?_, fun j hj => ?_, h 90 (by omega) ▸ h8, h 91 (by omega) ▸ h9, h 92 (by omega) ▸ h10, h 93 (by omega) ▸ h11, h 94 (by omega) ▸ h12⟩
  · rw [← h (1 + i) (by omega)]; exact h5 i (by omega)
  · rw [es] at hs0 ⊢
    rw [← h (16 + s) (by omega), ← h (30 + s) (by omega), ← h (44 + s) (by omega), ← h (58 + s) (by omega), ← h (72 + s) (by omega)]
    exact h6 s hs0
  · rw [← h (86 + j) (by omega)]; exact h7 j hj
theorem acy_cg {r r' : yRow} (h : ∀ k, k < 95 → r k = r' k) (ok : rok r) (ha : acy r) : acy r' := by
  have hst := (roks ok).1
  have es : stps r' = stps r := by unfold stps; rw [h 15 (by omega)]
  exact acy_sub ha es (fun s t h1 h2 h3 => by rw [← h (72 + s) (by omega)] at h3; exact h3)
theorem rc_cg {M : yM} {c : Nat} {r r' : yRow} (h : ∀ k, k < 95 → r k = r' k) (ok : rok r) (hr : rc M c r) : rc M c r' := by
  have hm := (rokm ok).1
  have hst := (roks ok).1
  have em : many r' = many r := by unfold many; rw [h 0 (by omega)]
  have es : stps r' = stps r := by unfold stps; rw [h 15 (by omega)]
  rw [rc_v (by omega) (by omega), em, es]
  rw [rc_v hm hst] at hr
  intro k hk
  rw [hr k hk, h k (vld_lt hm hst hk)]
/-- a row out of another, what lies behind its 95 numbers kept -/
def rj (f r : yRow) : yRow := fun k => if k < 95 then f k else r k
theorem rj_eq (f r : yRow) : ∀ k, k < 95 → f k = rj f r k := fun k hk => (if_pos hk).symm
theorem c2 {M : yM} {c d : Nat} {r : yRow} (hc : yC c) (hd : yC d) (hdis : c + 9 ≤ d ∨ d + 9 ≤ c) (ok : rok r) (h : rc M d r) : ∃ M', yX 2 0 [some (.ref c), some (.ref d)] [] M 0 0 = yV M' ∧ rc M' c r ∧ ∀ a, (a < c ∨ c + 8 < a) → M' a = M a := by
  have hm := (rokm ok).1
  have hst := (roks ok).1
  obtain ⟨A1, hA1⟩ : ∃ A, A = yU M c 0 (M d 0) := ⟨_, rfl⟩
  obtain ⟨A2, hA2⟩ : ∃ A, A = yU A1 c 1 (A1 d 1) := ⟨_, rfl⟩
  obtain ⟨A3, hA3⟩ : ∃ A, A = yU A2 c 2 (A2 d 2) := ⟨_, rfl⟩
  obtain ⟨A4, hA4⟩ : ∃ A, A = yU A3 c 3 (A3 d 3) := ⟨_, rfl⟩
  obtain ⟨B1, hB1⟩ : ∃ A, A = yUa A4 (c + 1) (ycp (A4 (d + 1)) (A4 (c + 1)) 12) := ⟨_, rfl⟩
  obtain ⟨B2, hB2⟩ : ∃ A, A = yUa B1 (c + 2) (ycp (B1 (d + 2)) (B1 (c + 2)) 14) := ⟨_, rfl⟩
  obtain ⟨B3, hB3⟩ : ∃ A, A = yUa B2 (c + 3) (ycp (B2 (d + 3)) (B2 (c + 3)) 14) := ⟨_, rfl⟩
  obtain ⟨B4, hB4⟩ : ∃ A, A = yUa B3 (c + 4) (ycp (B3 (d + 4)) (B3 (c + 4)) 14) := ⟨_, rfl⟩
  obtain ⟨B5, hB5⟩ : ∃ A, A = yUa B4 (c + 5) (ycp (B4 (d + 5)) (B4 (c + 5)) 14) := ⟨_, rfl⟩
  obtain ⟨B6, hB6⟩ : ∃ A, A = yUa B5 (c + 6) (ycp (B5 (d + 6)) (B5 (c + 6)) 14) := ⟨_, rfl⟩
  obtain ⟨B7, hB7⟩ : ∃ A, A = yUa B6 (c + 7) (ycp (B6 (d + 7)) (B6 (c + 7)) 4) := ⟨_, rfl⟩
  obtain ⟨B8, hB8⟩ : ∃ A, A = yUa B7 (c + 8) (ycp (B7 (d + 8)) (B7 (c + 8)) 5) := ⟨_, rfl⟩
  have f4 : ∀ a, a ≠ c → A4 a = M a := fun a q => by rw [hA4, yU_ne q, hA3, yU_ne q, hA2, yU_ne q, hA1, yU_ne q]
  have g1 : ∀ a, a ≠ c + 1 → B1 a = A4 a := fun a q => by rw [hB1, yUa_ne q]
  have g2 : ∀ a, a ≠ c + 2 → B2 a = B1 a := fun a q => by rw [hB2, yUa_ne q]
  have g3 : ∀ a, a ≠ c + 3 → B3 a = B2 a := fun a q => by rw [hB3, yUa_ne q]
  have g4 : ∀ a, a ≠ c + 4 → B4 a = B3 a := fun a q => by rw [hB4, yUa_ne q]
  have g5 : ∀ a, a ≠ c + 5 → B5 a = B4 a := fun a q => by rw [hB5, yUa_ne q]
  have g6 : ∀ a, a ≠ c + 6 → B6 a = B5 a := fun a q => by rw [hB6, yUa_ne q]
  have g7 : ∀ a, a ≠ c + 7 → B7 a = B6 a := fun a q => by rw [hB7, yUa_ne q]
  have g8 : ∀ a, a ≠ c + 8 → B8 a = B7 a := fun a q => by rw [hB8, yUa_ne q]
  have fr : ∀ a, (a < c ∨ c + 8 < a) → B8 a = M a := fun a q => by rw [g8 a (by omega), g7 a (by omega), g6 a (by omega), g5 a (by omega), g4 a (by omega), g3 a (by omega), g2 a (by omega), g1 a (by omega), f4 a (by omega)]
  obtain ⟨h0, h1, h2, h3, h4, h5, h6, h7⟩ := h
  have hfld : B8 c = A4 c := by rw [g8 c (by omega), g7 c (by omega), g6 c (by omega), g5 c (by omega), g4 c (by omega), g3 c (by omega), g2 c (by omega), g1 c (by omega)]
  have v0 : A4 c 0 = M d 0 := by rw [hA4, yU_at, upd_eq, if_neg (by omega), hA3, yU_at, upd_eq, if_neg (by omega), hA2, yU_at, upd_eq, if_neg (by omega), hA1, yU_at, upd_eq, if_pos rfl]
  have v1 : A4 c 1 = M d 1 := by rw [hA4, yU_at, upd_eq, if_neg (by omega), hA3, yU_at, upd_eq, if_neg (by omega), hA2, yU_at, upd_eq, if_pos rfl, hA1, yU_ne (by omega)]
  have v2 : A4 c 2 = M d 2 := by rw [hA4, yU_at, upd_eq, if_neg (by omega), hA3, yU_at, upd_eq, if_pos rfl, hA2, yU_ne (by omega), hA1, yU_ne (by omega)]
  have v3 : A4 c 3 = M d 3 := by rw [hA4, yU_at, upd_eq, if_pos rfl, hA3, yU_ne (by omega), hA2, yU_ne (by omega), hA1, yU_ne (by omega)]
  have w1 : B8 (c + 1) = ycp (M (d + 1)) (A4 (c + 1)) 12 := by rw [g8 _ (by omega), g7 _ (by omega), g6 _ (by omega), g5 _ (by omega), g4 _ (by omega), g3 _ (by omega), g2 _ (by omega), hB1, yUa_at, f4 (d + 1) (by omega)]
  have w2 : B8 (c + 2) = ycp (M (d + 2)) (B1 (c + 2)) 14 := by rw [g8 _ (by omega), g7 _ (by omega), g6 _ (by omega), g5 _ (by omega), g4 _ (by omega), g3 _ (by omega), hB2, yUa_at, g1 (d + 2) (by omega), f4 (d + 2) (by omega)]
  have w3 : B8 (c + 3) = ycp (M (d + 3)) (B2 (c + 3)) 14 := by rw [g8 _ (by omega), g7 _ (by omega), g6 _ (by omega), g5 _ (by omega), g4 _ (by omega), hB3, yUa_at, g2 (d + 3) (by omega), g1 (d + 3) (by omega), f4 (d + 3) (by omega)]
  have w4 : B8 (c + 4) = ycp (M (d + 4)) (B3 (c + 4)) 14 := by rw [g8 _ (by omega), g7 _ (by omega), g6 _ (by omega), g5 _ (by omega), hB4, yUa_at, g3 (d + 4) (by omega), g2 (d + 4) (by omega), g1 (d + 4) (by omega), f4 (d + 4) (by omega)]
  have w5 : B8 (c + 5) = ycp (M (d + 5)) (B4 (c + 5)) 14 := by rw [g8 _ (by omega), g7 _ (by omega), g6 _ (by omega), hB5, yUa_at, g4 (d + 5) (by omega), g3 (d + 5) (by omega), g2 (d + 5) (by omega), g1 (d + 5) (by omega), f4 (d + 5) (by omega)]
  have w6 : B8 (c + 6) = ycp (M (d + 6)) (B5 (c + 6)) 14 := by rw [g8 _ (by omega), g7 _ (by omega), hB6, yUa_at, g5 (d + 6) (by omega), g4 (d + 6) (by omega), g3 (d + 6) (by omega), g2 (d + 6) (by omega), g1 (d + 6) (by omega), f4 (d + 6) (by omega)]
  have w7 : B8 (c + 7) = ycp (M (d + 7)) (B6 (c + 7)) 4 := by rw [g8 _ (by omega), hB7, yUa_at, g6 (d + 7) (by omega), g5 (d + 7) (by omega), g4 (d + 7) (by omega), g3 (d + 7) (by omega), g2 (d + 7) (by omega), g1 (d + 7) (by omega), f4 (d + 7) (by omega)]
  have w8 : B8 (c + 8) = ycp (M (d + 8)) (B7 (c + 8)) 5 := by rw [hB8, yUa_at, g7 (d + 8) (by omega), g6 (d + 8) (by omega), g5 (d + 8) (by omega), g4 (d + 8) (by omega), g3 (d + 8) (by omega), g2 (d + 8) (by omega), g1 (d + 8) (by omega), f4 (d + 8) (by omega)]
  refine ⟨B8, yL.V (e2 hc hd) ?_, ⟨?_, ?_, ?_, ?_, fun i hi => ?_, fun s hs0 => ?_, fun k hk => ?_, fun k hk => ?_⟩, fr⟩
  · rw [yLet_eq, ← hA1, yLet_eq, ← hA2, yLet_eq, ← hA3, yLet_eq, ← hA4, yLet_eq, ← hB1, yLet_eq, ← hB2, yLet_eq, ← hB3, yLet_eq, ← hB4, yLet_eq, ← hB5, yLet_eq, ← hB6, yLet_eq, ← hB7, yLet_eq, ← hB8]
  · rw [hfld, v0]; exact h0
  · rw [hfld, v1]; exact h1
  · rw [hfld, v2]; exact h2
  · rw [hfld, v3]; exact h3
  · rw [w1]; unfold ycp; rw [if_pos (by omega)]; exact h4 i hi
  · rw [w2, w3, w4, w5, w6]
    unfold ycp
    rw [if_pos (by omega), if_pos (by omega), if_pos (by omega), if_pos (by omega), if_pos (by omega)]
    exact h5 s hs0
  · rw [w7]; unfold ycp; rw [if_pos hk]; exact h6 k hk
  · rw [w8]; unfold ycp; rw [if_pos hk]; exact h7 k hk
-- the memory, in the class
def MemC (M : yM) (c : Nat) (m : Nat → yRow) : Prop := ∃ x, x < 14 ∧ M 42 1 = Int32.ofNat x ∧ M 42 2 = Int32.ofNat c ∧ ∀ u, u < c → rc M (44 + 9 * ((x + 14 - (c - u)) % 14)) (m u)
/-- one more remembered -/
def mpu (c : Nat) (m : Nat → yRow) (r : yRow) : Nat → yRow := fun u => if c = 14 then (if u = 13 then r else m (u + 1)) else (if u = c then r else m u)
theorem c36 {M : yM} {c : Nat} {m : Nat → yRow} {r : yRow} (ok : rok r) (h : rc M 11 r) (hm : MemC M c m) (hc : c ≤ 14) : ∃ M', yX 36 0 [some (.ref 42), some (.ref 11)] [] M 0 0 = yV M' ∧ MemC M' (min (c + 1) 14) (mpu c m r) ∧ ∀ a, (a < 42 ∨ 169 < a) → M' a = M a := by
  obtain ⟨x, hx, h1, h2, h3⟩ := hm
  have hy : yinB (M 42 1) 14 = true := by rw [h1]; exact yin_ofN hx (by omega)
  have hyx : yx (M 42 1) = x := by rw [h1, yx_ofN (by omega)]
  obtain ⟨M2, a1, a2, a3⟩ := c2 (yC_43 hx) yC11 (c := 44 + 9 * x) (d := 11) (by omega) ok h
  have k1 : M2 42 1 = Int32.ofNat x := by rw [a3 42 (by omega)]; exact h1
  have k2 : M2 42 2 = Int32.ofNat c := by rw [a3 42 (by omega)]; exact h2
  have hcnt : (if (14 : Int32) < Int32.ofNat (c + 1) then (14 : Int32) else Int32.ofNat (c + 1)) = Int32.ofNat (min (c + 1) 14) := by
    have hl : ((14 : Int32) < Int32.ofNat (c + 1)) ↔ 14 < c + 1 := ofN_lt (n := 14) (m := c + 1) (by omega) (by omega)
    by_cases q : 14 < c + 1
    · rw [if_pos (hl.mpr q), Nat.min_eq_right (by omega)]; rfl
    · rw [if_neg (fun z => q (hl.mp z)), Nat.min_eq_left (by omega)]
  -- the memory behind it
  have fin : ∀ (x' : Nat) (M' : yM), x' < 14 → (x' = x + 1 ∨ (x = 13 ∧ x' = 0)) → M' 42 1 = Int32.ofNat x' → M' 42 2 = Int32.ofNat (min (c + 1) 14) → (∀ a, a ≠ 42 → M' a = M2 a) → MemC M' (min (c + 1) 14) (mpu c m r) ∧ ∀ a, (a < 42 ∨ 169 < a) → M' a = M a := by
    intro x' M' hx' hxx q1 q2 q3
    refine ⟨⟨x', hx', q1, q2, fun u hu => ?_⟩, fun a ha => by rw [q3 a (by omega), a3 a (by omega)]⟩
    have old : ∀ y, y < 14 → y ≠ x → ∀ v, v < c → (x + 14 - (c - v)) % 14 = y → rc M' (44 + 9 * y) (m v) := by
      intro y hy2 hne v hv e
      have := h3 v hv
      rw [e] at this
      exact rc_fr this (fun a b1 b2 => by rw [q3 a (by omega), a3 a (by omega)])
    have new : rc M' (44 + 9 * x) r := rc_fr a2 (fun a b1 b2 => q3 a (by omega))
    unfold mpu
    by_cases hc14 : c = 14
    · subst hc14
      rw [if_pos rfl]
      by_cases hu13 : u = 13
      · rw [if_pos hu13]
        have : (x' + 14 - (min (14 + 1) 14 - u)) % 14 = x := by omega
        rw [this]; exact new
      · rw [if_neg hu13]
        have hu' : u < 13 := by omega
        have e1 : (x' + 14 - (min (14 + 1) 14 - u)) % 14 = (x + 14 - (14 - (u + 1))) % 14 := by omega
        rw [e1]
        exact old _ (Nat.mod_lt _ (by omega)) (by omega) (u + 1) (by omega) rfl
    · rw [if_neg hc14]
      have hmin : min (c + 1) 14 = c + 1 := Nat.min_eq_left (by omega)
      rw [hmin] at hu ⊢
      by_cases huc : u = c
      · rw [if_pos huc]
        have : (x' + 14 - (c + 1 - u)) % 14 = x := by omega
        rw [this]; exact new
      · rw [if_neg huc]
        have e1 : (x' + 14 - (c + 1 - u)) % 14 = (x + 14 - (c - u)) % 14 := by omega
        rw [e1]
        exact old _ (Nat.mod_lt _ (by omega)) (by omega) u (by omega) rfl
  by_cases hx13 : x + 1 < 14
  · obtain ⟨f1, f2⟩ := fin (x + 1) (yU (yU M2 42 1 (Int32.ofNat (x + 1))) 42 2 (Int32.ofNat (min (c + 1) 14))) hx13 (Or.inl rfl) (by rw [yU_at, upd_eq, if_neg (by omega), yU_at, upd_eq, if_pos rfl]) (by rw [yU_at, upd_eq, if_pos rfl]) (fun a ha => by rw [yU_ne ha, yU_ne ha])
    refine ⟨_, yL.V (e36 yC11) ?_, f1, f2⟩
    rw [if_pos hy, hyx, a1, yCv_V, k1, ofN_succ, if_pos (ofN_lti (v := 14) (m := 14) rfl (by omega) hx13), yLet_eq]
    have k3 : (yU M2 42 1 (Int32.ofNat (x + 1))) 42 2 = Int32.ofNat c := by rw [yU_at, upd_eq, if_neg (by omega)]; exact k2
    rw [k3, ofN_succ, hcnt, yLet_eq]
  · obtain ⟨f1, f2⟩ := fin 0 (yU (yU M2 42 1 0) 42 2 (Int32.ofNat (min (c + 1) 14))) (by omega) (Or.inr ⟨by omega, rfl⟩) (by rw [yU_at, upd_eq, if_neg (by omega), yU_at, upd_eq, if_pos rfl]; rfl) (by rw [yU_at, upd_eq, if_pos rfl]) (fun a ha => by rw [yU_ne ha, yU_ne ha])
    refine ⟨_, yL.V (e36 yC11) ?_, f1, f2⟩
    rw [if_pos hy, hyx, a1, yCv_V, k1, ofN_succ, if_neg (ofN_nlti (v := 14) (m := 14) rfl (by omega) (by omega) hx13), yLet_eq]
    have k3 : (yU M2 42 1 0) 42 2 = Int32.ofNat c := by rw [yU_at, upd_eq, if_neg (by omega)]; exact k2
    rw [k3, ofN_succ, hcnt, yLet_eq]
theorem c37 {M : yM} {c : Nat} {m : Nat → yRow} (hm : MemC M c m) (hc : c ≤ 14) (h0 : 0 < c) (ok : rok (m (c - 1))) : ∃ M', yX 37 0 [some (.ref 42), some (.ref 11)] [] M 0 0 = yI (Int32.ofNat (c - 1)) M' ∧ MemC M' (c - 1) m ∧ rc M' 11 (m (c - 1)) ∧ ∀ a, (a < 11 ∨ (19 < a ∧ a ≠ 42)) → M' a = M a := by
  obtain ⟨x, hx, h1, h2, h3⟩ := hm
  have step : ∀ (x' : Nat) (A : yM), x' < 14 → x' = (x + 13) % 14 → A 42 1 = Int32.ofNat x' → A 42 2 = Int32.ofNat c → (∀ a, a ≠ 42 → A a = M a) → ∃ M', yX 2 0 [some (.ref 11), some (.ref (44 + 9 * yx (A 42 1)))] [] A 0 0 = yV M' ∧ MemC (yU M' 42 2 (M' 42 2 - 1)) (c - 1) m ∧ rc (yU M' 42 2 (M' 42 2 - 1)) 11 (m (c - 1)) ∧ (∀ a, (a < 11 ∨ (19 < a ∧ a ≠ 42)) → (yU M' 42 2 (M' 42 2 - 1)) a = M a) ∧ (yU M' 42 2 (M' 42 2 - 1)) 42 2 = Int32.ofNat (c - 1) := by
    intro x' A hx' hxx q1 q2 q3
    have hrc : rc A (44 + 9 * x') (m (c - 1)) := by
      have := h3 (c - 1) (by omega)
      have e : (x + 14 - (c - (c - 1))) % 14 = x' := by omega
      rw [e] at this
      exact rc_fr this (fun a b1 b2 => q3 a (by omega))
    obtain ⟨M2, a1, a2, a3⟩ := c2 yC11 (yC_43 hx') (c := 11) (d := 44 + 9 * x') (by omega) ok hrc
    have k2 : M2 42 2 = Int32.ofNat c := by rw [a3 42 (by omega)]; exact q2
    have k3 : M2 42 2 - 1 = Int32.ofNat (c - 1) := by
      rw [k2]
      have := ofN_succ (c - 1)
      rw [show c - 1 + 1 = c by omega] at this
      grind
    refine ⟨M2, ?_, ⟨x', hx', ?_, ?_, fun u hu => ?_⟩, ?_, fun a ha => ?_, ?_⟩
    · rw [q1, yx_ofN (by omega)]; exact a1
    · rw [yU_at, upd_eq, if_neg (by omega), a3 42 (by omega)]; exact q1
    · rw [yU_at, upd_eq, if_pos rfl, k3]
    · have := h3 u (by omega)
      have e : (x' + 14 - (c - 1 - u)) % 14 = (x + 14 - (c - u)) % 14 := by omega
      rw [e]
      exact rc_fr this (fun a b1 b2 => by rw [yU_ne (by omega), a3 a (by omega), q3 a (by omega)])
    · exact rc_fr a2 (fun a b1 b2 => yU_ne (by omega))
    · rw [yU_ne (by omega), a3 a (by omega), q3 a (by omega)]
    · rw [yU_at, upd_eq, if_pos rfl, k3]
  by_cases hx0 : x = 0
  · subst hx0
    obtain ⟨M', s1, s2, s3, s4, s5⟩ := step 13 (yU M 42 1 13) (by omega) (by omega) (by rw [yU_at, upd_eq, if_pos rfl]; rfl) (by rw [yU_at, upd_eq, if_neg (by omega)]; exact h2) (fun a ha => yU_ne ha)
    refine ⟨_, yL.I (e37 yC11) ?_, s2, s3, s4⟩
    have k : M 42 1 ≤ 0 := by rw [h1]; decide
    have k13 : (yU M 42 1 13) 42 1 = 13 := by rw [yU_at, upd_eq, if_pos rfl]
    rw [if_pos k, yLet_eq, if_pos (by rw [k13]; decide +kernel), s1, yCv_V, yLet_eq, s5]
  · have hk : ¬ M 42 1 ≤ 0 := by
      rw [h1]
      intro z
      have := (ofN_leI (a := x) (b := 0) (by omega) (by omega)).mp z
      omega
    have hs1 : M 42 1 - 1 = Int32.ofNat (x - 1) := by
      rw [h1]
      have := ofN_succ (x - 1)
      rw [show x - 1 + 1 = x by omega] at this
      grind
    obtain ⟨M', s1, s2, s3, s4, s5⟩ := step (x - 1) (yU M 42 1 (M 42 1 - 1)) (by omega) (by omega) (by rw [yU_at, upd_eq, if_pos rfl]; exact hs1) (by rw [yU_at, upd_eq, if_neg (by omega)]; exact h2) (fun a ha => yU_ne ha)
    refine ⟨_, yL.I (e37 yC11) ?_, s2, s3, s4⟩
    have k13 : (yU M 42 1 (M 42 1 - 1)) 42 1 = Int32.ofNat (x - 1) := by rw [yU_at, upd_eq, if_pos rfl]; exact hs1
    rw [if_neg hk, yLet_eq, if_pos (by rw [k13]; exact yin_ofN (by omega) (by omega)), s1, yCv_V, yLet_eq, s5]
-- the memory, in the reference
theorem yfo_sh : ∀ d (f : yRow), yfo (fun n f => upd f n (f (95 + n))) 0 d f = fun j => if j < d then f (95 + j) else f j := by
  intro d
  induction d with
  | zero => intro f; funext j; rw [if_neg (Nat.not_lt_zero j)]; rfl
  | succ d ih =>
    intro f
    rw [yfo_s, ih, Nat.zero_add]
    funext j
    rw [upd_eq]
    by_cases e : j = d
    · rw [if_pos e]
      show (if 95 + d < d then f (95 + (95 + d)) else f (95 + d)) = if j < d + 1 then f (95 + j) else f j
      rw [if_neg (show ¬ 95 + d < d by omega), if_pos (by omega), e]
    · rw [if_neg e]
      by_cases e2 : j < d
      · rw [if_pos e2, if_pos (by omega)]
      · rw [if_neg e2, if_neg (by omega)]
theorem ofN_mul (a b : Nat) : Int32.ofNat a * Int32.ofNat b = Int32.ofNat (a * b) := by rw [Int32.ofNat_mul]
theorem in1330 {x : Int32} {n : Nat} (hx : x = Int32.ofNat n) (hn : n < 1330) : yinB x 1330 = true ∧ yx x = n := by
  rw [hx]
  exact ⟨yin_ofN hn (by omega), yx_ofN (by omega)⟩
