/-! the text: append, clear, and a row as it is at first -/
def oApp (A : yAb) (c : Int32) : yO := if bet c 0 255 then if A.2.2.2.1 < 120 then .inr (Int32.ofNat (A.2.2.2.1 + 1)) else .inl 2 else .inl 1
def nApp (A : yAb) (c : Int32) : yAb := if bet c 0 255 then if A.2.2.2.1 < 120 then (A.1, A.2.1, A.2.2.1, (A.2.2.2.1 + 1, upd A.2.2.2.2 A.2.2.2.1 c)) else A else A
def nClr (A : yAb) : yAb := (A.1, A.2.1, A.2.2.1, (0, A.2.2.2.2))
theorem nApp_ok {A : yAb} (hA : Aok A) (hT : Atg A) {c : Int32} : Aok (nApp A c) ∧ Atg (nApp A c) := by
  unfold nApp
  split
  · next hc =>
    split
    · next hl =>
      obtain ⟨h1, h2, h3, h4, h5, h6, h7⟩ := hA
      refine ⟨⟨h1, h2, h3, h4, h5, ?_, fun j hj => ?_⟩, hT⟩
      · show A.2.2.2.1 + 1 ≤ 120; omega
      · have hj : j < A.2.2.2.1 + 1 := hj
        show bet (upd A.2.2.2.2 A.2.2.2.1 c j) 0 255
        rw [upd_eq]
        by_cases e : j = A.2.2.2.1
        · rw [if_pos e]; exact hc
        · rw [if_neg e]; exact h7 j (by omega)
    · exact ⟨hA, hT⟩
  · exact ⟨hA, hT⟩
theorem nClr_ok {A : yAb} (hA : Aok A) (hT : Atg A) : Aok (nClr A) ∧ Atg (nClr A) := by
  obtain ⟨h1, h2, h3, h4, h5, h6, h7⟩ := hA
  exact ⟨⟨h1, h2, h3, h4, h5, Nat.zero_le _, fun j hj => absurd hj (Nat.not_lt_zero j)⟩, hT⟩
theorem char_id : ∀ n, n < 256 → vp_nar .char (((Int32.ofNat n).toUInt32 % 65536).toInt32) = Int32.ofNat n := by decide +kernel
section TXC
variable {M : yM} {A : yAb}
theorem chr_ix {c : Int32} (h : bet c 0 255) : yx c < 256 ∧ c = Int32.ofNat (yx c) := by
  obtain ⟨g1, g2⟩ := bet_nat h (N := 255) rfl (by omega)
  exact ⟨by omega, g2⟩
theorem c58 (h : RelC M A) (hA : Aok A) {c : Int32} : CR (yX 58 0 [some (.ref 7), some (.int c)] [] M 0 0) M (oApp A c) (nApp A c) := by
  obtain ⟨r1, r2, r3, r4⟩ := id h
  have hL := hA.2.2.2.2.2.1
  have e8 : M 8 1 = Int32.ofNat A.2.2.2.1 := r4.1
  refine CR.of ?_ e58
  unfold oApp nApp
  rw [c94, yCi_I, c92]
  by_cases q1 : bet c 0 255
  · obtain ⟨i1, i2⟩ := chr_ix q1
    have hl : (Int32.ofNat A.2.2.2.1 < 120) = (A.2.2.2.1 < 120) := olt rfl (by omega) (by omega)
    rw [if_pos q1, if_pos q1, if_pos q1, yCv_V, e8]
    by_cases q2 : A.2.2.2.1 < 120
    · rw [if_pos (hl ▸ q2), if_pos q2, if_pos q2, c93_1, yCv_V]
      have hch : vp_nar .char ((c.toUInt32 % 65536).toInt32) = c := by
        conv => lhs; rw [i2]
        rw [char_id _ i1, ← i2]
      have k23 : yX 23 0 [some (.ref 8), some (.int ((c.toUInt32 % 65536).toInt32))] [] M 0 0 = yI (Int32.ofNat (A.2.2.2.1 + 1)) (yU (yU M 9 A.2.2.2.1 c) 8 1 (Int32.ofNat (A.2.2.2.1 + 1))) := by
        refine yL.I e23 ?_
        rw [e8, if_pos (hl ▸ q2), if_pos (yin_ofN q2 (by omega)), yx_ofN (by omega), hch, yLet_eq, yU_ne (show 8 ≠ 9 by omega), e8, ofN_succ, yLet_eq, yU_at, upd_eq, if_pos rfl]
      rw [k23, yCi_I]
      refine ⟨_, rfl, ⟨rc_fr r1 (fun a b1 b2 => by rw [yU_ne (by omega), yU_ne (by omega)]), MemC_fr r2 (fun a b1 b2 => by rw [yU_ne (by omega), yU_ne (by omega)]), SlC_fr r3 (fun a b1 b2 => by rw [yU_ne (by omega), yU_ne (by omega)]), ?_, fun j hj => ?_⟩, fun a b1 => by rw [yU_ne (by omega), yU_ne (by omega)]⟩
      · show (yU _ 8 1 (Int32.ofNat (A.2.2.2.1 + 1))) 8 1 = _
        rw [yU_at, upd_eq, if_pos rfl]
      · have hj : j < A.2.2.2.1 + 1 := hj
        show (yU _ 8 1 (Int32.ofNat (A.2.2.2.1 + 1))) 9 j = upd A.2.2.2.2 A.2.2.2.1 c j
        rw [yU_ne (by omega), yU_at, upd_eq, upd_eq]
        by_cases e : j = A.2.2.2.1
        · rw [if_pos e, if_pos e]
        · rw [if_neg e, if_neg e]; exact r4.2 j (by omega)
    · rw [if_neg (hl ▸ q2), if_neg q2, if_neg q2, c93_0]
      exact CR.th h rfl
  · rw [if_neg q1, if_neg q1, if_neg q1]
    exact CR.th h rfl
theorem c59 (h : RelC M A) : CR (yX 59 0 [some (.ref 7), none] [] M 0 0) M (.inr (Int32.ofNat A.2.2.2.1)) (nClr A) := by
  obtain ⟨r1, r2, r3, r4⟩ := id h
  refine CR.of ?_ e59
  rw [yLet_eq, show M 8 1 = Int32.ofNat A.2.2.2.1 from r4.1]
  refine ⟨_, rfl, ⟨rc_fr r1 (fun a b1 b2 => yU_ne (by omega)), MemC_fr r2 (fun a b1 b2 => yU_ne (by omega)), SlC_fr r3 (fun a b1 b2 => yU_ne (by omega)), ?_, fun j hj => absurd hj (Nat.not_lt_zero j)⟩, fun a b1 => yU_ne (by omega)⟩
  rw [yU_at, upd_eq, if_pos rfl]
  rfl
end TXC
-- a row as it is at first
theorem frs_at (g : yRow) {k : Nat} (h : k < 95) : frs g k = if k = 13 ∨ k = 14 then 4 else if 86 ≤ k ∧ k < 90 then 1 else if k = 90 then 15 else if k = 91 then 1 else if k = 92 then 2 else if k = 93 then 1 else 0 := by
  unfold frs
  rw [if_pos h]
theorem frs_ms (g : yRow) : many (frs g) = 0 ∧ stps (frs g) = 0 := by
  unfold many stps
  rw [frs_at g (by omega), frs_at g (by omega)]
  decide +kernel
theorem frs_ok (g : yRow) : rok (frs g) ∧ acy (frs g) ∧ tgt (frs g) := by
  obtain ⟨h1, h2⟩ := frs_ms g
  have hk : ∀ k, k < 4 → bet (frs g (86 + k)) 0 3 := fun k hk => by
    rw [frs_at g (by omega), if_neg (by omega), if_pos (by omega)]
    exact ⟨by decide, by decide⟩
  refine ⟨⟨?_, ?_, ?_, ?_, fun i hi => by omega, fun s hs0 => by omega, fun k hk0 => ?_, ?_, ?_, ?_, ?_, ?_⟩, ⟨fun _ => 0, fun s t hs0 => by omega⟩, hk, fun s hs0 => by omega⟩
  · rw [frs_at g (by omega)]; exact ⟨by decide, by decide⟩
  · rw [frs_at g (by omega)]; exact ⟨by decide, by decide⟩
  · rw [frs_at g (by omega)]; exact ⟨by decide, by decide⟩
  · rw [frs_at g (by omega)]; exact ⟨by decide, by decide⟩
  · obtain ⟨z1, z2⟩ := hk k hk0
    exact ⟨z1, by grind⟩
  · rw [frs_at g (by omega)]; exact ⟨by decide, by decide⟩
  · rw [frs_at g (by omega)]; exact ⟨by decide, by decide⟩
  · rw [frs_at g (by omega)]; exact ⟨by decide, by decide⟩
  · rw [frs_at g (by omega)]; exact ⟨by decide, by decide⟩
  · rw [frs_at g (by omega)]; exact ⟨by decide, by decide⟩
theorem new5 : ∀ j, j < 5 → xsR0 1 j = if j = 0 then 15 else if j = 1 then 1 else if j = 2 then 2 else if j = 3 then 1 else 0 := by decide +kernel
theorem c1 {M : yM} {c : Nat} (hc : yC c) (g : yRow) : ∃ M', yX 1 0 [some (.ref c), none] [] M 0 0 = yV M' ∧ rc M' c (frs g) ∧ ∀ a, (a < c ∨ c + 8 < a) → M' a = M a := by
  obtain ⟨B, hB⟩ : ∃ B, B = yU (yU (yU (yU M c 0 0) c 1 0) c 2 4) c 3 4 := ⟨_, rfl⟩
  have key := yloop (H := fun n f => yX 1 22 [some (.ref c), some (.int (Int32.ofNat n))] [] (yUa B (c + 7) f) 0 0) (f := fun n f => upd f (0 + n) 1) (N := 4) (res := fun f => (.inl none, yUa (yUa B (c + 7) f) (c + 8) (ycp (xsR0 1) (B (c + 8)) 5))) (fun n f hn => by
      refine yL.fr (e1_22 hc) ?_
      rw [if_pos (ofN_lti (v := 4) (m := 4) rfl (by omega) hn), if_pos (yin_ofN hn (by omega)), yx_ofN (by omega), yLet_eq, yUa_yU, ofN_succ, Nat.zero_add]) (fun f => by
      refine yL.V (e1_22 hc) ?_
      rw [if_neg (by decide +kernel), yLet_eq, yUa_ne (show c + 8 ≠ c + 7 by omega)])
  have key := key 4 0 (B (c + 7)) (Nat.zero_add _)
  rw [yUa_self] at key
  have k22 : yX 1 22 [some (.ref c), some (.int 0)] [] B 0 0 = yV (yUa (yUa B (c + 7) (yfo (fun n f => upd f (0 + n) 1) 0 4 (B (c + 7)))) (c + 8) (ycp (xsR0 1) (B (c + 8)) 5)) := key
  obtain ⟨h1, h2⟩ := frs_ms g
  refine ⟨_, yL.V (e1 hc) (by rw [yLet_eq, yLet_eq, yLet_eq, yLet_eq, ← hB]; exact k22), ⟨?_, ?_, ?_, ?_, fun i hi => by omega, fun s hs0 => by omega, fun k hk => ?_, fun k hk => ?_⟩, fun a ha => ?_⟩
  · rw [yUa_ne (by omega), yUa_ne (by omega), hB, yU_at, upd_eq, if_neg (by omega), yU_at, upd_eq, if_neg (by omega), yU_at, upd_eq, if_neg (by omega), yU_at, upd_eq, if_pos rfl, frs_at g (by omega)]
    decide
  · rw [yUa_ne (by omega), yUa_ne (by omega), hB, yU_at, upd_eq, if_neg (by omega), yU_at, upd_eq, if_neg (by omega), yU_at, upd_eq, if_pos rfl, frs_at g (by omega)]
    decide
  · rw [yUa_ne (by omega), yUa_ne (by omega), hB, yU_at, upd_eq, if_neg (by omega), yU_at, upd_eq, if_pos rfl, frs_at g (by omega)]
    decide
  · rw [yUa_ne (by omega), yUa_ne (by omega), hB, yU_at, upd_eq, if_pos rfl, frs_at g (by omega)]
    decide
  · rw [yUa_ne (by omega), yUa_at, yfo_upd (fun _ => 1) 0, if_pos (by omega), frs_at g (by omega), if_neg (by omega), if_pos (by omega)]
  · rw [yUa_at]
    unfold ycp
    rw [if_pos hk, new5 k hk, frs_at g (by omega)]
    have : k = 0 ∨ k = 1 ∨ k = 2 ∨ k = 3 ∨ k = 4 := by omega
    rcases this with h | h | h | h | h <;> subst h <;> decide
  · rw [yUa_ne (by omega), yUa_ne (by omega), hB, yU_ne (by omega), yU_ne (by omega), yU_ne (by omega), yU_ne (by omega)]
