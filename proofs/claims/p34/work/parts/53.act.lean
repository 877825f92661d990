/-! actions on a row -/
def fam (r : yRow) (k : Nat) (x : Int32) : Prop := k ≠ 0 ∧ k ≠ 15 ∧ (k = 13 → bet x 1 24) ∧ (k = 14 → bet x 1 24) ∧ (∀ i, i < many r → k = 1 + i → bet x 1 50000) ∧ (∀ s, s < stps r → (k = 16 + s → bet x 1 150) ∧ (k = 30 + s → bet x (-1) 3) ∧ (k = 44 + s → bet x 0 1) ∧ (k = 58 + s → blw x 12) ∧ (k = 72 + s → blw x (stps r))) ∧ (∀ j, j < 4 → k = 86 + j → bet x 0 4) ∧ (k = 90 → bet x 1 15) ∧ (k = 91 → bet x 0 2) ∧ (k = 92 → bet x 0 20) ∧ (k = 93 → bet x 1 3) ∧ (k = 94 → bet x 0 3)
section UPD
variable {r : yRow} {k : Nat} {x : Int32}
theorem upd_many (h : k ≠ 0) : many (upd r k x) = many r := by
  unfold many
  rw [upd_eq, if_neg (by omega)]
theorem upd_stps (h : k ≠ 15) : stps (upd r k x) = stps r := by
  unfold stps
  rw [upd_eq, if_neg (by omega)]
theorem upd_or {P : Int32 → Prop} {j : Nat} (h1 : j = k → P x) (h2 : P (r j)) : P (upd r k x j) := by
  rw [upd_eq]
  split
  · next h => exact h1 h
  · exact h2
theorem rok_upd (ok : rok r) (h : fam r k x) : rok (upd r k x) := by
  obtain ⟨f0, f15, f13, f14, fa, fs, fp, f90, f91, f92, f93, f94⟩ := h
  obtain ⟨h1, h2, h3, h4, h5, h6, h7, h8, h9, h10, h11, h12⟩ := ok
  refine ⟨upd_or (P := fun x => bet x 0 12) (fun e => absurd e.symm f0) h1, upd_or (P := fun x => bet x 0 14) (fun e => absurd e.symm f15) h2, upd_or (P := fun x => bet x 1 24) (fun e => f13 e.symm) h3, upd_or (P := fun x => bet x 1 24) (fun e => f14 e.symm) h4, fun i hi => ?_, fun s hs0 => ?_, fun j hj => upd_or (P := fun x => bet x 0 4) (fun e => fp j hj e.symm) (h7 j hj), upd_or (P := fun x => bet x 1 15) (fun e => f90 e.symm) h8, upd_or (P := fun x => bet x 0 2) (fun e => f91 e.symm) h9, upd_or (P := fun x => bet x 0 20) (fun e => f92 e.symm) h10, upd_or (P := fun x => bet x 1 3) (fun e => f93 e.symm) h11, upd_or (P := fun x => bet x 0 3) (fun e => f94 e.symm) h12⟩
  · rw [upd_many f0] at hi
    exact upd_or (P := fun x => bet x 1 50000) (fun e => fa i hi e.symm) (h5 i hi)
  · rw [upd_stps f15] at hs0 ⊢
    obtain ⟨g1, g2, g3, g4, g5⟩ := fs s hs0
    obtain ⟨k1, k2, k3, k4, k5⟩ := h6 s hs0
    exact ⟨upd_or (P := fun x => bet x 1 150) (fun e => g1 e.symm) k1, upd_or (P := fun x => bet x (-1) 3) (fun e => g2 e.symm) k2, upd_or (P := fun x => bet x 0 1) (fun e => g3 e.symm) k3, upd_or (P := fun x => blw x 12) (fun e => g4 e.symm) k4, upd_or (P := fun x => blw x (stps r)) (fun e => g5 e.symm) k5⟩
theorem acy_upd (ok : rok r) (ha : acy r) (h15 : k ≠ 15) (h72 : ∀ s, s < stps r → k ≠ 72 + s) : acy (upd r k x) := acy_sub ha (upd_stps h15) (fun s t h1 h2 h3 => by
  rw [upd_eq, if_neg (fun e => h72 s h1 e.symm)] at h3
  exact h3)
end UPD
/-- where a card keeps the number k of its row -/
def catO (k : Nat) : Nat := if k = 0 ∨ k = 13 ∨ k = 14 ∨ k = 15 then 0 else if k < 13 then 1 else if k < 30 then 2 else if k < 44 then 3 else if k < 58 then 4 else if k < 72 then 5 else if k < 86 then 6 else if k < 90 then 7 else 8
def cat (c k : Nat) : Nat := c + catO k
def cix (k : Nat) : Nat := if k = 0 then 0 else if k = 13 then 2 else if k = 14 then 3 else if k = 15 then 1 else if k < 13 then k - 1 else if k < 30 then k - 16 else if k < 44 then k - 30 else if k < 58 then k - 44 else if k < 72 then k - 58 else if k < 86 then k - 72 else if k < 90 then k - 86 else k - 90
theorem cat_1 : ∀ j, j < 12 → catO (1 + j) = 1 ∧ cix (1 + j) = j := by decide +kernel
theorem cat_16 : ∀ j, j < 14 → catO (16 + j) = 2 ∧ cix (16 + j) = j := by decide +kernel
theorem cat_30 : ∀ j, j < 14 → catO (30 + j) = 3 ∧ cix (30 + j) = j := by decide +kernel
theorem cat_44 : ∀ j, j < 14 → catO (44 + j) = 4 ∧ cix (44 + j) = j := by decide +kernel
theorem cat_58 : ∀ j, j < 14 → catO (58 + j) = 5 ∧ cix (58 + j) = j := by decide +kernel
theorem cat_72 : ∀ j, j < 14 → catO (72 + j) = 6 ∧ cix (72 + j) = j := by decide +kernel
theorem cat_86 : ∀ j, j < 4 → catO (86 + j) = 7 ∧ cix (86 + j) = j := by decide +kernel
theorem cat_90 : ∀ j, j < 5 → catO (90 + j) = 8 ∧ cix (90 + j) = j := by decide +kernel
theorem cat_inj0 : ∀ k, k < 95 → ∀ k', k' < 95 → catO k = catO k' → cix k = cix k' → k = k' := by decide +kernel
theorem cat_inj {c k k' : Nat} (hk : k < 95) (hk' : k' < 95) (h : cat c k = cat c k') (h2 : cix k = cix k') : k = k' := cat_inj0 k hk k' hk' (by unfold cat at h; omega) h2
theorem catO_le : ∀ k, k < 95 → catO k ≤ 8 := by decide +kernel
/-- a card tells a row: place by place -/
theorem rc_iff {M : yM} {c : Nat} {r : yRow} (hm : many r ≤ 12) (hst : stps r ≤ 14) : rc M c r ↔ (∀ k, (k = 0 ∨ k = 13 ∨ k = 14 ∨ k = 15 ∨ (1 ≤ k ∧ k < 1 + many r) ∨ (16 ≤ k ∧ k < 16 + stps r) ∨ (30 ≤ k ∧ k < 30 + stps r) ∨ (44 ≤ k ∧ k < 44 + stps r) ∨ (58 ≤ k ∧ k < 58 + stps r) ∨ (72 ≤ k ∧ k < 72 + stps r) ∨ (86 ≤ k ∧ k < 90) ∨ (90 ≤ k ∧ k < 95)) → M (cat c k) (cix k) = r k) := by
  constructor
  · intro ⟨h0, h1, h2, h3, h4, h5, h6, h7⟩ k hk
    rcases hk with e | e | e | e | e | e | e | e | e | e | e | e
    · subst e; exact h0
    · subst e; exact h2
    · subst e; exact h3
    · subst e; exact h1
    · obtain ⟨j, rfl⟩ : ∃ j, k = 1 + j := ⟨k - 1, by omega⟩
      unfold cat
      rw [(cat_1 j (by omega)).1, (cat_1 j (by omega)).2]
      exact h4 j (by omega)
    · obtain ⟨j, rfl⟩ : ∃ j, k = 16 + j := ⟨k - 16, by omega⟩
      unfold cat
      rw [(cat_16 j (by omega)).1, (cat_16 j (by omega)).2]
      exact (h5 j (by omega)).1
    · obtain ⟨j, rfl⟩ : ∃ j, k = 30 + j := ⟨k - 30, by omega⟩
      unfold cat
      rw [(cat_30 j (by omega)).1, (cat_30 j (by omega)).2]
      exact (h5 j (by omega)).2.1
    · obtain ⟨j, rfl⟩ : ∃ j, k = 44 + j := ⟨k - 44, by omega⟩
      unfold cat
      rw [(cat_44 j (by omega)).1, (cat_44 j (by omega)).2]
      exact (h5 j (by omega)).2.2.1
    · obtain ⟨j, rfl⟩ : ∃ j, k = 58 + j := ⟨k - 58, by omega⟩
      unfold cat
      rw [(cat_58 j (by omega)).1, (cat_58 j (by omega)).2]
      exact (h5 j (by omega)).2.2.2.1
    · obtain ⟨j, rfl⟩ : ∃ j, k = 72 + j := ⟨k - 72, by omega⟩
      unfold cat
      rw [(cat_72 j (by omega)).1, (cat_72 j (by omega)).2]
      exact (h5 j (by omega)).2.2.2.2
    · obtain ⟨j, rfl⟩ : ∃ j, k = 86 + j := ⟨k - 86, by omega⟩
      unfold cat
      rw [(cat_86 j (by omega)).1, (cat_86 j (by omega)).2]
      exact h6 j (by omega)
    · obtain ⟨j, rfl⟩ : ∃ j, k = 90 + j := ⟨k - 90, by omega⟩
      unfold cat
      rw [(cat_90 j (by omega)).1, (cat_90 j (by omega)).2]
      exact h7 j (by omega)
  · intro h
    refine ⟨h 0 (by omega), h 15 (by omega), h 13 (by omega), h 14 (by omega), fun j hj => ?_, fun j hj => ⟨?_, ?_, ?_, ?_, ?_⟩, fun j hj => ?_, fun j hj => ?_⟩
    · have := h (1 + j) (by omega)
      unfold cat at this
      rw [(cat_1 j (by omega)).1, (cat_1 j (by omega)).2] at this
      exact this
    · have := h (16 + j) (by omega)
      unfold cat at this
      rw [(cat_16 j (by omega)).1, (cat_16 j (by omega)).2] at this
      exact this
    · have := h (30 + j) (by omega)
      unfold cat at this
      rw [(cat_30 j (by omega)).1, (cat_30 j (by omega)).2] at this
      exact this
    · have := h (44 + j) (by omega)
      unfold cat at this
      rw [(cat_44 j (by omega)).1, (cat_44 j (by omega)).2] at this
      exact this
    · have := h (58 + j) (by omega)
      unfold cat at this
      rw [(cat_58 j (by omega)).1, (cat_58 j (by omega)).2] at this
      exact this
    · have := h (72 + j) (by omega)
      unfold cat at this
      rw [(cat_72 j (by omega)).1, (cat_72 j (by omega)).2] at this
      exact this
    · have := h (86 + j) (by omega)
      unfold cat at this
      rw [(cat_86 j (by omega)).1, (cat_86 j (by omega)).2] at this
      exact this
    · have := h (90 + j) (by omega)
      unfold cat at this
      rw [(cat_90 j (by omega)).1, (cat_90 j (by omega)).2] at this
      exact this
/-- one number changed on both sides -/
theorem rc_upd {M : yM} {c : Nat} {r : yRow} {k : Nat} {x : Int32} (h : rc M c r) (hm : many r ≤ 12) (hst : stps r ≤ 14) (h0 : k ≠ 0) (h15 : k ≠ 15) (hk : k < 95) : rc (yU M (cat c k) (cix k) x) c (upd r k x) := by
  rw [rc_iff (by rw [upd_many h0]; exact hm) (by rw [upd_stps h15]; exact hst), upd_many h0, upd_stps h15]
  rw [rc_iff hm hst] at h
  intro j hj
  rw [yU_eq, upd_eq]
  by_cases e : j = k
  · subst e
    rw [if_pos ⟨rfl, rfl⟩, if_pos rfl]
  · rw [if_neg (fun z => e (cat_inj (by omega) hk z.1 z.2)), if_neg e]
    exact h j hj
theorem cat_fr {c k a : Nat} (hk : k < 95) (h : a < c ∨ c + 8 < a) : a ≠ cat c k := by
  have := catO_le k hk
  unfold cat
  omega
