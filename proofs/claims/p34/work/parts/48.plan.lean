/-! the plan: what it is, and the reference's code for it -/
abbrev on (b e : yRow) (s : Nat) (m : Int32) : Prop := ¬ b s = -1 ∧ b s ≤ m ∧ m < e s
abbrev wet (r b e : yRow) (s : Nat) (m : Int32) : Prop := ¬ b s = -1 ∧ e s ≤ m ∧ m < e s + r 92
abbrev dn (b e : yRow) (s : Nat) (m : Int32) : Prop := ¬ b s = -1 ∧ e s ≤ m
def Sbz (r b e : yRow) (m : Int32) : Nat := cnt (fun s => r (44 + s) = 1 ∧ on b e s m) (stps r)
def Siu (r b e : yRow) (kd m : Int32) : Nat := cnt (fun s => r (30 + s) = kd ∧ on b e s m) (stps r)
def Swa (r b e : yRow) (kd m : Int32) : Nat := cnt (fun s => r (30 + s) = kd ∧ wet r b e s m) (stps r)
def Sdn (r b e : yRow) (m : Int32) : Nat := cnt (fun s => dn b e s m) (stps r)
abbrev Scan (r b e : yRow) (s : Nat) (m : Int32) : Prop := b s = -1 ∧ (∀ t, t < stps r → nd r s t → dn b e t m) ∧ (r (44 + s) = 0 ∨ Int32.ofNat (Sbz r b e m) < r 93) ∧ (r (30 + s) = -1 ∨ Int32.ofNat (Siu r b e (r (30 + s)) m + Swa r b e (r (30 + s)) m) < r (86 + yx (r (30 + s))))
def Srk (r : yRow) (s : Nat) : Int32 := if r 94 = 1 then r (16 + s) else if r 94 = 2 then Int32.ofNat (Wf r s) else if r 94 = 3 then bts (Snb r (Int32.ofNat s)) (stps r) else 0
def Snxf (r b e : yRow) (m : Int32) (s : Nat) (a : Int32) : Int32 := if Scan r b e s m ∧ (a = -1 ∨ ¬ (Srk r s ≤ Srk r (yx a))) then Int32.ofNat s else a
def Snx (r b e : yRow) (m : Int32) : Int32 := yfo (Snxf r b e m) 0 (stps r) (-1)
/-- the next minute behind m in which a step that ends at x, or its pan, is free -/
def Sth (r : yRow) (x m : Int32) : Int32 := if x ≤ m then (if x + r 92 ≤ m then -1 else x + r 92) else x
def Sltf (r b e : yRow) (m : Int32) (s : Nat) (a : Int32) : Int32 := if b s = -1 then a else if Sth r (e s) m = -1 then a else if a = -1 then Sth r (e s) m else if Sth r (e s) m < a then Sth r (e s) m else a
def Slt (r b e : yRow) (m : Int32) : Int32 := yfo (Sltf r b e m) 0 (stps r) (-1)
theorem yb_of {v : Int32} {p : Prop} [Decidable p] (h : v = 0 ∨ v = 1) (hp : v = 1 ↔ p) : v = yb p := by
  by_cases h1 : p
  · rw [yb_pos h1]; exact hp.mpr h1
  · rw [yb_neg h1]
    rcases h with h | h
    · exact h
    · exact absurd (hp.mp h) h1
theorem m1_ofN {n : Nat} (h : n < 2147483648) : ¬ Int32.ofNat n = -1 := by
  intro z
  rw [i32_eq, ofN_toInt h] at z
  have e1 : (-1 : Int32).toInt = -1 := rfl
  omega
section PLANR
variable {M : yM}
theorem x_0 (x : Int32) : x + 0 = x := by grind
theorem ix_kd {r : yRow} (ok : rok r) {s : Nat} (hs0 : s < stps r) (h : ¬ r (30 + s) = -1) : yx (r (30 + s)) < 4 ∧ r (30 + s) = Int32.ofNat (yx (r (30 + s))) := by
  obtain ⟨h1, h2⟩ := (rokst ok hs0).2.1
  obtain ⟨g1, g2⟩ := bet_nat (x := r (30 + s)) (m := 3) ⟨by grind, h2⟩ (N := 3) rfl (by omega)
  exact ⟨by omega, g2⟩
def ixn (a : Int32) (n : Nat) : Prop := a = -1 ∨ ∃ q, q < n ∧ a = Int32.ofNat q
theorem Snxf_ix {r b e : yRow} {m : Int32} {s : Nat} {a : Int32} {n : Nat} (hs0 : s < n) (h : ixn a n) : ixn (Snxf r b e m s a) n := by
  unfold Snxf
  split
  · exact Or.inr ⟨s, hs0, rfl⟩
  · exact h
theorem Snx_ix (r b e : yRow) (m : Int32) : ixn (Snx r b e m) (stps r) :=
  yfo_I (I := fun _ a => ixn a (stps r)) (stps r) 0 (-1) (fun s a _ h2 h3 => Snxf_ix (by omega) h3) (Or.inl rfl)
end PLANR
