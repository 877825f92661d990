/-! what would be, and what is so when it is done: rows and counts -/
section FOF
variable {r : yRow}
/-- a row with nothing behind its places -/
def Nrm (r : yRow) : Prop := rj r g0 = r
theorem rj_u {k : Nat} {x : Int32} (hk : k < 95) : rj r (upd r k x) = r := by
  funext j
  unfold rj
  by_cases h : j < 95
  · rw [if_pos h]
  · rw [if_neg h, upd_eq, if_neg (by omega)]
theorem rj_uu {k k2 : Nat} {x y : Int32} (hk : k < 95) (hk2 : k2 < 95) : rj r (upd (upd r k x) k2 y) = r := by
  funext j
  unfold rj
  by_cases h : j < 95
  · rw [if_pos h]
  · rw [if_neg h, upd_eq, if_neg (by omega), upd_eq, if_neg (by omega)]
theorem rj_self : rj r r = r := by
  funext j
  unfold rj
  split <;> rfl
theorem Rpan_N (hN : Nrm r) (k : Nat) : Rpan r g0 k = upd r (86 + k) (r (86 + k) + 1) := by unfold Rpan; rw [hN]
theorem Rsl_N (hN : Nrm r) (s n : Nat) : Rsl r g0 s n = upd r (16 + s) (r (16 + s) + Int32.ofNat n) := by unfold Rsl; rw [hN]
theorem Rbr_N (hN : Nrm r) (n : Nat) : Rbr r g0 n = upd r 94 (Int32.ofNat n) := by unfold Rbr; rw [hN]
/-- one piece more: no more steps are stuck -/
theorem pan_stuck (ok : rok r) (ha : acy r) (ht : tgt r) (hN : Nrm r) {k : Nat} (hk : k < 4) : Sstk (Rpan r g0 k) (Spl (Rpan r g0 k)) ≤ Sstk r (Spl r) := by
  have ok' := (Rpan_ok (g := g0) ok ha ht hk).1
  have h14 := (roks ok).1
  rw [Rpan_N hN] at ok' ⊢
  refine Sstk_mono ok ok' ha (upd_stps (by omega)) (fun s hs0 => ?_) (fun s hs0 => ?_) (fun j hj => ?_)
  · rw [upd_eq, if_neg (by omega)]
  · rw [upd_eq, if_neg (by omega)]
  · rw [upd_eq]
    have := ht.1 k hk
    split
    · next h =>
      have : j = k := by omega
      subst this
      grind
    · grind
/-- how much longer a step could take -/
theorem Slk_f (r g : yRow) (s : Nat) : ∀ f n, n + f = 60 → (n = 0 ∨ Swh (Rsl r g s n) (Spl (Rsl r g s n)) ≤ Swh r (Spl r)) → ∃ j, Slk r g s f n = Int32.ofNat j ∧ n ≤ j ∧ j ≤ 60 ∧ (j = 0 ∨ Swh (Rsl r g s j) (Spl (Rsl r g s j)) ≤ Swh r (Spl r)) ∧ (j < 60 → ¬ Swh (Rsl r g s (j + 1)) (Spl (Rsl r g s (j + 1))) ≤ Swh r (Spl r)) := by
  intro f
  induction f with
  | zero => intro n h h2; exact ⟨n, rfl, Nat.le_refl _, by omega, h2, fun z => by omega⟩
  | succ f ih =>
    intro n h h2
    show ∃ j, (if Swh (Rsl r g s (n + 1)) (Spl (Rsl r g s (n + 1))) ≤ Swh r (Spl r) then Slk r g s f (n + 1) else Int32.ofNat n) = Int32.ofNat j ∧ _
    by_cases hc : Swh (Rsl r g s (n + 1)) (Spl (Rsl r g s (n + 1))) ≤ Swh r (Spl r)
    · rw [if_pos hc]
      obtain ⟨j, j1, j2, j3, j4, j5⟩ := ih (n + 1) (by omega) (Or.inr hc)
      exact ⟨j, j1, by omega, j3, j4, j5⟩
    · rw [if_neg hc]
      exact ⟨n, rfl, Nat.le_refl _, by omega, h2, fun _ => hc⟩
theorem slack_f (ok : rok r) (hN : Nrm r) {s : Nat} (hs0 : s < stps r) : ∃ v, ol (oSlk r g0 (Int32.ofNat s)) = v.toInt64 ∧ (v = -1 ∨ ∃ j, v = Int32.ofNat j ∧ j ≤ 60 ∧ Swh (upd r (16 + s) (r (16 + s) + Int32.ofNat j)) (Spl (upd r (16 + s) (r (16 + s) + Int32.ofNat j))) ≤ Swh r (Spl r) ∧ (j < 60 → ¬ Swh (upd r (16 + s) (r (16 + s) + Int32.ofNat j + 1)) (Spl (upd r (16 + s) (r (16 + s) + Int32.ofNat j + 1))) ≤ Swh r (Spl r))) := by
  have h14 := (roks ok).1
  have e : ol (oSlk r g0 (Int32.ofNat s)) = (if (Spl r).1 s = -1 then (-1 : Int32) else Slk r g0 s 60 0).toInt64 := by
    unfold oSlk
    rw [if_pos (bet_stp ok hs0), yx_ofN (by omega)]
    rfl
  refine ⟨_, e, ?_⟩
  by_cases hb : (Spl r).1 s = -1
  · rw [if_pos hb]; exact Or.inl rfl
  · rw [if_neg hb]
    obtain ⟨j, j1, j2, j3, j4, j5⟩ := Slk_f r g0 s 60 0 rfl (Or.inl rfl)
    refine Or.inr ⟨j, j1, j3, ?_, fun h => ?_⟩
    · rcases j4 with h | h
      · subst h
        have e0 : upd r (16 + s) (r (16 + s) + Int32.ofNat 0) = r := by
          rw [show Int32.ofNat 0 = 0 from rfl, x_0]
          exact upd_same _ _
        rw [e0]
        grind
      · rw [Rsl_N hN] at h; exact h
    · have := j5 h
      rw [Rsl_N hN] at this
      have e1 : r (16 + s) + Int32.ofNat (j + 1) = r (16 + s) + Int32.ofNat j + 1 := by
        rw [← ofN_succ]
        grind
      rw [e1] at this
      exact this
/-- the best servings -/
theorem bsv_f {a b : Nat} (ha : 1 ≤ a) (hab : a ≤ b) (hb : b ≤ 24) : ∃ m, Sbv r (Int32.ofNat a) (Int32.ofNat b) = Int32.ofNat m ∧ a ≤ m ∧ m ≤ b ∧ Soff r (Int32.ofNat m) ≤ Soff r (Int32.ofNat b) := by
  have key := yfo_I (f := Sbvf r) (I := fun n t => ∃ m, t = (Int32.ofNat m, Soff r (Int32.ofNat m)) ∧ a ≤ m ∧ m < n ∧ ∀ j, a ≤ j → j < n → Soff r (Int32.ofNat m) ≤ Soff r (Int32.ofNat j)) (b - a) (a + 1) (Int32.ofNat a, Soff r (Int32.ofNat a)) (fun n t h1 h2 h3 => by
    obtain ⟨m, g1, g2, g3, g4⟩ := h3
    subst g1
    show ∃ m', (if Soff r (Int32.ofNat n) < Soff r (Int32.ofNat m) then (Int32.ofNat n, Soff r (Int32.ofNat n)) else (Int32.ofNat m, Soff r (Int32.ofNat m))) = _ ∧ _
    by_cases hc : Soff r (Int32.ofNat n) < Soff r (Int32.ofNat m)
    · rw [if_pos hc]
      refine ⟨n, rfl, by omega, by omega, fun j h5 h6 => ?_⟩
      by_cases e : j = n
      · rw [e]; grind
      · have := g4 j h5 (by omega); grind
    · rw [if_neg hc]
      refine ⟨m, rfl, g2, by omega, fun j h5 h6 => ?_⟩
      by_cases e : j = n
      · rw [e]; grind
      · exact g4 j h5 (by omega)) ⟨a, rfl, Nat.le_refl _, by omega, fun j h5 h6 => by
    have : j = a := by omega
    rw [this]; grind⟩
  obtain ⟨m, g1, g2, g3, g4⟩ := key
  refine ⟨m, ?_, g2, by omega, g4 b hab (by omega)⟩
  unfold Sbv
  rw [yx_ofN (by omega), yx_ofN (by omega), g1]
/-- the best rule -/
theorem bru_f (ok : rok r) (hN : Nrm r) : ∃ n, n < 4 ∧ Sbr r g0 = Int32.ofNat n ∧ (Sstk (upd r 94 (Int32.ofNat n)) (Spl (upd r 94 (Int32.ofNat n))) < Sstk r (Spl r) ∨ Sstk (upd r 94 (Int32.ofNat n)) (Spl (upd r 94 (Int32.ofNat n))) = Sstk r (Spl r) ∧ Swh (upd r 94 (Int32.ofNat n)) (Spl (upd r 94 (Int32.ofNat n))) ≤ Swh r (Spl r)) := by
  have key := yfo_I (f := Sbrf r g0) (I := fun n t => (n = 0 ∧ t.1 = -1) ∨ ∃ m, m < n ∧ t = (Int32.ofNat m, Sstk (Rbr r g0 m) (Spl (Rbr r g0 m)), Swh (Rbr r g0 m) (Spl (Rbr r g0 m))) ∧ ∀ j, j < n → Sstk (Rbr r g0 m) (Spl (Rbr r g0 m)) < Sstk (Rbr r g0 j) (Spl (Rbr r g0 j)) ∨ Sstk (Rbr r g0 m) (Spl (Rbr r g0 m)) = Sstk (Rbr r g0 j) (Spl (Rbr r g0 j)) ∧ Swh (Rbr r g0 m) (Spl (Rbr r g0 m)) ≤ Swh (Rbr r g0 j) (Spl (Rbr r g0 j))) 4 0 (-1, 0, 0) (fun n t h1 h2 h3 => by
    refine Or.inr ?_
    rcases h3 with ⟨g1, g2⟩ | ⟨m, g1, g2, g3⟩
    · have e : Sbrf r g0 n t = (Int32.ofNat n, Sstk (Rbr r g0 n) (Spl (Rbr r g0 n)), Swh (Rbr r g0 n) (Spl (Rbr r g0 n))) := if_pos (Or.inl g2)
      refine ⟨n, by omega, e, fun j hj => ?_⟩
      have : j = n := by omega
      rw [this]
      exact Or.inr ⟨rfl, by grind⟩
    · subst g2
      generalize hX : (fun j => Sstk (Rbr r g0 j) (Spl (Rbr r g0 j))) = X
      generalize hY : (fun j => Swh (Rbr r g0 j) (Spl (Rbr r g0 j))) = Y
      have eX : ∀ j, Sstk (Rbr r g0 j) (Spl (Rbr r g0 j)) = X j := fun j => by rw [← hX]
      have eY : ∀ j, Swh (Rbr r g0 j) (Spl (Rbr r g0 j)) = Y j := fun j => by rw [← hY]
      unfold Sbrf
      simp only [eX, eY] at g3 ⊢
      have hm1 : ¬ Int32.ofNat m = -1 := m1_ofN (by omega)
      by_cases hc : Int32.ofNat m = -1 ∨ X n < X m ∨ (X n = X m ∧ Y n < Y m)
      · rw [if_pos hc]
        have hc := hc.resolve_left hm1
        refine ⟨n, by omega, rfl, fun j hj => ?_⟩
        by_cases e : j = n
        · rw [e]; exact Or.inr ⟨rfl, by grind⟩
        · have := g3 j (by omega)
          grind
      · rw [if_neg hc]
        refine ⟨m, by omega, rfl, fun j hj => ?_⟩
        by_cases e : j = n
        · rw [e]
          have hc2 : ¬ (X n < X m ∨ (X n = X m ∧ Y n < Y m)) := fun z => hc (Or.inr z)
          grind
        · exact g3 j (by omega)) (Or.inl ⟨rfl, rfl⟩)
  rcases key with ⟨h, _⟩ | ⟨m, g1, g2, g3⟩
  · omega
  · refine ⟨m, by omega, ?_, ?_⟩
    · unfold Sbr
      rw [g2]
    · have h94 := (rokse ok).2.2.2.2
      obtain ⟨p1, p2⟩ := bet_nat h94 (N := 3) rfl (by omega)
      have h := g3 (yx (r 94)) (by omega)
      rw [Rbr_N hN, Rbr_N hN, ← p2, upd_same] at h
      exact h
end FOF
