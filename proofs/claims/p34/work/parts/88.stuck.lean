/-! which steps are stuck; how late a step can begin -/
section STK
variable {r : yRow}
theorem Snx_none {b e : yRow} {m : Int32} (h14 : stps r ≤ 14) (h : Snx r b e m = -1) : ∀ s, s < stps r → ¬ Scan r b e s m := by
  have key := yfo_I (f := Snxf r b e m) (I := fun n a => a = -1 → ∀ t, t < n → ¬ Scan r b e t m) (stps r) 0 (-1) (fun s a _ h2 h3 h4 => by
    have h4 : (if Scan r b e s m ∧ (a = -1 ∨ ¬ (Srk r s ≤ Srk r (yx a))) then Int32.ofNat s else a) = -1 := h4
    split at h4
    · exact absurd h4 (m1_ofN (by omega))
    · next h5 =>
      intro t ht
      by_cases e1 : t = s
      · rw [e1]
        exact fun z => h5 ⟨z, Or.inl h4⟩
      · exact h3 h4 t (by omega)) (fun _ t ht => absurd ht (Nat.not_lt_zero t))
  rw [Nat.zero_add] at key
  exact key h
/-- a step is stuck if a step that it needs is, or there is no piece of its kind of pan -/
theorem stuck_iff (ok : rok r) {s : Nat} (hs0 : s < stps r) : (Spl r).1 s = -1 ↔ ((∃ t, t < stps r ∧ nd r s t ∧ (Spl r).1 t = -1) ∨ (¬ r (30 + s) = -1 ∧ ¬ 0 < r (86 + yx (r (30 + s))))) := by
  have h14 := (roks ok).1
  constructor
  · intro hb
    obtain ⟨m, hP, _, hx, hl⟩ := Spl_ind ok (J := fun _ _ => True) trivial (fun _ _ _ _ _ _ _ _ _ => trivial) (fun _ _ _ _ _ _ _ _ _ _ => trivial)
    have hN := Snx_none h14 hx s hs0
    have hi := Slt_isN ok hP (Nat.le_refl _)
    rw [hl] at hi
    have hall : ∀ t, t < stps r → ¬ (Spl r).1 t = -1 → (Spl r).2.1 t ≤ m ∧ (Spl r).2.1 t + r 92 ≤ m := fun t h1 h2 => by
      rcases hi with h3 | h3
      · exact h3.2 t ⟨h1, h2⟩
      · exact absurd h3.1 (by have := hP.2.2.2.2.1; grind)
    apply Classical.byContradiction
    intro hno
    apply hN
    refine ⟨hb, fun t ht hn => ?_, ?_, ?_⟩
    · have h1 : ¬ (Spl r).1 t = -1 := fun z => hno (Or.inl ⟨t, ht, hn, z⟩)
      exact ⟨h1, (hall t ht h1).1⟩
    · refine Or.inr ?_
      have h1 : Sbz r (Spl r).1 (Spl r).2.1 m = 0 := (cnt_0 _ _).mpr (fun t ht z => by
        have := (hall t ht z.2.1).1
        have := z.2.2.2
        grind)
      rw [h1]
      have := (rokse ok).2.2.2.1.1
      show (0 : Int32) < r 93
      grind
    · by_cases hk : r (30 + s) = -1
      · exact Or.inl hk
      · refine Or.inr ?_
        have h0 : 0 < r (86 + yx (r (30 + s))) := Classical.byContradiction fun z => hno (Or.inr ⟨hk, z⟩)
        have h1 : Siu r (Spl r).1 (Spl r).2.1 (r (30 + s)) m + Swa r (Spl r).1 (Spl r).2.1 (r (30 + s)) m = 0 := by
          rw [Suw_OC ok (Nat.le_refl _) hP]
          exact (cnt_0 _ _).mpr (fun t ht z => by
            have := (hall t ht z.2.1).2
            have := z.2.2.2
            grind)
        rw [h1]
        exact h0
  · intro h
    apply Classical.byContradiction
    intro hb
    rcases h with ⟨t, ht, hn, hz⟩ | ⟨h1, h2⟩
    · exact (need_end ok s hs0 hb t ht hn).1 hz
    · rcases piece_end ok s hs0 hb with h3 | h3
      · exact h1 h3
      · exact h2 h3
/-- more pieces: no more steps are stuck -/
theorem stuck_mono {r' : yRow} (ok : rok r) (ok' : rok r') (ha : acy r) (hst : stps r' = stps r) (hn : ∀ s, s < stps r → r' (72 + s) = r (72 + s)) (hk : ∀ s, s < stps r → r' (30 + s) = r (30 + s)) (hp : ∀ k, k < 4 → r (86 + k) ≤ r' (86 + k)) : ∀ s, s < stps r → (Spl r').1 s = -1 → (Spl r).1 s = -1 := by
  obtain ⟨ρ, hρ⟩ := ha
  have key : ∀ N s, ρ s ≤ N → s < stps r → (Spl r').1 s = -1 → (Spl r).1 s = -1 := by
    intro N
    induction N with
    | zero =>
      intro s h1 hs0 hb
      rw [stuck_iff ok' (by rw [hst]; exact hs0)] at hb
      rw [stuck_iff ok hs0]
      rcases hb with ⟨t, ht, hd, hz⟩ | ⟨h2, h3⟩
      · rw [hst] at ht
        have hd : nd r s t := by
          show hs (r (72 + s)) (Int32.ofNat t)
          rw [← hn s hs0]
          exact hd
        have := hρ s t hs0 ht hd
        omega
      · rw [hk s hs0] at h2 h3
        exact Or.inr ⟨h2, fun z => h3 (by have := hp _ (ix_kd ok hs0 h2).1; grind)⟩
    | succ N ih =>
      intro s h1 hs0 hb
      rw [stuck_iff ok' (by rw [hst]; exact hs0)] at hb
      rw [stuck_iff ok hs0]
      rcases hb with ⟨t, ht, hd, hz⟩ | ⟨h2, h3⟩
      · rw [hst] at ht
        have hd : nd r s t := by
          show hs (r (72 + s)) (Int32.ofNat t)
          rw [← hn s hs0]
          exact hd
        have := hρ s t hs0 ht hd
        exact Or.inl ⟨t, ht, hd, ih t (by omega) ht hz⟩
      · rw [hk s hs0] at h2 h3
        exact Or.inr ⟨h2, fun z => h3 (by have := hp _ (ix_kd ok hs0 h2).1; grind)⟩
  exact fun s hs0 hb => key (ρ s) s (Nat.le_refl _) hs0 hb
theorem Spl_k (ok : rok r) : (Spl r).2.2.2 = cnt (fun s => ¬ (Spl r).1 s = -1) (stps r) := by
  obtain ⟨m', hP⟩ := Pin_Spl ok
  exact Pin_k hP
theorem Spl_kle (ok : rok r) : (Spl r).2.2.2 ≤ stps r := by rw [Spl_k ok]; exact cnt_le _ _
theorem Sstk_nat (ok : rok r) : Sstk r (Spl r) = Int32.ofNat (stps r - (Spl r).2.2.2) := by
  have h14 := (roks ok).1
  exact sub_le (roks ok).2 (by omega) (Spl_kle ok)
theorem Sstk_mono {r' : yRow} (ok : rok r) (ok' : rok r') (ha : acy r) (hst : stps r' = stps r) (hn : ∀ s, s < stps r → r' (72 + s) = r (72 + s)) (hk : ∀ s, s < stps r → r' (30 + s) = r (30 + s)) (hp : ∀ k, k < 4 → r (86 + k) ≤ r' (86 + k)) : Sstk r' (Spl r') ≤ Sstk r (Spl r) := by
  have h14 := (roks ok).1
  rw [Sstk_nat ok, Sstk_nat ok', hst]
  refine (ofN_leI (by omega) (by omega)).mpr ?_
  have h1 : (Spl r).2.2.2 ≤ (Spl r').2.2.2 := by
    rw [Spl_k ok, Spl_k ok', hst]
    exact cnt_mono _ _ _ (fun s hs0 h z => h (stuck_mono ok ok' ha hst hn hk hp s hs0 z))
  omega
-- how late
def sm (f : Nat → Nat) : Nat → Nat
  | 0 => 0
  | n + 1 => sm f n + f n
theorem sm_le {f : Nat → Nat} {K t : Nat} : ∀ n, t < n → (∀ m, m < n → f m ≤ K) → sm f n + K ≤ K * n + f t := by
  intro n
  induction n with
  | zero => intro h; omega
  | succ n ih =>
    intro ht h
    show sm f n + f n + K ≤ K * (n + 1) + f t
    rw [Nat.mul_succ]
    by_cases e : t = n
    · have : ∀ n, (∀ m, m < n → f m ≤ K) → sm f n ≤ K * n := by
        intro n
        induction n with
        | zero => intro _; exact Nat.zero_le _
        | succ n ih2 =>
          intro h
          have h1 := ih2 (fun m hm => h m (by omega))
          have h2 := h n (by omega)
          show sm f n + f n ≤ K * (n + 1)
          rw [Nat.mul_succ]; omega
      have h1 := this n (fun m hm => h m (by omega))
      subst e
      omega
    · have h1 := ih (by omega) (fun m hm => h m (by omega))
      have h2 := h n (by omega)
      omega
theorem sm_flip {f g : Nat → Nat} {t : Nat} (h0 : f t = 0) : ∀ n, t < n → (∀ m, m < n → m ≠ t → g m = f m) → sm g n = sm f n + g t := by
  intro n
  induction n with
  | zero => intro h; omega
  | succ n ih =>
    intro ht h
    show sm g n + g n = sm f n + f n + g t
    by_cases e : t = n
    · subst e
      have : ∀ n, n ≤ t → sm g n = sm f n := by
        intro n
        induction n with
        | zero => intro _; rfl
        | succ n ih2 => intro hn; show sm g n + g n = sm f n + f n; rw [ih2 (by omega), h n (by omega) (by omega)]
      rw [this t (Nat.le_refl _), h0]
      omega
    · have h1 := ih (by omega) (fun m hm => h m (by omega))
      rw [h1, h n (by omega) (fun z => e z.symm)]
      omega
/-- the minutes of what has begun, with its washing -/
def BSf (r : yRow) (st : yPl) (s : Nat) : Nat := if st.1 s = -1 then 0 else mN r s + yx (r 92)
def TJ (r : yRow) (m : Int32) (st : yPl) : Prop := yx m ≤ sm (BSf r st) (stps r) ∧ ∀ s, s < stps r → ¬ st.1 s = -1 → yx (st.2.1 s) + yx (r 92) ≤ sm (BSf r st) (stps r)
theorem yx_add {a b : Int32} (h1 : 0 ≤ a) (h2 : a ≤ 6000) (h3 : 0 ≤ b) (h4 : b ≤ 6000) : yx (a + b) = yx a + yx b := by
  obtain ⟨p1, p2⟩ := bet_nat (x := a) (m := 6000) ⟨h1, h2⟩ (N := 6000) rfl (by omega)
  obtain ⟨q1, q2⟩ := bet_nat (x := b) (m := 6000) ⟨h3, h4⟩ (N := 6000) rfl (by omega)
  rw [p2, q2, ofN_add, yx_ofN (by omega), yx_ofN (by omega), yx_ofN (by omega)]
theorem late (ok : rok r) (ht : tgt r) {s : Nat} (hs0 : s < stps r) (hb : ¬ (Spl r).1 s = -1) : yx ((Spl r).1 s) ≤ 1430 := by
  have h14 := (roks ok).1
  have w1 := (rokse ok).2.2.1
  obtain ⟨w2, w3⟩ := bet_nat w1 (N := 20) rfl (by omega)
  have hB : ∀ (m : Int32) (j : Nat) (st : yPl) (s : Nat), j ≤ 29 → Pin r m j st → s < stps r → Scan r st.1 st.2.1 s m → TJ r m st → TJ r m (bg r m s st) := by
    intro m j st s hj hP hs0 hc hJ
    have hJ5 := ofN_bd (n := 170 * j) (v := 4930) (N := 4930) rfl (by omega) (by omega)
    have hm0 := hP.2.2.2.2.1
    have hm1 := hP.2.2.2.2.2
    have hmm : ¬ m = -1 := by grind
    have hmin := (rokst ok hs0).1
    obtain ⟨b, e, o, k⟩ := st
    have h1 : sm (BSf r (bg r m s (b, e, o, k))) (stps r) = sm (BSf r (b, e, o, k)) (stps r) + (mN r s + yx (r 92)) := by
      have h2 := sm_flip (f := BSf r (b, e, o, k)) (g := BSf r (bg r m s (b, e, o, k))) (t := s) (if_pos hc.1) (stps r) hs0 (fun t ht hne => by
        show (if upd b s m t = -1 then 0 else mN r t + yx (r 92)) = (if b t = -1 then 0 else mN r t + yx (r 92))
        rw [upd_eq, if_neg hne])
      rw [h2]
      show _ + (if upd b s m s = -1 then 0 else mN r s + yx (r 92)) = _
      rw [upd_eq, if_pos rfl, if_neg hmm]
    obtain ⟨j1, j2⟩ := hJ
    refine ⟨by rw [h1]; exact Nat.le_trans j1 (Nat.le_add_right _ _), fun t ht hbt => ?_⟩
    have hbt : ¬ upd b s m t = -1 := hbt
    rw [h1]
    show yx (upd e s (m + r (16 + s)) t) + yx (r 92) ≤ _
    rw [upd_eq] at hbt ⊢
    by_cases e1 : t = s
    · rw [if_pos e1, yx_add hm0 (by grind) (by grind) (by grind)]
      show yx m + mN r s + yx (r 92) ≤ _
      have : yx m ≤ sm (BSf r (b, e, o, k)) (stps r) := j1
      omega
    · rw [if_neg e1] at hbt ⊢
      exact Nat.le_trans (j2 t ht hbt) (Nat.le_add_right _ _)
  have hN : ∀ (m : Int32) (j : Nat) (st : yPl) (v : Int32), j ≤ 28 → Pin r m j st → Pin r v (j + 1) st → m < v → (∃ s, s < stps r ∧ ¬ st.1 s = -1 ∧ (v = st.2.1 s ∨ v = st.2.1 s + r 92)) → TJ r m st → TJ r v st := by
    intro m j st v hj hP hP' hv ⟨s, hs0, hb, he⟩ hJ
    obtain ⟨p1, p2, p3, p4, p5, p6, p7, p8⟩ := Pin_e ok hP (by omega) hs0 hb
    have h1 := hJ.2 s hs0 hb
    refine ⟨?_, hJ.2⟩
    rcases he with e | e
    · rw [e]; omega
    · rw [e, yx_add (by grind) (by grind) p3 (by grind)]; exact h1
  obtain ⟨m, hP, hJ, _⟩ := Spl_ind ok (J := TJ r) ⟨Nat.zero_le _, fun s _ h => absurd rfl h⟩ hB hN
  have h1 := hJ.2 s hs0 hb
  obtain ⟨p1, p2, p3, p4, p5, p6, p7, p8⟩ := Pin_e ok hP (Nat.le_refl _) hs0 hb
  have p9 : (Spl r).2.1 s = (Spl r).1 s + r (16 + s) := by
    rcases hP.1 s hs0 with h2 | h2
    · exact absurd h2.1 hb
    · exact h2.2.2
  have hmin := (rokst ok hs0).1
  rw [p9, yx_add p8 (by grind) (by grind) (by grind)] at h1
  have h2 := sm_le (f := BSf r (Spl r)) (K := 110) (t := s) (stps r) hs0 (fun t htt => by
    show (if (Spl r).1 t = -1 then 0 else mN r t + yx (r 92)) ≤ 110
    split
    · omega
    · have := ht.2 t htt
      obtain ⟨q1, q2⟩ := bet_nat (x := r (16 + t)) (m := 90) ⟨by grind, this.2⟩ (N := 90) rfl (by omega)
      have : mN r t = yx (r (16 + t)) := rfl
      omega)
  have h3 : BSf r (Spl r) s = mN r s + yx (r 92) := if_neg hb
  have h4 : mN r s = yx (r (16 + s)) := rfl
  omega
end STK
