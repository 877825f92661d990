/-- one step -/
def yF (k pc : Nat) (ls : xLs) (st : List Value) (h : yM) (nc ns : Nat) : yA := match decode (xmb k) pc with
  | .ok (i, len) => yAct k pc i len ls st h nc ns
  | _ => none

/-- the rest behind a step -/
def yK (R : Nat → Nat → xLs → List Value → yM → Nat → Nat → Option yRes) (k : Nat) (a : yA) : Option yRes := match a with
  | none => none
  | some (.inl (pc, ls, st, h, nc, ns)) => R k pc ls st h nc ns
  | some (.inr (.inl r)) => some r
  | some (.inr (.inr (k', as, pc, ls, st, h, nc, ns))) => match R k' 0 (xEnt (xml k') as) [] h 0 0 with
    | none => none
    | some (.inl v, h') => R k (pc + 3) ls (xPush v st) h' (nc + xmc k') (ns + xms k')
    | some (.inr E, h') => if xkd k' = 1 then (match xHd k pc E with
        | some (pc', i) => if xkd k = 2 ∧ i < ls.length then R k pc' (xS0 ls i) [] h' (nc + xmc k') (ns + xms k') else none
        | none => if xkd k = 1 then some (.inr E, h') else none) else none
def yr : Nat → Nat → Nat → xLs → List Value → yM → Nat → Nat → Option yRes
  | 0, _, _, _, _, _, _, _ => none
  | n + 1, k, pc, ls, st, h, nc, ns => yK (yr n) k (yF k pc ls st h nc ns)
theorem yK_mono {R R' : Nat → Nat → xLs → List Value → yM → Nat → Nat → Option yRes} (hR : ∀ k pc ls st h nc ns r, R k pc ls st h nc ns = some r → R' k pc ls st h nc ns = some r) {k : Nat} {a : yA} {r : yRes} (h : yK R k a = some r) : yK R' k a = some r := by
  unfold yK at h ⊢
  split
  · simp at h
  · exact hR _ _ _ _ _ _ _ _ h
  · exact h
  · next k' as pc ls st h0 nc ns =>
    simp only at h
    cases hc : R k' 0 (xEnt (xml k') as) [] h0 0 0 with
    | none => rw [hc] at h; simp at h
    | some q =>
      rw [hR _ _ _ _ _ _ _ _ hc]
      rw [hc] at h
      obtain ⟨o, h'⟩ := q
      cases o with
      | inl v => exact hR _ _ _ _ _ _ _ _ h
      | inr E =>
        simp only at h ⊢
        by_cases hk : xkd k' = 1
        · rw [if_pos hk] at h ⊢
          cases hd : xHd k pc E with
          | none => rw [hd] at h; exact h
          | some z =>
            rw [hd] at h
            obtain ⟨pc', i⟩ := z
            simp only at h ⊢
            by_cases hi : xkd k = 2 ∧ i < ls.length
            · rw [if_pos hi] at h ⊢
              exact hR _ _ _ _ _ _ _ _ h
            · rw [if_neg hi] at h; simp at h
        · rw [if_neg hk] at h; simp at h
theorem yr_succ (n : Nat) : ∀ k pc ls st h nc ns r, yr n k pc ls st h nc ns = some r → yr (n + 1) k pc ls st h nc ns = some r := by
  induction n with
  | zero => intro k pc ls st h nc ns r hr; simp [yr] at hr
  | succ n ih => intro k pc ls st h nc ns r hr; exact yK_mono ih hr
theorem yr_le {n m : Nat} (hnm : n ≤ m) {k pc ls st h nc ns r} (hr : yr n k pc ls st h nc ns = some r) : yr m k pc ls st h nc ns = some r := by
  induction hnm with
  | refl => exact hr
  | step _ ih => exact yr_succ _ _ _ _ _ _ _ _ _ ih
noncomputable def yX (k pc : Nat) (ls : xLs) (st : List Value) (h : yM) (nc ns : Nat) : Option yRes :=
  @dite (Option yRes) (∃ n r, yr n k pc ls st h nc ns = some r) (Classical.propDecidable _) (fun H => some (Classical.choose (Classical.choose_spec H))) (fun _ => none)
theorem yX_some {k pc ls st h nc ns r} : yX k pc ls st h nc ns = some r ↔ ∃ n, yr n k pc ls st h nc ns = some r := by
  unfold yX
  constructor
  · intro hx
    split at hx
    · next H =>
      have h1 := Classical.choose_spec (Classical.choose_spec H)
      rw [Option.some.inj hx] at h1
      exact ⟨_, h1⟩
    · simp at hx
  · intro ⟨n, hn⟩
    have H : ∃ n r, yr n k pc ls st h nc ns = some r := ⟨n, r, hn⟩
    rw [dif_pos H]
    have h1 := Classical.choose_spec (Classical.choose_spec H)
    have h2 := yr_le (Nat.le_max_left n (Classical.choose H)) hn
    have h3 := yr_le (Nat.le_max_right n (Classical.choose H)) h1
    rw [h2] at h3
    exact h3.symm
theorem yK_fuel {k : Nat} {a : yA} {r : yRes} (h : yK yX k a = some r) : ∃ n, yK (yr n) k a = some r := by
  unfold yK at h
  split at h
  · simp at h
  · obtain ⟨n, hn⟩ := yX_some.mp h
    exact ⟨n, hn⟩
  · exact ⟨0, h⟩
  · next k' as pc ls st h0 nc ns =>
    cases hc : yX k' 0 (xEnt (xml k') as) [] h0 0 0 with
    | none => rw [hc] at h; simp at h
    | some q =>
      rw [hc] at h
      obtain ⟨n, hn⟩ := yX_some.mp hc
      obtain ⟨o, h'⟩ := q
      cases o with
      | inl v =>
        obtain ⟨m, hm⟩ := yX_some.mp h
        refine ⟨max n m, ?_⟩
        show (match yr (max n m) k' 0 (xEnt (xml k') as) [] h0 0 0 with | none => none | some (.inl v, h') => _ | some (.inr E, h') => _) = _
        rw [yr_le (Nat.le_max_left n m) hn]
        exact yr_le (Nat.le_max_right n m) hm
      | inr E =>
        simp only at h
        by_cases hk : xkd k' = 1
        · rw [if_pos hk] at h
          cases hd : xHd k pc E with
          | none =>
            rw [hd] at h
            refine ⟨n, ?_⟩
            show (match yr n k' 0 (xEnt (xml k') as) [] h0 0 0 with | none => none | some (.inl v, h') => _ | some (.inr E, h') => _) = _
            rw [hn]
            simp only [if_pos hk, hd]
            exact h
          | some z =>
            rw [hd] at h
            obtain ⟨pc', i⟩ := z
            simp only at h
            by_cases hi : xkd k = 2 ∧ i < ls.length
            · rw [if_pos hi] at h
              obtain ⟨m, hm⟩ := yX_some.mp h
              refine ⟨max n m, ?_⟩
              show (match yr (max n m) k' 0 (xEnt (xml k') as) [] h0 0 0 with | none => none | some (.inl v, h') => _ | some (.inr E, h') => _) = _
              rw [yr_le (Nat.le_max_left n m) hn]
              simp only [if_pos hk, hd, if_pos hi]
              exact yr_le (Nat.le_max_right n m) hm
            · rw [if_neg hi] at h; simp at h
        · rw [if_neg hk] at h; simp at h
theorem yX_eq (k pc : Nat) (ls : xLs) (st : List Value) (h : yM) (nc ns : Nat) : yX k pc ls st h nc ns = yK yX k (yF k pc ls st h nc ns) := by
  apply Option.ext
  intro r
  constructor
  · intro hx
    obtain ⟨n, hn⟩ := yX_some.mp hx
    cases n with
    | zero => simp [yr] at hn
    | succ n => exact yK_mono (fun _ _ _ _ _ _ _ _ h => yX_some.mpr ⟨n, h⟩) hn
  · intro hx
    obtain ⟨n, hn⟩ := yK_fuel hx
    exact yX_some.mpr ⟨n + 1, hn⟩

/-- Y's answer is X's, on the heap that stands for the numbers -/
theorem yr_sim : ∀ (n k pc : Nat) (ls : xLs) (st : List Value) (M : yM) (nc ns : Nat) (r : Option Value ⊕ Nat) (M' : yM), yr n k pc ls st M nc ns = some (r, M') → ∀ fl, ∃ fl', xr n k pc ls st (yhp fl M) nc ns = some (r, yhp fl' M') := by
  intro n
  induction n with
  | zero => intro k pc ls st M nc ns r M' h; simp [yr] at h
  | succ n ih =>
    intro k pc ls st M nc ns r M' h fl
    have h : yK (yr n) k (yF k pc ls st M nc ns) = some (r, M') := h
    show ∃ fl', xK (xr n) k (xF k pc ls st (yhp fl M) nc ns) = some (r, yhp fl' M')
    cases hF : yF k pc ls st M nc ns with
    | none => rw [hF] at h; simp [yK] at h
    | some o =>
      have hX : xF k pc ls st (yhp fl M) nc ns = some (yXB fl o) := by
        unfold yF at hF
        unfold xF
        cases hd : decode (xmb k) pc with
        | error e => rw [hd] at hF; simp at hF
        | ok q =>
          rw [hd] at hF
          exact yS_all _ o hF
      rw [hF] at h
      rw [hX]
      match o, h with
      | .inl (pc1, ls1, st1, M1, nc1, ns1), h => exact ih _ _ _ _ _ _ _ _ _ h fl
      | .inr (.inl (.inl v, M1)), h => cases h; exact ⟨fl, rfl⟩
      | .inr (.inl (.inr E, M1)), h => cases h; exact ⟨false, rfl⟩
      | .inr (.inr (k', as, pc1, ls1, st1, M1, nc1, ns1)), h =>
        have h : (match yr n k' 0 (xEnt (xml k') as) [] M1 0 0 with
          | none => none
          | some (.inl v, h') => yr n k (pc1 + 3) ls1 (xPush v st1) h' (nc1 + xmc k') (ns1 + xms k')
          | some (.inr E, h') => if xkd k' = 1 then (match xHd k pc1 E with
            | some (pc', i) => if xkd k = 2 ∧ i < ls1.length then yr n k pc' (xS0 ls1 i) [] h' (nc1 + xmc k') (ns1 + xms k') else none
            | none => if xkd k = 1 then some (.inr E, h') else none) else none : Option yRes) = some (r, M') := h
        show ∃ fl', (match xr n k' 0 (xEnt (xml k') as) [] (yhp fl M1) 0 0 with
          | none => none
          | some (.inl v, h') => xr n k (pc1 + 3) ls1 (xPush v st1) h' (nc1 + xmc k') (ns1 + xms k')
          | some (.inr E, h') => if xkd k' = 1 then (match xHd k pc1 E with
            | some (pc', i) => if xkd k = 2 ∧ i < ls1.length then xr n k pc' (xS0 ls1 i) [] h' (nc1 + xmc k') (ns1 + xms k') else none
            | none => if xkd k = 1 then some (.inr E, h') else none) else none : Option xRes) = some (r, yhp fl' M')
        cases hc : yr n k' 0 (xEnt (xml k') as) [] M1 0 0 with
        | none => rw [hc] at h; simp at h
        | some q =>
          obtain ⟨ro, M2⟩ := q
          obtain ⟨fl1, e1⟩ := ih _ _ _ _ _ _ _ _ _ hc fl
          rw [hc] at h
          rw [e1]
          cases ro with
          | inl v => exact ih _ _ _ _ _ _ _ _ _ h fl1
          | inr E =>
            simp only at h ⊢
            by_cases c1 : xkd k' = 1
            · rw [if_pos c1] at h
              simp only [if_pos c1]
              cases hd : xHd k pc1 E with
              | none =>
                rw [hd] at h
                simp only at h ⊢
                by_cases c2 : xkd k = 1
                · rw [if_pos c2] at h
                  simp only [if_pos c2]
                  cases h
                  exact ⟨fl1, rfl⟩
                · rw [if_neg c2] at h; cases h
              | some z =>
                rw [hd] at h
                obtain ⟨pc', i⟩ := z
                simp only at h ⊢
                by_cases c2 : xkd k = 2 ∧ i < ls1.length
                · rw [if_pos c2] at h
                  simp only [if_pos c2]
                  exact ih _ _ _ _ _ _ _ _ _ h fl1
                · rw [if_neg c2] at h; cases h
            · rw [if_neg c1] at h; cases h
theorem y_x {k pc : Nat} {ls : xLs} {st : List Value} {M : yM} {nc ns : Nat} {r : Option Value ⊕ Nat} {M' : yM} (h : yX k pc ls st M nc ns = some (r, M')) (fl : Bool) : ∃ fl', xX k pc ls st (yhp fl M) nc ns = some (r, yhp fl' M') := by
  obtain ⟨n, hn⟩ := yX_some.mp h
  obtain ⟨fl', e⟩ := yr_sim _ _ _ _ _ _ _ _ _ _ hn fl
  exact ⟨fl', xX_some.mpr ⟨n, e⟩⟩
