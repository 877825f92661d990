/-! the law, from its first step to its last -/
def imM (L : Nat) (xs : Nat → Int32) (h : xHp) : yM := fun a => if a = 0 then xs else if a = 500 then (fun _ => Int32.ofNat L) else icl h a
theorem im_at {L : Nat} {xs : Nat → Int32} {h : xHp} {a : Nat} (h0 : a ≠ 0) (h1 : a ≠ 500) : imM L xs h a = icl h a := by
  unfold imM
  rw [if_neg h0, if_neg h1]
theorem im_len {L : Nat} {xs : Nat → Int32} {h : xHp} (hL : L ≤ 260) : ylen (imM L xs h) = L := by
  show (Int32.ofNat L).toNatClampNeg = L
  exact yx_ofN (by omega)
theorem yT_len : yT.length = 373 := by decide +kernel
theorem ih_yhp {L : Nat} {xs : Nat → Int32} {h : xHp} (hL : L ≤ 260) (hh : okH h) (h1 : h.1 = true) (hc : chkL (h.2.drop 7) (yT.drop 7) = true) : swH L xs h = yhp true (imM L xs h) := by
  have hlen := im_len (xs := xs) (h := h) hL
  refine Prod.ext h1 (List.ext_getElem? fun i => ?_)
  rw [yhp_get]
  obtain ⟨b, l⟩ := h
  obtain ⟨t, e⟩ := hh
  have e : l = ih0.2 ++ t := e
  subst e
  rw [sw_b]
  have hc : chkL t (yT.drop 7) = true := hc
  match i with
  | 0 =>
    show some (Sum.inr (10, L, xs) : xCel) = some (ycel (imM L xs (b, ih0.2 ++ t)) 0 (ysh 0))
    have e1 : ycel (imM L xs (b, ih0.2 ++ t)) 0 (ysh 0) = .inr (10, ylen (imM L xs (b, ih0.2 ++ t)), xs) := rfl
    rw [e1, hlen]
  | 1 => rfl
  | 2 => rfl
  | 3 => rfl
  | 4 => rfl
  | 5 => rfl
  | 6 => rfl
  | i + 7 =>
    have el : (xgiv L xs ++ t)[i + 7]? = t[i]? := rfl
    have eh : (ih0.2 ++ t)[i + 7]? = t[i]? := rfl
    have er : yT[i + 7]? = (yT.drop 7)[i]? := by rw [List.getElem?_drop, Nat.add_comm]
    show (xgiv L xs ++ t)[i + 7]? = _
    rw [el, er]
    rcases chkL_ok t (yT.drop 7) hc i with ⟨n1, n2⟩ | ⟨c, s, c1, c2, c3⟩
    · rw [n1, n2]; rfl
    · rw [c1, c2]
      rw [← er] at c2
      obtain ⟨lt, _⟩ := List.getElem?_eq_some_iff.mp c2
      rw [yT_len] at lt
      have hM : imM L xs (b, ih0.2 ++ t) (i + 7) = celM c := by
        rw [im_at (by omega) (by omega)]
        unfold icl
        show celM (((ih0.2 ++ t)[i + 7]?).getD ihead) = _
        rw [eh, c1]
        rfl
      show some c = some (ycel _ (i + 7) s)
      rw [cel_ok c3 (by omega) hM]
def iA0 (r : yRow) : yAb := (r, (0, fun _ => r), (fun _ => false, fun _ => r), (0, fun _ => 0))
theorem ifrs {N : yM} {h : xHp} {b : Nat} (hR : ijO h b = true) (hN : ∀ a, 7 ≤ a → a < 190 → N a = icl h (a + b)) : LW (iA0 (frs g0)) N := by
  unfold ijO at hR
  simp only [Bool.and_eq_true, decide_eq_true_eq, List.all_eq_true, List.mem_range] at hR
  obtain ⟨⟨⟨⟨a1, a2, a3, a4⟩, v3⟩, b1, b2, b3, b4, b5⟩, d1, d2, d3, d4, d5⟩ := hR
  obtain ⟨k1, k2, k3⟩ := frs_ok g0
  obtain ⟨m1, m2⟩ := frs_ms g0
  have hr : rc N 11 (frs g0) := by
    refine ⟨?_, ?_, ?_, ?_, fun i hi => by omega, fun s hs0 => by omega, fun k hk => ?_, fun k hk => ?_⟩
    · rw [hN _ (by omega) (by omega), a1, frs_at _ (by omega)]; decide
    · rw [hN _ (by omega) (by omega), a2, frs_at _ (by omega)]; decide
    · rw [hN _ (by omega) (by omega), a3, frs_at _ (by omega)]; decide
    · rw [hN _ (by omega) (by omega), a4, frs_at _ (by omega)]; decide
    · rw [show 11 + 7 = 18 from rfl, hN _ (by omega) (by omega), v3 k hk, frs_at _ (by omega), if_neg (by omega), if_pos (by omega)]
    · rw [show 11 + 8 = 19 from rfl, hN _ (by omega) (by omega), frs_at _ (by omega)]
      have : k = 0 ∨ k = 1 ∨ k = 2 ∨ k = 3 ∨ k = 4 := by omega
      rcases this with h | h | h | h | h <;> subst h
      · rw [b1]; decide
      · rw [b2]; decide
      · rw [b3]; decide
      · rw [b4]; decide
      · rw [b5]; decide
  refine ⟨⟨hr, ⟨0, by omega, ?_, ?_, fun u hu => absurd hu (Nat.not_lt_zero u)⟩, fun s hs0 => ⟨?_, fun z => ?_⟩, ?_, fun j hj => absurd hj (Nat.not_lt_zero j)⟩, ⟨k1, k2, Nat.zero_le _, fun u hu => absurd hu (Nat.not_lt_zero u), fun s _ z => ?_, Nat.zero_le _, fun j hj => absurd hj (Nat.not_lt_zero j)⟩, ⟨k3, fun u hu => absurd hu (Nat.not_lt_zero u), fun s _ z => ?_⟩⟩
  · rw [hN _ (by omega) (by omega), d1]; rfl
  · rw [hN _ (by omega) (by omega), d2]; rfl
  · show N 189 s = 0
    rw [hN _ (by omega) (by omega)]
    have : s = 0 ∨ s = 1 := by omega
    rcases this with e | e <;> subst e
    · exact d3
    · exact d4
  · have z : false = true := z
    cases z
  · rw [hN _ (by omega) (by omega), d5]; rfl
  · have z : false = true := z
    cases z
  · have z : false = true := z
    cases z
theorem xLaw : xLawOk := by
  intro L xs hL
  have hA := ijAll_ok
  unfold ijAll at hA
  cases hj : ij with
  | none => rw [hj] at hA; cases hA
  | some j =>
    obtain ⟨pc, ls, st, h, nc, ns⟩ := j
    rw [hj] at hA
    have hA : (ijB (pc, ls, st, h, nc, ns) && (ijO h 0 && ijO h 183)) = true := hA
    rw [Bool.and_eq_true, Bool.and_eq_true] at hA
    obtain ⟨hB, hR1, hR2⟩ := hA
    unfold ijB at hB
    simp only [Bool.and_eq_true, decide_eq_true_eq] at hB
    obtain ⟨⟨⟨⟨⟨⟨b1, b2⟩, b3⟩, b4⟩, b5⟩, b6⟩, b7⟩ := hB
    have b2 := lchk_ok b2
    have b3 : st = [] := List.isEmpty_iff.mp b3
    subst b1 b2 b3
    unfold ij at hj
    obtain ⟨g1, g2⟩ := sw_stp (L := L) (xs := xs) 8 0 _ [] ih0 0 0 _ _ _ _ _ _ ⟨[], by rw [List.append_nil]⟩ hj
    have e0 : swH L xs ih0 = xh0 L xs := rfl
    rw [e0, ih_yhp hL g1 b4 b7] at g2
    have S : T2 (iA0 (frs g0)) (iA0 (frs g0)) (imM L xs h) := by
      refine ⟨ifrs hR1 (fun a h1 h2 => im_at (by omega) (by omega)), ifrs hR2 (fun a h1 h2 => ?_)⟩
      show imM L xs h (sg a) = _
      have e : sg a = a + 183 := by
        unfold sg
        rw [if_neg (by omega), if_pos h2]
      rw [e]
      exact im_at (by omega) (by omega)
    obtain ⟨o, M', k1, k2⟩ := law_16 (o3 := none) (o4 := none) (o5 := none) (o6 := none) nrm_N (T2_nrm S) b5 b6
    have k2 : o = .inl (some (.int 1)) := k2
    subst k2
    obtain ⟨fl', hf⟩ := y_x k1 true
    exact ⟨_, g2.trans hf⟩
