/-! the law's first steps: the two objects are made, run once -/
def xstp (k : Nat) : Nat → xJ → Option xJ
  | 0, j => some j
  | n + 1, (pc, ls, st, h, nc, ns) => match xF k pc ls st h nc ns with
    | some (.inl j) => xstp k n j
    | some (.inr (.inr (k', as, pc, ls, st, h, nc, ns))) => match xr 1000 k' 0 (xEnt (xml k') as) [] h 0 0 with
      | some (.inl v, h') => xstp k n (pc + 3, ls, xPush v st, h', nc + xmc k', ns + xms k')
      | _ => none
    | _ => none
theorem sw_stp {L : Nat} {xs : Nat → Int32} {k : Nat} : ∀ (n pc : Nat) (ls : xLs) (st : List Value) (h : xHp) (nc ns pc' : Nat) (ls' : xLs) (st' : List Value) (h' : xHp) (nc' ns' : Nat), okH h → xstp k n (pc, ls, st, h, nc, ns) = some (pc', ls', st', h', nc', ns') → okH h' ∧ xX k pc ls st (swH L xs h) nc ns = xX k pc' ls' st' (swH L xs h') nc' ns' := by
  intro n
  induction n with
  | zero =>
    intro pc ls st h nc ns pc' ls' st' h' nc' ns' hh z
    have z : some ((pc, ls, st, h, nc, ns) : xJ) = some (pc', ls', st', h', nc', ns') := z
    cases z
    exact ⟨hh, rfl⟩
  | succ n ih =>
    intro pc ls st h nc ns pc' ls' st' h' nc' ns' hh z
    have hF := wle_F (L := L) (xs := xs) (k := k) (pc := pc) (ls := ls) (st := st) (nc := nc) (ns := ns) hh
    unfold xstp at z
    rw [xX_eq]
    cases ho : xF k pc ls st h nc ns with
    | none => rw [ho] at z; cases z
    | some o =>
      obtain ⟨g1, g2⟩ := hF o ho
      rw [ho] at z
      rw [g2]
      match o, g1, z with
      | .inl (pc1, ls1, st1, h1, nc1, ns1), g1, z => exact ih pc1 ls1 st1 h1 nc1 ns1 _ _ _ _ _ _ g1 z
      | .inr (.inl (r1, h1)), g1, z => cases z
      | .inr (.inr (k1, as, pc1, ls1, st1, h1, nc1, ns1)), g1, z =>
        simp only at z
        cases hc : xr 1000 k1 0 (xEnt (xml k1) as) [] h1 0 0 with
        | none => rw [hc] at z; cases z
        | some q =>
          obtain ⟨r2, h2⟩ := q
          obtain ⟨q1, q2⟩ := sw_X (L := L) (xs := xs) g1 hc
          rw [hc] at z
          cases r2 with
          | inr E => cases z
          | inl v =>
            obtain ⟨p1, p2⟩ := ih _ _ _ _ _ _ _ _ _ _ _ _ q1 z
            refine ⟨p1, ?_⟩
            show (match xX k1 0 (xEnt (xml k1) as) [] (swH L xs h1) 0 0 with | none => none | some (.inl v, h') => _ | some (.inr E, h') => _) = _
            rw [q2]
            exact p2
/-- a cell's numbers -/
def celM (c : xCel) : Nat → Int32 := match c with
  | .inr (_, _, f) => f
  | .inl (_, vs) => fun j => match vs[j]? with
    | some (.int x) => x
    | _ => 0
def vchk : List Value → List (Option Nat) → Bool
  | [], [] => true
  | .int _ :: vs, none :: l => vchk vs l
  | .ref r :: vs, some r' :: l => (r == r') && vchk vs l
  | _, _ => false
def celB (c : xCel) (s : ySh) : Bool := match c with
  | .inr (k, n, _) => decide (k = s.1 ∧ n = s.2.1 ∧ s.1 ≠ 21 ∧ s.1 ≠ 22 ∧ s.1 < 100)
  | .inl (k, vs) => (decide (k = 22 ∧ s.1 = 22) || decide (100 ≤ s.1 ∧ k = s.1 - 100)) && vchk vs s.2.2 || (match vs with
    | [.long z] => decide (k = 21 ∧ s.1 = 21 ∧ z = 0)
    | _ => false)
def chkL : List xCel → List ySh → Bool
  | [], [] => true
  | c :: cs, s :: ss => celB c s && chkL cs ss
  | _, _ => false
theorem chkL_ok : ∀ (cs : List xCel) (ss : List ySh), chkL cs ss = true → ∀ i : Nat, (cs[i]? = none ∧ ss[i]? = none) ∨ ∃ c s, cs[i]? = some c ∧ ss[i]? = some s ∧ celB c s = true := by
  intro cs
  induction cs with
  | nil =>
    intro ss h i
    cases ss with
    | nil => exact Or.inl ⟨rfl, rfl⟩
    | cons s ss => cases h
  | cons c cs ih =>
    intro ss h i
    cases ss with
    | nil => cases h
    | cons s ss =>
      have h : (celB c s && chkL cs ss) = true := h
      rw [Bool.and_eq_true] at h
      cases i with
      | zero => exact Or.inr ⟨c, s, rfl, rfl, h.1⟩
      | succ i =>
        rw [List.getElem?_cons_succ, List.getElem?_cons_succ]
        exact ih ss h.2 i
theorem yfs_cons (f : Nat → Int32) (o : Option Nat) (l : List (Option Nat)) : yfs f (o :: l) = (match o with
  | none => .int (f 0)
  | some r => .ref r) :: yfs (fun j => f (j + 1)) l := by
  unfold yfs
  rw [List.mapIdx_cons]
  rfl
theorem vchk_ok : ∀ (vs : List Value) (l : List (Option Nat)), vchk vs l = true → ∀ f : Nat → Int32, (∀ j x, vs[j]? = some (.int x) → f j = x) → yfs f l = vs := by
  intro vs
  induction vs with
  | nil =>
    intro l h f hf
    cases l with
    | nil => rfl
    | cons o l => cases h
  | cons v vs ih =>
    intro l h f hf
    cases l with
    | nil => cases v <;> cases h
    | cons o l =>
      have hf' : ∀ j x, vs[j]? = some (.int x) → f (j + 1) = x := fun j x z => hf (j + 1) x (by rw [List.getElem?_cons_succ]; exact z)
      rw [yfs_cons]
      cases o with
      | none =>
        cases v with
        | int x =>
          have h : vchk vs l = true := h
          rw [ih l h _ hf', hf 0 x rfl]
        | _ => cases h
      | some r =>
        cases v with
        | ref q =>
          have h : ((q == r) && vchk vs l) = true := h
          rw [Bool.and_eq_true, beq_iff_eq] at h
          rw [ih l h.2 _ hf', h.1]
        | _ => cases h
theorem cel_ok {c : xCel} {s : ySh} (h : celB c s = true) {M : yM} {a : Nat} (ha : 7 ≤ a) (hM : M a = celM c) : ycel M a s = c := by
  unfold celB at h
  unfold ycel
  split at h
  · next k n f =>
    obtain ⟨h1, h2, h3, h4, h5⟩ := of_decide_eq_true h
    rw [if_neg h3, if_neg h4, if_neg (by omega)]
    have e1 : yn M a s = n := by unfold yn; rw [if_neg (by omega)]; exact h2.symm
    have e2 : yrd M a = f := by unfold yrd; rw [if_neg (by omega)]; exact hM
    rw [e1, e2, h1]
  · next k vs =>
    rw [Bool.or_eq_true, Bool.and_eq_true, Bool.or_eq_true, decide_eq_true_eq, decide_eq_true_eq] at h
    have hf : ∀ j x, vs[j]? = some (.int x) → M a j = x := fun j x z => by
      rw [hM]
      unfold celM
      simp only [z]
    rcases h with ⟨h1, h2⟩ | h
    · have e := vchk_ok vs s.2.2 h2 (M a) hf
      rcases h1 with ⟨k1, k2⟩ | ⟨k1, k2⟩
      · rw [if_neg (by omega), if_pos k2, e, k1]
      · rw [if_neg (by omega), if_neg (by omega), if_pos k1, e, k2]
    · split at h
      · next z =>
        obtain ⟨k1, k2, k3⟩ := of_decide_eq_true h
        have e : M a 0 = 0 := by rw [hM]; rfl
        rw [if_pos k2, e, k1, k3]
        rfl
      · cases h
def lchk (ls : xLs) : Bool := match ls with
  | [some (.ref a), some (.ref b), some (.ref c), none, none, none, none] => (a == 0) && (b == 7) && (c == 190)
  | _ => false
theorem lchk_ok {ls : xLs} (h : lchk ls = true) : ls = [some (.ref 0), some (.ref 7), some (.ref 190), none, none, none, none] := by
  unfold lchk at h
  split at h
  · simp only [Bool.and_eq_true, beq_iff_eq] at h
    obtain ⟨⟨h1, h2⟩, h3⟩ := h
    rw [h1, h2, h3]
  · cases h
def ij : Option xJ := xstp 143 8 (0, xEnt 7 [.ref 0], [], ih0, 0, 0)
def ijB (j : xJ) : Bool := match j with
  | (pc, ls, st, h, nc, ns) => decide (pc = 16) && lchk ls && st.isEmpty && h.1 && decide (nc ≤ 500) && decide (ns ≤ 9000) && chkL (h.2.drop 7) (yT.drop 7)
def icl (h : xHp) (a : Nat) : Nat → Int32 := celM ((h.2[a]?).getD ihead)
/-- an object as it is at first -/
def ijO (h : xHp) (b : Nat) : Bool := decide (icl h (11 + b) 0 = 0 ∧ icl h (11 + b) 1 = 0 ∧ icl h (11 + b) 2 = 4 ∧ icl h (11 + b) 3 = 4) && (List.range 4).all (fun k => decide (icl h (18 + b) k = 1)) && decide (icl h (19 + b) 0 = 15 ∧ icl h (19 + b) 1 = 1 ∧ icl h (19 + b) 2 = 2 ∧ icl h (19 + b) 3 = 1 ∧ icl h (19 + b) 4 = 0) && decide (icl h (42 + b) 1 = 0 ∧ icl h (42 + b) 2 = 0 ∧ icl h (189 + b) 0 = 0 ∧ icl h (189 + b) 1 = 0 ∧ icl h (8 + b) 1 = 0)
def ijR (j : xJ) : Bool := match j with
  | (_, _, _, h, _, _) => ijO h 0 && ijO h 183
def ijAll : Bool := match ij with
  | some j => ijB j && ijR j
  | none => false
theorem ijAll_ok : ijAll = true := by decide +kernel
