/-! the longest ways -/
def mx (f : Nat → Nat) : Nat → Nat
  | 0 => 0
  | n + 1 => max (mx f n) (f n)
theorem mx_le {f : Nat → Nat} {b : Nat} : ∀ n, (∀ t, t < n → f t ≤ b) → mx f n ≤ b := by
  intro n
  induction n with
  | zero => intro _; exact Nat.zero_le _
  | succ n ih =>
    intro h
    have h1 := ih (fun t ht => h t (by omega))
    have h2 := h n (by omega)
    show max (mx f n) (f n) ≤ b
    omega
theorem mx_ge {f : Nat → Nat} {t : Nat} : ∀ n, t < n → f t ≤ mx f n := by
  intro n
  induction n with
  | zero => intro h; omega
  | succ n ih =>
    intro h
    show f t ≤ max (mx f n) (f n)
    by_cases e : t = n
    · subst e; omega
    · have := ih (by omega); omega
theorem mx_congr {f g : Nat → Nat} : ∀ n, (∀ t, t < n → f t = g t) → mx f n = mx g n := by
  intro n
  induction n with
  | zero => intro _; rfl
  | succ n ih =>
    intro h
    show max (mx f n) (f n) = max (mx g n) (g n)
    rw [ih (fun t ht => h t (by omega)), h n (by omega)]
theorem mx_at {f : Nat → Nat} : ∀ n, mx f n = 0 ∨ ∃ t, t < n ∧ mx f n = f t := by
  intro n
  induction n with
  | zero => exact Or.inl rfl
  | succ n ih =>
    have e : mx f (n + 1) = max (mx f n) (f n) := rfl
    by_cases h : mx f n ≤ f n
    · exact Or.inr ⟨n, by omega, by omega⟩
    · rcases ih with h1 | ⟨t, h1, h2⟩
      · omega
      · exact Or.inr ⟨t, by omega, by omega⟩
def mN (r : yRow) (s : Nat) : Nat := yx (r (16 + s))
/-- t needs s, and is a step -/
abbrev nd (r : yRow) (t s : Nat) : Prop := hs (r (72 + t)) (Int32.ofNat s)
def Wy (r : yRow) : Nat → Nat → Nat
  | 0, _ => 0
  | j + 1, s => mN r s + mx (fun t => if nd r t s then Wy r j t else 0) (stps r)
def Wf (r : yRow) (s : Nat) : Nat := Wy r (stps r) s
section WAY
variable {r : yRow}
theorem mN_le (ok : rok r) {s : Nat} (h : s < stps r) : 1 ≤ mN r s ∧ mN r s ≤ 150 ∧ r (16 + s) = Int32.ofNat (mN r s) := by
  obtain ⟨h1, h2⟩ := (rokst ok h).1
  obtain ⟨g1, g2⟩ := bet_nat (x := r (16 + s)) (m := 150) ⟨by grind, h2⟩ (N := 150) rfl (by omega)
  refine ⟨?_, g1, g2⟩
  rw [g2, i32_le, ofN_toInt (by omega)] at h1
  have e1 : (1 : Int32).toInt = 1 := rfl
  show 1 ≤ yx (r (16 + s))
  omega
theorem Wy_le (ok : rok r) : ∀ j s, s < stps r → Wy r j s ≤ 150 * j := by
  intro j
  induction j with
  | zero => intro s _; exact Nat.zero_le _
  | succ j ih =>
    intro s h
    have h1 := (mN_le ok h).2.1
    have h2 : mx (fun t => if nd r t s then Wy r j t else 0) (stps r) ≤ 150 * j := mx_le _ (fun t ht => by
      show (if nd r t s then Wy r j t else 0) ≤ 150 * j
      split
      · exact ih t ht
      · exact Nat.zero_le _)
    show mN r s + mx _ _ ≤ _
    omega
theorem Wf_le (ok : rok r) {s : Nat} (h : s < stps r) : Wf r s ≤ 2100 := by
  have h1 := Wy_le ok (stps r) s h
  have h2 := (roks ok).1
  unfold Wf
  omega
/-- a height below the steps' number, falling along needs -/
theorem acy_h (h : acy r) : ∃ g : Nat → Nat, (∀ s, s < stps r → g s < stps r) ∧ ∀ t s, t < stps r → s < stps r → nd r t s → g t < g s := by
  obtain ⟨ρ, hρ⟩ := h
  refine ⟨fun s => cnt (fun u => ρ s < ρ u) (stps r), fun s hs0 => cnt_lt_n _ hs0 (by omega), fun t s ht hs0 hn => ?_⟩
  have h1 := hρ t s ht hs0 hn
  exact cnt_lt (fun u => ρ t < ρ u) (fun u => ρ s < ρ u) (t := t) h1 (by omega) (stps r) ht (fun m _ hm => by omega)
theorem Wy_stab {g : Nat → Nat} (hg : ∀ t s, t < stps r → s < stps r → nd r t s → g t < g s) : ∀ j s, s < stps r → g s < j → Wy r j s = Wy r (j + 1) s := by
  intro j
  induction j with
  | zero => intro s _ h; omega
  | succ j ih =>
    intro s h1 h2
    show mN r s + mx _ _ = mN r s + mx _ _
    congr 1
    refine mx_congr _ (fun t ht => ?_)
    show (if nd r t s then Wy r j t else 0) = (if nd r t s then Wy r (j + 1) t else 0)
    by_cases hn : nd r t s
    · rw [if_pos hn, if_pos hn, ih t ht (by have := hg t s ht h1 hn; omega)]
    · rw [if_neg hn, if_neg hn]
theorem Wf_eq {g : Nat → Nat} (hg0 : ∀ s, s < stps r → g s < stps r) (hg : ∀ t s, t < stps r → s < stps r → nd r t s → g t < g s) {s : Nat} (h : s < stps r) : Wf r s = mN r s + mx (fun t => if nd r t s then Wf r t else 0) (stps r) := Wy_stab hg _ s h (hg0 s h)
-- the reference's rounds
def Rmx (r : yRow) (w : yRow) (s : Nat) : Int32 := yfo (fun t a => if nd r t s ∧ ¬ (w t ≤ a) then w t else a) 0 (stps r) 0
def Rrd (r : yRow) (w : yRow) : yRow := yfo (fun s w => upd w s (r (16 + s) + Rmx r w s)) 0 (stps r) w
def Rwy (r : yRow) (w : yRow) : yRow := yfo (fun _ w => Rrd r w) 0 (stps r) w
theorem ofN_leI {a b : Nat} (ha : a < 2147483648) (hb : b < 2147483648) : Int32.ofNat a ≤ Int32.ofNat b ↔ a ≤ b := by
  rw [i32_le, ofN_toInt ha, ofN_toInt hb]
  omega
theorem Rmx_eq {w : yRow} {x : Nat → Nat} (hw : ∀ t, t < stps r → w t = Int32.ofNat (x t) ∧ x t ≤ 3000) (s : Nat) : Rmx r w s = Int32.ofNat (mx (fun t => if nd r t s then x t else 0) (stps r)) := by
  have key : ∀ n, n ≤ stps r → yfo (fun t a => if nd r t s ∧ ¬ (w t ≤ a) then w t else a) 0 n 0 = Int32.ofNat (mx (fun t => if nd r t s then x t else 0) n) := by
    intro n
    induction n with
    | zero => intro _; rfl
    | succ n ih =>
      intro hn
      obtain ⟨h1, h2⟩ := hw n (by omega)
      have hb : mx (fun t => if nd r t s then x t else 0) n ≤ 3000 := mx_le _ (fun t ht => by
        show (if nd r t s then x t else 0) ≤ 3000
        split
        · exact (hw t (by omega)).2
        · omega)
      rw [yfo_s, ih (by omega), Nat.zero_add]
      show _ = Int32.ofNat (max (mx (fun t => if nd r t s then x t else 0) n) (if nd r n s then x n else 0))
      have hle := ofN_leI (a := x n) (b := mx (fun t => if nd r t s then x t else 0) n) (by omega) (by omega)
      rw [h1]
      by_cases hp : nd r n s
      · rw [if_pos (c := nd r n s) hp]
        by_cases hq : x n ≤ mx (fun t => if nd r t s then x t else 0) n
        · rw [if_neg (fun z => z.2 (hle.mpr hq)), Nat.max_eq_left hq]
        · rw [if_pos ⟨hp, fun z => hq (hle.mp z)⟩, Nat.max_eq_right (by omega)]
      · rw [if_neg (fun z => hp z.1), if_neg hp, Nat.max_eq_left (Nat.zero_le _)]
  exact key _ (Nat.le_refl _)
theorem ofN_add (a b : Nat) : Int32.ofNat a + Int32.ofNat b = Int32.ofNat (a + b) := by rw [Int32.ofNat_add]
/-- within a round: no way is too long, those of a height below j are right, those done too at height j -/
def Rinv (r : yRow) (g : Nat → Nat) (j i : Nat) (w : yRow) : Prop := ∃ x : Nat → Nat, ∀ s, s < stps r → w s = Int32.ofNat (x s) ∧ x s ≤ Wf r s ∧ (g s < j → x s = Wf r s) ∧ (s < i → g s < j + 1 → x s = Wf r s)
theorem Rinv_step (ok : rok r) {g : Nat → Nat} (hg0 : ∀ s, s < stps r → g s < stps r) (hg : ∀ t s, t < stps r → s < stps r → nd r t s → g t < g s) {j i : Nat} {w : yRow} (hi : i < stps r) (h : Rinv r g j i w) : Rinv r g j (i + 1) (upd w i (r (16 + i) + Rmx r w i)) := by
  obtain ⟨x, hx⟩ := h
  have hW : ∀ t, t < stps r → w t = Int32.ofNat (x t) ∧ x t ≤ 3000 := fun t ht => ⟨(hx t ht).1, by have h1 := (hx t ht).2.1; have h2 := Wf_le ok ht; omega⟩
  have e := Wf_eq hg0 hg hi
  have hm := mN_le ok hi
  have hle : mx (fun t => if nd r t i then x t else 0) (stps r) ≤ mx (fun t => if nd r t i then Wf r t else 0) (stps r) := mx_le _ (fun t ht => by
    refine Nat.le_trans ?_ (mx_ge (f := fun t => if nd r t i then Wf r t else 0) _ ht)
    show (if nd r t i then x t else 0) ≤ (if nd r t i then Wf r t else 0)
    split
    · exact (hx t ht).2.1
    · omega)
  have heq : g i < j + 1 → mx (fun t => if nd r t i then x t else 0) (stps r) = mx (fun t => if nd r t i then Wf r t else 0) (stps r) := fun hgi => mx_congr _ (fun t ht => by
    show (if nd r t i then x t else 0) = (if nd r t i then Wf r t else 0)
    by_cases hn : nd r t i
    · rw [if_pos hn, if_pos hn]
      exact (hx t ht).2.2.1 (by have := hg t i ht hi hn; omega)
    · rw [if_neg hn, if_neg hn])
  refine ⟨fun s => if s = i then mN r i + mx (fun t => if nd r t i then x t else 0) (stps r) else x s, fun s hs0 => ?_⟩
  rw [upd_eq]
  by_cases h1 : s = i
  · subst h1
    rw [if_pos rfl]
    show _ = Int32.ofNat (if s = s then _ else _) ∧ (if s = s then _ else _) ≤ _ ∧ (_ → (if s = s then _ else _) = _) ∧ (_ → _ → (if s = s then _ else _) = _)
    rw [if_pos rfl, Rmx_eq hW, hm.2.2, ofN_add]
    refine ⟨rfl, by omega, fun h2 => ?_, fun _ h2 => ?_⟩
    · rw [heq (by omega)]; exact e.symm
    · rw [heq h2]; exact e.symm
  · rw [if_neg h1]
    show _ = Int32.ofNat (if s = i then _ else _) ∧ (if s = i then _ else _) ≤ _ ∧ (_ → (if s = i then _ else _) = _) ∧ (_ → _ → (if s = i then _ else _) = _)
    rw [if_neg h1]
    obtain ⟨q1, q2, q3, q4⟩ := hx s hs0
    exact ⟨q1, q2, q3, fun h2 h3 => q4 (by omega) h3⟩
theorem Rwy_ok (ok : rok r) (ha : acy r) {w : yRow} (hw : ∀ s, s < stps r → w s = 0) : ∀ s, s < stps r → Rwy r w s = Int32.ofNat (Wf r s) := by
  obtain ⟨g, hg0, hg⟩ := acy_h ha
  have h0 : Rinv r g 0 0 w := ⟨fun _ => 0, fun s hs0 => ⟨hw s hs0, Nat.zero_le _, fun h => by omega, fun h => by omega⟩⟩
  have hr : ∀ j w, Rinv r g j 0 w → Rinv r g (j + 1) 0 (Rrd r w) := by
    intro j w h
    have h1 := yfo_I (f := fun s w => upd w s (r (16 + s) + Rmx r w s)) (I := fun i w => Rinv r g j i w) (stps r) 0 w (fun m b _ h2 h3 => Rinv_step ok hg0 hg (by omega) h3) h
    obtain ⟨x, hx⟩ := h1
    exact ⟨x, fun s hs0 => ⟨(hx s hs0).1, (hx s hs0).2.1, fun h2 => (hx s hs0).2.2.2 (by omega) h2, fun h2 => by omega⟩⟩
  have h2 := yfo_I (f := fun _ w => Rrd r w) (I := fun j w => Rinv r g j 0 w) (stps r) 0 w (fun m b _ _ h3 => hr m b h3) h0
  obtain ⟨x, hx⟩ := h2
  intro s hs0
  obtain ⟨q1, _, q3, _⟩ := hx s hs0
  have := q3 (by have := hg0 s hs0; omega)
  rw [this] at q1
  exact q1
-- the class's rounds
def imx (a b : Int32) : Int32 := if a < b then b else a
def Clw (r : yRow) (s : Nat) (w : yRow) : yRow := yfo (fun o w => if nd r s o then upd w o (imx (w o) (r (16 + o) + w s)) else w) 0 (stps r) w
def Crd (r : yRow) (w : yRow) : yRow := yfo (fun s w => Clw r s w) 0 (stps r) w
def Cwy (r : yRow) (w : yRow) : yRow := yfo (fun _ w => Crd r w) 1 (stps r - 1) w
/-- within a round: each way at least its minutes, none too long, those up to height j right, those of height j + 1 long enough for the needers done -/
def Cinv (r : yRow) (g : Nat → Nat) (j i k : Nat) (w : yRow) : Prop := ∃ x : Nat → Nat, ∀ s, s < stps r → w s = Int32.ofNat (x s) ∧ mN r s ≤ x s ∧ x s ≤ Wf r s ∧ (g s ≤ j → x s = Wf r s) ∧ (g s ≤ j + 1 → ∀ t, t < stps r → (t < i ∨ (t = i ∧ s < k)) → nd r t s → mN r s + Wf r t ≤ x s)
theorem imx_ofN {a b : Nat} (ha : a < 2147483648) (hb : b < 2147483648) : imx (Int32.ofNat a) (Int32.ofNat b) = Int32.ofNat (max a b) := by
  unfold imx
  have hl := ofN_lt ha hb
  by_cases h : a < b
  · rw [if_pos (hl.mpr h), Nat.max_eq_right (by omega)]
  · rw [if_neg (fun z => h (hl.mp z)), Nat.max_eq_left (by omega)]
theorem Cinv_step (ok : rok r) {g : Nat → Nat} (hg0 : ∀ s, s < stps r → g s < stps r) (hg : ∀ t s, t < stps r → s < stps r → nd r t s → g t < g s) {j i k : Nat} {w : yRow} (hi : i < stps r) (hk : k < stps r) (h : Cinv r g j i k w) : Cinv r g j i (k + 1) (if nd r i k then upd w k (imx (w k) (r (16 + k) + w i)) else w) := by
  obtain ⟨x, hx⟩ := h
  by_cases hn : nd r i k
  · rw [if_pos hn]
    have hgk := hg i k hi hk hn
    have hm := mN_le ok hk
    obtain ⟨a1, a2, a3, a4, a5⟩ := hx k hk
    obtain ⟨b1, b2, b3, b4, b5⟩ := hx i hi
    have hWk := Wf_le ok hk
    have hWi := Wf_le ok hi
    have e := Wf_eq hg0 hg hk
    have hle : mN r k + Wf r i ≤ Wf r k := by
      have h1 : (if nd r i k then Wf r i else 0) ≤ mx (fun t => if nd r t k then Wf r t else 0) (stps r) := mx_ge (f := fun t => if nd r t k then Wf r t else 0) (stps r) hi
      have h2 : (if nd r i k then Wf r i else 0) = Wf r i := if_pos hn
      rw [h2] at h1
      omega
    have ev : imx (w k) (r (16 + k) + w i) = Int32.ofNat (max (x k) (mN r k + x i)) := by
      rw [a1, b1, hm.2.2, ofN_add, imx_ofN (by omega) (by omega)]
    refine ⟨fun s => if s = k then max (x k) (mN r k + x i) else x s, fun s hs0 => ?_⟩
    rw [upd_eq]
    by_cases h1 : s = k
    · subst h1
      rw [if_pos rfl, ev]
      show Int32.ofNat _ = Int32.ofNat (if s = s then _ else _) ∧ _ ≤ (if s = s then _ else _) ∧ (if s = s then _ else _) ≤ _ ∧ (_ → (if s = s then _ else _) = _) ∧ (_ → ∀ t, _ → _ → _ → _ ≤ (if s = s then _ else _))
      rw [if_pos rfl]
      refine ⟨rfl, by omega, by omega, fun h2 => ?_, fun h2 t ht h3 h4 => ?_⟩
      · have := a4 h2; omega
      · rcases h3 with h3 | ⟨h3, _⟩
        · have := a5 h2 t ht (Or.inl h3) h4; omega
        · subst h3
          have := b4 (by omega); omega
    · rw [if_neg h1]
      show _ = Int32.ofNat (if s = k then _ else _) ∧ _ ≤ (if s = k then _ else _) ∧ (if s = k then _ else _) ≤ _ ∧ (_ → (if s = k then _ else _) = _) ∧ (_ → ∀ t, _ → _ → _ → _ ≤ (if s = k then _ else _))
      rw [if_neg h1]
      obtain ⟨q1, q2, q3, q4, q5⟩ := hx s hs0
      exact ⟨q1, q2, q3, q4, fun h2 t ht h3 h4 => q5 h2 t ht (by omega) h4⟩
  · rw [if_neg hn]
    refine ⟨x, fun s hs0 => ?_⟩
    obtain ⟨q1, q2, q3, q4, q5⟩ := hx s hs0
    refine ⟨q1, q2, q3, q4, fun h2 t ht h3 h4 => ?_⟩
    rcases h3 with h3 | ⟨h3, h5⟩
    · exact q5 h2 t ht (Or.inl h3) h4
    · by_cases e : s = k
      · subst e; subst h3; exact absurd h4 hn
      · exact q5 h2 t ht (Or.inr ⟨h3, by omega⟩) h4
theorem Cwy_ok (ok : rok r) (ha : acy r) {w : yRow} (hw : ∀ s, s < stps r → w s = r (16 + s)) : ∀ s, s < stps r → Cwy r w s = Int32.ofNat (Wf r s) := by
  obtain ⟨g, hg0, hg⟩ := acy_h ha
  have hWm : ∀ s, s < stps r → mN r s ≤ Wf r s := fun s hs0 => by rw [Wf_eq hg0 hg hs0]; omega
  have h0 : Cinv r g 0 0 0 w := by
    refine ⟨fun s => mN r s, fun s hs0 => ⟨(hw s hs0).trans (mN_le ok hs0).2.2, Nat.le_refl _, hWm s hs0, fun h => ?_, fun _ t ht h2 => by omega⟩⟩
    show mN r s = Wf r s
    rw [Wf_eq hg0 hg hs0]
    have : mx (fun t => if nd r t s then Wf r t else 0) (stps r) ≤ 0 := mx_le _ (fun t ht => by
      show (if nd r t s then Wf r t else 0) ≤ 0
      by_cases hn : nd r t s
      · have := hg t s ht hs0 hn; omega
      · rw [if_neg hn]; omega)
    omega
  have hs1 : ∀ j i w, i < stps r → Cinv r g j i 0 w → Cinv r g j (i + 1) 0 (Clw r i w) := by
    intro j i w hi h
    have h1 := yfo_I (f := fun o w => if nd r i o then upd w o (imx (w o) (r (16 + o) + w i)) else w) (I := fun k w => Cinv r g j i k w) (stps r) 0 w (fun m b _ h2 h3 => Cinv_step ok hg0 hg hi (by omega) h3) h
    obtain ⟨x, hx⟩ := h1
    refine ⟨x, fun s hs0 => ?_⟩
    obtain ⟨q1, q2, q3, q4, q5⟩ := hx s hs0
    exact ⟨q1, q2, q3, q4, fun h2 t ht h3 h4 => q5 h2 t ht (by omega) h4⟩
  have hr : ∀ j w, Cinv r g j 0 0 w → Cinv r g (j + 1) 0 0 (Crd r w) := by
    intro j w h
    have h1 := yfo_I (f := fun s w => Clw r s w) (I := fun i w => Cinv r g j i 0 w) (stps r) 0 w (fun m b _ h2 h3 => hs1 j m b (by omega) h3) h
    obtain ⟨x, hx⟩ := h1
    refine ⟨x, fun s hs0 => ?_⟩
    obtain ⟨q1, q2, q3, q4, q5⟩ := hx s hs0
    refine ⟨q1, q2, q3, fun h2 => ?_, fun _ t ht h3 => by omega⟩
    have e := Wf_eq hg0 hg hs0
    rcases mx_at (f := fun t => if nd r t s then Wf r t else 0) (stps r) with h3 | ⟨t, ht, h3⟩
    · omega
    · have h4 : mx (fun t => if nd r t s then Wf r t else 0) (stps r) = if nd r t s then Wf r t else 0 := h3
      by_cases hn : nd r t s
      · have h5 := q5 h2 t ht (Or.inl (by omega)) hn
        rw [if_pos hn] at h4
        omega
      · rw [if_neg hn] at h4
        omega
  have h2 := yfo_I (f := fun _ w => Crd r w) (I := fun j w => Cinv r g (j - 1) 0 0 w) (stps r - 1) 1 w (fun m b h3 _ h4 => by
    have := hr (m - 1) b h4
    rw [show m + 1 - 1 = m - 1 + 1 by omega]
    exact this) h0
  obtain ⟨x, hx⟩ := h2
  intro s hs0
  obtain ⟨q1, _, _, q4, _⟩ := hx s hs0
  have := q4 (by have := hg0 s hs0; omega)
  rw [this] at q1
  exact q1
end WAY
