/-! the plan, run: begin, end, order, how many have begun -/
abbrev yPl : Type := yRow × yRow × yRow × Nat
def bg (r : yRow) (m : Int32) (s : Nat) (st : yPl) : yPl := (upd st.1 s m, upd st.2.1 s (m + r (16 + s)), upd st.2.2.1 st.2.2.2 (Int32.ofNat s), st.2.2.2 + 1)
def Sin (r : yRow) (m : Int32) : Nat → yPl → yPl
  | 0, st => st
  | f + 1, st => if Snx r st.1 st.2.1 m = -1 then st else Sin r m f (bg r m (yx (Snx r st.1 st.2.1 m)) st)
def Sou (r : yRow) : Nat → Int32 → yPl → yPl
  | 0, _, st => st
  | f + 1, m, st => if Slt r (Sin r m (stps r) st).1 (Sin r m (stps r) st).2.1 m = -1 then Sin r m (stps r) st else Sou r f (Slt r (Sin r m (stps r) st).1 (Sin r m (stps r) st).2.1 m) (Sin r m (stps r) st)
def st0 : yPl := (fun _ => -1, fun _ => -1, fun _ => 0, 0)
def Spl (r : yRow) : yPl := Sou r 29 0 st0
theorem cnt_flip (P Q : Nat → Prop) [DecidablePred P] [DecidablePred Q] {t : Nat} (hp : ¬ P t) (hq : Q t) : ∀ n, t < n → (∀ m, m < n → m ≠ t → (P m ↔ Q m)) → cnt Q n = cnt P n + 1 := by
  intro n
  induction n with
  | zero => intro h; omega
  | succ n ih =>
    intro ht h
    show cnt Q n + (if Q n then 1 else 0) = cnt P n + (if P n then 1 else 0) + 1
    by_cases e : t = n
    · subst e
      have h1 := cnt_congr P Q t (fun m hm => h m (by omega) (by omega))
      rw [if_neg hp, if_pos hq]
      omega
    · have h1 := ih (by omega) (fun m hm => h m (by omega))
      by_cases hp2 : P n
      · rw [if_pos hp2, if_pos ((h n (by omega) (fun z => e z.symm)).mp hp2)]
        omega
      · rw [if_neg hp2, if_neg (fun z => hp2 ((h n (by omega) (fun z => e z.symm)).mpr z))]
        omega
def Pin (r : yRow) (m : Int32) (j : Nat) (st : yPl) : Prop :=
  (∀ s, s < stps r → (st.1 s = -1 ∧ st.2.1 s = -1) ∨ (0 ≤ st.1 s ∧ st.1 s ≤ m ∧ st.2.1 s = st.1 s + r (16 + s))) ∧ (∀ q, q < st.2.2.2 → ∃ s, s < stps r ∧ st.2.2.1 q = Int32.ofNat s ∧ ¬ st.1 s = -1) ∧ (∀ P : Nat → Bool, cnt (fun q => P (yx (st.2.2.1 q)) = true) st.2.2.2 = cnt (fun s => ¬ st.1 s = -1 ∧ P s = true) (stps r)) ∧ Sbz r st.1 st.2.1 m ≤ yx (r 93) ∧ 0 ≤ m ∧ m ≤ Int32.ofNat (170 * j)
theorem ofN_bd {n : Nat} {v : Int32} {N : Nat} (hv : Int32.ofNat N = v) (hN : N < 2147483648) (h : n ≤ N) : 0 ≤ Int32.ofNat n ∧ Int32.ofNat n ≤ v := by
  subst hv
  constructor
  · rw [i32_le, ofN_toInt (by omega)]
    have e0 : (0 : Int32).toInt = 0 := rfl
    omega
  · exact (ofN_leI (by omega) hN).mpr h
section PLI
variable {r : yRow}
theorem Pin_k {m : Int32} {j : Nat} {st : yPl} (h : Pin r m j st) : st.2.2.2 = cnt (fun s => ¬ st.1 s = -1) (stps r) := by
  have h1 := h.2.2.1 (fun _ => true)
  have h2 : ∀ k, cnt (fun q => (fun _ => true : Nat → Bool) (yx (st.2.2.1 q)) = true) k = k := by
    intro k
    induction k with
    | zero => rfl
    | succ k ih =>
      show cnt _ k + (if (fun _ => true : Nat → Bool) (yx (st.2.2.1 k)) = true then 1 else 0) = k + 1
      rw [ih, if_pos rfl]
  rw [h2] at h1
  rw [h1]
  exact cnt_congr _ _ _ (fun m _ => ⟨fun z => z.1, fun z => ⟨z, rfl⟩⟩)
theorem Pin_kle {m : Int32} {j : Nat} {st : yPl} (h : Pin r m j st) : st.2.2.2 ≤ stps r := by
  rw [Pin_k h]
  exact cnt_le _ _
theorem Pin_st0 : Pin r 0 0 st0 := by
  refine ⟨fun s _ => Or.inl ⟨rfl, rfl⟩, fun q h => absurd h (Nat.not_lt_zero q), fun P => ?_, ?_, by decide, by decide⟩
  · show 0 = cnt (fun s => ¬ (-1 : Int32) = -1 ∧ P s = true) (stps r)
    exact ((cnt_0 _ _).mpr (fun m _ z => z.1 rfl)).symm
  · have : Sbz r st0.1 st0.2.1 0 = 0 := (cnt_0 _ _).mpr (fun m _ z => z.2.1 rfl)
    omega
theorem Snx_can {b e : yRow} {m : Int32} : Snx r b e m = -1 ∨ ∃ s, s < stps r ∧ Snx r b e m = Int32.ofNat s ∧ Scan r b e s m := by
  have := yfo_I (f := Snxf r b e m) (I := fun _ a => a = -1 ∨ ∃ s, s < stps r ∧ a = Int32.ofNat s ∧ Scan r b e s m) (stps r) 0 (-1) (fun s a _ h2 h3 => by
    show Snxf r b e m s a = -1 ∨ _
    unfold Snxf
    split
    · next h4 => exact Or.inr ⟨s, by omega, rfl, h4.1⟩
    · exact h3) (Or.inl rfl)
  exact this
theorem Pin_bg (ok : rok r) {m : Int32} {j : Nat} {st : yPl} (h : Pin r m j st) {s : Nat} (hs0 : s < stps r) (hc : Scan r st.1 st.2.1 s m) (hj : j ≤ 29) : Pin r m j (bg r m s st) := by
  have h14 := (roks ok).1
  have hk := Pin_kle h
  obtain ⟨h1, h2, h3, h4, h5, h6⟩ := h
  obtain ⟨b, e, o, k⟩ := st
  have hJ := ofN_bd (n := 170 * j) (v := 4930) (N := 4930) rfl (by omega) (by omega)
  have hm : ¬ m = -1 := by grind
  have hmin := (rokst ok hs0).1
  refine ⟨fun t ht => ?_, fun q hq => ?_, fun P => ?_, ?_, h5, h6⟩
  · show (upd b s m t = -1 ∧ upd e s (m + r (16 + s)) t = -1) ∨ (0 ≤ upd b s m t ∧ upd b s m t ≤ m ∧ upd e s (m + r (16 + s)) t = upd b s m t + r (16 + t))
    rw [upd_eq, upd_eq]
    by_cases ht2 : t = s
    · subst ht2
      rw [if_pos rfl, if_pos rfl]
      exact Or.inr ⟨h5, by grind, rfl⟩
    · rw [if_neg ht2, if_neg ht2]
      exact h1 t ht
  · show ∃ t, t < stps r ∧ upd o k (Int32.ofNat s) q = Int32.ofNat t ∧ ¬ upd b s m t = -1
    rw [upd_eq]
    by_cases hq2 : q = k
    · rw [if_pos hq2]
      exact ⟨s, hs0, rfl, by rw [upd_eq, if_pos rfl]; exact hm⟩
    · rw [if_neg hq2]
      have hq : q < k + 1 := hq
      obtain ⟨t, q1, q2, q3⟩ := h2 q (show q < k by omega)
      refine ⟨t, q1, q2, ?_⟩
      rw [upd_eq]
      split
      · exact hm
      · exact q3
  · show cnt (fun q => P (yx (upd o k (Int32.ofNat s) q)) = true) k + (if P (yx (upd o k (Int32.ofNat s) k)) = true then 1 else 0) = cnt (fun t => ¬ upd b s m t = -1 ∧ P t = true) (stps r)
    have e1 : upd o k (Int32.ofNat s) k = Int32.ofNat s := by rw [upd_eq, if_pos rfl]
    have e2 : cnt (fun q => P (yx (upd o k (Int32.ofNat s) q)) = true) k = cnt (fun q => P (yx (o q)) = true) k := cnt_congr _ _ _ (fun q hq => by rw [upd_eq, if_neg (by omega)])
    rw [e1, yx_ofN (by omega), e2]
    have e3 : cnt (fun q => P (yx (o q)) = true) k = cnt (fun t => ¬ b t = -1 ∧ P t = true) (stps r) := h3 P
    rw [e3]
    by_cases hP : P s = true
    · rw [if_pos hP]
      have hx : ¬ upd b s m s = -1 := by rw [upd_eq, if_pos rfl]; exact hm
      exact (cnt_flip (fun t => ¬ b t = -1 ∧ P t = true) (fun t => ¬ upd b s m t = -1 ∧ P t = true) (t := s) (fun z => z.1 hc.1) ⟨hx, hP⟩ (stps r) hs0 (fun t ht hne => by rw [upd_eq, if_neg hne])).symm
    · rw [if_neg hP]
      refine cnt_congr _ _ _ (fun t ht => ?_)
      rw [upd_eq]
      by_cases ht2 : t = s
      · subst ht2
        exact ⟨fun z => absurd z.2 hP, fun z => absurd z.2 hP⟩
      · rw [if_neg ht2]
  · show Sbz r (upd b s m) (upd e s (m + r (16 + s))) m ≤ yx (r 93)
    have h4 : Sbz r b e m ≤ yx (r 93) := h4
    have hb := Sbz r b e m
    by_cases hh : r (44 + s) = 0
    · have e1 : Sbz r (upd b s m) (upd e s (m + r (16 + s))) m = Sbz r b e m := cnt_congr _ _ _ (fun t ht => by
        unfold on
        rw [upd_eq, upd_eq]
        by_cases ht2 : t = s
        · subst ht2
          exact ⟨fun z => absurd (z.1.symm.trans hh) (by decide), fun z => absurd (z.1.symm.trans hh) (by decide)⟩
        · rw [if_neg ht2, if_neg ht2])
      rw [e1]; exact h4
    · have hh1 : r (44 + s) = 1 := by
        have := (rokst ok hs0).2.2.1
        grind
      have hlt := hc.2.2.1.resolve_left hh
      have hle : Sbz r b e m ≤ stps r := cnt_le _ _
      have h93 := (rokse ok).2.2.2.1
      obtain ⟨g1, g2⟩ := bet_nat (x := r 93) (m := 3) ⟨by grind, h93.2⟩ (N := 3) rfl (by omega)
      have hlt : Int32.ofNat (Sbz r b e m) < r 93 := hlt
      rw [g2, ofN_lt (by omega) (by omega)] at hlt
      have e1 : Sbz r (upd b s m) (upd e s (m + r (16 + s))) m = Sbz r b e m + 1 := cnt_flip _ _ (t := s) (fun z => z.2.1 hc.1) ⟨hh1, by rw [upd_eq, if_pos rfl]; exact hm, by rw [upd_eq, if_pos rfl]; grind, by rw [upd_eq, if_pos rfl]; grind⟩ (stps r) hs0 (fun t ht hne => by
        unfold on
        rw [upd_eq, upd_eq, if_neg hne, if_neg hne])
      omega
theorem Pin_Sin (ok : rok r) {m : Int32} {j : Nat} (hj : j ≤ 29) : ∀ f st, Pin r m j st → Pin r m j (Sin r m f st) := by
  have h14 := (roks ok).1
  intro f
  induction f with
  | zero => intro st h; exact h
  | succ f ih =>
    intro st h
    show Pin r m j (if Snx r st.1 st.2.1 m = -1 then st else Sin r m f (bg r m (yx (Snx r st.1 st.2.1 m)) st))
    by_cases h1 : Snx r st.1 st.2.1 m = -1
    · rw [if_pos h1]; exact h
    · rw [if_neg h1]
      obtain ⟨s, h2, h3, h4⟩ := (Snx_can (r := r) (b := st.1) (e := st.2.1) (m := m)).resolve_left h1
      rw [h3, yx_ofN (by omega)]
      exact ih _ (Pin_bg ok h h2 h4 hj)
/-- once all that can begin has begun -/
theorem Sin_end (ok : rok r) {m : Int32} {j : Nat} (hj : j ≤ 29) : ∀ f st, Pin r m j st → stps r - st.2.2.2 ≤ f → Snx r (Sin r m f st).1 (Sin r m f st).2.1 m = -1 := by
  have h14 := (roks ok).1
  intro f
  induction f with
  | zero =>
    intro st h hk
    have h1 := Pin_k h
    have h2 := Pin_kle h
    apply Classical.byContradiction
    intro h3
    obtain ⟨s, h4, _, h5⟩ := (Snx_can (r := r) (b := st.1) (e := st.2.1) (m := m)).resolve_left h3
    have h6 := cnt_lt_n (fun s => ¬ st.1 s = -1) h4 (not_not_intro h5.1)
    omega
  | succ f ih =>
    intro st h hk
    show Snx r (if Snx r st.1 st.2.1 m = -1 then st else Sin r m f (bg r m (yx (Snx r st.1 st.2.1 m)) st)).1 (if Snx r st.1 st.2.1 m = -1 then st else Sin r m f (bg r m (yx (Snx r st.1 st.2.1 m)) st)).2.1 m = -1
    by_cases h1 : Snx r st.1 st.2.1 m = -1
    · rw [if_pos h1]; exact h1
    · rw [if_neg h1]
      obtain ⟨s, h2, h3, h4⟩ := (Snx_can (r := r) (b := st.1) (e := st.2.1) (m := m)).resolve_left h1
      rw [h3, yx_ofN (by omega)]
      exact ih _ (Pin_bg ok h h2 h4 hj) (by show stps r - (st.2.2.2 + 1) ≤ f; omega)
-- the next minute
def isN (r b e : yRow) (m v : Int32) (Q : Nat → Prop) : Prop := (v = -1 ∧ ∀ s, Q s → e s ≤ m ∧ e s + r 92 ≤ m) ∨ (m < v ∧ (∃ s, Q s ∧ (v = e s ∨ v = e s + r 92)) ∧ ∀ s, Q s → (m < e s → v ≤ e s) ∧ (m < e s + r 92 → v ≤ e s + r 92))
theorem isN_uniq {b e : yRow} {m v v' : Int32} {Q Q' : Nat → Prop} (hm : 0 ≤ m) (h : isN r b e m v Q) (h' : isN r b e m v' Q') (hQ : ∀ s, Q s ↔ Q' s) : v = v' := by
  rcases h with ⟨h1, h2⟩ | ⟨h1, ⟨s, h2, h3⟩, h4⟩
  · rcases h' with ⟨h1', h2'⟩ | ⟨h1', ⟨s', h2', h3'⟩, h4'⟩
    · rw [h1, h1']
    · have := h2 s' ((hQ s').mpr h2')
      exfalso
      grind
  · rcases h' with ⟨h1', h2'⟩ | ⟨h1', ⟨s', h2', h3'⟩, h4'⟩
    · have := h2' s ((hQ s).mp h2)
      exfalso
      grind
    · have k1 := h4' s ((hQ s).mp h2)
      have k2 := h4 s' ((hQ s').mpr h2')
      grind
theorem Pin_e (ok : rok r) {m : Int32} {j : Nat} {st : yPl} (h : Pin r m j st) (hj : j ≤ 29) {s : Nat} (hs0 : s < stps r) (hb : ¬ st.1 s = -1) : 1 ≤ st.2.1 s ∧ st.2.1 s ≤ m + 150 ∧ 0 ≤ r 92 ∧ r 92 ≤ 20 ∧ m ≤ 4930 ∧ 0 ≤ m ∧ st.1 s ≤ m ∧ 0 ≤ st.1 s := by
  have hJ := ofN_bd (n := 170 * j) (v := 4930) (N := 4930) rfl (by omega) (by omega)
  obtain ⟨h1, h2, h3, h4, h5, h6⟩ := h
  have hmin := (rokst ok hs0).1
  have h92 := (rokse ok).2.2.1
  rcases h1 s hs0 with h7 | h7
  · exact absurd h7.1 hb
  · grind
theorem Slt_isN (ok : rok r) {m : Int32} {j : Nat} {st : yPl} (h : Pin r m j st) (hj : j ≤ 29) : isN r st.1 st.2.1 m (Slt r st.1 st.2.1 m) (fun s => s < stps r ∧ ¬ st.1 s = -1) := by
  have hm0 : 0 ≤ m := h.2.2.2.2.1
  have := yfo_I (f := Sltf r st.1 st.2.1 m) (I := fun i a => isN r st.1 st.2.1 m a (fun s => s < i ∧ ¬ st.1 s = -1)) (stps r) 0 (-1) (fun i a _ h2 h3 => by
    have hi : i < stps r := by omega
    show isN r st.1 st.2.1 m (Sltf r st.1 st.2.1 m i a) _
    unfold Sltf
    by_cases hb : st.1 i = -1
    · rw [if_pos hb]
      have hq : ∀ s, (s < i + 1 ∧ ¬ st.1 s = -1) → (s < i ∧ ¬ st.1 s = -1) := fun s ⟨z1, z2⟩ => ⟨by
        by_cases e : s = i
        · subst e; exact absurd hb z2
        · omega, z2⟩
      rcases h3 with ⟨k1, k2⟩ | ⟨k1, ⟨s, k2, k3⟩, k4⟩
      · exact Or.inl ⟨k1, fun s z => k2 s (hq s z)⟩
      · exact Or.inr ⟨k1, ⟨s, ⟨by omega, k2.2⟩, k3⟩, fun s z => k4 s (hq s z)⟩
    · rw [if_neg hb]
      obtain ⟨p1, p2, p3, p4, p5, p6, p7, p8⟩ := Pin_e ok h hj hi hb
      have hS : (Sth r (st.2.1 i) m = -1 ∧ st.2.1 i ≤ m ∧ st.2.1 i + r 92 ≤ m) ∨ (¬ Sth r (st.2.1 i) m = -1 ∧ m < Sth r (st.2.1 i) m ∧ (Sth r (st.2.1 i) m = st.2.1 i ∨ Sth r (st.2.1 i) m = st.2.1 i + r 92) ∧ (m < st.2.1 i → Sth r (st.2.1 i) m ≤ st.2.1 i) ∧ (m < st.2.1 i + r 92 → Sth r (st.2.1 i) m ≤ st.2.1 i + r 92)) := by
        unfold Sth
        by_cases q1 : st.2.1 i ≤ m
        · by_cases q2 : st.2.1 i + r 92 ≤ m
          · rw [if_pos q1, if_pos q2]
            exact Or.inl ⟨rfl, q1, q2⟩
          · rw [if_pos q1, if_neg q2]
            right
            refine ⟨by grind, by grind, Or.inr rfl, by grind, by grind⟩
        · rw [if_neg q1]
          right
          refine ⟨by grind, by grind, Or.inl rfl, by grind, by grind⟩
      have hq : ∀ s, (s < i + 1 ∧ ¬ st.1 s = -1) → s = i ∨ (s < i ∧ ¬ st.1 s = -1) := fun s ⟨z1, z2⟩ => by
        by_cases e : s = i
        · exact Or.inl e
        · exact Or.inr ⟨by omega, z2⟩
      generalize Sth r (st.2.1 i) m = T at hS ⊢
      rcases hS with ⟨t1, t2, t3⟩ | ⟨t1, t2, t3, t4, t5⟩
      · rw [if_pos t1]
        rcases h3 with ⟨k1, k2⟩ | ⟨k1, ⟨s, k2, k3⟩, k4⟩
        · refine Or.inl ⟨k1, fun s z => ?_⟩
          rcases hq s z with z | z
          · subst z; exact ⟨t2, t3⟩
          · exact k2 s z
        · refine Or.inr ⟨k1, ⟨s, ⟨by omega, k2.2⟩, k3⟩, fun s z => ?_⟩
          rcases hq s z with z | z
          · subst z; exact ⟨fun z => by grind, fun z => by grind⟩
          · exact k4 s z
      · rw [if_neg t1]
        rcases h3 with ⟨k1, k2⟩ | ⟨k1, ⟨s, k2, k3⟩, k4⟩
        · rw [if_pos k1]
          refine Or.inr ⟨t2, ⟨i, ⟨by omega, hb⟩, t3⟩, fun s z => ?_⟩
          rcases hq s z with z | z
          · subst z; exact ⟨t4, t5⟩
          · have := k2 s z
            exact ⟨fun z => by grind, fun z => by grind⟩
        · have ka : ¬ a = -1 := by grind
          rw [if_neg ka]
          by_cases hlt : T < a
          · rw [if_pos hlt]
            refine Or.inr ⟨t2, ⟨i, ⟨by omega, hb⟩, t3⟩, fun s z => ?_⟩
            rcases hq s z with z | z
            · subst z; exact ⟨t4, t5⟩
            · have := k4 s z
              exact ⟨fun z => by grind, fun z => by grind⟩
          · rw [if_neg hlt]
            refine Or.inr ⟨k1, ⟨s, ⟨by omega, k2.2⟩, k3⟩, fun s z => ?_⟩
            rcases hq s z with z | z
            · subst z; exact ⟨fun z => by grind, fun z => by grind⟩
            · exact k4 s z) (Or.inl ⟨rfl, fun s z => by omega⟩)
  have e : (fun s => s < 0 + stps r ∧ ¬ st.1 s = -1) = (fun s => s < stps r ∧ ¬ st.1 s = -1) := by
    funext s
    rw [Nat.zero_add]
  rw [e] at this
  exact this
/-- the next minute keeps what holds -/
theorem Pin_next (ok : rok r) {m : Int32} {j : Nat} {st : yPl} (h : Pin r m j st) (hj : j ≤ 28) (hv : ¬ Slt r st.1 st.2.1 m = -1) : Pin r (Slt r st.1 st.2.1 m) (j + 1) st ∧ m < Slt r st.1 st.2.1 m := by
  have hN := Slt_isN ok h (show j ≤ 29 by omega)
  generalize Slt r st.1 st.2.1 m = v at hN hv ⊢
  rcases hN with ⟨k1, _⟩ | ⟨k1, ⟨s, k2, k3⟩, _⟩
  · exact absurd k1 hv
  · obtain ⟨p1, p2, p3, p4, p5, p6, p7, p8⟩ := Pin_e ok h (show j ≤ 29 by omega) k2.1 k2.2
    have hall := fun s (hs0 : s < stps r) (hb : ¬ st.1 s = -1) => Pin_e ok h (show j ≤ 29 by omega) hs0 hb
    obtain ⟨h1, h2, h3, h4, h5, h6⟩ := h
    have hJ := ofN_bd (n := 170 * j) (v := 4760) (N := 4760) rfl (by omega) (by omega)
    have e170 : Int32.ofNat (170 * (j + 1)) = Int32.ofNat (170 * j) + 170 := by
      rw [show 170 * (j + 1) = 170 * j + 170 by omega, Int32.ofNat_add]; rfl
    refine ⟨⟨fun t ht => ?_, h2, h3, ?_, by grind, ?_⟩, k1⟩
    · rcases h1 t ht with q | ⟨q1, q2, q3⟩
      · exact Or.inl q
      · exact Or.inr ⟨q1, by grind, q3⟩
    · refine Nat.le_trans (cnt_mono _ _ _ (fun t ht z => ?_)) h4
      obtain ⟨z1, z2, z3, z4⟩ := z
      have := hall t ht z2
      exact ⟨z1, z2, by grind, by grind⟩
    · rw [e170]
      rcases k3 with k3 | k3 <;> grind
/-- what is still to come: each step has two ends ahead -/
def Phi (r b e : yRow) (m : Int32) : Nat := 2 * cnt (fun s => b s = -1) (stps r) + cnt (fun s => ¬ b s = -1 ∧ m < e s) (stps r) + cnt (fun s => ¬ b s = -1 ∧ m < e s + r 92) (stps r)
theorem Phi_bg (ok : rok r) {m : Int32} {j : Nat} {st : yPl} (h : Pin r m j st) (hj : j ≤ 29) {s : Nat} (hs0 : s < stps r) (hb : st.1 s = -1) : Phi r (bg r m s st).1 (bg r m s st).2.1 m = Phi r st.1 st.2.1 m := by
  have hJ := ofN_bd (n := 170 * j) (v := 4930) (N := 4930) rfl (by omega) (by omega)
  have h5 := h.2.2.2.2.1
  have h6 := h.2.2.2.2.2
  have hmin := (rokst ok hs0).1
  have h92 := (rokse ok).2.2.1
  obtain ⟨b, e, o, k⟩ := st
  show Phi r (upd b s m) (upd e s (m + r (16 + s))) m = Phi r b e m
  have hb : b s = -1 := hb
  have hm : ¬ m = -1 := by grind
  unfold Phi
  have e1 : cnt (fun t => b t = -1) (stps r) = cnt (fun t => upd b s m t = -1) (stps r) + 1 := cnt_flip _ _ (t := s) (by rw [upd_eq, if_pos rfl]; exact hm) hb (stps r) hs0 (fun t _ hne => by rw [upd_eq, if_neg hne])
  have e2 : cnt (fun t => ¬ upd b s m t = -1 ∧ m < upd e s (m + r (16 + s)) t) (stps r) = cnt (fun t => ¬ b t = -1 ∧ m < e t) (stps r) + 1 := cnt_flip _ _ (t := s) (fun z => z.1 hb) ⟨by rw [upd_eq, if_pos rfl]; exact hm, by rw [upd_eq, if_pos rfl]; grind⟩ (stps r) hs0 (fun t _ hne => by rw [upd_eq, upd_eq, if_neg hne, if_neg hne])
  have e3 : cnt (fun t => ¬ upd b s m t = -1 ∧ m < upd e s (m + r (16 + s)) t + r 92) (stps r) = cnt (fun t => ¬ b t = -1 ∧ m < e t + r 92) (stps r) + 1 := cnt_flip _ _ (t := s) (fun z => z.1 hb) ⟨by rw [upd_eq, if_pos rfl]; exact hm, by rw [upd_eq, if_pos rfl]; grind⟩ (stps r) hs0 (fun t _ hne => by rw [upd_eq, upd_eq, if_neg hne, if_neg hne])
  omega
theorem Phi_Sin (ok : rok r) {m : Int32} {j : Nat} (hj : j ≤ 29) : ∀ f st, Pin r m j st → Phi r (Sin r m f st).1 (Sin r m f st).2.1 m = Phi r st.1 st.2.1 m := by
  have h14 := (roks ok).1
  intro f
  induction f with
  | zero => intro st h; rfl
  | succ f ih =>
    intro st h
    show Phi r (if Snx r st.1 st.2.1 m = -1 then st else Sin r m f (bg r m (yx (Snx r st.1 st.2.1 m)) st)).1 (if Snx r st.1 st.2.1 m = -1 then st else Sin r m f (bg r m (yx (Snx r st.1 st.2.1 m)) st)).2.1 m = _
    by_cases h1 : Snx r st.1 st.2.1 m = -1
    · rw [if_pos h1]
    · rw [if_neg h1]
      obtain ⟨s, h2, h3, h4⟩ := (Snx_can (r := r) (b := st.1) (e := st.2.1) (m := m)).resolve_left h1
      rw [h3, yx_ofN (by omega), ih _ (Pin_bg ok h h2 h4 hj), Phi_bg ok h hj h2 h4.1]
theorem Phi_next (ok : rok r) {m : Int32} {j : Nat} {st : yPl} (h : Pin r m j st) (hj : j ≤ 29) (hv : ¬ Slt r st.1 st.2.1 m = -1) : Phi r st.1 st.2.1 (Slt r st.1 st.2.1 m) < Phi r st.1 st.2.1 m := by
  have hN := Slt_isN ok h hj
  generalize Slt r st.1 st.2.1 m = v at hN hv ⊢
  rcases hN with ⟨k1, _⟩ | ⟨k1, ⟨s, k2, k3⟩, _⟩
  · exact absurd k1 hv
  · obtain ⟨p1, p2, p3, p4, p5, p6, p7, p8⟩ := Pin_e ok h hj k2.1 k2.2
    have hall := fun s (hs0 : s < stps r) (hb : ¬ st.1 s = -1) => Pin_e ok h hj hs0 hb
    unfold Phi
    have a1 := cnt_mono (fun t => ¬ st.1 t = -1 ∧ v < st.2.1 t) (fun t => ¬ st.1 t = -1 ∧ m < st.2.1 t) (stps r) (fun t ht z => ⟨z.1, by have := hall t ht z.1; grind⟩)
    have a2 := cnt_mono (fun t => ¬ st.1 t = -1 ∧ v < st.2.1 t + r 92) (fun t => ¬ st.1 t = -1 ∧ m < st.2.1 t + r 92) (stps r) (fun t ht z => ⟨z.1, by have := hall t ht z.1; grind⟩)
    rcases k3 with k3 | k3
    · have a3 := cnt_lt (fun t => ¬ st.1 t = -1 ∧ v < st.2.1 t) (fun t => ¬ st.1 t = -1 ∧ m < st.2.1 t) (t := s) ⟨k2.2, by grind⟩ (fun z => by have := z.2; grind) (stps r) k2.1 (fun t ht z => ⟨z.1, by have := hall t ht z.1; grind⟩)
      omega
    · have a3 := cnt_lt (fun t => ¬ st.1 t = -1 ∧ v < st.2.1 t + r 92) (fun t => ¬ st.1 t = -1 ∧ m < st.2.1 t + r 92) (t := s) ⟨k2.2, by grind⟩ (fun z => by have := z.2; grind) (stps r) k2.1 (fun t ht z => ⟨z.1, by have := hall t ht z.1; grind⟩)
      omega
theorem Phi_0 (ok : rok r) : Phi r st0.1 st0.2.1 0 ≤ 28 := by
  have h14 := (roks ok).1
  unfold Phi
  have a1 := cnt_le (fun s => st0.1 s = -1) (stps r)
  have a2 : cnt (fun s => ¬ st0.1 s = -1 ∧ 0 < st0.2.1 s) (stps r) = 0 := (cnt_0 _ _).mpr (fun m _ z => z.1 rfl)
  have a3 : cnt (fun s => ¬ st0.1 s = -1 ∧ 0 < st0.2.1 s + r 92) (stps r) = 0 := (cnt_0 _ _).mpr (fun m _ z => z.1 rfl)
  omega
theorem Pin_mono {m : Int32} {j j' : Nat} {st : yPl} (h : Pin r m j st) (hj : j ≤ j') (hj' : j' ≤ 29) : Pin r m j' st := by
  obtain ⟨h1, h2, h3, h4, h5, h6⟩ := h
  have : Int32.ofNat (170 * j) ≤ Int32.ofNat (170 * j') := (ofN_leI (by omega) (by omega)).mpr (by omega)
  exact ⟨h1, h2, h3, h4, h5, by grind⟩
theorem Pin_Sou (ok : rok r) : ∀ f m j st, f + j ≤ 29 → Pin r m j st → ∃ m', Pin r m' 29 (Sou r f m st) := by
  intro f
  induction f with
  | zero => intro m j st hj h; exact ⟨m, Pin_mono h (by omega) (Nat.le_refl _)⟩
  | succ f ih =>
    intro m j st hj h
    have h1 := Pin_Sin ok (show j ≤ 29 by omega) (stps r) st h
    show ∃ m', Pin r m' 29 (if Slt r (Sin r m (stps r) st).1 (Sin r m (stps r) st).2.1 m = -1 then Sin r m (stps r) st else Sou r f (Slt r (Sin r m (stps r) st).1 (Sin r m (stps r) st).2.1 m) (Sin r m (stps r) st))
    by_cases hv : Slt r (Sin r m (stps r) st).1 (Sin r m (stps r) st).2.1 m = -1
    · rw [if_pos hv]; exact ⟨m, Pin_mono h1 (by omega) (Nat.le_refl _)⟩
    · rw [if_neg hv]
      exact ih _ (j + 1) _ (by omega) (Pin_next ok h1 (by omega) hv).1
theorem Pin_Spl (ok : rok r) : ∃ m', Pin r m' 29 (Spl r) := Pin_Sou ok 29 0 0 st0 (Nat.le_refl _) Pin_st0
end PLI
