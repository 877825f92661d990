/-! what holds all along a plan, and at its end -/
section INV
variable {r : yRow}
theorem Sin_ind (ok : rok r) {J : Int32 → yPl → Prop} (hb : ∀ m j st s, j ≤ 29 → Pin r m j st → s < stps r → Scan r st.1 st.2.1 s m → J m st → J m (bg r m s st)) {m : Int32} {j : Nat} (hj : j ≤ 29) : ∀ f st, Pin r m j st → J m st → J m (Sin r m f st) := by
  have h14 := (roks ok).1
  intro f
  induction f with
  | zero => intro st _ h; exact h
  | succ f ih =>
    intro st h hJ
    show J m (if Snx r st.1 st.2.1 m = -1 then st else Sin r m f (bg r m (yx (Snx r st.1 st.2.1 m)) st))
    by_cases h1 : Snx r st.1 st.2.1 m = -1
    · rw [if_pos h1]; exact hJ
    · rw [if_neg h1]
      obtain ⟨s, h2, h3, h4⟩ := (Snx_can (r := r) (b := st.1) (e := st.2.1) (m := m)).resolve_left h1
      rw [h3, yx_ofN (by omega)]
      exact ih _ (Pin_bg ok h h2 h4 hj) (hb m j st s hj h h2 h4 hJ)
theorem Spl_ind (ok : rok r) {J : Int32 → yPl → Prop} (h0 : J 0 st0) (hb : ∀ m j st s, j ≤ 29 → Pin r m j st → s < stps r → Scan r st.1 st.2.1 s m → J m st → J m (bg r m s st))
    (hn : ∀ m j st v, j ≤ 28 → Pin r m j st → Pin r v (j + 1) st → m < v → (∃ s, s < stps r ∧ ¬ st.1 s = -1 ∧ (v = st.2.1 s ∨ v = st.2.1 s + r 92)) → J m st → J v st) :
    ∃ m, Pin r m 29 (Spl r) ∧ J m (Spl r) ∧ Snx r (Spl r).1 (Spl r).2.1 m = -1 ∧ Slt r (Spl r).1 (Spl r).2.1 m = -1 := by
  have key : ∀ f m j st, f + j ≤ 29 → Phi r st.1 st.2.1 m + 1 ≤ f → Pin r m j st → J m st → ∃ m', Pin r m' 29 (Sou r f m st) ∧ J m' (Sou r f m st) ∧ Snx r (Sou r f m st).1 (Sou r f m st).2.1 m' = -1 ∧ Slt r (Sou r f m st).1 (Sou r f m st).2.1 m' = -1 := by
    intro f
    induction f with
    | zero => intro m j st _ h2; omega
    | succ f ih =>
      intro m j st hj hp h hJ
      have h1 := Pin_Sin ok (show j ≤ 29 by omega) (stps r) st h
      have h2 := Sin_ind ok hb (show j ≤ 29 by omega) (stps r) st h hJ
      have h3 := Sin_end ok (show j ≤ 29 by omega) (stps r) st h (Nat.sub_le _ _)
      have h4 := Phi_Sin ok (show j ≤ 29 by omega) (stps r) st h
      show ∃ m', Pin r m' 29 (if Slt r (Sin r m (stps r) st).1 (Sin r m (stps r) st).2.1 m = -1 then Sin r m (stps r) st else Sou r f (Slt r (Sin r m (stps r) st).1 (Sin r m (stps r) st).2.1 m) (Sin r m (stps r) st)) ∧ J m' (if Slt r (Sin r m (stps r) st).1 (Sin r m (stps r) st).2.1 m = -1 then Sin r m (stps r) st else Sou r f (Slt r (Sin r m (stps r) st).1 (Sin r m (stps r) st).2.1 m) (Sin r m (stps r) st)) ∧ Snx r (if Slt r (Sin r m (stps r) st).1 (Sin r m (stps r) st).2.1 m = -1 then Sin r m (stps r) st else Sou r f (Slt r (Sin r m (stps r) st).1 (Sin r m (stps r) st).2.1 m) (Sin r m (stps r) st)).1 (if Slt r (Sin r m (stps r) st).1 (Sin r m (stps r) st).2.1 m = -1 then Sin r m (stps r) st else Sou r f (Slt r (Sin r m (stps r) st).1 (Sin r m (stps r) st).2.1 m) (Sin r m (stps r) st)).2.1 m' = -1 ∧ Slt r (if Slt r (Sin r m (stps r) st).1 (Sin r m (stps r) st).2.1 m = -1 then Sin r m (stps r) st else Sou r f (Slt r (Sin r m (stps r) st).1 (Sin r m (stps r) st).2.1 m) (Sin r m (stps r) st)).1 (if Slt r (Sin r m (stps r) st).1 (Sin r m (stps r) st).2.1 m = -1 then Sin r m (stps r) st else Sou r f (Slt r (Sin r m (stps r) st).1 (Sin r m (stps r) st).2.1 m) (Sin r m (stps r) st)).2.1 m' = -1
      by_cases hv : Slt r (Sin r m (stps r) st).1 (Sin r m (stps r) st).2.1 m = -1
      · rw [if_pos hv]
        exact ⟨m, Pin_mono h1 (by omega) (Nat.le_refl _), h2, h3, hv⟩
      · rw [if_neg hv]
        have h5 := Phi_next ok h1 (by omega) hv
        have h6 : Phi r (Sin r m (stps r) st).1 (Sin r m (stps r) st).2.1 m = Phi r st.1 st.2.1 m := h4
        obtain ⟨h7, h8⟩ := Pin_next ok h1 (by omega) hv
        have h9 := (Slt_isN ok h1 (by omega)).resolve_left (fun z => hv z.1)
        obtain ⟨s, ⟨g1, g2⟩, g3⟩ := h9.2.1
        exact ih _ (j + 1) _ (by omega) (by omega) h7 (hn m j _ _ (by omega) h1 h7 h8 ⟨s, g1, g2, g3⟩ h2)
  exact key 29 0 0 st0 (Nat.le_refl _) (by have := Phi_0 ok; omega) Pin_st0 h0
theorem cnt_le1 (P Q : Nat → Prop) [DecidablePred P] [DecidablePred Q] {t : Nat} : ∀ n, (∀ m, m < n → m ≠ t → Q m → P m) → cnt Q n ≤ cnt P n + 1 := by
  intro n
  induction n with
  | zero => intro _; exact Nat.zero_le _
  | succ n ih =>
    intro h
    show cnt Q n + (if Q n then 1 else 0) ≤ cnt P n + (if P n then 1 else 0) + 1
    by_cases e : n = t
    · have h1 := cnt_mono Q P n (fun m hm hq => h m (by omega) (by omega) hq)
      split <;> split <;> omega
    · have h1 := ih (fun m hm => h m (by omega))
      by_cases hq : Q n
      · rw [if_pos hq, if_pos (h n (by omega) e hq)]; omega
      · rw [if_neg hq]; split <;> omega
/-- how many of a kind are taken in minute x -/
def OC (r : yRow) (P : Nat → Bool) (c : Int32) (st : yPl) (x : Int32) : Nat := cnt (fun s => P s = true ∧ ¬ st.1 s = -1 ∧ st.1 s ≤ x ∧ x < st.2.1 s + c) (stps r)
def OJ (r : yRow) (P : Nat → Bool) (c : Int32) (K : Nat) (m : Int32) (st : yPl) : Prop := OC r P c st m ≤ K ∧ ∀ s, s < stps r → ¬ st.1 s = -1 → OC r P c st (st.1 s) ≤ K
theorem OJ_0 {P : Nat → Bool} {c : Int32} {K : Nat} : OJ r P c K 0 st0 := by
  refine ⟨?_, fun s _ h => absurd rfl h⟩
  have : OC r P c st0 0 = 0 := (cnt_0 _ _).mpr (fun m _ z => z.2.1 rfl)
  omega
theorem OJ_bg {P : Nat → Bool} {c : Int32} {K : Nat} {m : Int32} {j : Nat} {st : yPl} (h : Pin r m j st) {s : Nat} (hs0 : s < stps r) (hb : st.1 s = -1) (hg : P s = true → OC r P c st m < K) (hJ : OJ r P c K m st) : OJ r P c K m (bg r m s st) := by
  obtain ⟨b, e, o, k⟩ := st
  have key : OC r P c (bg r m s (b, e, o, k)) m ≤ K := by
    cases hP : P s with
    | true =>
      have h1 : OC r P c (bg r m s (b, e, o, k)) m ≤ OC r P c (b, e, o, k) m + 1 := cnt_le1 _ _ (t := s) (stps r) (fun t ht hne z => by
        have z : P t = true ∧ ¬ upd b s m t = -1 ∧ upd b s m t ≤ m ∧ m < upd e s (m + r (16 + s)) t + c := z
        rw [upd_eq, upd_eq, if_neg hne, if_neg hne] at z
        exact z)
      have := hg hP
      omega
    | false =>
      have h1 : OC r P c (bg r m s (b, e, o, k)) m ≤ OC r P c (b, e, o, k) m := cnt_mono _ _ (stps r) (fun t ht z => by
        have z : P t = true ∧ ¬ upd b s m t = -1 ∧ upd b s m t ≤ m ∧ m < upd e s (m + r (16 + s)) t + c := z
        have hne : t ≠ s := fun q => by rw [q, hP] at z; exact absurd z.1 (by decide)
        rw [upd_eq, upd_eq, if_neg hne, if_neg hne] at z
        exact z)
      have := hJ.1
      omega
  refine ⟨key, fun t ht hbt => ?_⟩
  have hbt : ¬ upd b s m t = -1 := hbt
  show OC r P c (bg r m s (b, e, o, k)) (upd b s m t) ≤ K
  rw [upd_eq] at hbt ⊢
  by_cases e1 : t = s
  · rw [if_pos e1]; exact key
  · rw [if_neg e1] at hbt ⊢
    by_cases e2 : b t = m
    · rw [e2]; exact key
    · have hle : b t ≤ m := by
        rcases h.1 t ht with h1 | h1
        · exact absurd h1.1 hbt
        · exact h1.2.1
      have hlt : ¬ m ≤ b t := fun z => e2 (by grind)
      have h1 : OC r P c (bg r m s (b, e, o, k)) (b t) ≤ OC r P c (b, e, o, k) (b t) := cnt_mono _ _ (stps r) (fun u hu z => by
        have z : P u = true ∧ ¬ upd b s m u = -1 ∧ upd b s m u ≤ b t ∧ b t < upd e s (m + r (16 + s)) u + c := z
        have hne : u ≠ s := fun q => by rw [q, upd_eq, if_pos rfl] at z; exact hlt z.2.2.1
        rw [upd_eq, upd_eq, if_neg hne, if_neg hne] at z
        exact z)
      have := hJ.2 t ht hbt
      exact Nat.le_trans h1 this
theorem OJ_nx {P : Nat → Bool} {c : Int32} {K : Nat} {m v : Int32} {j : Nat} {st : yPl} (h : Pin r m j st) (hv : m < v) (hJ : OJ r P c K m st) : OJ r P c K v st := by
  refine ⟨Nat.le_trans (cnt_mono _ _ (stps r) (fun u hu z => ?_)) hJ.1, hJ.2⟩
  have hle : st.1 u ≤ m := by
    rcases h.1 u hu with h1 | h1
    · exact absurd h1.1 z.2.1
    · exact h1.2.1
  exact ⟨z.1, z.2.1, hle, by have := z.2.2.2; grind⟩
theorem OC_end {P : Nat → Bool} {c : Int32} {K : Nat} (ok : rok r) (hg : ∀ m j st s, j ≤ 29 → Pin r m j st → s < stps r → Scan r st.1 st.2.1 s m → P s = true → OC r P c st m < K) : ∀ s, s < stps r → ¬ (Spl r).1 s = -1 → OC r P c (Spl r) ((Spl r).1 s) ≤ K := by
  obtain ⟨m, _, h, _⟩ := Spl_ind ok (J := OJ r P c K) OJ_0 (fun m j st s hj hP hs0 hc hJ => OJ_bg hP hs0 hc.1 (hg m j st s hj hP hs0 hc) hJ) (fun m j st v hj hP _ hv _ hJ => OJ_nx hP hv hJ)
  exact h.2
theorem Sbz_OC {st : yPl} {x : Int32} : Sbz r st.1 st.2.1 x = OC r (fun s => decide (r (44 + s) = 1)) 0 st x := cnt_congr _ _ _ (fun s _ => by
  rw [decide_eq_true_eq, x_0])
/-- nowhere more cooks than there are -/
theorem Sbz_end (ok : rok r) {s : Nat} (hs0 : s < stps r) (hb : ¬ (Spl r).1 s = -1) : Sbz r (Spl r).1 (Spl r).2.1 ((Spl r).1 s) ≤ yx (r 93) := by
  rw [Sbz_OC]
  refine OC_end ok (fun m j st s hj hP hs1 hc hp => ?_) s hs0 hb
  rw [← Sbz_OC]
  have h1 := hc.2.2.1.resolve_left (fun z => by rw [of_decide_eq_true hp] at z; exact absurd z (by decide))
  have hle : Sbz r st.1 st.2.1 m ≤ stps r := cnt_le _ _
  have h14 := (roks ok).1
  have h93 := (rokse ok).2.2.2.1
  obtain ⟨g1, g2⟩ := bet_nat (x := r 93) (m := 3) ⟨by grind, h93.2⟩ (N := 3) rfl (by omega)
  rw [g2, ofN_lt (by omega) (by omega)] at h1
  exact h1
theorem Suw_OC (ok : rok r) {m : Int32} {j : Nat} (hj : j ≤ 29) {st : yPl} (h : Pin r m j st) {kd x : Int32} : Siu r st.1 st.2.1 kd x + Swa r st.1 st.2.1 kd x = OC r (fun s => decide (r (30 + s) = kd)) (r 92) st x := by
  refine cnt_or _ _ _ _ (fun s hs0 => ?_)
  simp only [decide_eq_true_eq]
  by_cases hb : st.1 s = -1
  · exact ⟨⟨fun z => absurd hb z.2.1, fun z => z.elim (fun z => absurd hb z.2.1) (fun z => absurd hb z.2.1)⟩, fun z => absurd hb z.1.2.1⟩
  · obtain ⟨p1, p2, p3, p4, p5, p6, p7, p8⟩ := Pin_e ok h hj hs0 hb
    have p9 : st.2.1 s = st.1 s + r (16 + s) := by
      rcases h.1 s hs0 with h1 | h1
      · exact absurd h1.1 hb
      · exact h1.2.2
    have p10 := (rokst ok hs0).1
    have q1 : st.1 s ≤ st.2.1 s := by rw [p9]; grind
    refine ⟨⟨fun z => ?_, fun z => z.elim (fun z => ⟨z.1, z.2.1, z.2.2.1, ?_⟩) (fun z => ⟨z.1, z.2.1, ?_, z.2.2.2⟩)⟩, fun z => ?_⟩
    · by_cases hx : x < st.2.1 s
      · exact Or.inl ⟨z.1, z.2.1, z.2.2.1, hx⟩
      · exact Or.inr ⟨z.1, z.2.1, by grind, z.2.2.2⟩
    · have := z.2.2.2; grind
    · have := z.2.2.1; grind
    · have h1 := z.1.2.2.2
      have h2 := z.2.2.2.1
      grind
/-- nowhere more pieces than there are -/
theorem Suw_end (ok : rok r) {s : Nat} (hs0 : s < stps r) (hb : ¬ (Spl r).1 s = -1) {kd : Nat} (hk : kd < 4) : Siu r (Spl r).1 (Spl r).2.1 (Int32.ofNat kd) ((Spl r).1 s) + Swa r (Spl r).1 (Spl r).2.1 (Int32.ofNat kd) ((Spl r).1 s) ≤ yx (r (86 + kd)) := by
  obtain ⟨m', hP'⟩ := Pin_Spl ok
  rw [Suw_OC ok (Nat.le_refl _) hP']
  refine OC_end ok (fun m j st s hj hP hs1 hc hp => ?_) s hs0 hb
  have e1 : r (30 + s) = Int32.ofNat kd := of_decide_eq_true hp
  have h1 := hc.2.2.2.resolve_left (fun z => by rw [e1] at z; exact m1_ofN (by omega) z)
  have h14 := (roks ok).1
  rw [← Suw_OC ok hj hP]
  obtain ⟨g1, g2⟩ := bet_nat (rokp ok hk) (N := 4) rfl (by omega)
  rw [e1, yx_ofN (by omega), g2] at h1
  have hle : Siu r st.1 st.2.1 (Int32.ofNat kd) m + Swa r st.1 st.2.1 (Int32.ofNat kd) m ≤ stps r := by
    rw [Suw_OC ok hj hP]
    exact cnt_le _ _
  exact (ofN_lt (by omega) (by omega)).mp h1
/-- what a step needs is done as it begins -/
theorem need_end (ok : rok r) : ∀ s, s < stps r → ¬ (Spl r).1 s = -1 → ∀ t, t < stps r → nd r s t → ¬ (Spl r).1 t = -1 ∧ (Spl r).2.1 t ≤ (Spl r).1 s := by
  have hB : ∀ (m : Int32) (j : Nat) (st : yPl) (s : Nat), j ≤ 29 → Pin r m j st → s < stps r → Scan r st.1 st.2.1 s m → (∀ s, s < stps r → ¬ st.1 s = -1 → ∀ t, t < stps r → nd r s t → ¬ st.1 t = -1 ∧ st.2.1 t ≤ st.1 s) → (∀ u, u < stps r → ¬ (bg r m s st).1 u = -1 → ∀ t, t < stps r → nd r u t → ¬ (bg r m s st).1 t = -1 ∧ (bg r m s st).2.1 t ≤ (bg r m s st).1 u) := by
    intro m j st s hj hP hs0 hc hJ u hu hbu t ht hn
    obtain ⟨b, e, o, k⟩ := st
    have hbu : ¬ upd b s m u = -1 := hbu
    show ¬ upd b s m t = -1 ∧ upd e s (m + r (16 + s)) t ≤ upd b s m u
    rw [upd_eq] at hbu
    rw [upd_eq, upd_eq, upd_eq]
    have hd : ¬ b t = -1 ∧ e t ≤ (if u = s then m else b u) := by
      by_cases e1 : u = s
      · rw [if_pos e1]
        rw [e1] at hn
        exact hc.2.1 t ht hn
      · rw [if_neg e1] at hbu ⊢
        exact hJ u hu hbu t ht hn
    have hne : t ≠ s := fun z => hd.1 (by rw [z]; exact hc.1)
    rw [if_neg hne, if_neg hne]
    exact hd
  obtain ⟨m, _, h, _⟩ := Spl_ind ok (J := (fun _ st => ∀ s, s < stps r → ¬ st.1 s = -1 → ∀ t, t < stps r → nd r s t → ¬ st.1 t = -1 ∧ st.2.1 t ≤ st.1 s)) (fun s _ h => absurd rfl h) hB (fun m j st v hj hP _ hv _ hJ => hJ)
  exact h
/-- what begins has a piece -/
theorem piece_end (ok : rok r) : ∀ s, s < stps r → ¬ (Spl r).1 s = -1 → r (30 + s) = -1 ∨ 0 < r (86 + yx (r (30 + s))) := by
  have hB : ∀ (m : Int32) (j : Nat) (st : yPl) (s : Nat), j ≤ 29 → Pin r m j st → s < stps r → Scan r st.1 st.2.1 s m → (∀ s, s < stps r → ¬ st.1 s = -1 → r (30 + s) = -1 ∨ 0 < r (86 + yx (r (30 + s)))) → (∀ u, u < stps r → ¬ (bg r m s st).1 u = -1 → r (30 + u) = -1 ∨ 0 < r (86 + yx (r (30 + u)))) := by
    intro m j st s hj hP hs0 hc hJ u hu hbu
    obtain ⟨b, e, o, k⟩ := st
    have hbu : ¬ upd b s m u = -1 := hbu
    by_cases e1 : u = s
    · subst e1
      rcases hc.2.2.2 with h1 | h1
      · exact Or.inl h1
      · refine Or.inr ?_
        have h14 := (roks ok).1
        have hle : Siu r b e (r (30 + u)) m + Swa r b e (r (30 + u)) m ≤ stps r := by
          have := Suw_OC ok hj hP (kd := r (30 + u)) (x := m)
          have this : Siu r b e (r (30 + u)) m + Swa r b e (r (30 + u)) m = _ := this
          rw [this]
          exact cnt_le _ _
        have h0 : (0 : Int32) ≤ Int32.ofNat (Siu r b e (r (30 + u)) m + Swa r b e (r (30 + u)) m) := (ofN_bd (N := 14) rfl (by omega) (by omega)).1
        have h1 : Int32.ofNat (Siu r b e (r (30 + u)) m + Swa r b e (r (30 + u)) m) < r (86 + yx (r (30 + u))) := h1
        grind
    · rw [upd_eq, if_neg e1] at hbu
      exact hJ u hu hbu
  obtain ⟨m, _, h, _⟩ := Spl_ind ok (J := fun _ st => ∀ s, s < stps r → ¬ st.1 s = -1 → r (30 + s) = -1 ∨ 0 < r (86 + yx (r (30 + s)))) (fun s _ h => absurd rfl h) hB (fun m j st v hj hP _ hv _ hJ => hJ)
  exact h
end INV
