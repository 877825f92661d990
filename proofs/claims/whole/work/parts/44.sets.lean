/-! counts; sets of steps -/
theorem yfo_s {α : Type} {f : Nat → α → α} : ∀ d n (a : α), yfo f n (d + 1) a = f (n + d) (yfo f n d a) := by
  intro d
  induction d with
  | zero => intro n a; rfl
  | succ d ih =>
    intro n a
    show yfo f (n + 1) (d + 1) (f n a) = f (n + (d + 1)) (yfo f (n + 1) d (f n a))
    rw [ih]
    congr 1
    omega
def cnt (P : Nat → Prop) [DecidablePred P] : Nat → Nat
  | 0 => 0
  | n + 1 => cnt P n + if P n then 1 else 0
section CNT
theorem cnt_le (P : Nat → Prop) [DecidablePred P] : ∀ n, cnt P n ≤ n := by
  intro n
  induction n with
  | zero => exact Nat.le_refl _
  | succ n ih =>
    show cnt P n + (if P n then 1 else 0) ≤ n + 1
    split <;> omega
theorem cnt_congr (P Q : Nat → Prop) [DecidablePred P] [DecidablePred Q] : ∀ n, (∀ m, m < n → (P m ↔ Q m)) → cnt P n = cnt Q n := by
  intro n
  induction n with
  | zero => intro _; rfl
  | succ n ih =>
    intro h
    show cnt P n + (if P n then 1 else 0) = cnt Q n + (if Q n then 1 else 0)
    rw [ih (fun m hm => h m (by omega))]
    by_cases hp : P n
    · rw [if_pos hp, if_pos ((h n (by omega)).mp hp)]
    · rw [if_neg hp, if_neg (fun z => hp ((h n (by omega)).mpr z))]
theorem cnt_mono (P Q : Nat → Prop) [DecidablePred P] [DecidablePred Q] : ∀ n, (∀ m, m < n → P m → Q m) → cnt P n ≤ cnt Q n := by
  intro n
  induction n with
  | zero => intro _; exact Nat.le_refl _
  | succ n ih =>
    intro h
    show cnt P n + (if P n then 1 else 0) ≤ cnt Q n + (if Q n then 1 else 0)
    have h1 := ih (fun m hm => h m (by omega))
    by_cases hp : P n
    · rw [if_pos hp, if_pos (h n (by omega) hp)]
      omega
    · rw [if_neg hp]
      omega
theorem cnt_lt (P Q : Nat → Prop) [DecidablePred P] [DecidablePred Q] {t : Nat} (hq : Q t) (hp : ¬ P t) : ∀ n, t < n → (∀ m, m < n → P m → Q m) → cnt P n < cnt Q n := by
  intro n
  induction n with
  | zero => intro h; omega
  | succ n ih =>
    intro ht h
    show cnt P n + (if P n then 1 else 0) < cnt Q n + (if Q n then 1 else 0)
    by_cases e : t = n
    · subst e
      have h1 := cnt_mono P Q t (fun m hm => h m (by omega))
      rw [if_neg hp, if_pos hq]
      omega
    · have h1 := ih (by omega) (fun m hm => h m (by omega))
      by_cases hp2 : P n
      · rw [if_pos hp2, if_pos (h n (by omega) hp2)]
        omega
      · rw [if_neg hp2]
        omega
theorem cnt_lt_n (P : Nat → Prop) [DecidablePred P] {n t : Nat} (ht : t < n) (hp : ¬ P t) : cnt P n < n := by
  have h := cnt_lt P (fun _ => True) trivial hp n ht (fun _ _ _ => trivial)
  have := cnt_le (fun _ => True) n
  omega
theorem cnt_0 (P : Nat → Prop) [DecidablePred P] : ∀ n, cnt P n = 0 ↔ ∀ m, m < n → ¬ P m := by
  intro n
  induction n with
  | zero => exact ⟨fun _ m hm => by omega, fun _ => rfl⟩
  | succ n ih =>
    show cnt P n + (if P n then 1 else 0) = 0 ↔ _
    constructor
    · intro h m hm
      by_cases hp : P n
      · rw [if_pos hp] at h; omega
      · by_cases e : m = n
        · rw [e]; exact hp
        · exact ih.mp (by omega) m (by omega)
    · intro h
      rw [if_neg (h n (by omega)), ih.mpr (fun m hm => h m (by omega))]
theorem cnt_not (P : Nat → Prop) [DecidablePred P] : ∀ n, cnt P n + cnt (fun m => ¬ P m) n = n := by
  intro n
  induction n with
  | zero => rfl
  | succ n ih =>
    show cnt P n + (if P n then 1 else 0) + (cnt (fun m => ¬ P m) n + if ¬ P n then 1 else 0) = n + 1
    by_cases hp : P n
    · rw [if_pos hp, if_neg (not_not_intro hp)]; omega
    · rw [if_neg hp, if_pos hp]; omega
theorem yb_ofN (p : Prop) [Decidable p] (n : Nat) : Int32.ofNat n + yb p = Int32.ofNat (n + if p then 1 else 0) := by
  by_cases h : p
  · rw [yb_pos h, if_pos h, ofN_succ]
  · rw [yb_neg h, if_neg h]
    grind
theorem yfo_cnt (P : Nat → Prop) [DecidablePred P] : ∀ d, yfo (fun s a => a + yb (P s)) 0 d 0 = Int32.ofNat (cnt P d) := by
  intro d
  induction d with
  | zero => rfl
  | succ d ih =>
    rw [yfo_s, ih, Nat.zero_add, yb_ofN]
    rfl
end CNT
theorem bts_cnt (s : Int32) (d : Nat) : bts s d = Int32.ofNat (cnt (fun n => hs s (Int32.ofNat n)) d) := yfo_cnt _ d
theorem Sus_cnt (r : yRow) (i : Int32) : Sus r i = Int32.ofNat (cnt (fun s => hs (r (58 + s)) i) (stps r)) := yfo_cnt _ _
/-- what all steps use -/
def Sui (r : yRow) : Int32 := yfo (fun s a => a ||| r (58 + s)) 0 (stps r) 0
def Sunu (r : yRow) : Int32 := r 0 - bts (Sui r) (many r)
theorem Sui_hs (r : yRow) {k : Nat} (hk : k < 32) : hs (Sui r) (Int32.ofNat k) ↔ ∃ s, s < stps r ∧ hs (r (58 + s)) (Int32.ofNat k) := by
  unfold Sui
  generalize stps r = d
  induction d with
  | zero => exact ⟨fun h => absurd h (hs_0 hk), fun ⟨s, h, _⟩ => by omega⟩
  | succ d ih =>
    rw [yfo_s, Nat.zero_add, hs_or hk, ih]
    constructor
    · rintro (⟨s, h1, h2⟩ | h)
      · exact ⟨s, by omega, h2⟩
      · exact ⟨d, by omega, h⟩
    · rintro ⟨s, h1, h2⟩
      by_cases e : s = d
      · subst e; exact Or.inr h2
      · exact Or.inl ⟨s, by omega, h2⟩
theorem ofN_sub {a b : Nat} (h : b ≤ a) : Int32.ofNat a - Int32.ofNat b = Int32.ofNat (a - b) := by
  have e : Int32.ofNat (a - b) + Int32.ofNat b = Int32.ofNat a := by rw [← Int32.ofNat_add]; congr 1; omega
  grind
theorem Sunu_cls {r : yRow} (ok : rok r) : yfo (fun i a => a + yb (Sus r (Int32.ofNat i) = 0)) 0 (many r) 0 = Sunu r := by
  obtain ⟨m1, m2⟩ := rokm ok
  have hst := (roks ok).1
  rw [yfo_cnt]
  unfold Sunu
  rw [bts_cnt]
  conv => rhs; rw [m2]
  have h1 := cnt_not (fun n => hs (Sui r) (Int32.ofNat n)) (many r)
  rw [ofN_sub (by omega)]
  have h2 : cnt (fun i => Sus r (Int32.ofNat i) = 0) (many r) = cnt (fun m => ¬ hs (Sui r) (Int32.ofNat m)) (many r) := by
    refine cnt_congr _ _ _ (fun m hm => ?_)
    rw [Sui_hs r (by omega), Sus_cnt]
    have h3 := cnt_0 (fun s => hs (r (58 + s)) (Int32.ofNat m)) (stps r)
    have h4 := cnt_le (fun s => hs (r (58 + s)) (Int32.ofNat m)) (stps r)
    have e : (Int32.ofNat (cnt (fun s => hs (r (58 + s)) (Int32.ofNat m)) (stps r)) = 0) ↔ cnt (fun s => hs (r (58 + s)) (Int32.ofNat m)) (stps r) = 0 := by
      rw [i32_eq, ofN_toInt (by omega)]
      have e0 : (0 : Int32).toInt = 0 := rfl
      omega
    rw [e, h3]
    exact ⟨fun z ⟨s, q1, q2⟩ => z s q1 q2, fun z s q1 q2 => z ⟨s, q1, q2⟩⟩
  congr 1
  omega
section SETS
variable {M : yM}
theorem c175 (ok : rok (M 191)) {i : Int32} : yX 175 0 [some (.ref 190), some (.int i), none, none] [] M 0 0 = yI (Sus (M 191) i) M := by
  obtain ⟨s1, s2⟩ := roks ok
  refine yL.I e175 ?_
  refine yloop (H := fun s a => yX 175 4 [some (.ref 190), some (.int i), some (.int a), some (.int (Int32.ofNat s))] [] M 0 0) (f := fun s a => a + yb (hs (M 191 (58 + s)) i)) (N := stps (M 191)) (res := fun a => (.inl (some (.int a)), M)) ?_ ?_ (stps (M 191)) 0 0 (by omega)
  · intro s a hs1
    obtain ⟨g1, g2⟩ := rofs (c := 58) (n := s) (v := 58) (by omega) rfl
    refine yL.fr e175_4 ?_
    rw [s2, if_pos ((ofN_lt (by omega) (by omega)).mpr hs1), if_pos g1, g2, c110, yCi_I]
    simp only [yb_0]
    by_cases h : hs (M 191 (58 + s)) i
    · rw [if_neg (not_not_intro h), yb_pos h, ofN_succ]
    · rw [if_pos h, yb_neg h, ofN_succ]
  · intro a
    refine yL.I e175_4 ?_
    rw [s2, if_neg (by rw [ofN_lt (by omega) (by omega)]; omega)]
theorem c172 (ok : rok (M 191)) : yX 172 0 [some (.ref 190), none, none] [] M 0 0 = yI (Sunu (M 191)) M := by
  obtain ⟨s1, s2⟩ := roks ok
  obtain ⟨m1, m2⟩ := rokm ok
  refine yL.I e172 ?_
  refine yloop (H := fun s a => yX 172 4 [some (.ref 190), some (.int a), some (.int (Int32.ofNat s))] [] M 0 0) (f := fun s a => a ||| M 191 (58 + s)) (N := stps (M 191)) (res := fun a => (.inl (some (.int (M 191 0 - bts a (many (M 191))))), M)) ?_ ?_ (stps (M 191)) 0 0 (by omega)
  · intro s a hs1
    obtain ⟨g1, g2⟩ := rofs (c := 58) (n := s) (v := 58) (by omega) rfl
    refine yL.fr e172_4 ?_
    rw [s2, if_pos ((ofN_lt (by omega) (by omega)).mpr hs1), if_pos g1, g2, ofN_succ]
  · intro a
    refine yL.I e172_4 ?_
    have hc : yX 111 0 [some (.int a), some (.int (M 191 0)), none, none] [] M 0 0 = yI (bts a (many (M 191))) M := by
      have h := c111 (s := a) (d := many (M 191)) (M := M) (by omega)
      rw [← m2] at h
      exact h
    rw [s2, if_neg (by rw [ofN_lt (by omega) (by omega)]; omega), hc, yCi_I]
theorem c173 (ok : rok (M 191)) : yX 173 0 [some (.ref 190), none, none] [] M 0 0 = yI (Smn (M 191)) M := by
  obtain ⟨s1, s2⟩ := roks ok
  refine yL.I e173 ?_
  refine yloop (H := fun s a => yX 173 4 [some (.ref 190), some (.int a), some (.int (Int32.ofNat s))] [] M 0 0) (f := fun s a => a + M 191 (16 + s)) (N := stps (M 191)) (res := fun a => (.inl (some (.int a)), M)) ?_ ?_ (stps (M 191)) 0 0 (by omega)
  · intro s a hs1
    obtain ⟨g1, g2⟩ := rofs (c := 16) (n := s) (v := 16) (by omega) rfl
    refine yL.fr e173_4 ?_
    rw [s2, if_pos ((ofN_lt (by omega) (by omega)).mpr hs1), if_pos g1, g2, ofN_succ]
  · intro a
    refine yL.I e173_4 ?_
    rw [s2, if_neg (by rw [ofN_lt (by omega) (by omega)]; omega)]
theorem c130 {r : Nat} (hr : yR r) (ok : rok (M r)) {s : Int32} : yX 130 0 [some (.ref r), some (.int s), none, none] [] M 0 0 = yI (Snb (M r) s) M := by
  obtain ⟨s1, s2⟩ := roks ok
  refine yL.I (e130 hr) ?_
  refine yloop (H := fun t a => yX 130 4 [some (.ref r), some (.int s), some (.int a), some (.int (Int32.ofNat t))] [] M 0 0) (f := fun t a => if hs (M r (72 + t)) s then a ||| msk (Int32.ofNat t) else a) (N := stps (M r)) (res := fun a => (.inl (some (.int a)), M)) ?_ ?_ (stps (M r)) 0 0 (by omega)
  · intro t a ht
    obtain ⟨g1, g2⟩ := rofs (c := 72) (n := t) (v := 72) (by omega) rfl
    refine yL.fr (e130_4 hr) ?_
    rw [s2, if_pos ((ofN_lt (by omega) (by omega)).mpr ht), if_pos g1, g2, c110, yCi_I]
    simp only [yb_0]
    by_cases h : hs (M r (72 + t)) s
    · rw [if_neg (not_not_intro h), if_pos h, ofN_succ]
      rfl
    · rw [if_pos h, if_neg h, ofN_succ, or_0]
  · intro a
    refine yL.I (e130_4 hr) ?_
    rw [s2, if_neg (by rw [ofN_lt (by omega) (by omega)]; omega)]
theorem c131 {r : Nat} (hr : yR r) (ok : rok (M r)) {s : Nat} (hs0 : s < stps (M r)) : yX 131 0 [some (.ref r), some (.int (Int32.ofNat s)), none, none, none] [] M 0 0 = yI (San (M r) s) M := by
  obtain ⟨s1, s2⟩ := roks ok
  obtain ⟨g1, g2⟩ := rofs (c := 72) (n := s) (v := 72) (by omega) rfl
  have inner : ∀ d t (a : Int32) (o1 : Option Value) (x3 : Int32), t + d = stps (M r) → ∃ o, yL (yX 131 9 [some (.ref r), o, some (.int (yfo (fun t a => if hs a (Int32.ofNat t) then a ||| M r (72 + t) else a) t d a)), some (.int (x3 + 1)), some (.int (Int32.ofNat (stps (M r))))] [] M 0 0) (yX 131 20 [some (.ref r), o1, some (.int a), some (.int x3), some (.int (Int32.ofNat t))] [] M 0 0) := by
    intro d
    induction d with
    | zero =>
      intro t a o1 x3 h
      refine ⟨o1, yL.fr (e131_20 hr) ?_⟩
      have ht : t = stps (M r) := h
      subst ht
      rw [s2, if_neg (by rw [ofN_lt (by omega) (by omega)]; omega)]
      rfl
    | succ d ih =>
      intro t a o1 x3 h
      obtain ⟨g3, g4⟩ := rofs (c := 72) (n := t) (v := 72) (by omega) rfl
      obtain ⟨o, ho⟩ := ih (t + 1) (if hs a (Int32.ofNat t) then a ||| M r (72 + t) else a) (xUn o1) x3 (by omega)
      refine ⟨o, fun q hq => (e131_20 hr) q ?_⟩
      have h2 := ho q hq
      rw [s2, if_pos ((ofN_lt (by omega) (by omega)).mpr (by omega)), c110, yCi_I]
      simp only [yb_0]
      by_cases h1 : hs a (Int32.ofNat t)
      · rw [if_neg (not_not_intro h1), if_pos g3, g4, ofN_succ]
        rw [if_pos h1] at h2
        exact h2
      · rw [if_pos h1, ofN_succ, or_0]
        rw [if_neg h1] at h2
        exact h2
  have outer : ∀ d n (z : Int32) (o1 o4 : Option Value), n + d = stps (M r) → yX 131 9 [some (.ref r), o1, some (.int z), some (.int (Int32.ofNat n)), o4] [] M 0 0 = yI (yfo (fun _ z => Sar (M r) z) n d z) M := by
    intro d
    induction d with
    | zero =>
      intro n z o1 o4 h
      refine yL.I (e131_9 hr) ?_
      rw [s2, if_neg (by rw [ofN_lt (by omega) (by omega)]; omega)]
      rfl
    | succ d ih =>
      intro n z o1 o4 h
      refine yL.I (e131_9 hr) ?_
      rw [s2, if_pos ((ofN_lt (by omega) (by omega)).mpr (by omega))]
      obtain ⟨o, ho⟩ := inner (stps (M r)) 0 z o1 (Int32.ofNat n) (by omega)
      refine yL.I ho ?_
      rw [ofN_succ, ih (n + 1) _ o _ (by omega)]
      rfl
  refine yL.I (e131 hr) ?_
  rw [if_pos g1, g2]
  exact outer (stps (M r)) 0 _ _ _ (by omega)
end SETS
