/-! counts; sets of steps -/
theorem yfo_s {α : Type} {f : Nat → α → α} : ∀ d n (a : α), yfo f n (d + 1) a = f (n + d) (yfo f n d a) := by
  intro d
  induction d with
  | zero => intro n a; rfl
  | succ d ih =>
    intro n a
    show yfo f (n + 1) (d + 1) (f n a) = f (n + (d + 1)) (yfo f (n + 1) d (f n a))
    rw [ih]
    congr 1
    omega
def cnt (P : Nat → Prop) [DecidablePred P] : Nat → Nat
  | 0 => 0
  | n + 1 => cnt P n + if P n then 1 else 0
section CNT
theorem cnt_le (P : Nat → Prop) [DecidablePred P] : ∀ n, cnt P n ≤ n := by
  intro n
  induction n with
  | zero => exact Nat.le_refl _
  | succ n ih =>
    show cnt P n + (if P n then 1 else 0) ≤ n + 1
    split <;> omega
theorem cnt_congr (P Q : Nat → Prop) [DecidablePred P] [DecidablePred Q] : ∀ n, (∀ m, m < n → (P m ↔ Q m)) → cnt P n = cnt Q n := by
  intro n
  induction n with
  | zero => intro _; rfl
  | succ n ih =>
    intro h
    show cnt P n + (if P n then 1 else 0) = cnt Q n + (if Q n then 1 else 0)
    rw [ih (fun m hm => h m (by omega))]
    by_cases hp : P n
    · rw [if_pos hp, if_pos ((h n (by omega)).mp hp)]
    · rw [if_neg hp, if_neg (fun z => hp ((h n (by omega)).mpr z))]
theorem cnt_mono (P Q : Nat → Prop) [DecidablePred P] [DecidablePred Q] : ∀ n, (∀ m, m < n → P m → Q m) → cnt P n ≤ cnt Q n := by
  intro n
  induction n with
  | zero => intro _; exact Nat.le_refl _
  | succ n ih =>
    intro h
    show cnt P n + (if P n then 1 else 0) ≤ cnt Q n + (if Q n then 1 else 0)
    have h1 := ih (fun m hm => h m (by omega))
    by_cases hp : P n
    · rw [if_pos hp, if_pos (h n (by omega) hp)]
      omega
    · rw [if_neg hp]
      omega
theorem cnt_lt (P Q : Nat → Prop) [DecidablePred P] [DecidablePred Q] {t : Nat} (hq : Q t) (hp : ¬ P t) : ∀ n, t < n → (∀ m, m < n → P m → Q m) → cnt P n < cnt Q n := by
  intro n
  induction n with
  | zero => intro h; omega
  | succ n ih =>
    intro ht h
    show cnt P n + (if P n then 1 else 0) < cnt Q n + (if Q n then 1 else 0)
    by_cases e : t = n
    · subst e
      have h1 := cnt_mono P Q t (fun m hm => h m (by omega))
      rw [if_neg hp, if_pos hq]
      omega
    · have h1 := ih (by omega) (fun m hm => h m (by omega))
      by_cases hp2 : P n
      · rw [if_pos hp2, if_pos (h n (by omega) hp2)]
        omega
      · rw [if_neg hp2]
        omega
theorem cnt_lt_n (P : Nat → Prop) [DecidablePred P] {n t : Nat} (ht : t < n) (hp : ¬ P t) : cnt P n < n := by
  have h := cnt_lt P (fun _ => True) trivial hp n ht (fun _ _ _ => trivial)
  have := cnt_le (fun _ => True) n
  omega
theorem cnt_0 (P : Nat → Prop) [DecidablePred P] : ∀ n, cnt P n = 0 ↔ ∀ m, m < n → ¬ P m := by
  intro n
  induction n with
  | zero => exact ⟨fun _ m hm => by omega, fun _ => rfl⟩
  | succ n ih =>
    show cnt P n + (if P n then 1 else 0) = 0 ↔ _
    constructor
    · intro h m hm
      by_cases hp : P n
      · rw [if_pos hp] at h; omega
      · by_cases e : m = n
        · rw [e]; exact hp
        · exact ih.mp (by omega) m (by omega)
    · intro h
      rw [if_neg (h n (by omega)), ih.mpr (fun m hm => h m (by omega))]
theorem cnt_not (P : Nat → Prop) [DecidablePred P] : ∀ n, cnt P n + cnt (fun m => ¬ P m) n = n := by
  intro n
  induction n with
  | zero => rfl
  | succ n ih =>
    show cnt P n + (if P n then 1 else 0) + (cnt (fun m => ¬ P m) n + if ¬ P n then 1 else 0) = n + 1
    by_cases hp : P n
    · rw [if_pos hp, if_neg (not_not_intro hp)]; omega
    · rw [if_neg hp, if_pos hp]; omega
theorem yb_ofN (p : Prop) [Decidable p] (n : Nat) : Int32.ofNat n + yb p = Int32.ofNat (n + if p then 1 else 0) := by
  by_cases h : p
  · rw [yb_pos h, if_pos h, ofN_succ]
  · rw [yb_neg h, if_neg h]
    grind
theorem yfo_cnt (P : Nat → Prop) [DecidablePred P] : ∀ d, yfo (fun s a => a + yb (P s)) 0 d 0 = Int32.ofNat (cnt P d) := by
  intro d
  induction d with
  | zero => rfl
  | succ d ih =>
    rw [yfo_s, ih, Nat.zero_add, yb_ofN]
    rfl
end CNT
theorem bts_cnt (s : Int32) (d : Nat) : bts s d = Int32.ofNat (cnt (fun n => hs s (Int32.ofNat n)) d) := yfo_cnt _ d
theorem Sus_cnt (r : yRow) (i : Int32) : Sus r i = Int32.ofNat (cnt (fun s => hs (r (58 + s)) i) (stps r)) := yfo_cnt _ _
/-- what all steps use -/
def Sui (r : yRow) : Int32 := yfo (fun s a => a ||| r (58 + s)) 0 (stps r) 0
def Sunu (r : yRow) : Int32 := r 0 - bts (Sui r) (many r)
theorem Sui_hs (r : yRow) {k : Nat} (hk : k < 32) : hs (Sui r) (Int32.ofNat k) ↔ ∃ s, s < stps r ∧ hs (r (58 + s)) (Int32.ofNat k) := by
  unfold Sui
  generalize stps r = d
  induction d with
  | zero => exact ⟨fun h => absurd h (hs_0 hk), fun ⟨s, h, _⟩ => by omega⟩
  | succ d ih =>
    rw [yfo_s, Nat.zero_add, hs_or hk, ih]
    constructor
    · rintro (⟨s, h1, h2⟩ | h)
      · exact ⟨s, by omega, h2⟩
      · exact ⟨d, by omega, h⟩
    · rintro ⟨s, h1, h2⟩
      by_cases e : s = d
      · subst e; exact Or.inr h2
      · exact Or.inl ⟨s, by omega, h2⟩
theorem ofN_sub {a b : Nat} (h : b ≤ a) : Int32.ofNat a - Int32.ofNat b = Int32.ofNat (a - b) := by
  have e : Int32.ofNat (a - b) + Int32.ofNat b = Int32.ofNat a := by rw [← Int32.ofNat_add]; congr 1; omega
  grind
theorem Sunu_cls {r : yRow} (ok : rok r) : yfo (fun i a => a + yb (Sus r (Int32.ofNat i) = 0)) 0 (many r) 0 = Sunu r := by
  obtain ⟨m1, m2⟩ := rokm ok
  have hst := (roks ok).1
  rw [yfo_cnt]
  unfold Sunu
  rw [bts_cnt]
  conv => rhs; rw [m2]
  have h1 := cnt_not (fun n => hs (Sui r) (Int32.ofNat n)) (many r)
  rw [ofN_sub (by omega)]
  have h2 : cnt (fun i => Sus r (Int32.ofNat i) = 0) (many r) = cnt (fun m => ¬ hs (Sui r) (Int32.ofNat m)) (many r) := by
    refine cnt_congr _ _ _ (fun m hm => ?_)
    rw [Sui_hs r (by omega), Sus_cnt]
    have h3 := cnt_0 (fun s => hs (r (58 + s)) (Int32.ofNat m)) (stps r)
    have h4 := cnt_le (fun s => hs (r (58 + s)) (Int32.ofNat m)) (stps r)
    have e : (Int32.ofNat (cnt (fun s => hs (r (58 + s)) (Int32.ofNat m)) (stps r)) = 0) ↔ cnt (fun s => hs (r (58 + s)) (Int32.ofNat m)) (stps r) = 0 := by
      rw [i32_eq, ofN_toInt (by omega)]
      have e0 : (0 : Int32).toInt = 0 := rfl
      omega
    rw [e, h3]
    exact ⟨fun z ⟨s, q1, q2⟩ => z s q1 q2, fun z s q1 q2 => z ⟨s, q1, q2⟩⟩
  congr 1
  omega
section SETS
variable {M : yM}
end SETS
