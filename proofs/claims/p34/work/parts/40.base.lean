/-! contracts: what they are written in -/
theorem yL.I {a b : Option yRes} {v : Int32} {M : yM} (h : yL a b) (e : a = yI v M) : b = yI v M := h _ e
theorem yL.J {a b : Option yRes} {v : Int64} {M : yM} (h : yL a b) (e : a = yJr v M) : b = yJr v M := h _ e
theorem yL.V {a b : Option yRes} {M : yM} (h : yL a b) (e : a = yV M) : b = yV M := h _ e
theorem yL.T {a b : Option yRes} {E : Nat} {M : yM} (h : yL a b) (e : a = yTw E M) : b = yTw E M := h _ e
theorem yL.to {a b x : Option yRes} (h : yL a b) (e : a = x) (hx : x ≠ none) : b = x := by
  cases x with
  | none => exact absurd rfl hx
  | some r => exact h r e
def yb (p : Prop) [Decidable p] : Int32 := if p then 1 else 0
theorem yb_pos {p : Prop} [Decidable p] (h : p) : yb p = 1 := if_pos h
theorem yb_neg {p : Prop} [Decidable p] (h : ¬ p) : yb p = 0 := if_neg h
theorem yb_0 {p : Prop} [Decidable p] : (yb p = 0) = (¬ p) := by
  apply propext
  by_cases h : p
  · rw [yb_pos h]
    exact ⟨fun z => absurd z (by decide), fun z => absurd h z⟩
  · rw [yb_neg h]
    exact ⟨fun _ => h, fun _ => rfl⟩
theorem yb_1 {p : Prop} [Decidable p] : (yb p = 1) = p := by
  apply propext
  by_cases h : p
  · rw [yb_pos h]
    exact ⟨fun _ => h, fun _ => rfl⟩
  · rw [yb_neg h]
    exact ⟨fun z => absurd z (by decide), fun z => absurd z h⟩
theorem yb_le {p : Prop} [Decidable p] : yb p ≤ 1 := by
  by_cases h : p
  · rw [yb_pos h]; decide
  · rw [yb_neg h]; decide
theorem yZ_b {p : Prop} [Decidable p] {M : yM} : yZ (yb p) M = yI (yb p) M := by
  by_cases h : p
  · rw [yb_pos h, yZ_1]
  · rw [yb_neg h, yZ_0]
theorem yb_ite {p : Prop} [Decidable p] {M : yM} : (if p then yI 1 M else yI 0 M) = yI (yb p) M := by
  by_cases h : p
  · rw [yb_pos h, if_pos h]
  · rw [yb_neg h, if_neg h]
theorem yb_iten {p : Prop} [Decidable p] {M : yM} : (if p then yI 0 M else yI 1 M) = yI (yb (¬ p)) M := by
  by_cases h : p
  · rw [yb_neg (not_not_intro h), if_pos h]
  · rw [yb_pos h, if_neg h]
theorem yb_iff {p q : Prop} [Decidable p] [Decidable q] (h : p ↔ q) : yb p = yb q := by
  by_cases hp : p
  · rw [yb_pos hp, yb_pos (h.mp hp)]
  · rw [yb_neg hp, yb_neg (fun z => hp (h.mpr z))]
/-- iterated, from n on, d times -/
def yfo {α : Type} (f : Nat → α → α) : Nat → Nat → α → α
  | _, 0, a => a
  | n, d + 1, a => yfo f (n + 1) d (f n a)
theorem yloop {α : Type} {H : Nat → α → Option yRes} {f : Nat → α → α} {N : Nat} {res : α → yRes} (hs : ∀ n a, n < N → yL (H (n + 1) (f n a)) (H n a)) (he : ∀ a, H N a = some (res a)) : ∀ d n a, n + d = N → H n a = some (res (yfo f n d a)) := by
  intro d
  induction d with
  | zero => intro n a h; have h : n = N := h; subst h; exact he a
  | succ d ih => intro n a h; exact hs n a (by omega) _ (ih (n + 1) (f n a) (by omega))
theorem yloopI {α : Type} {H : Nat → α → Option yRes} {f : Nat → α → α} {N : Nat} {res : α → yRes} {I : Nat → α → Prop} (hs : ∀ n a, n < N → I n a → I (n + 1) (f n a) ∧ yL (H (n + 1) (f n a)) (H n a)) (he : ∀ a, I N a → H N a = some (res a)) : ∀ d n a, n + d = N → I n a → H n a = some (res (yfo f n d a)) := by
  intro d
  induction d with
  | zero => intro n a h hi; have h : n = N := h; subst h; exact he a hi
  | succ d ih =>
    intro n a h hi
    obtain ⟨h1, h2⟩ := hs n a (by omega) hi
    exact h2 _ (ih (n + 1) (f n a) (by omega) h1)
theorem yfo_I {α : Type} {f : Nat → α → α} {I : Nat → α → Prop} : ∀ d n a, (∀ m b, n ≤ m → m < n + d → I m b → I (m + 1) (f m b)) → I n a → I (n + d) (yfo f n d a) := by
  intro d
  induction d with
  | zero => intro n a _ h; exact h
  | succ d ih =>
    intro n a hs h
    have := ih (n + 1) (f n a) (fun m b h1 h2 h3 => hs m b (by omega) (by omega) h3) (hs n a (Nat.le_refl _) (by omega) h)
    rw [show n + (d + 1) = n + 1 + d by omega]
    exact this
theorem yfo_congr {α : Type} {f g : Nat → α → α} : ∀ d n a, (∀ m b, n ≤ m → m < n + d → f m b = g m b) → yfo f n d a = yfo g n d a := by
  intro d
  induction d with
  | zero => intro n a _; rfl
  | succ d ih =>
    intro n a hs
    show yfo f (n + 1) d (f n a) = yfo g (n + 1) d (g n a)
    rw [hs n a (Nat.le_refl _) (by omega)]
    exact ih _ _ (fun m b h1 h2 => hs m b (by omega) (by omega))
-- numbers
theorem ofN_toInt {n : Nat} (h : n < 2147483648) : (Int32.ofNat n).toInt = n := Int32.toInt_ofNat_of_lt h
theorem ofN_succ (n : Nat) : Int32.ofNat n + 1 = Int32.ofNat (n + 1) := by rw [Int32.ofNat_add]; rfl
theorem ofN_lt {n m : Nat} (h : n < 2147483648) (h2 : m < 2147483648) : (Int32.ofNat n < Int32.ofNat m) ↔ n < m := by
  rw [Int32.lt_iff_toInt_lt, ofN_toInt h, ofN_toInt h2]
  omega
theorem yx_ofN {n : Nat} (h : n < 2147483648) : yx (Int32.ofNat n) = n := by
  have e : yx (Int32.ofNat n) = (Int32.ofNat n).toInt.toNat := rfl
  rw [e, ofN_toInt h]
  omega
theorem yx_def (i : Int32) : yx i = i.toInt.toNat := rfl
theorem of_yx {i : Int32} (h : 0 ≤ i.toInt) : i = Int32.ofNat (yx i) := by
  rw [← Int32.toInt_inj, ofN_toInt (by have := i.toInt_lt; rw [yx_def]; omega), yx_def]
  omega
theorem yin_ofN {n m : Nat} (h : n < m) (h2 : m < 2147483648) : yinB (Int32.ofNat n) m = true := by
  rw [yinB_iff, ofN_toInt (by omega)]
  omega
theorem i32_add {a b : Int32} (h : -2147483648 ≤ a.toInt + b.toInt) (h2 : a.toInt + b.toInt < 2147483648) : (a + b).toInt = a.toInt + b.toInt := by
  rw [Int32.toInt_add]
  exact Int.bmod_eq_of_le (by omega) (by omega)
theorem i32_sub {a b : Int32} (h : -2147483648 ≤ a.toInt - b.toInt) (h2 : a.toInt - b.toInt < 2147483648) : (a - b).toInt = a.toInt - b.toInt := by
  rw [Int32.toInt_sub]
  exact Int.bmod_eq_of_le (by omega) (by omega)
theorem i32_mul {a b : Int32} (h : -2147483648 ≤ a.toInt * b.toInt) (h2 : a.toInt * b.toInt < 2147483648) : (a * b).toInt = a.toInt * b.toInt := by
  rw [Int32.toInt_mul]
  exact Int.bmod_eq_of_le (by omega) (by omega)
theorem i32_div {a b : Int32} (h : 0 ≤ a.toInt) (hb : 0 < b.toInt) : (a / b).toInt = a.toInt / b.toInt := by
  rw [Int32.toInt_div, Int.tdiv_eq_ediv_of_nonneg h]
  have h1 := Int.ediv_nonneg h (Int.le_of_lt hb)
  have h2 := Int.ediv_le_self b.toInt h
  have h3 := a.toInt_lt
  exact Int.bmod_eq_of_le (by omega) (by omega)
theorem i32_mod {a b : Int32} (h : 0 ≤ a.toInt) : (a % b).toInt = a.toInt % b.toInt := by
  rw [Int32.toInt_mod, Int.tmod_eq_emod_of_nonneg h]
theorem i32_le {a b : Int32} : a ≤ b ↔ a.toInt ≤ b.toInt := Int32.le_iff_toInt_le
theorem i32_lt {a b : Int32} : a < b ↔ a.toInt < b.toInt := Int32.lt_iff_toInt_lt
theorem i32_eq {a b : Int32} : a = b ↔ a.toInt = b.toInt := Int32.toInt_inj.symm
theorem w_le {a b : Int32} : (a.toInt64 ≤ b.toInt64) = (a ≤ b) := by
  apply propext
  rw [Int64.le_iff_toInt_le, Int32.le_iff_toInt_le, Int32.toInt_toInt64, Int32.toInt_toInt64]
theorem w_lt {a b : Int32} : (a.toInt64 < b.toInt64) = (a < b) := by
  apply propext
  rw [Int64.lt_iff_toInt_lt, Int32.lt_iff_toInt_lt, Int32.toInt_toInt64, Int32.toInt_toInt64]
theorem w_eq {a b : Int32} : (a.toInt64 = b.toInt64) = (a = b) := by
  apply propext
  rw [← Int64.toInt_inj, ← Int32.toInt_inj, Int32.toInt_toInt64, Int32.toInt_toInt64]
theorem yU_eq (M : yM) (a j : Nat) (x : Int32) (b i : Nat) : yU M a j x b i = if b = a ∧ i = j then x else M b i := by
  unfold yU upd
  by_cases h : b = a
  · subst h
    rw [if_pos rfl]
    simp
  · rw [if_neg h, if_neg (fun z => h z.1)]
theorem upd_eq (f : Nat → Int32) (j : Nat) (x : Int32) (i : Nat) : upd f j x i = if i = j then x else f i := rfl
abbrev hs (s e : Int32) : Prop := ((s >>> (e &&& 31)) &&& 1) = 1
theorem tg1 (a b : Int32) (h : 0 ≤ a) (h2 : a ≤ b - 1) (h3 : b ≤ 12) (h4 : 0 ≤ b) : a < 12 := by grind
