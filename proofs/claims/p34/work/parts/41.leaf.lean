/-! contracts: the leaves -/
theorem yL.fr {a b c : Option yRes} (e : yL b c) (h : b = a) : yL a c := h ▸ e
theorem yLet_eq {α : Type} (a : α) (f : α → Option yRes) : yLet a f = f a := rfl
theorem ofN_lti {n m : Nat} {v : Int32} (hv : Int32.ofNat m = v) (hm : m < 2147483648) (h : n < m) : Int32.ofNat n < v := hv ▸ (ofN_lt (by omega) hm).mpr h
theorem ofN_nlti {n m : Nat} {v : Int32} (hv : Int32.ofNat m = v) (hn : n < 2147483648) (hm : m < 2147483648) (h : ¬ n < m) : ¬ Int32.ofNat n < v := hv ▸ (fun z => h ((ofN_lt hn hm).mp z))
theorem c91 {p : Prop} [Decidable p] {M : yM} : yX 91 0 [some (.int (yb p))] [] M 0 0 = if p then yV M else yTw 0 M := by
  by_cases h : p
  · rw [if_pos h, yb_pos h]; exact yL.V e91 (if_neg (by decide))
  · rw [if_neg h, yb_neg h]; exact yL.T e91 (if_pos rfl)
theorem c92 {p : Prop} [Decidable p] {M : yM} : yX 92 0 [some (.int (yb p))] [] M 0 0 = if p then yV M else yTw 1 M := by
  by_cases h : p
  · rw [if_pos h, yb_pos h]; exact yL.V e92 (if_neg (by decide))
  · rw [if_neg h, yb_neg h]; exact yL.T e92 (if_pos rfl)
theorem c93 {p : Prop} [Decidable p] {M : yM} : yX 93 0 [some (.int (yb p))] [] M 0 0 = if p then yV M else yTw 2 M := by
  by_cases h : p
  · rw [if_pos h, yb_pos h]; exact yL.V e93 (if_neg (by decide))
  · rw [if_neg h, yb_neg h]; exact yL.T e93 (if_pos rfl)
theorem c94 {v l m : Int32} {M : yM} : yX 94 0 [some (.int v), some (.int l), some (.int m)] [] M 0 0 = yI (yb (l ≤ v ∧ v ≤ m)) M := by
  refine yL.I e94 ?_
  by_cases h : l ≤ v
  · by_cases h2 : v ≤ m
    · rw [if_pos h, if_pos h2, yb_pos ⟨h, h2⟩]
    · rw [if_pos h, if_neg h2, yb_neg (fun z => h2 z.2)]
  · rw [if_neg h, yb_neg (fun z => h z.1)]
theorem c95 {v : Int32} {M : yM} : yX 95 0 [some (.int v)] [] M 0 0 = yI (yb (0 ≤ v ∧ v ≤ 3)) M := yL.I e95 (by rw [c94, yCi_I, yZ_b])
theorem c96 {v : Int32} {M : yM} : yX 96 0 [some (.int v)] [] M 0 0 = yI (yb (0 ≤ v ∧ v ≤ 4)) M := yL.I e96 (by rw [c94, yCi_I, yZ_b])
theorem c97 {v : Int32} {M : yM} : yX 97 0 [some (.int v)] [] M 0 0 = yI (yb (0 ≤ v ∧ v ≤ 1)) M := yL.I e97 (by rw [c94, yCi_I, yZ_b])
theorem c98 {p : Prop} [Decidable p] {M : yM} : yX 98 0 [some (.int (yb p))] [] M 0 0 = yI (yb p) M := by
  refine yL.I e98 ?_
  by_cases h : p
  · rw [yb_pos h]; exact if_neg (by decide)
  · rw [yb_neg h]; exact if_pos rfl
theorem c98_0 {M : yM} : yX 98 0 [some (.int 0)] [] M 0 0 = yI 0 M := yL.I e98 (if_pos rfl)
theorem c98_1 {M : yM} : yX 98 0 [some (.int 1)] [] M 0 0 = yI 1 M := yL.I e98 (if_neg (by decide))
theorem c99 {s e : Int32} {M : yM} : yX 99 0 [some (.int s), some (.int e)] [] M 0 0 = yI (yb (hs s e)) M := yL.I e99 yb_ite
def wth (s e : Int32) (p : Prop) [Decidable p] : Int32 := if p then s ||| (1 <<< (e &&& 31)) else s &&& ((1 <<< (e &&& 31)) ^^^ (-1))
theorem c100 {s e : Int32} {p : Prop} [Decidable p] {M : yM} : yX 100 0 [some (.int s), some (.int e), some (.int (yb p))] [] M 0 0 = yI (wth s e p) M := by
  refine yL.I e100 ?_
  unfold wth
  by_cases h : p
  · rw [yb_pos h, if_pos h]; exact if_neg (by decide)
  · rw [yb_neg h, if_neg h]; exact if_pos rfl
theorem c100_1 {s e : Int32} {M : yM} : yX 100 0 [some (.int s), some (.int e), some (.int 1)] [] M 0 0 = yI (wth s e True) M := yL.I e100 (if_neg (by decide))
/-- how many of the first d places are in a set -/
def bts (s : Int32) (d : Nat) : Int32 := yfo (fun n a => a + yb (hs s (Int32.ofNat n))) 0 d 0
theorem yUa_yU (M : yM) (a : Nat) (f : Nat → Int32) (j : Nat) (x : Int32) : yU (yUa M a f) a j x = yUa M a (upd f j x) := by
  funext b
  unfold yU yUa
  by_cases h : b = a
  · rw [if_pos h, if_pos h, if_pos rfl]
  · rw [if_neg h, if_neg h, if_neg h]
theorem yUa_self (M : yM) (a : Nat) : yUa M a (M a) = M := by
  funext b
  unfold yUa
  by_cases h : b = a
  · rw [if_pos h, h]
  · rw [if_neg h]
theorem yfo_upd (g : Nat → Int32) (off : Nat) : ∀ d n (f : Nat → Int32) (k : Nat), yfo (fun n f => upd f (off + n) (g n)) n d f k = if off + n ≤ k ∧ k < off + n + d then g (k - off) else f k := by
  intro d
  induction d with
  | zero => intro n f k; rw [if_neg (by omega)]; rfl
  | succ d ih =>
    intro n f k
    show yfo (fun n f => upd f (off + n) (g n)) (n + 1) d (upd f (off + n) (g n)) k = _
    rw [ih, upd_eq]
    by_cases h1 : k = off + n
    · rw [if_neg (by omega), if_pos h1, if_pos (by omega), h1, Nat.add_sub_cancel_left]
    · rw [if_neg h1]
      by_cases h2 : off + (n + 1) ≤ k ∧ k < off + (n + 1) + d
      · rw [if_pos h2, if_pos (by omega)]
      · rw [if_neg h2, if_neg (by omega)]
theorem yR_lit {j : Nat} (h : j < 95) : yinB (Int32.ofNat j) 95 = true := yin_ofN h (by omega)
theorem yx_lits : yx 13 = 13 ∧ yx 14 = 14 ∧ yx 90 = 90 ∧ yx 91 = 91 ∧ yx 92 = 92 ∧ yx 93 = 93 ∧ yx 0 = 0 ∧ yx 15 = 15 := by decide +kernel
theorem in_lits : yinB 13 95 = true ∧ yinB 14 95 = true ∧ yinB 90 95 = true ∧ yinB 91 95 = true ∧ yinB 92 95 = true ∧ yinB 93 95 = true ∧ yinB 0 95 = true ∧ yinB 15 95 = true := by decide +kernel
/-- a row as it is in the beginning -/
def frs (f : Nat → Int32) : Nat → Int32 := fun k => if k < 95 then (if k = 13 ∨ k = 14 then 4 else if 86 ≤ k ∧ k < 90 then 1 else if k = 90 then 15 else if k = 91 then 1 else if k = 92 then 2 else if k = 93 then 1 else 0) else f k
theorem w_0 : (0 : Int64) = (0 : Int32).toInt64 := by decide +kernel
theorem w_1 : (1 : Int64) = (1 : Int32).toInt64 := by decide +kernel
theorem w_2 : (2 : Int64) = (2 : Int32).toInt64 := by decide +kernel
theorem w_3 : (3 : Int64) = (3 : Int32).toInt64 := by decide +kernel
theorem w_15 : (15 : Int64) = (15 : Int32).toInt64 := by decide +kernel
theorem w_20 : (20 : Int64) = (20 : Int32).toInt64 := by decide +kernel
theorem w_24 : (24 : Int64) = (24 : Int32).toInt64 := by decide +kernel
theorem w_90 : (90 : Int64) = (90 : Int32).toInt64 := by decide +kernel
theorem w_255 : (255 : Int64) = (255 : Int32).toInt64 := by decide +kernel
theorem w_50000 : (50000 : Int64) = (50000 : Int32).toInt64 := by decide +kernel
