/-! contracts: the leaves -/
theorem yL.fr {a b c : Option yRes} (e : yL b c) (h : b = a) : yL a c := h ▸ e
theorem yLet_eq {α : Type} (a : α) (f : α → Option yRes) : yLet a f = f a := rfl
theorem ofN_lti {n m : Nat} {v : Int32} (hv : Int32.ofNat m = v) (hm : m < 2147483648) (h : n < m) : Int32.ofNat n < v := hv ▸ (ofN_lt (by omega) hm).mpr h
theorem ofN_nlti {n m : Nat} {v : Int32} (hv : Int32.ofNat m = v) (hn : n < 2147483648) (hm : m < 2147483648) (h : ¬ n < m) : ¬ Int32.ofNat n < v := hv ▸ (fun z => h ((ofN_lt hn hm).mp z))
theorem c91 {p : Prop} [Decidable p] {M : yM} : yX 91 0 [some (.int (yb p))] [] M 0 0 = if p then yV M else yTw 0 M := by
  by_cases h : p
  · rw [if_pos h, yb_pos h]; exact yL.V e91 (if_neg (by decide))
  · rw [if_neg h, yb_neg h]; exact yL.T e91 (if_pos rfl)
theorem c92 {p : Prop} [Decidable p] {M : yM} : yX 92 0 [some (.int (yb p))] [] M 0 0 = if p then yV M else yTw 1 M := by
  by_cases h : p
  · rw [if_pos h, yb_pos h]; exact yL.V e92 (if_neg (by decide))
  · rw [if_neg h, yb_neg h]; exact yL.T e92 (if_pos rfl)
theorem c93 {p : Prop} [Decidable p] {M : yM} : yX 93 0 [some (.int (yb p))] [] M 0 0 = if p then yV M else yTw 2 M := by
  by_cases h : p
  · rw [if_pos h, yb_pos h]; exact yL.V e93 (if_neg (by decide))
  · rw [if_neg h, yb_neg h]; exact yL.T e93 (if_pos rfl)
theorem c94 {v l m : Int32} {M : yM} : yX 94 0 [some (.int v), some (.int l), some (.int m)] [] M 0 0 = yI (yb (l ≤ v ∧ v ≤ m)) M := by
  refine yL.I e94 ?_
  by_cases h : l ≤ v
  · by_cases h2 : v ≤ m
    · rw [if_pos h, if_pos h2, yb_pos ⟨h, h2⟩]
    · rw [if_pos h, if_neg h2, yb_neg (fun z => h2 z.2)]
  · rw [if_neg h, yb_neg (fun z => h z.1)]
theorem c95 {v : Int32} {M : yM} : yX 95 0 [some (.int v)] [] M 0 0 = yI (yb (0 ≤ v ∧ v ≤ 3)) M := yL.I e95 (by rw [c94, yCi_I, yZ_b])
theorem c96 {v : Int32} {M : yM} : yX 96 0 [some (.int v)] [] M 0 0 = yI (yb (0 ≤ v ∧ v ≤ 4)) M := yL.I e96 (by rw [c94, yCi_I, yZ_b])
theorem c97 {v : Int32} {M : yM} : yX 97 0 [some (.int v)] [] M 0 0 = yI (yb (0 ≤ v ∧ v ≤ 1)) M := yL.I e97 (by rw [c94, yCi_I, yZ_b])
theorem c98 {p : Prop} [Decidable p] {M : yM} : yX 98 0 [some (.int (yb p))] [] M 0 0 = yI (yb p) M := by
  refine yL.I e98 ?_
  by_cases h : p
  · rw [yb_pos h]; exact if_neg (by decide)
  · rw [yb_neg h]; exact if_pos rfl
theorem c98_0 {M : yM} : yX 98 0 [some (.int 0)] [] M 0 0 = yI 0 M := yL.I e98 (if_pos rfl)
theorem c98_1 {M : yM} : yX 98 0 [some (.int 1)] [] M 0 0 = yI 1 M := yL.I e98 (if_neg (by decide))
theorem c99 {s e : Int32} {M : yM} : yX 99 0 [some (.int s), some (.int e)] [] M 0 0 = yI (yb (hs s e)) M := yL.I e99 yb_ite
def wth (s e : Int32) (p : Prop) [Decidable p] : Int32 := if p then s ||| (1 <<< (e &&& 31)) else s &&& ((1 <<< (e &&& 31)) ^^^ (-1))
theorem c100 {s e : Int32} {p : Prop} [Decidable p] {M : yM} : yX 100 0 [some (.int s), some (.int e), some (.int (yb p))] [] M 0 0 = yI (wth s e p) M := by
  refine yL.I e100 ?_
  unfold wth
  by_cases h : p
  · rw [yb_pos h, if_pos h]; exact if_neg (by decide)
  · rw [yb_neg h, if_neg h]; exact if_pos rfl
theorem c100_1 {s e : Int32} {M : yM} : yX 100 0 [some (.int s), some (.int e), some (.int 1)] [] M 0 0 = yI (wth s e True) M := yL.I e100 (if_neg (by decide))
theorem c106 {M : yM} : yX 106 0 [some (.ref 190)] [] M 0 0 = yI (M 190 0) M := yL.I e106 rfl
theorem c107 {v : Int32} {M : yM} : yX 107 0 [some (.ref 190), some (.int v)] [] M 0 0 = yI (yb (¬ v = 0)) (yU M 190 0 v) := by
  refine yL.I e107 ?_
  show (if v = 0 then yI 0 (yU M 190 0 v) else yI 1 (yU M 190 0 v)) = _
  rw [yb_iten]
theorem c108 {v l m : Int64} {M : yM} : yX 108 0 [some (.long v), none, some (.long l), none, some (.long m), none] [] M 0 0 = yI (yb (l ≤ v ∧ v ≤ m)) M := by
  refine yL.I e108 ?_
  by_cases h : v < l
  · rw [if_pos h, yb_neg (fun z => by have := z.1; rw [Int64.le_iff_toInt_le] at this; rw [Int64.lt_iff_toInt_lt] at h; omega)]
  · have h' : l ≤ v := by rw [Int64.le_iff_toInt_le]; rw [Int64.lt_iff_toInt_lt] at h; omega
    by_cases h2 : v ≤ m
    · rw [if_neg h, if_pos h2, yb_pos ⟨h', h2⟩]
    · rw [if_neg h, if_neg h2, yb_neg (fun z => h2 z.2)]
theorem c110 {s e : Int32} {M : yM} : yX 110 0 [some (.int s), some (.int e)] [] M 0 0 = yI (yb (hs s e)) M := yL.I e110 yb_ite
/-- how many of the first d places are in a set -/
def bts (s : Int32) (d : Nat) : Int32 := yfo (fun n a => a + yb (hs s (Int32.ofNat n))) 0 d 0
theorem c111 {s : Int32} {d : Nat} {M : yM} (hd : d < 100) : yX 111 0 [some (.int s), some (.int (Int32.ofNat d)), none, none] [] M 0 0 = yI (bts s d) M := by
  refine yL.I e111 ?_
  refine yloop (H := fun n a => yX 111 4 [some (.int s), some (.int (Int32.ofNat d)), some (.int a), some (.int (Int32.ofNat n))] [] M 0 0) (f := fun n a => a + yb (hs s (Int32.ofNat n))) (N := d) (res := fun a => (.inl (some (.int a)), M)) ?_ ?_ d 0 0 (by omega)
  · intro n a hn
    refine yL.fr e111_4 ?_
    rw [if_pos ((ofN_lt (by omega) (by omega)).mpr hn), c110, yCi_I]
    simp only [yb_0]
    by_cases h : hs s (Int32.ofNat n)
    · rw [if_neg (not_not_intro h), yb_pos h, ofN_succ]
    · rw [if_pos h, yb_neg h, ofN_succ]
  · intro a
    exact yL.I e111_4 (if_neg (fun z => by rw [ofN_lt (by omega) (by omega)] at z; omega))
theorem yUa_yU (M : yM) (a : Nat) (f : Nat → Int32) (j : Nat) (x : Int32) : yU (yUa M a f) a j x = yUa M a (upd f j x) := by
  funext b
  unfold yU yUa
  by_cases h : b = a
  · rw [if_pos h, if_pos h, if_pos rfl]
  · rw [if_neg h, if_neg h, if_neg h]
theorem yUa_self (M : yM) (a : Nat) : yUa M a (M a) = M := by
  funext b
  unfold yUa
  by_cases h : b = a
  · rw [if_pos h, h]
  · rw [if_neg h]
theorem yfo_upd (g : Nat → Int32) (off : Nat) : ∀ d n (f : Nat → Int32) (k : Nat), yfo (fun n f => upd f (off + n) (g n)) n d f k = if off + n ≤ k ∧ k < off + n + d then g (k - off) else f k := by
  intro d
  induction d with
  | zero => intro n f k; rw [if_neg (by omega)]; rfl
  | succ d ih =>
    intro n f k
    show yfo (fun n f => upd f (off + n) (g n)) (n + 1) d (upd f (off + n) (g n)) k = _
    rw [ih, upd_eq]
    by_cases h1 : k = off + n
    · rw [if_neg (by omega), if_pos h1, if_pos (by omega), h1, Nat.add_sub_cancel_left]
    · rw [if_neg h1]
      by_cases h2 : off + (n + 1) ≤ k ∧ k < off + (n + 1) + d
      · rw [if_pos h2, if_pos (by omega)]
      · rw [if_neg h2, if_neg (by omega)]
theorem yR_lit {j : Nat} (h : j < 95) : yinB (Int32.ofNat j) 95 = true := yin_ofN h (by omega)
theorem yx_lits : yx 13 = 13 ∧ yx 14 = 14 ∧ yx 90 = 90 ∧ yx 91 = 91 ∧ yx 92 = 92 ∧ yx 93 = 93 ∧ yx 0 = 0 ∧ yx 15 = 15 := by decide +kernel
theorem in_lits : yinB 13 95 = true ∧ yinB 14 95 = true ∧ yinB 90 95 = true ∧ yinB 91 95 = true ∧ yinB 92 95 = true ∧ yinB 93 95 = true ∧ yinB 0 95 = true ∧ yinB 15 95 = true := by decide +kernel
/-- a row as it is in the beginning -/
def frs (f : Nat → Int32) : Nat → Int32 := fun k => if k < 95 then (if k = 13 ∨ k = 14 then 4 else if 86 ≤ k ∧ k < 90 then 1 else if k = 90 then 15 else if k = 91 then 1 else if k = 92 then 2 else if k = 93 then 1 else 0) else f k
theorem c112 {r : Nat} (hr : yR r) {M : yM} : yX 112 0 [some (.ref r), none] [] M 0 0 = yV (yUa M r (frs (M r))) := by
  refine yL.V (e112 hr) ?_
  have h1 := yloop (H := fun n f => yX 112 2 [some (.ref r), some (.int (Int32.ofNat n))] [] (yUa M r f) 0 0) (f := fun n f => upd f (0 + n) 0) (N := 95) (res := fun f => (.inl none, yUa M r (yfo (fun n f => upd f (86 + n) 1) 0 4 (upd (upd f 13 4) 14 4) |> fun f => upd (upd (upd (upd f 90 15) 91 1) 92 2) 93 1))) ?_ ?_ 95 0 (M r) (by omega)
  · rw [yUa_self] at h1
    refine h1.trans ?_
    show yV _ = _
    congr 2
    funext k
    simp only [upd_eq, yfo_upd (fun _ => (0 : Int32)) 0, yfo_upd (fun _ => (1 : Int32)) 86, frs]
    repeat' split
    all_goals first | rfl | omega
  · intro n f hn
    refine yL.fr (e112_2 hr) ?_
    rw [if_pos (ofN_lti (v := 95) (m := 95) rfl (by omega) hn), if_pos (yR_lit hn), yx_ofN (by omega), yLet_eq, yUa_yU, ofN_succ, Nat.zero_add]
  · intro f
    refine yL.V (e112_2 hr) ?_
    rw [if_neg (by decide +kernel), if_pos in_lits.1, yLet_eq, if_pos in_lits.2.1, yLet_eq, yUa_yU, yUa_yU, yx_lits.1, yx_lits.2.1]
    refine yloop (H := fun n f => yX 112 30 [some (.ref r), some (.int (Int32.ofNat n))] [] (yUa M r f) 0 0) (f := fun n f => upd f (86 + n) 1) (N := 4) (res := fun f => (.inl none, yUa M r (upd (upd (upd (upd f 90 15) 91 1) 92 2) 93 1))) ?_ ?_ 4 0 _ (by omega)
    · intro n f hn
      refine yL.fr (e112_30 hr) ?_
      have e : (86 : Int32) + Int32.ofNat n = Int32.ofNat (86 + n) := by rw [Int32.ofNat_add]; rfl
      rw [if_pos (ofN_lti (v := 4) (m := 4) rfl (by omega) hn), e, if_pos (yR_lit (by omega)), yx_ofN (by omega), yLet_eq, yUa_yU, ofN_succ]
    · intro f
      refine yL.V (e112_30 hr) ?_
      rw [if_neg (by decide +kernel), if_pos in_lits.2.2.1, yLet_eq, if_pos in_lits.2.2.2.1, yLet_eq, if_pos in_lits.2.2.2.2.1, yLet_eq, if_pos in_lits.2.2.2.2.2.1, yLet_eq, yUa_yU, yUa_yU, yUa_yU, yUa_yU, yx_lits.2.2.1, yx_lits.2.2.2.1, yx_lits.2.2.2.2.1, yx_lits.2.2.2.2.2.1]
theorem c113 {r r2 : Nat} (hr : yR r) (hr2 : yR r2) (hne : r ≠ r2) {M : yM} : yX 113 0 [some (.ref r), some (.ref r2), none] [] M 0 0 = yV (yUa M r2 (ycp (M r) (M r2) 95)) := by
  refine yL.V (e113 hr hr2) ?_
  have h1 := yloop (H := fun n f => yX 113 2 [some (.ref r), some (.ref r2), some (.int (Int32.ofNat n))] [] (yUa M r2 f) 0 0) (f := fun n f => upd f (0 + n) (M r n)) (N := 95) (res := fun f => (.inl none, yUa M r2 f)) ?_ ?_ 95 0 (M r2) (by omega)
  · rw [yUa_self] at h1
    refine h1.trans ?_
    show yV _ = _
    congr 2
    funext k
    rw [yfo_upd (fun n => M r n) 0]
    unfold ycp
    by_cases h : k < 95
    · rw [if_pos (by omega), if_pos h, Nat.sub_zero]
    · rw [if_neg (by omega), if_neg h]
  · intro n f hn
    refine yL.fr (e113_2 hr hr2) ?_
    rw [if_pos (ofN_lti (v := 95) (m := 95) rfl (by omega) hn), if_pos (yR_lit hn), if_pos (yR_lit hn), yx_ofN (by omega), yLet_eq, yUa_yU, yUa_ne hne, ofN_succ, Nat.zero_add]
  · intro f
    exact yL.V (e113_2 hr hr2) (if_neg (by decide +kernel))
theorem w_0 : (0 : Int64) = (0 : Int32).toInt64 := by decide +kernel
theorem w_1 : (1 : Int64) = (1 : Int32).toInt64 := by decide +kernel
theorem w_2 : (2 : Int64) = (2 : Int32).toInt64 := by decide +kernel
theorem w_3 : (3 : Int64) = (3 : Int32).toInt64 := by decide +kernel
theorem w_15 : (15 : Int64) = (15 : Int32).toInt64 := by decide +kernel
theorem w_20 : (20 : Int64) = (20 : Int32).toInt64 := by decide +kernel
theorem w_24 : (24 : Int64) = (24 : Int32).toInt64 := by decide +kernel
theorem w_90 : (90 : Int64) = (90 : Int32).toInt64 := by decide +kernel
theorem w_255 : (255 : Int64) = (255 : Int32).toInt64 := by decide +kernel
theorem w_50000 : (50000 : Int64) = (50000 : Int32).toInt64 := by decide +kernel
theorem c114 {r : Nat} (hr : yR r) {i : Int32} {M : yM} : yX 114 0 [some (.ref r), some (.int i)] [] M 0 0 = yI (yb (0 ≤ i ∧ i ≤ M r 0 - 1)) M :=
  yL.I (e114 hr) (by rw [c108, yCi_I, yZ_b]; simp only [w_0, w_le])
theorem c115 {r : Nat} (hr : yR r) {i : Int32} {M : yM} : yX 115 0 [some (.ref r), some (.int i)] [] M 0 0 = yI (yb (0 ≤ i ∧ i ≤ M r 15 - 1)) M :=
  yL.I (e115 hr) (by rw [c108, yCi_I, yZ_b]; simp only [w_0, w_le])
theorem c116 {v : Int32} {M : yM} : yX 116 0 [some (.int v)] [] M 0 0 = yI (yb (0 ≤ v ∧ v ≤ 3)) M :=
  yL.I e116 (by rw [c108, yCi_I, yZ_b]; simp only [w_0, w_3, w_le])
theorem c117 {v : Int32} {M : yM} : yX 117 0 [some (.int v)] [] M 0 0 = yI (yb (1 ≤ v ∧ v ≤ 50000)) M :=
  yL.I e117 (by rw [c108, yCi_I, yZ_b]; simp only [w_1, w_50000, w_le])
theorem c118 {v : Int32} {M : yM} : yX 118 0 [some (.int v)] [] M 0 0 = yI (yb (1 ≤ v ∧ v ≤ 90)) M :=
  yL.I e118 (by rw [c108, yCi_I, yZ_b]; simp only [w_1, w_90, w_le])
theorem c119 {v : Int32} {M : yM} : yX 119 0 [some (.int v)] [] M 0 0 = yI (yb (1 ≤ v ∧ v ≤ 24)) M :=
  yL.I e119 (by rw [c108, yCi_I, yZ_b]; simp only [w_1, w_24, w_le])
theorem c120 {v : Int32} {M : yM} : yX 120 0 [some (.int v)] [] M 0 0 = yI (yb (0 ≤ v ∧ v ≤ 3)) M :=
  yL.I e120 (by rw [c108, yCi_I, yZ_b]; simp only [w_0, w_3, w_le])
theorem c122 {n : Nat} (h : n < 4) {M : yM} : yX 122 0 [some (.int (Int32.ofNat n))] [] M 0 0 = yI (xsR0 4 n) M := by
  refine yL.I e122 ?_
  match n, h with
  | 0, _ => rfl
  | 1, _ => rfl
  | 2, _ => rfl
  | 3, _ => rfl
