/-! spoons, sums -/
def gr (m : Nat) : Int32 := xsR0 4 m
theorem gr_nz : ∀ m, m < 4 → gr m ≠ 0 := by decide +kernel
/-- the rest ahead of measure m, of x grains ahead of measure m + d -/
def Srd (k : Int32) (m : Nat) : Nat → Int32 → Int32
  | 0, x => x
  | d + 1, x => Srd k m d (if hs k (Int32.ofNat (m + d + 1)) then x % gr (m + d + 1) else x)
theorem Srd_s (k : Int32) (m d : Nat) (x : Int32) : Srd k m (d + 1) x = Srd k m d (if hs k (Int32.ofNat (m + d + 1)) then x % gr (m + d + 1) else x) := rfl
def Ssp (k : Int32) (m : Nat) (R : Int32) : Int32 := if hs k (Int32.ofNat m) then Srd k m (3 - m) R / gr m else 0
def Ssa (r : yRow) (n : Nat) (w : Int32) : Int32 := yfo (fun m a => a + Ssp (r 90) m (Sro r n w)) 0 4 0
def Sall (r : yRow) (w : Int32) : Int32 := yfo (fun n a => a + Ssa r n w) 0 (many r) 0
def Sab (d : Int32) : Int32 := if d < 0 then -d else d
def Soff (r : yRow) (w : Int32) : Int32 := yfo (fun n a => a + Sab (Sro r n w - Ssc r n w)) 0 (many r) 0
def Scl (k q : Int32) : Nat → Int32 → Int32 → Int32
  | 0, _, c => c
  | m + 1, x, c => if hs k (Int32.ofNat m) then Scl k q m (x % gr m) (c + (if hs q (Int32.ofNat m) then x / gr m else 0)) else Scl k q m x c
def Sus (r : yRow) (i : Int32) : Int32 := yfo (fun s a => a + yb (hs (r (58 + s)) i)) 0 (stps r) 0
def Smn (r : yRow) : Int32 := yfo (fun s a => a + r (16 + s)) 0 (stps r) 0
def Snb (r : yRow) (s : Int32) : Int32 := yfo (fun t a => if hs (r (72 + t)) s then a ||| msk (Int32.ofNat t) else a) 0 (stps r) 0
/-- one round of needs -/
def Sar (r : yRow) (z : Int32) : Int32 := yfo (fun t a => if hs a (Int32.ofNat t) then a ||| r (72 + t) else a) 0 (stps r) z
def San (r : yRow) (s : Nat) : Int32 := yfo (fun _ z => Sar r z) 0 (stps r) (r (72 + s))
theorem pk_m (n : Nat) : Int32.ofNat (n + 1) + (-1) = Int32.ofNat n := by
  have h := ofN_succ n
  grind
section SP
variable {M : yM}
theorem c14 {c : Nat} (hc : yC c) {r : yRow} (h : rc M c r) (ok : rok r) {n : Nat} (hn : n < many r) {w q : Int32} (hw : bet w 1 24) : yX 14 0 [some (.ref c), some (.int (Int32.ofNat n)), some (.int w), some (.int q), none, none, none] [] M 0 0 = yI (Scl (r 90) q 4 (Sro r n w) 0) M := by
  have e0 : M (c + 8) 0 = r 90 := h.2.2.2.2.2.2.2 0 (by omega)
  have key : ∀ m, m ≤ 4 → ∀ (x a : Int32) (o1 o2 : Option Value), yX 14 14 [some (.ref c), o1, o2, some (.int q), some (.int x), some (.int a), some (.int (Int32.ofNat m + (-1)))] [] M 0 0 = yI (Scl (r 90) q m x a) M := by
    intro m
    induction m with
    | zero =>
      intro _ x a o1 o2
      refine yL.I (e14_14 hc) ?_
      rw [if_pos (by decide)]
      rfl
    | succ m ih =>
      intro hm x a o1 o2
      refine yL.I (e14_14 hc) ?_
      have hz : ¬ Int32.ofNat m < 0 := by
        rw [i32_lt, ofN_toInt (by omega)]
        have e0 : (0 : Int32).toInt = 0 := rfl
        omega
      have hy : yinB (Int32.ofNat m) 4 = true := yin_ofN (by omega) (by omega)
      have hg : ¬ xsR0 4 m = 0 := gr_nz m (by omega)
      rw [pk_m, if_neg hz, c99, yCi_I, e0]
      simp only [yb_0]
      unfold Scl
      by_cases h1 : hs (r 90) (Int32.ofNat m)
      · rw [if_neg (not_not_intro h1), if_pos h1, c99, yCi_I]
        simp only [yb_0, yx_ofN (show m < 2147483648 by omega)]
        by_cases h2 : hs q (Int32.ofNat m)
        · rw [if_neg (not_not_intro h2), if_pos h2, if_pos hy, if_neg hg, if_pos hy, if_neg hg, ih (by omega)]
          rfl
        · rw [if_pos h2, if_neg h2, if_pos hy, if_neg hg, ih (by omega)]
          rfl
      · rw [if_pos h1, if_neg h1, ih (by omega)]
  refine yL.I (e14 hc) ?_
  rw [c12 hc h ok hn hw, yCi_I]
  exact key 4 (Nat.le_refl _) _ _ _ _
theorem hs15 : ∀ m, m < 4 → hs 15 (Int32.ofNat m) := by decide +kernel
theorem Scl_15 (k R : Int32) : Scl k 15 4 R 0 = yfo (fun m a => a + Ssp k m R) 0 4 0 := by
  have h0 := hs15 0 (by omega)
  have h1 := hs15 1 (by omega)
  have h2 := hs15 2 (by omega)
  have h3 := hs15 3 (by omega)
  simp only [Scl, yfo, Ssp, Srd, Nat.reduceAdd, Nat.reduceSub, if_pos h0, if_pos h1, if_pos h2, if_pos h3]
  by_cases k0 : hs k (Int32.ofNat 0) <;> by_cases k1 : hs k (Int32.ofNat 1) <;> by_cases k2 : hs k (Int32.ofNat 2) <;> by_cases k3 : hs k (Int32.ofNat 3) <;> first | (simp only [k0, k1, k2, k3, ↓reduceIte]; done) | (simp only [k0, k1, k2, k3, ↓reduceIte]; grind) | grind
theorem hsm : ∀ m, m < 4 → ∀ j, j < 4 → (hs ((1 : Int32) <<< (Int32.ofNat m &&& 31)) (Int32.ofNat j) ↔ j = m) := by decide +kernel
theorem Scl_m (k R : Int32) {m : Nat} (hm : m < 4) : Scl k ((1 : Int32) <<< (Int32.ofNat m &&& 31)) 4 R 0 = Ssp k m R := by
  have h0 := hsm m hm 0 (by omega)
  have h1 := hsm m hm 1 (by omega)
  have h2 := hsm m hm 2 (by omega)
  have h3 := hsm m hm 3 (by omega)
  have h : m = 0 ∨ m = 1 ∨ m = 2 ∨ m = 3 := by omega
  rcases h with h | h | h | h <;> subst h <;> simp only [Scl, Ssp, Srd, h0, h1, h2, h3, Nat.reduceAdd, Nat.reduceSub, Nat.reduceEqDiff, Nat.succ_ne_self, ↓reduceIte] <;> by_cases k0 : hs k (Int32.ofNat 0) <;> by_cases k1 : hs k (Int32.ofNat 1) <;> by_cases k2 : hs k (Int32.ofNat 2) <;> by_cases k3 : hs k (Int32.ofNat 3) <;> first | (simp only [k0, k1, k2, k3, ↓reduceIte]; done) | (simp only [k0, k1, k2, k3, ↓reduceIte]; grind) | grind
theorem c14_all {c : Nat} (hc : yC c) {r : yRow} (h : rc M c r) (ok : rok r) {n : Nat} (hn : n < many r) {w : Int32} (hw : bet w 1 24) : yX 14 0 [some (.ref c), some (.int (Int32.ofNat n)), some (.int w), some (.int 15), none, none, none] [] M 0 0 = yI (Ssa r n w) M := by
  rw [c14 hc h ok hn hw, Scl_15]
  rfl
theorem c15 {c : Nat} (hc : yC c) {r : yRow} (h : rc M c r) (ok : rok r) {w : Int32} (hw : bet w 1 24) : yX 15 0 [some (.ref c), some (.int w), none, none] [] M 0 0 = yI (Sall r w) M := by
  obtain ⟨m1, m2⟩ := rokm ok
  refine yL.I (e15 hc) ?_
  refine yloop (H := fun n a => yX 15 4 [some (.ref c), some (.int w), some (.int a), some (.int (Int32.ofNat n))] [] M 0 0) (f := fun n a => a + Ssa r n w) (N := many r) (res := fun a => (.inl (some (.int a)), M)) ?_ ?_ (many r) 0 0 (by omega)
  · intro n a hn
    refine yL.fr (e15_4 hc) ?_
    rw [h.1, m2, if_pos ((ofN_lt (by omega) (by omega)).mpr hn), c14_all hc h ok hn hw, yCi_I, ofN_succ]
  · intro a
    refine yL.I (e15_4 hc) ?_
    rw [h.1, m2, if_neg (by rw [ofN_lt (by omega) (by omega)]; omega)]
theorem Sab_abs (d : Int32) : (if 0 ≤ d then d else 0 - d) = Sab d := by
  unfold Sab
  by_cases h : d < 0
  · rw [if_neg (by grind), if_pos h]
    grind
  · rw [if_pos (by grind), if_neg h]
theorem c16 {c : Nat} (hc : yC c) {r : yRow} (h : rc M c r) (ok : rok r) {w : Int32} (hw : bet w 1 24) : yX 16 0 [some (.ref c), some (.int w), none, none] [] M 0 0 = yI (Soff r w) M := by
  obtain ⟨m1, m2⟩ := rokm ok
  refine yL.I (e16 hc) ?_
  refine yloop (H := fun n a => yX 16 4 [some (.ref c), some (.int w), some (.int a), some (.int (Int32.ofNat n))] [] M 0 0) (f := fun n a => a + Sab (Sro r n w - Ssc r n w)) (N := many r) (res := fun a => (.inl (some (.int a)), M)) ?_ ?_ (many r) 0 0 (by omega)
  · intro n a hn
    refine yL.fr (e16_4 hc) ?_
    rw [h.1, m2, if_pos ((ofN_lt (by omega) (by omega)).mpr hn), c12 hc h ok hn hw, yCi_I, c11 hc h ok hn, yCi_I, ofN_succ, Sab_abs]
  · intro a
    refine yL.I (e16_4 hc) ?_
    rw [h.1, m2, if_neg (by rw [ofN_lt (by omega) (by omega)]; omega)]
end SP
