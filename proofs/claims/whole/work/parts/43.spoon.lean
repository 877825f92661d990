/-! spoons, sums -/
def gr (m : Nat) : Int32 := xsR0 4 m
theorem gr_nz : ∀ m, m < 4 → gr m ≠ 0 := by decide +kernel
/-- the rest ahead of measure m, of x grains ahead of measure m + d -/
def Srd (k : Int32) (m : Nat) : Nat → Int32 → Int32
  | 0, x => x
  | d + 1, x => Srd k m d (if hs k (Int32.ofNat (m + d + 1)) then x % gr (m + d + 1) else x)
theorem Srd_s (k : Int32) (m d : Nat) (x : Int32) : Srd k m (d + 1) x = Srd k m d (if hs k (Int32.ofNat (m + d + 1)) then x % gr (m + d + 1) else x) := rfl
def Ssp (k : Int32) (m : Nat) (R : Int32) : Int32 := if hs k (Int32.ofNat m) then Srd k m (3 - m) R / gr m else 0
def Ssa (r : yRow) (n : Nat) (w : Int32) : Int32 := yfo (fun m a => a + Ssp (r 90) m (Sro r n w)) 0 4 0
def Sall (r : yRow) (w : Int32) : Int32 := yfo (fun n a => a + Ssa r n w) 0 (many r) 0
def Sab (d : Int32) : Int32 := if d < 0 then -d else d
def Soff (r : yRow) (w : Int32) : Int32 := yfo (fun n a => a + Sab (Sro r n w - Ssc r n w)) 0 (many r) 0
def Scl (k q : Int32) : Nat → Int32 → Int32 → Int32
  | 0, _, c => c
  | m + 1, x, c => if hs k (Int32.ofNat m) then Scl k q m (x % gr m) (c + (if hs q (Int32.ofNat m) then x / gr m else 0)) else Scl k q m x c
def Sus (r : yRow) (i : Int32) : Int32 := yfo (fun s a => a + yb (hs (r (58 + s)) i)) 0 (stps r) 0
def Smn (r : yRow) : Int32 := yfo (fun s a => a + r (16 + s)) 0 (stps r) 0
def Snb (r : yRow) (s : Int32) : Int32 := yfo (fun t a => if hs (r (72 + t)) s then a ||| msk (Int32.ofNat t) else a) 0 (stps r) 0
/-- one round of needs -/
def Sar (r : yRow) (z : Int32) : Int32 := yfo (fun t a => if hs a (Int32.ofNat t) then a ||| r (72 + t) else a) 0 (stps r) z
def San (r : yRow) (s : Nat) : Int32 := yfo (fun _ z => Sar r z) 0 (stps r) (r (72 + s))
theorem pk_m (n : Nat) : Int32.ofNat (n + 1) + (-1) = Int32.ofNat n := by
  have h := ofN_succ n
  grind
section SP
variable {M : yM}
theorem c126_l {r : Nat} (hr : yR r) {m : Nat} {o1 : Option Value} : ∀ d, m + d < 4 → ∀ x : Int32, yX 126 9 [some (.ref r), o1, some (.int (Int32.ofNat m)), some (.int x), some (.int (Int32.ofNat (m + d)))] [] M 0 0 = yI (if hs (M r 90) (Int32.ofNat m) then Srd (M r 90) m d x / gr m else 0) M := by
  intro d
  induction d with
  | zero =>
    intro hm x
    refine yL.I (e126_9 hr) ?_
    rw [if_pos (by show Int32.ofNat m ≤ _; grind), c110, yCi_I]
    simp only [yb_0]
    by_cases h : hs (M r 90) (Int32.ofNat m)
    · rw [if_neg (not_not_intro h), if_pos h, c122 (by omega), yCi_I, if_neg (show ¬ xsR0 4 m = 0 from gr_nz m (by omega))]
      rfl
    · rw [if_pos h, if_neg h]
  | succ d ih =>
    intro hm x
    refine yL.I (e126_9 hr) ?_
    have hlt : ¬ Int32.ofNat (m + (d + 1)) ≤ Int32.ofNat m := by
      have := (ofN_lt (n := m) (m := m + (d + 1)) (by omega) (by omega)).mpr (by omega)
      grind
    rw [if_neg hlt, c110, yCi_I]
    simp only [yb_0]
    rw [show m + (d + 1) = m + d + 1 by omega]
    by_cases h : hs (M r 90) (Int32.ofNat (m + d + 1))
    · rw [if_neg (not_not_intro h), c122 (by omega), yCi_I, if_neg (show ¬ xsR0 4 (m + d + 1) = 0 from gr_nz _ (by omega)), pk_m, ih (by omega), Srd_s, if_pos h]
      rfl
    · rw [if_pos h, pk_m, ih (by omega), Srd_s, if_neg h]
theorem c126 {r : Nat} (hr : yR r) (ok : rok (M r)) {n m : Nat} (hn : n < many (M r)) (hm : m < 4) : yX 126 0 [some (.ref r), some (.int (Int32.ofNat n)), some (.int (Int32.ofNat m)), none, none] [] M 0 0 = yI (Ssp (M r 90) m (Sro (M r) n (M r 14))) M := by
  refine yL.I (e126 hr) ?_
  rw [c125 hr ok hn, yCi_I, show (3 : Int32) = Int32.ofNat (m + (3 - m)) by rw [show m + (3 - m) = 3 by omega]; rfl, c126_l hr (3 - m) (by omega)]
  rfl
theorem c127 {r : Nat} (hr : yR r) (ok : rok (M r)) {n : Nat} (hn : n < many (M r)) : yX 127 0 [some (.ref r), some (.int (Int32.ofNat n)), none, none] [] M 0 0 = yI (Ssa (M r) n (M r 14)) M := by
  refine yL.I (e127 hr) ?_
  refine yloop (H := fun m a => yX 127 4 [some (.ref r), some (.int (Int32.ofNat n)), some (.int a), some (.int (Int32.ofNat m))] [] M 0 0) (f := fun m a => a + Ssp (M r 90) m (Sro (M r) n (M r 14))) (N := 4) (res := fun a => (.inl (some (.int a)), M)) ?_ ?_ 4 0 0 (by omega)
  · intro m a hm
    refine yL.fr (e127_4 hr) ?_
    rw [if_pos (ofN_lti (v := 4) (m := 4) rfl (by omega) hm), c126 hr ok hn hm, yCi_I, ofN_succ]
  · intro a
    exact yL.I (e127_4 hr) (if_neg (by decide +kernel))
theorem c128 {r : Nat} (hr : yR r) (ok : rok (M r)) : yX 128 0 [some (.ref r), none, none] [] M 0 0 = yI (Sall (M r) (M r 14)) M := by
  obtain ⟨m1, m2⟩ := rokm ok
  refine yL.I (e128 hr) ?_
  refine yloop (H := fun n a => yX 128 4 [some (.ref r), some (.int a), some (.int (Int32.ofNat n))] [] M 0 0) (f := fun n a => a + Ssa (M r) n (M r 14)) (N := many (M r)) (res := fun a => (.inl (some (.int a)), M)) ?_ ?_ (many (M r)) 0 0 (by omega)
  · intro n a hn
    refine yL.fr (e128_4 hr) ?_
    rw [m2, if_pos ((ofN_lt (by omega) (by omega)).mpr hn), c127 hr ok hn, yCi_I, ofN_succ]
  · intro a
    refine yL.I (e128_4 hr) ?_
    rw [m2, if_neg (by rw [ofN_lt (by omega) (by omega)]; omega)]
theorem c129 {r : Nat} (hr : yR r) (ok : rok (M r)) : yX 129 0 [some (.ref r), none, none, none] [] M 0 0 = yI (Soff (M r) (M r 14)) M := by
  obtain ⟨m1, m2⟩ := rokm ok
  refine yL.I (e129 hr) ?_
  have key : ∀ d n (a : Int32) (o : Option Value), n + d = many (M r) → yX 129 4 [some (.ref r), some (.int a), some (.int (Int32.ofNat n)), o] [] M 0 0 = yI (yfo (fun n a => a + Sab (Sro (M r) n (M r 14) - Ssc (M r) n (M r 14))) n d a) M := by
    intro d
    induction d with
    | zero =>
      intro n a o h
      refine yL.I (e129_4 hr) ?_
      rw [m2, if_neg (by rw [ofN_lt (by omega) (by omega)]; omega)]
      rfl
    | succ d ih =>
      intro n a o h
      refine yL.I (e129_4 hr) ?_
      rw [m2, if_pos ((ofN_lt (by omega) (by omega)).mpr (by omega)), c125 hr ok (by omega), yCi_I, c123 hr ok (by omega), yCi_I, ofN_succ, ih _ _ _ (by omega), ih _ _ _ (by omega)]
      show _ = yI (yfo _ (n + 1) d (a + Sab (Sro (M r) n (M r 14) - Ssc (M r) n (M r 14)))) M
      unfold Sab
      split <;> rfl
  exact key _ 0 0 none (by omega)
theorem c14 {c : Nat} (hc : yC c) {r : yRow} (h : rc M c r) (ok : rok r) {n : Nat} (hn : n < many r) {w q : Int32} (hw : bet w 1 24) : yX 14 0 [some (.ref c), some (.int (Int32.ofNat n)), some (.int w), some (.int q), none, none, none] [] M 0 0 = yI (Scl (r 90) q 4 (Sro r n w) 0) M := by
  have e0 : M (c + 8) 0 = r 90 := h.2.2.2.2.2.2.2 0 (by omega)
  have key : ∀ m, m ≤ 4 → ∀ (x a : Int32) (o1 o2 : Option Value), yX 14 14 [some (.ref c), o1, o2, some (.int q), some (.int x), some (.int a), some (.int (Int32.ofNat m + (-1)))] [] M 0 0 = yI (Scl (r 90) q m x a) M := by
    intro m
    induction m with
    | zero =>
      intro _ x a o1 o2
      refine yL.I (e14_14 hc) ?_
      rw [if_pos (by decide)]
      rfl
    | succ m ih =>
      intro hm x a o1 o2
      refine yL.I (e14_14 hc) ?_
      have hz : ¬ Int32.ofNat m < 0 := by
        rw [i32_lt, ofN_toInt (by omega)]
        have e0 : (0 : Int32).toInt = 0 := rfl
        omega
      have hy : yinB (Int32.ofNat m) 4 = true := yin_ofN (by omega) (by omega)
      have hg : ¬ xsR0 4 m = 0 := gr_nz m (by omega)
      rw [pk_m, if_neg hz, c99, yCi_I, e0]
      simp only [yb_0]
      unfold Scl
      by_cases h1 : hs (r 90) (Int32.ofNat m)
      · rw [if_neg (not_not_intro h1), if_pos h1, c99, yCi_I]
        simp only [yb_0, yx_ofN (show m < 2147483648 by omega)]
        by_cases h2 : hs q (Int32.ofNat m)
        · rw [if_neg (not_not_intro h2), if_pos h2, if_pos hy, if_neg hg, if_pos hy, if_neg hg, ih (by omega)]
          rfl
        · rw [if_pos h2, if_neg h2, if_pos hy, if_neg hg, ih (by omega)]
          rfl
      · rw [if_pos h1, if_neg h1, ih (by omega)]
  refine yL.I (e14 hc) ?_
  rw [c12 hc h ok hn hw, yCi_I]
  exact key 4 (Nat.le_refl _) _ _ _ _
theorem hs15 : ∀ m, m < 4 → hs 15 (Int32.ofNat m) := by decide +kernel
theorem Scl_15 (k R : Int32) : Scl k 15 4 R 0 = yfo (fun m a => a + Ssp k m R) 0 4 0 := by
  have h0 := hs15 0 (by omega)
  have h1 := hs15 1 (by omega)
  have h2 := hs15 2 (by omega)
  have h3 := hs15 3 (by omega)
  simp only [Scl, yfo, Ssp, Srd, Nat.reduceAdd, Nat.reduceSub, if_pos h0, if_pos h1, if_pos h2, if_pos h3]
  by_cases k0 : hs k (Int32.ofNat 0) <;> by_cases k1 : hs k (Int32.ofNat 1) <;> by_cases k2 : hs k (Int32.ofNat 2) <;> by_cases k3 : hs k (Int32.ofNat 3) <;> first | (simp only [k0, k1, k2, k3, ↓reduceIte]; done) | (simp only [k0, k1, k2, k3, ↓reduceIte]; grind) | grind
theorem hsm : ∀ m, m < 4 → ∀ j, j < 4 → (hs ((1 : Int32) <<< (Int32.ofNat m &&& 31)) (Int32.ofNat j) ↔ j = m) := by decide +kernel
theorem Scl_m (k R : Int32) {m : Nat} (hm : m < 4) : Scl k ((1 : Int32) <<< (Int32.ofNat m &&& 31)) 4 R 0 = Ssp k m R := by
  have h0 := hsm m hm 0 (by omega)
  have h1 := hsm m hm 1 (by omega)
  have h2 := hsm m hm 2 (by omega)
  have h3 := hsm m hm 3 (by omega)
  have h : m = 0 ∨ m = 1 ∨ m = 2 ∨ m = 3 := by omega
  rcases h with h | h | h | h <;> subst h <;> simp only [Scl, Ssp, Srd, h0, h1, h2, h3, Nat.reduceAdd, Nat.reduceSub, Nat.reduceEqDiff, Nat.succ_ne_self, ↓reduceIte] <;> by_cases k0 : hs k (Int32.ofNat 0) <;> by_cases k1 : hs k (Int32.ofNat 1) <;> by_cases k2 : hs k (Int32.ofNat 2) <;> by_cases k3 : hs k (Int32.ofNat 3) <;> first | (simp only [k0, k1, k2, k3, ↓reduceIte]; done) | (simp only [k0, k1, k2, k3, ↓reduceIte]; grind) | grind
theorem c14_all {c : Nat} (hc : yC c) {r : yRow} (h : rc M c r) (ok : rok r) {n : Nat} (hn : n < many r) {w : Int32} (hw : bet w 1 24) : yX 14 0 [some (.ref c), some (.int (Int32.ofNat n)), some (.int w), some (.int 15), none, none, none] [] M 0 0 = yI (Ssa r n w) M := by
  rw [c14 hc h ok hn hw, Scl_15]
  rfl
theorem c15 {c : Nat} (hc : yC c) {r : yRow} (h : rc M c r) (ok : rok r) {w : Int32} (hw : bet w 1 24) : yX 15 0 [some (.ref c), some (.int w), none, none] [] M 0 0 = yI (Sall r w) M := by
  obtain ⟨m1, m2⟩ := rokm ok
  refine yL.I (e15 hc) ?_
  refine yloop (H := fun n a => yX 15 4 [some (.ref c), some (.int w), some (.int a), some (.int (Int32.ofNat n))] [] M 0 0) (f := fun n a => a + Ssa r n w) (N := many r) (res := fun a => (.inl (some (.int a)), M)) ?_ ?_ (many r) 0 0 (by omega)
  · intro n a hn
    refine yL.fr (e15_4 hc) ?_
    rw [h.1, m2, if_pos ((ofN_lt (by omega) (by omega)).mpr hn), c14_all hc h ok hn hw, yCi_I, ofN_succ]
  · intro a
    refine yL.I (e15_4 hc) ?_
    rw [h.1, m2, if_neg (by rw [ofN_lt (by omega) (by omega)]; omega)]
theorem Sab_abs (d : Int32) : (if 0 ≤ d then d else 0 - d) = Sab d := by
  unfold Sab
  by_cases h : d < 0
  · rw [if_neg (by grind), if_pos h]
    grind
  · rw [if_pos (by grind), if_neg h]
theorem c16 {c : Nat} (hc : yC c) {r : yRow} (h : rc M c r) (ok : rok r) {w : Int32} (hw : bet w 1 24) : yX 16 0 [some (.ref c), some (.int w), none, none] [] M 0 0 = yI (Soff r w) M := by
  obtain ⟨m1, m2⟩ := rokm ok
  refine yL.I (e16 hc) ?_
  refine yloop (H := fun n a => yX 16 4 [some (.ref c), some (.int w), some (.int a), some (.int (Int32.ofNat n))] [] M 0 0) (f := fun n a => a + Sab (Sro r n w - Ssc r n w)) (N := many r) (res := fun a => (.inl (some (.int a)), M)) ?_ ?_ (many r) 0 0 (by omega)
  · intro n a hn
    refine yL.fr (e16_4 hc) ?_
    rw [h.1, m2, if_pos ((ofN_lt (by omega) (by omega)).mpr hn), c12 hc h ok hn hw, yCi_I, c11 hc h ok hn, yCi_I, ofN_succ, Sab_abs]
  · intro a
    refine yL.I (e16_4 hc) ?_
    rw [h.1, m2, if_neg (by rw [ofN_lt (by omega) (by omega)]; omega)]
end SP
