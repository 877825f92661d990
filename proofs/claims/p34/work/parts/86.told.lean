/-! the law tells a card as a text -/
theorem lpB {α : Type} {P : Nat → α → yM → Nat → Nat → Prop} {f : Nat → α → α} {B : Nat → yAb} {N c s c0 s0 : Nat} {a0 : α} {M0 : yM}
    (hs : ∀ n a M nc ns, n < N → St M0 (B n) M → nc ≤ c0 + c * n → ns ≤ s0 + s * n → ((∀ M' nc' ns', St M0 (B (n + 1)) M' → nc' ≤ nc + c → ns' ≤ ns + s → P (n + 1) (f n a) M' nc' ns') → P n a M nc ns))
    (he : ∀ M nc ns, St M0 (B N) M → nc ≤ c0 + c * N → ns ≤ s0 + s * N → P N (yfo f 0 N a0) M nc ns) {M : yM} {nc ns : Nat} (hS : St M0 (B 0) M) (hc : nc ≤ c0) (hn : ns ≤ s0) : P 0 a0 M nc ns := by
  have key : ∀ d n a M nc ns, n + d = N → yfo f n d a = yfo f 0 N a0 → St M0 (B n) M → nc ≤ c0 + c * n → ns ≤ s0 + s * n → P n a M nc ns := by
    intro d
    induction d with
    | zero =>
      intro n a M nc ns h e S h1 h2
      have hN : n = N := h
      subst hN
      have ha : a = yfo f 0 n a0 := e
      rw [ha]
      exact he M nc ns S h1 h2
    | succ d ih =>
      intro n a M nc ns h e S h1 h2
      refine hs n a M nc ns (by omega) S h1 h2 (fun M' nc' ns' S' h3 h4 => ih (n + 1) (f n a) M' nc' ns' (by omega) e S' ?_ ?_)
      · rw [Nat.mul_succ]; omega
      · rw [Nat.mul_succ]; omega
  exact key N 0 a0 M nc ns (Nat.zero_add N) rfl hS (by omega) (by omega)
/-- a sign behind the text -/
def ap (A : yAb) (c : Nat) : yAb := (A.1, A.2.1, A.2.2.1, (A.2.2.2.1 + 1, upd A.2.2.2.2 A.2.2.2.1 (Int32.ofNat c)))
def apN (A : yAb) : List Nat → yAb
  | [] => A
  | c :: cs => apN (ap A c) cs
theorem apN_app (ds : List Nat) : ∀ (cs : List Nat) (A : yAb), apN A (cs ++ ds) = apN (apN A cs) ds
  | [], _ => rfl
  | c :: cs, A => apN_app ds cs (ap A c)
theorem apN_L : ∀ (cs : List Nat) (A : yAb), (apN A cs).2.2.2.1 = A.2.2.2.1 + cs.length
  | [], _ => rfl
  | c :: cs, A => by
    show (apN (ap A c) cs).2.2.2.1 = A.2.2.2.1 + (cs.length + 1)
    rw [apN_L cs (ap A c)]
    show A.2.2.2.1 + 1 + cs.length = _
    omega
theorem apN_lo : ∀ (cs : List Nat) (A : yAb) (j : Nat), j < A.2.2.2.1 → (apN A cs).2.2.2.2 j = A.2.2.2.2 j
  | [], _, _, _ => rfl
  | c :: cs, A, j, h => by
    show (apN (ap A c) cs).2.2.2.2 j = _
    rw [apN_lo cs (ap A c) j (Nat.lt_succ_of_lt h)]
    show upd A.2.2.2.2 A.2.2.2.1 (Int32.ofNat c) j = _
    rw [upd_eq, if_neg (by omega)]
theorem apN_at : ∀ (cs : List Nat) (A : yAb), At (apN A cs).2.2.2.2 A.2.2.2.1 cs
  | [], _ => fun i c h => by cases h
  | c :: cs, A => fun i d h => by
    show (apN (ap A c) cs).2.2.2.2 (A.2.2.2.1 + i) = _
    cases i with
    | zero =>
      cases h
      rw [Nat.add_zero, apN_lo cs (ap A c) _ (Nat.lt_succ_self _)]
      show upd A.2.2.2.2 A.2.2.2.1 (Int32.ofNat c) A.2.2.2.1 = _
      rw [upd_eq, if_pos rfl]
    | succ i =>
      have h2 := apN_at cs (ap A c) i d h
      have e : A.2.2.2.1 + (i + 1) = (ap A c).2.2.2.1 + i := by
        show _ = A.2.2.2.1 + 1 + i
        omega
      rw [e]
      exact h2
theorem apN_r : ∀ (cs : List Nat) (A : yAb), (apN A cs).1 = A.1 ∧ (apN A cs).2.1 = A.2.1 ∧ (apN A cs).2.2.1 = A.2.2.1
  | [], _ => ⟨rfl, rfl, rfl⟩
  | c :: cs, A => apN_r cs (ap A c)
section TLD
variable {A : yAb} {M M0 : yM}
theorem oApp_ok {c : Nat} (hc : c < 256) (hL : A.2.2.2.1 < 120) : oApp A (Int32.ofNat c) = .inr (Int32.ofNat (A.2.2.2.1 + 1)) ∧ nApp A (Int32.ofNat c) = ap A c := by
  have hb : bet (Int32.ofNat c) 0 255 := ofN_bd (N := 255) rfl (by omega) (by omega)
  unfold oApp nApp
  rw [if_pos hb, if_pos hL, if_pos hb, if_pos hL]
  exact ⟨rfl, rfl⟩
theorem w107' {c : Nat} {v : Int32} (hv : Int32.ofNat c = v) (hc : c < 256) (hL : A.2.2.2.1 < 120) (h : LW A M) : LJ (yX 107 0 [some (.ref 7), some (.int v), none] [] M 0 0) M (Int32.ofNat (A.2.2.2.1 + 1)).toInt64 (ap A c) := by
  subst hv
  have := w107 (a := Int32.ofNat c) h
  rw [(oApp_ok hc hL).1, (oApp_ok hc hL).2] at this
  exact this
theorem pos_l {n : Nat} (h : n < 200) : ¬ (Int32.ofNat (n + 1)).toInt64 ≤ 0 := by
  rw [show (0 : Int64) = (Int32.ofNat 0).toInt64 from rfl, w_le, ofN_leI (by omega) (by omega)]
  omega
theorem w140 {a b c d : Nat} {a' b' c' d' : Int32} (ea : Int32.ofNat a = a') (eb : Int32.ofNat b = b') (ec : Int32.ofNat c = c') (ed : Int32.ofNat d = d') (ha : a < 256) (hb : b < 256) (hc : c < 256) (hd : d < 256) (hL : A.2.2.2.1 + 4 ≤ 120) (h : LW A M) : LI (yX 140 0 [some (.ref 7), some (.int a'), some (.int b'), some (.int c'), some (.int d')] [] M 0 0) M 1 (apN A [a, b, c, d]) := by
  refine Ret.LI (Ret.E e140 ?_)
  refine Ret.cj (St.rf h) (w107' ea ha (by omega)) (fun M1 S1 => Ret.neg (pos_l (by omega)) ?_)
  refine Ret.cj S1 (w107' eb hb (by show A.2.2.2.1 + 1 < 120; omega)) (fun M2 S2 => Ret.neg (pos_l (by show A.2.2.2.1 + 1 < 200; omega)) ?_)
  refine Ret.cj S2 (w107' ec hc (by show A.2.2.2.1 + 1 + 1 < 120; omega)) (fun M3 S3 => Ret.neg (pos_l (by show A.2.2.2.1 + 1 + 1 < 200; omega)) ?_)
  refine Ret.cj S3 (w107' ed hd (by show A.2.2.2.1 + 1 + 1 + 1 < 120; omega)) (fun M4 S4 => Ret.neg (pos_l (by show A.2.2.2.1 + 1 + 1 + 1 < 200; omega)) ?_)
  exact Ret.I ⟨rfl, S4⟩
theorem ch {a b k : Nat} {K V : Int32} (hK : Int32.ofNat k = K) (hV : Int32.ofNat b = V) (ha : a < 2147483648) (hb : b < 2147483648) : Int32.ofNat (k + a % b) = K + Int32.ofNat a % V := by
  rw [← hK, ← hV, ofN_mod ha hb, ofN_add]
theorem ch2 {a b c k : Nat} {K V C : Int32} (hK : Int32.ofNat k = K) (hV : Int32.ofNat b = V) (hC : Int32.ofNat c = C) (ha : a < 2147483648) (hb : b < 2147483648) (hc : c < 2147483648) (h0 : 0 < c) : Int32.ofNat (k + a / c % b) = K + Int32.ofNat a / C % V := by
  rw [dv hC ha hc h0]
  exact ch hK hV (Nat.lt_of_le_of_lt (Nat.div_le_self _ _) ha) hb
theorem sh_k : ∀ k, k < 4 → ((Int32.ofNat k &&& 31).toBitVec.smod 32).toNat = k := by decide +kernel
theorem shr_n {n k : Nat} (hn : n < 2147483648) (hk : k < 4) : Int32.ofNat n >>> (Int32.ofNat k &&& 31) = Int32.ofNat (n / 2 ^ k) := pk_shrN hn _ k (sh_k k hk)
/-- the state behind it -/
def tA (A : yAb) (n : Nat) : yAb := apN (nClr A) (txtN n)
def tB (A : yAb) (n k : Nat) : yAb := apN (nClr A) ([67] ++ blks n k)
theorem tB_L (n k : Nat) : (tB A n k).2.2.2.1 = 1 + 22 * k := by
  unfold tB
  rw [apN_L, List.length_append, blks_len]
  show 0 + (1 + 22 * k) = _
  omega
theorem tB_s (n k : Nat) : tB A n (k + 1) = apN (tB A n k) (blkN (n / 2 ^ k)) := by
  unfold tB
  rw [show blks n (k + 1) = blks n k ++ blkN (n / 2 ^ k) from rfl, ← List.append_assoc, apN_app]
theorem tA_B (n : Nat) : tA A n = apN (tB A n (1 + n % 4)) (endN n) := by
  unfold tA tB txtN
  rw [← List.append_assoc, apN_app]
theorem w141 {n : Nat} (hn : n < 2147483648) (L0 : LW A M) : LI (yX 141 0 [some (.ref 7), some (.int (Int32.ofNat n)), none, none, none] [] M 0 0) M 1 (tA A n) := by
  refine Ret.LI (Ret.E (e141 ⟨by omega, by omega⟩) ?_)
  refine Ret.ci (St.rf L0) w59 (fun M1 S1 => Ret.neg ?_ ?_)
  · have := L0.2.1.2.2.2.2.2.1
    rw [show (0 : Int32) = Int32.ofNat 0 from rfl, ofN_lt (by omega) (by omega)]
    omega
  refine Ret.cj S1 (w107' (c := 67) rfl (by omega) (by show 0 < 120; omega)) (fun M2 S2 => Ret.neg (pos_l (by show 0 < 200; omega)) ?_)
  have S2 : St M (tB A n 0) M2 := S2
  have hx : (1 : Int32) + Int32.ofNat n % 4 = Int32.ofNat (1 + n % 4) := (ch (k := 1) (b := 4) rfl rfl hn (by omega)).symm
  refine lpB (P := fun k (_ : Unit) M' nc ns => ∀ o4, Ret (yX 141 26 [some (.ref 7), some (.int (Int32.ofNat n)), some (.int 1), some (.int (Int32.ofNat k)), o4] [] M' nc ns) _) (f := fun _ a => a) (a0 := ()) (N := 1 + n % 4) (B := tB A n) (c := 44) (s := 264) (c0 := 2) (s0 := 12) (M0 := M) ?_ ?_ S2 (by omega) (by omega) none
  · intro k _ M' nc ns hk S h1 h2 hc o4
    have hL := tB_L (A := A) n k
    have hy : n / 2 ^ k < 2147483648 := Nat.lt_of_le_of_lt (Nat.div_le_self _ _) hn
    refine Ret.E (e141_26 ⟨by omega, by omega⟩) ?_
    refine Ret.pos (by rw [hx]; exact (ofN_lt (by omega) (by omega)).mpr hk) (Ret.neg (by decide) ?_)
    rw [shr_n hn (show k < 4 by omega)]
    obtain ⟨y, hy0⟩ : ∃ y, y = n / 2 ^ k := ⟨_, rfl⟩
    have hB : tB A n (k + 1) = apN (tB A n k) (blkN y) := by rw [hy0]; exact tB_s n k
    rw [← hy0] at hy ⊢
    have e49 : Int32.ofNat (48 + (1 + y % 9)) = 49 + Int32.ofNat y % 9 := by
      rw [show 48 + (1 + y % 9) = 49 + y % 9 by omega]
      exact ch rfl rfl hy (by omega)
    refine Ret.ci S (w140 (a := 105) (b := 48 + y % 3) (c := 48 + y % 10) (d := 116) rfl (ch rfl rfl hy (by omega)) (ch rfl rfl hy (by omega)) rfl (by omega) (by omega) (by omega) (by omega) (by omega)) (fun M3 S3 => Ret.neg (by decide) ?_)
    have l3 := apN_L [105, 48 + y % 3, 48 + y % 10, 116] (tB A n k)
    generalize hA3 : apN (tB A n k) [105, 48 + y % 3, 48 + y % 10, 116] = A3 at S3 l3
    have l3 : A3.2.2.2.1 = (tB A n k).2.2.2.1 + 4 := l3
    refine Ret.ci S3 (w140 (a := 115) (b := 48 + y % 9) (c := 48 + (1 + y % 9)) (d := 48 + y % 5) rfl (ch rfl rfl hy (by omega)) e49 (ch rfl rfl hy (by omega)) (by omega) (by omega) (by omega) (by omega) (by omega)) (fun M4 S4 => Ret.neg (by decide) ?_)
    have l4 := apN_L [115, 48 + y % 9, 48 + (1 + y % 9), 48 + y % 5] A3
    generalize hA4 : apN A3 [115, 48 + y % 9, 48 + (1 + y % 9), 48 + y % 5] = A4 at S4 l4
    have l4 : A4.2.2.2.1 = A3.2.2.2.1 + 4 := l4
    refine Ret.ci S4 (w140 (a := 48 + y % 2) (b := 117) (c := 48 + 0) (d := 48 + y % 4) (ch rfl rfl hy (by omega)) rfl rfl (ch rfl rfl hy (by omega)) (by omega) (by omega) (by omega) (by omega) (by omega)) (fun M5 S5 => Ret.neg (by decide) ?_)
    have l5 := apN_L [48 + y % 2, 117, 48 + 0, 48 + y % 4] A4
    generalize hA5 : apN A4 [48 + y % 2, 117, 48 + 0, 48 + y % 4] = A5 at S5 l5
    have l5 : A5.2.2.2.1 = A4.2.2.2.1 + 4 := l5
    refine Ret.ci S5 (w140 (a := 48 + 0) (b := 48 + y % 3) (c := 110) (d := 48 + 0) rfl (ch rfl rfl hy (by omega)) rfl rfl (by omega) (by omega) (by omega) (by omega) (by omega)) (fun M6 S6 => Ret.neg (by decide) ?_)
    have l6 := apN_L [48 + 0, 48 + y % 3, 110, 48 + 0] A5
    generalize hA6 : apN A5 [48 + 0, 48 + y % 3, 110, 48 + 0] = A6 at S6 l6
    have l6 : A6.2.2.2.1 = A5.2.2.2.1 + 4 := l6
    refine Ret.ci S6 (w140 (a := 48 + y % 4) (b := 48 + 0) (c := 48 + y / 4 % 4) (d := 107) (ch rfl rfl hy (by omega)) rfl (ch2 rfl rfl rfl hy (by omega) (by omega) (by omega)) rfl (by omega) (by omega) (by omega) (by omega) (by omega)) (fun M7 S7 => Ret.neg (by decide) ?_)
    have l7 := apN_L [48 + y % 4, 48 + 0, 48 + y / 4 % 4, 107] A6
    generalize hA7 : apN A6 [48 + y % 4, 48 + 0, 48 + y / 4 % 4, 107] = A7 at S7 l7
    have l7 : A7.2.2.2.1 = A6.2.2.2.1 + 4 := l7
    refine Ret.cj S7 (w107' (c := 48 + y % 4) (ch rfl rfl hy (by omega)) (by omega) (by omega)) (fun M8 S8 => Ret.neg (pos_l (by omega)) ?_)
    refine Ret.cj S8 (w107' (c := 48 + y / 7 % 4) (ch2 rfl rfl rfl hy (by omega) (by omega) (by omega)) (by omega) (by show A7.2.2.2.1 + 1 < 120; omega)) (fun M9 S9 => Ret.neg (pos_l (by show A7.2.2.2.1 + 1 < 200; omega)) ?_)
    rw [ofN_succ]
    refine hc M9 (nc + 44) (ns + 264) ?_ (by omega) (by omega) _
    rw [hB]
    rw [← hA7, ← hA6, ← hA5, ← hA4, ← hA3] at S9
    exact S9
  · intro M3 nc ns S h1 h2 o4
    have hL := tB_L (A := A) n (1 + n % 4)
    refine Ret.E (e141_26 ⟨by omega, by omega⟩) ?_
    refine Ret.neg (by rw [hx]; exact fun z => Nat.lt_irrefl _ ((ofN_lt (by omega) (by omega)).mp z)) ?_
    refine Ret.E (e141_221 ⟨by omega, by omega⟩) (Ret.neg (by decide) ?_)
    refine Ret.ci S (w140 (a := 118) (b := 48 + 1) (c := 48 + n % 10) (d := 114) rfl rfl (ch rfl rfl hn (by omega)) rfl (by omega) (by omega) (by omega) (by omega) (by omega)) (fun M4 S4 => Ret.neg (by decide) ?_)
    have l4 := apN_L [118, 48 + 1, 48 + n % 10, 114] (tB A n (1 + n % 4))
    have l4 : (apN (tB A n (1 + n % 4)) [118, 48 + 1, 48 + n % 10, 114]).2.2.2.1 = (tB A n (1 + n % 4)).2.2.2.1 + 4 := l4
    refine Ret.cj S4 (w107' (c := 48 + n % 4) (ch rfl rfl hn (by omega)) (by omega) (by omega)) (fun M5 S5 => Ret.neg (pos_l (by omega)) ?_)
    have S5 : St M (tA A n) M5 := by
      rw [tA_B]
      exact S5
    have e : pV (pAll (tA A n).2.2.2.1 (tA A n).2.2.2.2 g0) = -1 := by
      refine txt_ok (n := n) ?_ (apN_at (txtN n) (nClr A)) g0
      unfold tA
      rw [apN_L]
      exact Nat.zero_add _
    exact Ret.ci S5 w60 (fun M6 S6 => Ret.pos e (Ret.I ⟨rfl, S6⟩))
end TLD
