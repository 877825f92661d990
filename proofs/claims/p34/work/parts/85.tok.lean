/-! the law's text is a card's text -/
section TK
variable {L : Nat} {T : Nat → Int32} {p : Nat} {sv : Int32}
theorem gD_ok {a lo hi : Nat} {LO HI : Int32} (hL : Int32.ofNat lo = LO) (hH : Int32.ofNat hi = HI) (hp : p < L) (ht : T p = Int32.ofNat (48 + a)) (h1 : lo ≤ a) (h2 : a ≤ hi) (h3 : hi ≤ 9) : gD L T LO HI p = (p + 1, some (Int32.ofNat a)) := by
  have e : T p - 48 = Int32.ofNat a := by
    rw [ht, ← ofN_add]
    have e48 : Int32.ofNat 48 = 48 := rfl
    rw [e48]
    grind
  unfold gD
  rw [e, if_pos ⟨hp, by rw [← hL]; exact (ofN_leI (by omega) (by omega)).mpr h1, by rw [← hH]; exact (ofN_leI (by omega) (by omega)).mpr h2⟩]
theorem gN_ok {a b lo hi : Nat} {LO HI : Int32} (hL : Int32.ofNat lo = LO) (hH : Int32.ofNat hi = HI) (hp : p + 1 < L) (h0 : T p = Int32.ofNat (48 + a)) (h1 : T (p + 1) = Int32.ofNat (48 + b)) (hb : b ≤ 9) (h2 : lo ≤ 10 * a + b) (h3 : 10 * a + b ≤ hi) (h4 : hi ≤ 99) : gN L T LO HI p = (p + 2, some (Int32.ofNat (10 * a + b))) := by
  subst hL hH
  have e10 : (10 : Int32) * Int32.ofNat a + Int32.ofNat b = Int32.ofNat (10 * a + b) := by rw [← ofN_add, Int32.ofNat_mul]; rfl
  unfold gN
  rw [dv (a := lo) (b := 10) (V := 10) rfl (by omega) (by omega) (by omega), dv (a := hi) (b := 10) (V := 10) rfl (by omega) (by omega) (by omega), md (a := lo) (b := 10) (V := 10) rfl (by omega) (by omega), md (a := hi) (b := 10) (V := 10) rfl (by omega) (by omega)]
  rw [gB_some (gD_ok (a := a) rfl rfl (by omega) h0 (by omega) (by omega) (by omega))]
  by_cases c1 : a = lo / 10
  · rw [if_pos (congrArg Int32.ofNat c1)]
    by_cases c2 : a = hi / 10
    · rw [if_pos (congrArg Int32.ofNat c2), gB_some (gD_ok (a := b) rfl rfl hp h1 (by omega) (by omega) (by omega)), e10]
      rfl
    · rw [if_neg (fun z => c2 (by rwa [oe (b := hi / 10) rfl (by omega) (by omega)] at z)), gB_some (gD_ok (a := b) (lo := lo % 10) (hi := 9) (HI := 9) rfl rfl hp h1 (by omega) (by omega) (by omega)), e10]
      rfl
  · rw [if_neg (fun z => c1 (by rwa [oe (b := lo / 10) rfl (by omega) (by omega)] at z))]
    by_cases c2 : a = hi / 10
    · rw [if_pos (congrArg Int32.ofNat c2), gB_some (gD_ok (a := b) (lo := 0) (LO := 0) (hi := hi % 10) rfl rfl hp h1 (by omega) (by omega) (by omega)), e10]
      rfl
    · rw [if_neg (fun z => c2 (by rwa [oe (b := hi / 10) rfl (by omega) (by omega)] at z)), gB_some (gD_ok (a := b) (lo := 0) (hi := 9) (LO := 0) (HI := 9) rfl rfl hp h1 (by omega) (by omega) (by omega)), e10]
      rfl
theorem gI_ok {q n : Nat} {c v : Int32} (hp : p < L) (ht : T p = c) (hf : fI q c n 0 = v) (hv : ¬ v = -1) : gI L T q n p = (p + 1, some v) := by
  unfold gI
  rw [ht, hf, if_pos ⟨hp, hv⟩]
theorem fi_i : fI 5 (Int32.ofNat 105) 7 0 = 0 := by decide +kernel
theorem fi_s : fI 5 (Int32.ofNat 115) 7 0 = 1 := by decide +kernel
theorem fi_u : fI 5 (Int32.ofNat 117) 7 0 = 2 := by decide +kernel
theorem fi_n : fI 5 (Int32.ofNat 110) 7 0 = 3 := by decide +kernel
theorem fi_k : fI 5 (Int32.ofNat 107) 7 0 = 4 := by decide +kernel
theorem fi_v : fI 5 (Int32.ofNat 118) 7 0 = 5 := by decide +kernel
theorem fi_r : fI 5 (Int32.ofNat 114) 7 0 = 6 := by decide +kernel
theorem fi_t : fI 6 (Int32.ofNat 116) 4 0 = 1 := by decide +kernel
def At (T : Nat → Int32) (p : Nat) (cs : List Nat) : Prop := ∀ i c, cs[i]? = some c → T (p + i) = Int32.ofNat c
theorem t_i {a b : Nat} (h : At T p [105, 48 + a, 48 + b, 116]) (hl : p + 4 ≤ L) (ha : a ≤ 9) (hb : b ≤ 9) : ∃ t, gT L T sv p = (p + 4, some t) := by
  unfold gT
  rw [gB_some (gI_ok (p := p) (by omega) (h 0 _ rfl) fi_i (by decide)), if_pos rfl]
  have e1 := gN_ok (L := L) (T := T) (p := p + 1) (a := a) (b := b) (lo := 0) (hi := 99) (LO := 0) (HI := 99) rfl rfl (by omega) (h 1 _ rfl) (h 2 _ rfl) hb (by omega) (by omega) (by omega)
  have e2 : gA L T (p + 1) = (p + 4, some (xsR0 4 (yx 1) * Int32.ofNat (10 * a + b) + xsR0 4 (yx 1) * 0 / 1)) := by
    unfold gA
    rw [gB_some e1]
    have h3 : T (p + 1 + 2) = Int32.ofNat 116 := h 3 _ rfl
    rw [if_neg (fun z => absurd (h3.symm.trans z.2) (by decide))]
    unfold gU
    rw [gB_some (gI_ok (by omega) h3 fi_t (by decide))]
    rfl
  rw [gB_some e2]
  exact ⟨_, rfl⟩
theorem t_s {a b c d : Nat} (h : At T p [115, 48 + a, 48 + b, 48 + c, 48 + d]) (hl : p + 5 ≤ L) (hb : b ≤ 9) (hab : 1 ≤ 10 * a + b ∧ 10 * a + b ≤ 90) (hc : c ≤ 4) (hd : d ≤ 1) : ∃ t, gT L T sv p = (p + 5, some t) := by
  unfold gT
  rw [gB_some (gI_ok (p := p) (by omega) (h 0 _ rfl) fi_s (by decide)), if_neg (by decide), if_pos rfl]
  rw [gB_some (gN_ok (p := p + 1) (a := a) (b := b) (lo := 1) (hi := 90) (LO := 1) (HI := 90) rfl rfl (by omega) (h 1 _ rfl) (h 2 _ rfl) hb (by omega) (by omega) (by omega))]
  rw [gB_some (gD_ok (p := p + 1 + 2) (a := c) (lo := 0) (hi := 4) (LO := 0) (HI := 4) rfl rfl (by omega) (h 3 _ rfl) (by omega) (by omega) (by omega))]
  rw [gB_some (gD_ok (p := p + 1 + 2 + 1) (a := d) (lo := 0) (hi := 1) (LO := 0) (HI := 1) rfl rfl (by omega) (h 4 _ rfl) (by omega) (by omega) (by omega))]
  exact ⟨_, rfl⟩
theorem t_u {a b c d : Nat} (h : At T p [117, 48 + a, 48 + b, 48 + c, 48 + d]) (hl : p + 5 ≤ L) (hb : b ≤ 9) (hd : d ≤ 9) (hab : 10 * a + b ≤ 13) (hcd : 10 * c + d ≤ 11) : ∃ t, gT L T sv p = (p + 5, some t) := by
  unfold gT
  rw [gB_some (gI_ok (p := p) (by omega) (h 0 _ rfl) fi_u (by decide)), if_neg (by decide), if_neg (by decide), if_pos rfl]
  rw [gB_some (gN_ok (p := p + 1) (a := a) (b := b) (lo := 0) (hi := 13) (LO := 0) (HI := 13) rfl rfl (by omega) (h 1 _ rfl) (h 2 _ rfl) hb (by omega) (by omega) (by omega))]
  rw [gB_some (gN_ok (p := p + 1 + 2) (a := c) (b := d) (lo := 0) (hi := 11) (LO := 0) (HI := 11) rfl rfl (by omega) (h 3 _ rfl) (h 4 _ rfl) hd (by omega) (by omega) (by omega))]
  exact ⟨_, rfl⟩
theorem t_n {a b c d : Nat} (h : At T p [110, 48 + a, 48 + b, 48 + c, 48 + d]) (hl : p + 5 ≤ L) (hb : b ≤ 9) (hd : d ≤ 9) (hab : 10 * a + b ≤ 13) (hcd : 10 * c + d ≤ 13) : ∃ t, gT L T sv p = (p + 5, some t) := by
  unfold gT
  rw [gB_some (gI_ok (p := p) (by omega) (h 0 _ rfl) fi_n (by decide)), if_neg (by decide), if_neg (by decide), if_neg (by decide), if_pos rfl]
  rw [gB_some (gN_ok (p := p + 1) (a := a) (b := b) (lo := 0) (hi := 13) (LO := 0) (HI := 13) rfl rfl (by omega) (h 1 _ rfl) (h 2 _ rfl) hb (by omega) (by omega) (by omega))]
  rw [gB_some (gN_ok (p := p + 1 + 2) (a := c) (b := d) (lo := 0) (hi := 13) (LO := 0) (HI := 13) rfl rfl (by omega) (h 3 _ rfl) (h 4 _ rfl) hd (by omega) (by omega) (by omega))]
  exact ⟨_, rfl⟩
theorem t_k {a b : Nat} (h : At T p [107, 48 + a, 48 + b]) (hl : p + 3 ≤ L) (ha : a ≤ 3) (hb : b ≤ 3) : ∃ t, gT L T sv p = (p + 3, some t) := by
  unfold gT
  rw [gB_some (gI_ok (p := p) (by omega) (h 0 _ rfl) fi_k (by decide)), if_neg (by decide), if_neg (by decide), if_neg (by decide), if_neg (by decide), if_pos rfl]
  rw [gB_some (gD_ok (p := p + 1) (a := a) (lo := 0) (hi := 3) (LO := 0) (HI := 3) rfl rfl (by omega) (h 1 _ rfl) (by omega) (by omega) (by omega))]
  rw [gB_some (gD_ok (p := p + 1 + 1) (a := b) (lo := 0) (hi := 3) (LO := 0) (HI := 3) rfl rfl (by omega) (h 2 _ rfl) (by omega) (by omega) (by omega))]
  exact ⟨_, rfl⟩
theorem t_v {a b : Nat} (h : At T p [118, 48 + a, 48 + b]) (hl : p + 3 ≤ L) (hb : b ≤ 9) (hab : 1 ≤ 10 * a + b ∧ 10 * a + b ≤ 24) : ∃ t, gT L T sv p = (p + 3, some t) := by
  unfold gT
  rw [gB_some (gI_ok (p := p) (by omega) (h 0 _ rfl) fi_v (by decide)), if_neg (by decide), if_neg (by decide), if_neg (by decide), if_neg (by decide), if_neg (by decide), if_pos rfl]
  rw [gB_some (gN_ok (p := p + 1) (a := a) (b := b) (lo := 1) (hi := 24) (LO := 1) (HI := 24) rfl rfl (by omega) (h 1 _ rfl) (h 2 _ rfl) hb (by omega) (by omega) (by omega))]
  exact ⟨_, rfl⟩
theorem t_r {a : Nat} (h : At T p [114, 48 + a]) (hl : p + 2 ≤ L) (ha : a ≤ 3) : ∃ t, gT L T sv p = (p + 2, some t) := by
  unfold gT
  rw [gB_some (gI_ok (p := p) (by omega) (h 0 _ rfl) fi_r (by decide)), if_neg (by decide), if_neg (by decide), if_neg (by decide), if_neg (by decide), if_neg (by decide), if_neg (by decide)]
  rw [gB_some (gD_ok (p := p + 1) (a := a) (lo := 0) (hi := 3) (LO := 0) (HI := 3) rfl rfl (by omega) (h 1 _ rfl) (by omega) (by omega) (by omega))]
  exact ⟨_, rfl⟩
theorem At_app {cs ds : List Nat} (h : At T p (cs ++ ds)) : At T p cs ∧ At T (p + cs.length) ds := by
  refine ⟨fun i c hi => h i c ?_, fun i c hi => ?_⟩
  · have := (List.getElem?_eq_some_iff.mp hi).1
    rw [List.getElem?_append_left this]
    exact hi
  · have := h (cs.length + i) c (by rw [List.getElem?_append_right (by omega), Nat.add_sub_cancel_left]; exact hi)
    rw [Nat.add_assoc]
    exact this
/-- a stretch of text that is m commands -/
def eats (L : Nat) (T : Nat → Int32) (m : Nat) (cs : List Nat) : Prop := ∀ n p r K, At T p cs → p + cs.length ≤ L → ∃ r' K', pR L T (n + m) p r K = pR L T n (p + cs.length) r' K'
theorem eats_1 {cs : List Nat} (h0 : 0 < cs.length) (h : ∀ p sv, At T p cs → p + cs.length ≤ L → ∃ t, gT L T sv p = (p + cs.length, some t)) : eats L T 1 cs := fun n p r K ha hl => by
  obtain ⟨t, ht⟩ := h p (r 13) ha hl
  exact ⟨_, _, pR_go (by omega) ht⟩
theorem eats_app {m m' : Nat} {cs ds : List Nat} (h : eats L T m cs) (h2 : eats L T m' ds) : eats L T (m' + m) (cs ++ ds) := fun n p r K ha hl => by
  rw [List.length_append] at hl ⊢
  obtain ⟨a1, a2⟩ := At_app ha
  obtain ⟨r1, K1, e1⟩ := h (n + m') p r K a1 (by omega)
  obtain ⟨r2, K2, e2⟩ := h2 n (p + cs.length) r1 K1 a2 (by omega)
  refine ⟨r2, K2, ?_⟩
  rw [show n + (m' + m) = n + m' + m by omega, e1, e2, Nat.add_assoc]
theorem eats_0 : eats L T 0 [] := fun n p r K _ _ => ⟨r, K, rfl⟩
end TK
def blkN (y : Nat) : List Nat := [105, 48 + y % 3, 48 + y % 10, 116] ++ ([115, 48 + y % 9, 48 + (1 + y % 9), 48 + y % 5, 48 + y % 2] ++ ([117, 48 + 0, 48 + y % 4, 48 + 0, 48 + y % 3] ++ ([110, 48 + 0, 48 + y % 4, 48 + 0, 48 + y / 4 % 4] ++ [107, 48 + y % 4, 48 + y / 7 % 4])))
def endN (n : Nat) : List Nat := [118, 48 + 1, 48 + n % 10] ++ [114, 48 + n % 4]
def blks (n : Nat) : Nat → List Nat
  | 0 => []
  | k + 1 => blks n k ++ blkN (n / 2 ^ k)
theorem eats_blk {L : Nat} {T : Nat → Int32} (y : Nat) : eats L T 5 (blkN y) := by
  refine eats_app (m := 1) (m' := 4) (eats_1 (Nat.succ_pos _) fun p sv h hl => t_i h hl (by omega) (by omega)) ?_
  refine eats_app (m := 1) (m' := 3) (eats_1 (Nat.succ_pos _) fun p sv h hl => t_s h hl (by omega) (by omega) (by omega) (by omega)) ?_
  refine eats_app (m := 1) (m' := 2) (eats_1 (Nat.succ_pos _) fun p sv h hl => t_u h hl (by omega) (by omega) (by omega) (by omega)) ?_
  refine eats_app (m := 1) (m' := 1) (eats_1 (Nat.succ_pos _) fun p sv h hl => t_n h hl (by omega) (by omega) (by omega) (by omega)) ?_
  exact eats_1 (Nat.succ_pos _) fun p sv h hl => t_k h hl (by omega) (by omega)
theorem eats_end {L : Nat} {T : Nat → Int32} (n : Nat) : eats L T 2 (endN n) :=
  eats_app (m := 1) (m' := 1) (eats_1 (Nat.succ_pos _) fun p sv h hl => t_v h hl (by omega) (by omega)) (eats_1 (Nat.succ_pos _) fun p sv h hl => t_r h hl (by omega))
theorem blk_len (y : Nat) : (blkN y).length = 22 := rfl
theorem blks_len (n : Nat) : ∀ k, (blks n k).length = 22 * k := by
  intro k
  induction k with
  | zero => rfl
  | succ k ih => show (blks n k ++ blkN (n / 2 ^ k)).length = _; rw [List.length_append, ih, blk_len]; omega
theorem eats_blks {L : Nat} {T : Nat → Int32} (n : Nat) : ∀ k, eats L T (5 * k) (blks n k) := by
  intro k
  induction k with
  | zero => exact eats_0
  | succ k ih =>
    have := eats_app ih (eats_blk (L := L) (T := T) (n / 2 ^ k))
    rw [show 5 + 5 * k = 5 * (k + 1) by omega] at this
    exact this
/-- the whole text -/
def txtN (n : Nat) : List Nat := [67] ++ (blks n (1 + n % 4) ++ endN n)
theorem txt_len (n : Nat) : (txtN n).length = 6 + 22 * (1 + n % 4) := by
  show ([67] ++ (blks n (1 + n % 4) ++ endN n)).length = _
  rw [List.length_append, List.length_append, blks_len]
  show 1 + (22 * (1 + n % 4) + 5) = _
  omega
theorem txt_ok {L : Nat} {T : Nat → Int32} {n : Nat} (hL : L = (txtN n).length) (h : At T 0 (txtN n)) (g : yRow) : pV (pAll L T g) = -1 := by
  have hl := txt_len n
  have e1 := eats_app (L := L) (T := T) (eats_blks n (1 + n % 4)) (eats_end n)
  obtain ⟨r', K', e2⟩ := e1 (120 - (2 + 5 * (1 + n % 4))) 1 (frs g) 0 (At_app h).2 (by
    rw [hL]
    show 1 + (blks n (1 + n % 4) ++ endN n).length ≤ ([67] ++ (blks n (1 + n % 4) ++ endN n)).length
    rw [List.length_append (as := [67])]
    exact Nat.le_refl _)
  have e3 : 1 + (blks n (1 + n % 4) ++ endN n).length = L := by
    rw [hL]
    show _ = ([67] ++ (blks n (1 + n % 4) ++ endN n)).length
    rw [List.length_append (as := [67])]
    rfl
  rw [show 120 - (2 + 5 * (1 + n % 4)) + (2 + 5 * (1 + n % 4)) = 120 by omega, e3, pR_end (Nat.lt_irrefl L)] at e2
  have e4 : pAll L T g = ((L, false), (r', K')) := by
    unfold pAll
    rw [if_pos ⟨by omega, h 0 67 rfl⟩]
    exact e2
  rw [e4]
  rfl
