/-! Y's rows -/
def yL (a b : Option yRes) : Prop := ∀ r, a = some r → b = some r
theorem yL.rf {a : Option yRes} : yL a a := fun _ h => h
theorem yL.eq {a b c : Option yRes} (h : c = b) (h2 : yL a b) : yL a c := h ▸ h2
theorem yL.nn {b : Option yRes} : yL none b := fun _ h => by cases h
theorem yL.ite {p : Prop} [Decidable p] {a b c d : Option yRes} (h1 : p → yL a b) (h2 : ¬ p → yL c d) : yL (if p then a else c) (if p then b else d) := by
  by_cases hp : p
  · rw [if_pos hp, if_pos hp]; exact h1 hp
  · rw [if_neg hp, if_neg hp]; exact h2 hp
theorem yL.gd {p : Prop} [Decidable p] {a b d : Option yRes} (h1 : p → yL a b) : yL (if p then a else none) (if p then b else d) := yL.ite h1 (fun _ => yL.nn)
theorem yL.gn {p : Prop} [Decidable p] {a b d : Option yRes} (h1 : ¬ p → yL a b) : yL (if p then none else a) (if p then d else b) := yL.ite (fun _ => yL.nn) h1
def yLet {α : Type} (a : α) (f : α → Option yRes) : Option yRes := f a
def yI (v : Int32) (M : yM) : Option yRes := some (.inl (some (.int v)), M)
def yJr (v : Int64) (M : yM) : Option yRes := some (.inl (some (.long v)), M)
def yV (M : yM) : Option yRes := some (.inl none, M)
def yTw (E : Nat) (M : yM) : Option yRes := some (.inr E, M)
def yZ (v : Int32) (M : yM) : Option yRes := if v = 0 ∨ v = 1 then yI v M else none
/-- a call's outcome taken up: an int, a long, nothing; thrown on where z -/
def yCi (z : Bool) (r : Option yRes) (f : Int32 → yM → Option yRes) : Option yRes := match r with
  | some (.inl (some (.int v)), M) => f v M
  | some (.inr E, M) => if z = true then some (.inr E, M) else none
  | _ => none
def yCj (z : Bool) (r : Option yRes) (f : Int64 → yM → Option yRes) : Option yRes := match r with
  | some (.inl (some (.long v)), M) => f v M
  | some (.inr E, M) => if z = true then some (.inr E, M) else none
  | _ => none
def yCv (z : Bool) (r : Option yRes) (f : yM → Option yRes) : Option yRes := match r with
  | some (.inl none, M) => f M
  | some (.inr E, M) => if z = true then some (.inr E, M) else none
  | _ => none
theorem yCi_I {z : Bool} {v : Int32} {M : yM} {f : Int32 → yM → Option yRes} : yCi z (yI v M) f = f v M := rfl
theorem yCi_T {E : Nat} {M : yM} {f : Int32 → yM → Option yRes} : yCi true (yTw E M) f = yTw E M := rfl
theorem yCj_J {z : Bool} {v : Int64} {M : yM} {f : Int64 → yM → Option yRes} : yCj z (yJr v M) f = f v M := rfl
theorem yCv_V {z : Bool} {M : yM} {f : yM → Option yRes} : yCv z (yV M) f = f M := rfl
theorem yCv_T {E : Nat} {M : yM} {f : yM → Option yRes} : yCv true (yTw E M) f = yTw E M := rfl
theorem yZ_0 {M : yM} : yZ 0 M = yI 0 M := if_pos (Or.inl rfl)
theorem yZ_1 {M : yM} : yZ 1 M = yI 1 M := if_pos (Or.inr rfl)
def yCo (z : Bool) (r : Option yRes) (f : Option Value → yM → Option yRes) : Option yRes := match r with
  | some (.inl v, h') => f v h'
  | some (.inr E, h') => if z = true then some (.inr E, h') else none
  | none => none
theorem yL.ci {z : Bool} {r : Option yRes} {f : Int32 → yM → Option yRes} {g : Option Value → yM → Option yRes} (h : ∀ v M, yL (f v M) (g (some (.int v)) M)) : yL (yCi z r f) (yCo z r g) := by
  intro q hq
  unfold yCi at hq
  split at hq
  · exact h _ _ q hq
  · exact hq
  · cases hq
theorem yL.cj {z : Bool} {r : Option yRes} {f : Int64 → yM → Option yRes} {g : Option Value → yM → Option yRes} (h : ∀ v M, yL (f v M) (g (some (.long v)) M)) : yL (yCj z r f) (yCo z r g) := by
  intro q hq
  unfold yCj at hq
  split at hq
  · exact h _ _ q hq
  · exact hq
  · cases hq
theorem yL.cv {z : Bool} {r : Option yRes} {f : yM → Option yRes} {g : Option Value → yM → Option yRes} (h : ∀ M, yL (f M) (g none M)) : yL (yCv z r f) (yCo z r g) := by
  intro q hq
  unfold yCv at hq
  split at hq
  · exact h _ q hq
  · exact hq
  · cases hq
/-- an index, in its row -/
def yin (i : Int32) (n : Nat) : Prop := 0 ≤ i.toInt ∧ i.toInt < (n : Int)
theorem yin_dec (i : Int32) (n : Nat) : yin i n ↔ (0 ≤ i.toInt ∧ i.toInt < (n : Int)) := Iff.rfl
def yinB (i : Int32) (n : Nat) : Bool := decide (0 ≤ i.toInt ∧ i.toInt < (n : Int))
theorem yinB_iff {i : Int32} {n : Nat} : yinB i n = true ↔ (0 ≤ i.toInt ∧ i.toInt < (n : Int)) := by unfold yinB; exact decide_eq_true_iff
abbrev yx (i : Int32) : Nat := i.toNatClampNeg
theorem xin_yin {i : Int32} {n : Nat} : xin i n = yinB i n := by
  have e : i.toNatClampNeg = i.toInt.toNat := rfl
  unfold xin yinB
  congr 1
  rw [e, Int32.lt_iff_toInt_lt]
  have e0 : (0 : Int32).toInt = 0 := rfl
  rw [e0]
  apply propext
  omega
/-- shapes -/
def ySi (a t i : Nat) : Prop := (ysh a).1 = 100 + t ∧ (ysh a).2.2[i]? = some none
def ySr (a t i r : Nat) : Prop := (ysh a).1 = 100 + t ∧ (ysh a).2.2[i]? = some (some r)
def ySa (a k n : Nat) : Prop := (ysh a).1 = k ∧ (ysh a).2.1 = n
def ySg (a k n : Nat) : Prop := (ysh a).1 = k ∧ (ysh a).2.1 = n ∧ 1 ≤ a ∧ a ≤ 6
def ycp (f g : Nat → Int32) (n : Nat) : Nat → Int32 := fun j => if j < n then f j else g j
theorem va_cpy_0 (f g : Nat → Int32) (n : Nat) : va_cpy f g 0 0 n = ycp f g n := by
  funext j
  unfold va_cpy ycp
  simp
def yCs : List Nat := [11, 27, 44, 53, 62, 71, 80, 89, 98, 107, 116, 125, 134, 143, 152, 161, 171, 180]
def yC (c : Nat) : Prop := c ∈ yCs
def yP (p : Nat) : Prop := p ∈ ([10, 26] : List Nat)
section YShape
variable {c p r : Nat}
theorem yC_i (h : yC c) : ySi c 0 0 ∧ ySi c 0 1 ∧ ySi c 0 2 ∧ ySi c 0 3 := by
  have : ∀ c ∈ yCs, ((ysh c).1 = 100 ∧ (ysh c).2.2[0]? = some none) ∧ ((ysh c).1 = 100 ∧ (ysh c).2.2[1]? = some none) ∧ ((ysh c).1 = 100 ∧ (ysh c).2.2[2]? = some none) ∧ ((ysh c).1 = 100 ∧ (ysh c).2.2[3]? = some none) := by decide +kernel
  exact this c h
theorem yC_r (h : yC c) : ySr c 0 4 (c + 1) ∧ ySr c 0 5 (c + 2) ∧ ySr c 0 6 (c + 3) ∧ ySr c 0 7 (c + 4) ∧ ySr c 0 8 (c + 5) ∧ ySr c 0 9 (c + 6) ∧ ySr c 0 10 (c + 7) ∧ ySr c 0 11 (c + 8) := by
  have : ∀ c ∈ yCs, ((ysh c).1 = 100 ∧ (ysh c).2.2[4]? = some (some (c + 1))) ∧ ((ysh c).1 = 100 ∧ (ysh c).2.2[5]? = some (some (c + 2))) ∧ ((ysh c).1 = 100 ∧ (ysh c).2.2[6]? = some (some (c + 3))) ∧ ((ysh c).1 = 100 ∧ (ysh c).2.2[7]? = some (some (c + 4))) ∧ ((ysh c).1 = 100 ∧ (ysh c).2.2[8]? = some (some (c + 5))) ∧ ((ysh c).1 = 100 ∧ (ysh c).2.2[9]? = some (some (c + 6))) ∧ ((ysh c).1 = 100 ∧ (ysh c).2.2[10]? = some (some (c + 7))) ∧ ((ysh c).1 = 100 ∧ (ysh c).2.2[11]? = some (some (c + 8))) := by decide +kernel
  exact this c h
theorem yC_a (h : yC c) : ySa (c + 1) 0 12 ∧ ySa (c + 2) 0 14 ∧ ySa (c + 3) 0 14 ∧ ySa (c + 4) 0 14 ∧ ySa (c + 5) 0 14 ∧ ySa (c + 6) 0 14 ∧ ySa (c + 7) 0 4 ∧ ySa (c + 8) 0 5 := by
  have : ∀ c ∈ yCs, ((ysh (c + 1)).1 = 0 ∧ (ysh (c + 1)).2.1 = 12) ∧ ((ysh (c + 2)).1 = 0 ∧ (ysh (c + 2)).2.1 = 14) ∧ ((ysh (c + 3)).1 = 0 ∧ (ysh (c + 3)).2.1 = 14) ∧ ((ysh (c + 4)).1 = 0 ∧ (ysh (c + 4)).2.1 = 14) ∧ ((ysh (c + 5)).1 = 0 ∧ (ysh (c + 5)).2.1 = 14) ∧ ((ysh (c + 6)).1 = 0 ∧ (ysh (c + 6)).2.1 = 14) ∧ ((ysh (c + 7)).1 = 0 ∧ (ysh (c + 7)).2.1 = 4) ∧ ((ysh (c + 8)).1 = 0 ∧ (ysh (c + 8)).2.1 = 5) := by decide +kernel
  exact this c h
theorem yC_t (h : yC c) : (ysh c).1 = 100 + 0 := (yC_i h).1.1
theorem yP_i (h : yP p) : ySi p 3 6 ∧ ySi p 3 7 ∧ ySi p 3 8 ∧ ySi p 3 9 ∧ ySi p 3 10 := by
  have : ∀ p ∈ ([10, 26] : List Nat), ((ysh p).1 = 103 ∧ (ysh p).2.2[6]? = some none) ∧ ((ysh p).1 = 103 ∧ (ysh p).2.2[7]? = some none) ∧ ((ysh p).1 = 103 ∧ (ysh p).2.2[8]? = some none) ∧ ((ysh p).1 = 103 ∧ (ysh p).2.2[9]? = some none) ∧ ((ysh p).1 = 103 ∧ (ysh p).2.2[10]? = some none) := by decide +kernel
  exact this p h
theorem yP_r (h : yP p) : ySr p 3 0 (p + 1) ∧ ySr p 3 1 (p + 10) ∧ ySr p 3 2 (p + 11) ∧ ySr p 3 3 (p + 12) ∧ ySr p 3 4 (p + 13) ∧ ySr p 3 5 (p + 14) ∧ ySr p 3 11 (p + 15) := by
  have : ∀ p ∈ ([10, 26] : List Nat), ((ysh p).1 = 103 ∧ (ysh p).2.2[0]? = some (some (p + 1))) ∧ ((ysh p).1 = 103 ∧ (ysh p).2.2[1]? = some (some (p + 10))) ∧ ((ysh p).1 = 103 ∧ (ysh p).2.2[2]? = some (some (p + 11))) ∧ ((ysh p).1 = 103 ∧ (ysh p).2.2[3]? = some (some (p + 12))) ∧ ((ysh p).1 = 103 ∧ (ysh p).2.2[4]? = some (some (p + 13))) ∧ ((ysh p).1 = 103 ∧ (ysh p).2.2[5]? = some (some (p + 14))) ∧ ((ysh p).1 = 103 ∧ (ysh p).2.2[11]? = some (some (p + 15))) := by decide +kernel
  exact this p h
theorem yP_a (h : yP p) : ySa (p + 10) 0 14 ∧ ySa (p + 11) 0 14 ∧ ySa (p + 12) 0 14 ∧ ySa (p + 13) 0 14 ∧ ySa (p + 14) 0 14 ∧ ySa (p + 15) 0 4 := by
  have : ∀ p ∈ ([10, 26] : List Nat), ((ysh (p + 10)).1 = 0 ∧ (ysh (p + 10)).2.1 = 14) ∧ ((ysh (p + 11)).1 = 0 ∧ (ysh (p + 11)).2.1 = 14) ∧ ((ysh (p + 12)).1 = 0 ∧ (ysh (p + 12)).2.1 = 14) ∧ ((ysh (p + 13)).1 = 0 ∧ (ysh (p + 13)).2.1 = 14) ∧ ((ysh (p + 14)).1 = 0 ∧ (ysh (p + 14)).2.1 = 14) ∧ ((ysh (p + 15)).1 = 0 ∧ (ysh (p + 15)).2.1 = 4) := by decide +kernel
  exact this p h
theorem yP_c (h : yP p) : yC (p + 1) := by
  have : ∀ p ∈ ([10, 26] : List Nat), p + 1 ∈ yCs := by decide +kernel
  exact this p h
theorem yP_t (h : yP p) : (ysh p).1 = 100 + 3 := (yP_i h).1.1
theorem yC_43 {n : Nat} (h : n < 14) : yC (44 + 9 * n) := by
  have : ∀ n, n < 14 → 44 + 9 * n ∈ yCs := by decide +kernel
  exact this n h
theorem yC_170 {n : Nat} (h : n < 2) : yC (171 + 9 * n) := by
  have : ∀ n, n < 2 → 171 + 9 * n ∈ yCs := by decide +kernel
  exact this n h
theorem yx_lt {i : Int32} {n : Nat} (h : yinB i n = true) : yx i < n := by
  have h := yinB_iff.mp h
  have e : yx i = i.toInt.toNat := rfl
  omega
end YShape
theorem irem_mod (x y : Int32) : x - x / y * y = x % y := by
  rw [← Int32.toInt_inj, Int32.toInt_sub, Int32.toInt_mul, Int32.toInt_div, Int32.toInt_mod]
  rw [Int.bmod_mul_bmod, Int.sub_bmod_bmod]
  have e : x.toInt - x.toInt.tdiv y.toInt * y.toInt = x.toInt.tmod y.toInt := by
    have := Int.mul_tdiv_add_tmod x.toInt y.toInt
    rw [Int.mul_comm] at this
    omega
  rw [e]
  have h1 := Int32.toInt_mod x y
  rw [← h1]
  exact Int32.toInt_bmod_size _
theorem lrem_mod (x y : Int64) : x - x / y * y = x % y := by
  rw [← Int64.toInt_inj, Int64.toInt_sub, Int64.toInt_mul, Int64.toInt_div, Int64.toInt_mod]
  rw [Int.bmod_mul_bmod, Int.sub_bmod_bmod]
  have e : x.toInt - x.toInt.tdiv y.toInt * y.toInt = x.toInt.tmod y.toInt := by
    have := Int.mul_tdiv_add_tmod x.toInt y.toInt
    rw [Int.mul_comm] at this
    omega
  rw [e]
  have h1 := Int64.toInt_mod x y
  rw [← h1]
  exact Int64.toInt_bmod_size _
theorem lgc_1 : ¬ ((1 : Int32) < 0) ∧ ¬ ((1 : Int32) = 0) ∧ ¬ ((1 : Int32) ≤ 0) ∧ ¬ ((0 : Int32) < 0) ∧ ((0 : Int32) = 0) ∧ ((0 : Int32) ≤ 0) ∧ ((-1 : Int32) < 0) ∧ ¬ ((-1 : Int32) = 0) ∧ ((-1 : Int32) ≤ 0) := by decide +kernel
theorem lgc_lt (x y : Int64) : (lg_cmp x y < 0) = (x < y) := by
  obtain ⟨p1, p2, p3, p4, p5, p6, p7, p8, p9⟩ := lgc_1
  unfold lg_cmp
  apply propext
  rw [Int64.lt_iff_toInt_lt]
  split
  · next h =>
    rw [gt_iff_lt, Int64.lt_iff_toInt_lt] at h
    exact ⟨fun z => absurd z p1, fun z => by omega⟩
  · next h =>
    rw [gt_iff_lt, Int64.lt_iff_toInt_lt] at h
    split
    · next h2 =>
      rw [h2]
      exact ⟨fun z => absurd z p4, fun z => by omega⟩
    · next h2 =>
      rw [← Int64.toInt_inj] at h2
      exact ⟨fun z => by omega, fun z => p7⟩
theorem lgc_eq (x y : Int64) : (lg_cmp x y = 0) = (x = y) := by
  obtain ⟨p1, p2, p3, p4, p5, p6, p7, p8, p9⟩ := lgc_1
  unfold lg_cmp
  apply propext
  split
  · next h =>
    rw [gt_iff_lt, Int64.lt_iff_toInt_lt] at h
    rw [← Int64.toInt_inj]
    exact ⟨fun z => absurd z p2, fun z => by omega⟩
  · next h =>
    split
    · next h2 => exact ⟨fun _ => h2, fun _ => rfl⟩
    · next h2 => exact ⟨fun z => absurd z p8, fun z => absurd z h2⟩
theorem lgc_le (x y : Int64) : (lg_cmp x y ≤ 0) = (x ≤ y) := by
  obtain ⟨p1, p2, p3, p4, p5, p6, p7, p8, p9⟩ := lgc_1
  unfold lg_cmp
  apply propext
  rw [Int64.le_iff_toInt_le]
  split
  · next h =>
    rw [gt_iff_lt, Int64.lt_iff_toInt_lt] at h
    exact ⟨fun z => absurd z p3, fun z => by omega⟩
  · next h =>
    rw [gt_iff_lt, Int64.lt_iff_toInt_lt] at h
    split
    · next h2 =>
      rw [h2]
      exact ⟨fun z => by omega, fun z => p6⟩
    · next h2 =>
      exact ⟨fun z => by omega, fun z => p9⟩
section YR
variable {k pc nc ns : Nat} {ls : xLs} {st : List Value} {h : yM}
theorem ygo {i : Instr} {len pc' : Nat} {ls' : xLs} {st' : List Value} {h' : yM} {nc' ns' : Nat} (hd : decode (xmb k) pc = .ok (i, len)) (ha : yAct k pc i len ls st h nc ns = yGo pc' ls' st' h' nc' ns') : yX k pc ls st h nc ns = yX k pc' ls' st' h' nc' ns' := by
  rw [yX_eq]
  unfold yF
  rw [hd]
  show yK yX k (yAct k pc i len ls st h nc ns) = _
  rw [ha]
  rfl
theorem yret {i : Instr} {len : Nat} {r : yRes} (hd : decode (xmb k) pc = .ok (i, len)) (ha : yAct k pc i len ls st h nc ns = some (.inr (.inl r))) : yX k pc ls st h nc ns = some r := by
  rw [yX_eq]
  unfold yF
  rw [hd]
  show yK yX k (yAct k pc i len ls st h nc ns) = _
  rw [ha]
  rfl
theorem ybind {α : Type} {i : Instr} {len : Nat} {o : Option α} {f : α → yJ} (hd : decode (xmb k) pc = .ok (i, len)) (ha : yAct k pc i len ls st h nc ns = o.bind fun v => some (.inl (f v))) : yX k pc ls st h nc ns = o.bind fun v => yX k (f v).1 (f v).2.1 (f v).2.2.1 (f v).2.2.2.1 (f v).2.2.2.2.1 (f v).2.2.2.2.2 := by
  rw [yX_eq]
  unfold yF
  rw [hd]
  show yK yX k (yAct k pc i len ls st h nc ns) = _
  rw [ha]
  cases o <;> rfl
theorem yq1 {a : Nat} {x : yA} : yq a a x = x := if_pos rfl
theorem y_ldc {ix : Nat} {v : Int32} (hd : decode (xmb k) pc = .ok (.ldc ix, 2)) (hv : xcI (xmk k) ix = some v) : yX k pc ls st h nc ns = yX k (pc + 2) ls (.int v :: st) h nc ns :=
  ygo hd (by show yq 2 2 ((xcI (xmk k) ix).bind _) = _; rw [hv]; rfl)
theorem y_ldc_w {ix : Nat} {v : Int32} (hd : decode (xmb k) pc = .ok (.ldc_w ix, 3)) (hv : xcI (xmk k) ix = some v) : yX k pc ls st h nc ns = yX k (pc + 3) ls (.int v :: st) h nc ns :=
  ygo hd (by show yq 3 3 ((xcI (xmk k) ix).bind _) = _; rw [hv]; rfl)
theorem y_ldc2_w {ix : Nat} {v : Int64} (hd : decode (xmb k) pc = .ok (.ldc2_w ix, 3)) (hv : xcL (xmk k) ix = some v) : yX k pc ls st h nc ns = yX k (pc + 3) ls (.long v :: st) h nc ns :=
  ygo hd (by show yq 3 3 ((xcL (xmk k) ix).bind _) = _; rw [hv]; rfl)
theorem y_iconst {n : Int} {v : Int32} (hd : decode (xmb k) pc = .ok (.iconst n, 1)) (hv : Int32.ofInt n = v) : yX k pc ls st h nc ns = yX k (pc + 1) ls (.int v :: st) h nc ns := by
  subst hv; exact ygo hd rfl
theorem y_bipush {n : Int} {v : Int32} (hd : decode (xmb k) pc = .ok (.bipush n, 2)) (hv : (Int8.ofInt n).toInt32 = v) : yX k pc ls st h nc ns = yX k (pc + 2) ls (.int v :: st) h nc ns := by
  subst hv; exact ygo hd rfl
theorem y_sipush {n : Int} {v : Int32} (hd : decode (xmb k) pc = .ok (.sipush n, 3)) (hv : (Int16.ofInt n).toInt32 = v) : yX k pc ls st h nc ns = yX k (pc + 3) ls (.int v :: st) h nc ns := by
  subst hv; exact ygo hd rfl
theorem y_lconst {n : Fin 2} {v : Int64} (hd : decode (xmb k) pc = .ok (.lconst n, 1)) (hv : Int64.ofNat (n : Nat) = v) : yX k pc ls st h nc ns = yX k (pc + 1) ls (.long v :: st) h nc ns := by
  subst hv; exact ygo hd rfl
theorem y_iinc {i : Nat} {n : Int} {v x : Int32} {ls' : xLs} (hd : decode (xmb k) pc = .ok (.iinc i n, 3)) (hv : Int32.ofInt n = v) (hl : xlI ls i = some x) (hi : i < ls.length) (hs : xS1 ls i (.int (x + v)) = ls') : yX k pc ls st h nc ns = yX k (pc + 3) ls' st h nc ns := by
  subst hv
  subst hs
  exact ygo hd (by show yq 3 3 ((xlI ls i).bind _) = _; rw [hl]; show yq 3 3 (if i < ls.length then _ else _) = _; rw [if_pos hi]; rfl)
theorem y_idiv {x y : Int32} (hd : decode (xmb k) pc = .ok (.idiv, 1)) : yX k pc ls (.int y :: .int x :: st) h nc ns = if y = 0 then none else yX k (pc + 1) ls (.int (x / y) :: st) h nc ns := by
  rw [yX_eq]
  unfold yF
  rw [hd]
  show yK yX k (if y = 0 then none else yGo (pc + 1) ls (.int (x / y) :: st) h nc ns) = _
  split <;> rfl
theorem y_irem {x y : Int32} (hd : decode (xmb k) pc = .ok (.irem, 1)) : yX k pc ls (.int y :: .int x :: st) h nc ns = if y = 0 then none else yX k (pc + 1) ls (.int (x - x / y * y) :: st) h nc ns := by
  rw [yX_eq]
  unfold yF
  rw [hd]
  show yK yX k (if y = 0 then none else yGo (pc + 1) ls (.int (x - x / y * y) :: st) h nc ns) = _
  split <;> rfl
theorem y_ldiv {x y : Int64} (hd : decode (xmb k) pc = .ok (.ldiv, 1)) : yX k pc ls (.long y :: .long x :: st) h nc ns = if y = 0 then none else yX k (pc + 1) ls (.long (x / y) :: st) h nc ns := by
  rw [yX_eq]
  unfold yF
  rw [hd]
  show yK yX k (if y = 0 then none else yGo (pc + 1) ls (.long (x / y) :: st) h nc ns) = _
  split <;> rfl
theorem y_lrem {x y : Int64} (hd : decode (xmb k) pc = .ok (.lrem, 1)) : yX k pc ls (.long y :: .long x :: st) h nc ns = if y = 0 then none else yX k (pc + 1) ls (.long (x - x / y * y) :: st) h nc ns := by
  rw [yX_eq]
  unfold yF
  rw [hd]
  show yK yX k (if y = 0 then none else yGo (pc + 1) ls (.long (x - x / y * y) :: st) h nc ns) = _
  split <;> rfl
theorem y_goto {off : Int} {t : Nat} (hd : decode (xmb k) pc = .ok (.goto off, 3)) (ht : (pc : Int) + off = (t : Int)) : yX k pc ls st h nc ns = yX k t ls st h nc ns :=
  ygo hd (by show yq 3 3 (if 0 ≤ (pc : Int) + off then _ else _) = _; rw [ht, if_pos (Int.natCast_nonneg t), Int.toNat_natCast]; rfl)
theorem y_icmp {cd : Jvm.ClassFile.Cond} {off : Int} {t : Nat} {x y : Int32} (hd : decode (xmb k) pc = .ok (.if_icmp cd off, 3)) (ht : (pc : Int) + off = (t : Int)) : yX k pc ls (.int y :: .int x :: st) h nc ns = if xCm cd x y = true then yX k t ls st h nc ns else yX k (pc + 3) ls st h nc ns := by
  rw [yX_eq]
  unfold yF
  rw [hd]
  show yK yX k (yBr pc off (xCm cd x y) ls st h nc ns) = _
  unfold yBr
  rw [ht, if_pos (Int.natCast_nonneg t), Int.toNat_natCast]
  split <;> rfl
theorem y_ifc {cd : Jvm.ClassFile.Cond} {off : Int} {t : Nat} {x : Int32} (hd : decode (xmb k) pc = .ok (.ifCond cd off, 3)) (ht : (pc : Int) + off = (t : Int)) : yX k pc ls (.int x :: st) h nc ns = if xCm cd x 0 = true then yX k t ls st h nc ns else yX k (pc + 3) ls st h nc ns := by
  rw [yX_eq]
  unfold yF
  rw [hd]
  show yK yX k (yBr pc off (xCm cd x 0) ls st h nc ns) = _
  unfold yBr
  rw [ht, if_pos (Int.natCast_nonneg t), Int.toNat_natCast]
  split <;> rfl
theorem y_icmp_eq {off : Int} {t : Nat} {x y : Int32} (hd : decode (xmb k) pc = .ok (.if_icmp .eq off, 3)) (ht : (pc : Int) + off = (t : Int)) : yX k pc ls (.int y :: .int x :: st) h nc ns = if x = y then yX k t ls st h nc ns else yX k (pc + 3) ls st h nc ns := by rw [y_icmp hd ht]; simp only [xCm, decide_eq_true_eq]
theorem y_icmp_ne {off : Int} {t : Nat} {x y : Int32} (hd : decode (xmb k) pc = .ok (.if_icmp .ne off, 3)) (ht : (pc : Int) + off = (t : Int)) : yX k pc ls (.int y :: .int x :: st) h nc ns = if x = y then yX k (pc + 3) ls st h nc ns else yX k t ls st h nc ns := by
  rw [y_icmp hd ht]
  by_cases e : x = y <;> simp [xCm, e]
theorem y_icmp_lt {off : Int} {t : Nat} {x y : Int32} (hd : decode (xmb k) pc = .ok (.if_icmp .lt off, 3)) (ht : (pc : Int) + off = (t : Int)) : yX k pc ls (.int y :: .int x :: st) h nc ns = if x < y then yX k t ls st h nc ns else yX k (pc + 3) ls st h nc ns := by rw [y_icmp hd ht]; simp only [xCm, decide_eq_true_eq]
theorem y_icmp_ge {off : Int} {t : Nat} {x y : Int32} (hd : decode (xmb k) pc = .ok (.if_icmp .ge off, 3)) (ht : (pc : Int) + off = (t : Int)) : yX k pc ls (.int y :: .int x :: st) h nc ns = if x < y then yX k (pc + 3) ls st h nc ns else yX k t ls st h nc ns := by
  rw [y_icmp hd ht]
  by_cases e : x < y
  · simp [xCm, e, Int32.not_le.mpr e]
  · simp [xCm, e, Int32.not_lt.mp e]
theorem y_icmp_gt {off : Int} {t : Nat} {x y : Int32} (hd : decode (xmb k) pc = .ok (.if_icmp .gt off, 3)) (ht : (pc : Int) + off = (t : Int)) : yX k pc ls (.int y :: .int x :: st) h nc ns = if x ≤ y then yX k (pc + 3) ls st h nc ns else yX k t ls st h nc ns := by
  rw [y_icmp hd ht]
  by_cases e : x ≤ y
  · simp [xCm, e, Int32.not_lt.mpr e]
  · simp [xCm, e, Int32.not_le.mp e]
theorem y_icmp_le {off : Int} {t : Nat} {x y : Int32} (hd : decode (xmb k) pc = .ok (.if_icmp .le off, 3)) (ht : (pc : Int) + off = (t : Int)) : yX k pc ls (.int y :: .int x :: st) h nc ns = if x ≤ y then yX k t ls st h nc ns else yX k (pc + 3) ls st h nc ns := by rw [y_icmp hd ht]; simp only [xCm, decide_eq_true_eq]
theorem y_if_eq {off : Int} {t : Nat} {x : Int32} (hd : decode (xmb k) pc = .ok (.ifCond .eq off, 3)) (ht : (pc : Int) + off = (t : Int)) : yX k pc ls (.int x :: st) h nc ns = if x = 0 then yX k t ls st h nc ns else yX k (pc + 3) ls st h nc ns := by rw [y_ifc hd ht]; simp only [xCm, decide_eq_true_eq]
theorem y_if_ne {off : Int} {t : Nat} {x : Int32} (hd : decode (xmb k) pc = .ok (.ifCond .ne off, 3)) (ht : (pc : Int) + off = (t : Int)) : yX k pc ls (.int x :: st) h nc ns = if x = 0 then yX k (pc + 3) ls st h nc ns else yX k t ls st h nc ns := by
  rw [y_ifc hd ht]
  by_cases e : x = 0 <;> simp [xCm, e]
theorem y_if_lt {off : Int} {t : Nat} {x : Int32} (hd : decode (xmb k) pc = .ok (.ifCond .lt off, 3)) (ht : (pc : Int) + off = (t : Int)) : yX k pc ls (.int x :: st) h nc ns = if x < 0 then yX k t ls st h nc ns else yX k (pc + 3) ls st h nc ns := by rw [y_ifc hd ht]; simp only [xCm, decide_eq_true_eq]
theorem y_if_ge {off : Int} {t : Nat} {x : Int32} (hd : decode (xmb k) pc = .ok (.ifCond .ge off, 3)) (ht : (pc : Int) + off = (t : Int)) : yX k pc ls (.int x :: st) h nc ns = if x < 0 then yX k (pc + 3) ls st h nc ns else yX k t ls st h nc ns := by
  rw [y_ifc hd ht]
  by_cases e : x < 0
  · simp [xCm, e, Int32.not_le.mpr e]
  · simp [xCm, e, Int32.not_lt.mp e]
theorem y_if_gt {off : Int} {t : Nat} {x : Int32} (hd : decode (xmb k) pc = .ok (.ifCond .gt off, 3)) (ht : (pc : Int) + off = (t : Int)) : yX k pc ls (.int x :: st) h nc ns = if x ≤ 0 then yX k (pc + 3) ls st h nc ns else yX k t ls st h nc ns := by
  rw [y_ifc hd ht]
  by_cases e : x ≤ 0
  · simp [xCm, e, Int32.not_lt.mpr e]
  · simp [xCm, e, Int32.not_le.mp e]
theorem y_if_le {off : Int} {t : Nat} {x : Int32} (hd : decode (xmb k) pc = .ok (.ifCond .le off, 3)) (ht : (pc : Int) + off = (t : Int)) : yX k pc ls (.int x :: st) h nc ns = if x ≤ 0 then yX k t ls st h nc ns else yX k (pc + 3) ls st h nc ns := by rw [y_ifc hd ht]; simp only [xCm, decide_eq_true_eq]
theorem y_tsw {dflt lo hi : Int} {offs : Array Int} {len d : Nat} {ts : List Nat} {x : Int32} (hd : decode (xmb k) pc = .ok (.tableswitch dflt lo hi offs, len)) (hok : decide (offs.toList.map (fun o => (pc : Int) + o) = ts.map (fun (t : Nat) => (t : Int)) ∧ (pc : Int) + dflt = (d : Int) ∧ hi = lo + ts.length - 1 ∧ -2147483648 ≤ lo ∧ lo + ts.length ≤ 2147483647) = true) : yX k pc ls (.int x :: st) h nc ns = yX k (xTs lo ts d x) ls st h nc ns := by
  obtain ⟨h1, h2, h3, h4, h5⟩ := of_decide_eq_true hok
  refine ygo hd ?_
  show (xSw lo hi dflt offs x).bind (fun off => yJm pc off ls st h nc ns) = _
  rw [xTs_in ts lo d x h4 h5]
  unfold xSw
  by_cases c : x.toInt < lo ∨ hi < x.toInt
  · rw [if_pos c, if_pos (by omega)]
    show (if 0 ≤ (pc : Int) + dflt then _ else _) = _
    rw [h2, if_pos (Int.natCast_nonneg d), Int.toNat_natCast]
  · rw [if_neg c, if_neg (by omega)]
    have hl : (x.toInt - lo).toNat < ts.length := by omega
    have hl2 : offs.toList.length = ts.length := by have := congrArg List.length h1; simpa using this
    have e1 : (offs.toList.map (fun o => (pc : Int) + o))[(x.toInt - lo).toNat]? = (ts.map (fun (t : Nat) => (t : Int)))[(x.toInt - lo).toNat]? := by rw [h1]
    rw [List.getElem?_map, List.getElem?_map] at e1
    have e2 : offs[(x.toInt - lo).toNat]? = offs.toList[(x.toInt - lo).toNat]? := by rw [Array.getElem?_toList]
    rw [e2]
    cases h6 : offs.toList[(x.toInt - lo).toNat]? with
    | none => rw [List.getElem?_eq_none_iff] at h6; omega
    | some off =>
      rw [h6] at e1
      cases h7 : ts[(x.toInt - lo).toNat]? with
      | none => rw [List.getElem?_eq_none_iff] at h7; omega
      | some t =>
        rw [h7] at e1
        have e3 : (pc : Int) + off = (t : Int) := by simpa using e1
        show (if 0 ≤ (pc : Int) + off then _ else _) = yGo t ls st h nc ns
        rw [e3, if_pos (Int.natCast_nonneg t), Int.toNat_natCast]
theorem y_lsw {dflt : Int} {prs : Array (Int × Int)} {len d : Nat} {ps : List (Int32 × Nat)} {x : Int32} (hd : decode (xmb k) pc = .ok (.lookupswitch dflt prs, len)) (hs : (prs.toList.zip (prs.toList.drop 1)).all (fun (a, next) => a.1 < next.1) = true) (ho : ∀ x : Int32, (pc : Int) + Op.lookupswitch.offset prs.toList dflt x.toInt = (xLs2 ps d x : Int)) : yX k pc ls (.int x :: st) h nc ns = yX k (xLs2 ps d x) ls st h nc ns := by
  refine ygo hd ?_
  show (if _ then yJm pc (Op.lookupswitch.offset prs.toList dflt x.toInt) ls st h nc ns else none) = _
  rw [if_pos hs]
  show (if 0 ≤ (pc : Int) + _ then _ else _) = _
  rw [ho x, if_pos (Int.natCast_nonneg _), Int.toNat_natCast]

theorem y_obji {ix b : Nat} {w : Nat × Nat × Nat} {st : List Value} (hd : decode (xmb k) pc = .ok (.invokespecial ix, 3)) (hr : xcR (xmk k) ix = some (xmk k, ix, 0, 5, w)) (hl : st.length ≤ 4) (hck : decide (1 ≤ xmf k ∧ 20 ≤ xmo k) = true) : yX k pc ls (.ref b :: st) h nc ns = yX k (pc + 3) ls st h nc ns := by
  obtain ⟨c1, c2⟩ := of_decide_eq_true hck
  refine ygo hd ?_
  show yq 3 3 ((xcR (xmk k) ix).bind fun r => yInv k pc r 2 ls (.ref b :: st) h nc ns) = _
  rw [hr, yq1]
  show (if st.length ≤ 4 ∧ 1 ≤ xmf k ∧ 20 ≤ xmo k then _ else _) = _
  rw [if_pos ⟨hl, c1, c2⟩]
theorem y_mmax {ix : Nat} {w : Nat × Nat × Nat} {x y : Int32} (hd : decode (xmb k) pc = .ok (.invokestatic ix, 3)) (hr : xcR (xmk k) ix = some (xmk k, ix, 0, 8, w)) (hl : st.length ≤ 4) (hck : decide (1 ≤ xmf k ∧ 21 ≤ xmo k) = true) : yX k pc ls (.int y :: .int x :: st) h nc ns = yX k (pc + 3) ls (.int (if x < y then y else x) :: st) h nc ns := by
  obtain ⟨c1, c2⟩ := of_decide_eq_true hck
  refine ygo hd ?_
  show yq 3 3 ((xcR (xmk k) ix).bind fun r => yInv k pc r 1 ls (.int y :: .int x :: st) h nc ns) = _
  rw [hr, yq1]
  show (if st.length ≤ 4 ∧ 1 ≤ xmf k ∧ 21 ≤ xmo k then _ else _) = _
  rw [if_pos ⟨hl, c1, c2⟩]
theorem y_mmin {ix : Nat} {w : Nat × Nat × Nat} {x y : Int32} (hd : decode (xmb k) pc = .ok (.invokestatic ix, 3)) (hr : xcR (xmk k) ix = some (xmk k, ix, 0, 9, w)) (hl : st.length ≤ 4) (hck : decide (1 ≤ xmf k ∧ 21 ≤ xmo k) = true) : yX k pc ls (.int y :: .int x :: st) h nc ns = yX k (pc + 3) ls (.int (if y < x then y else x) :: st) h nc ns := by
  obtain ⟨c1, c2⟩ := of_decide_eq_true hck
  refine ygo hd ?_
  show yq 3 3 ((xcR (xmk k) ix).bind fun r => yInv k pc r 1 ls (.int y :: .int x :: st) h nc ns) = _
  rw [hr, yq1]
  show (if st.length ≤ 4 ∧ 1 ≤ xmf k ∧ 21 ≤ xmo k then _ else _) = _
  rw [if_pos ⟨hl, c1, c2⟩]
theorem y_mabs {ix : Nat} {w : Nat × Nat × Nat} {x : Int32} (hd : decode (xmb k) pc = .ok (.invokestatic ix, 3)) (hr : xcR (xmk k) ix = some (xmk k, ix, 0, 10, w)) (hl : st.length ≤ 4) (hck : decide (1 ≤ xmf k ∧ 21 ≤ xmo k) = true) : yX k pc ls (.int x :: st) h nc ns = yX k (pc + 3) ls (.int (if 0 ≤ x then x else 0 - x) :: st) h nc ns := by
  obtain ⟨c1, c2⟩ := of_decide_eq_true hck
  refine ygo hd ?_
  show yq 3 3 ((xcR (xmk k) ix).bind fun r => yInv k pc r 1 ls (.int x :: st) h nc ns) = _
  rw [hr, yq1]
  show (if st.length ≤ 4 ∧ 1 ≤ xmf k ∧ 21 ≤ xmo k then _ else _) = _
  rw [if_pos ⟨hl, c1, c2⟩]

theorem y_ireti {x : Int32} (hd : decode (xmb k) pc = .ok (.ireturn, 1)) (hr : xmr k = some .int) : yX k pc ls [.int x] h nc ns = some (.inl (some (.int x)), h) :=
  yret hd (by show (if decide (xmr k = some .int ∨ _) = true then _ else _) = _; rw [if_pos (decide_eq_true (Or.inl hr))])
theorem y_iretz {x : Int32} (hd : decode (xmb k) pc = .ok (.ireturn, 1)) (hr : xmr k = some .boolean) : yX k pc ls [.int x] h nc ns = if x = 0 ∨ x = 1 then some (.inl (some (.int x)), h) else none := by
  rw [yX_eq]
  unfold yF
  rw [hd]
  show yK yX k (if decide (xmr k = some .int ∨ (xmr k = some .boolean ∧ (x = 0 ∨ x = 1))) = true then _ else _) = _
  by_cases c : x = 0 ∨ x = 1
  · rw [if_pos c, if_pos (decide_eq_true (Or.inr ⟨hr, c⟩))]
    rfl
  · rw [if_neg c, if_neg]
    · rfl
    · intro z
      rcases of_decide_eq_true z with z | z
      · rw [hr] at z; cases z
      · exact c z.2
theorem y_lret {x : Int64} (hd : decode (xmb k) pc = .ok (.lreturn, 1)) (hr : xmr k = some .long) : yX k pc ls [.long x] h nc ns = some (.inl (some (.long x)), h) :=
  yret hd (by show (if decide (xmr k = some .long) = true then _ else _) = _; rw [if_pos (decide_eq_true hr)])
theorem y_ret (hd : decode (xmb k) pc = .ok (.return_, 1)) (hr : xmr k = none) : yX k pc ls [] h nc ns = some (.inl none, h) :=
  yret hd (by show (if decide (xmr k = none) = true then _ else _) = _; rw [if_pos (decide_eq_true hr)])

theorem y_iload {n : Nat} {x : Int32} (hd : decode (xmb k) pc = .ok (.iload n, 2)) (hl : xlI ls n = some x) : yX k pc ls st h nc ns = yX k (pc + 2) ls (.int x :: st) h nc ns :=
  ygo hd (by show yq 2 2 ((xlI ls n).bind _) = _; rw [hl]; rfl)
theorem y_iload_n {n : Fin 4} {x : Int32} (hd : decode (xmb k) pc = .ok (.iload_n n, 1)) (hl : xlI ls (n : Nat) = some x) : yX k pc ls st h nc ns = yX k (pc + 1) ls (.int x :: st) h nc ns :=
  ygo hd (by show yq 1 1 ((xlI ls (n : Nat)).bind _) = _; rw [hl]; rfl)
theorem y_lload {n : Nat} {x : Int64} (hd : decode (xmb k) pc = .ok (.lload n, 2)) (hl : xlL ls n = some x) : yX k pc ls st h nc ns = yX k (pc + 2) ls (.long x :: st) h nc ns :=
  ygo hd (by show yq 2 2 ((xlL ls n).bind _) = _; rw [hl]; rfl)
theorem y_lload_n {n : Fin 4} {x : Int64} (hd : decode (xmb k) pc = .ok (.lload_n n, 1)) (hl : xlL ls (n : Nat) = some x) : yX k pc ls st h nc ns = yX k (pc + 1) ls (.long x :: st) h nc ns :=
  ygo hd (by show yq 1 1 ((xlL ls (n : Nat)).bind _) = _; rw [hl]; rfl)
theorem y_aload {n x : Nat} (hd : decode (xmb k) pc = .ok (.aload n, 2)) (hl : xlR ls n = some x) : yX k pc ls st h nc ns = yX k (pc + 2) ls (.ref x :: st) h nc ns :=
  ygo hd (by show yq 2 2 ((xlR ls n).bind _) = _; rw [hl]; rfl)
theorem y_aload_n {n : Fin 4} {x : Nat} (hd : decode (xmb k) pc = .ok (.aload_n n, 1)) (hl : xlR ls (n : Nat) = some x) : yX k pc ls st h nc ns = yX k (pc + 1) ls (.ref x :: st) h nc ns :=
  ygo hd (by show yq 1 1 ((xlR ls (n : Nat)).bind _) = _; rw [hl]; rfl)
theorem y_istore {n : Nat} {x : Int32} {ls' : xLs} (hd : decode (xmb k) pc = .ok (.istore n, 2)) (hi : decide (n < ls.length) = true) (hs : xS1 ls n (.int x) = ls') : yX k pc ls (.int x :: st) h nc ns = yX k (pc + 2) ls' st h nc ns := by
  subst hs
  exact ygo hd (by show yq 2 2 (if n < ls.length then _ else _) = _; rw [if_pos (of_decide_eq_true hi)]; rfl)
theorem y_istore_n {n : Fin 4} {x : Int32} {ls' : xLs} (hd : decode (xmb k) pc = .ok (.istore_n n, 1)) (hi : decide ((n : Nat) < ls.length) = true) (hs : xS1 ls (n : Nat) (.int x) = ls') : yX k pc ls (.int x :: st) h nc ns = yX k (pc + 1) ls' st h nc ns := by
  subst hs
  exact ygo hd (by show yq 1 1 (if (n : Nat) < ls.length then _ else _) = _; rw [if_pos (of_decide_eq_true hi)]; rfl)
theorem y_lstore {n : Nat} {x : Int64} {ls' : xLs} (hd : decode (xmb k) pc = .ok (.lstore n, 2)) (hi : decide (n + 1 < ls.length) = true) (hs : xS2 ls n (.long x) = ls') : yX k pc ls (.long x :: st) h nc ns = yX k (pc + 2) ls' st h nc ns := by
  subst hs
  exact ygo hd (by show yq 2 2 (if n + 1 < ls.length then _ else _) = _; rw [if_pos (of_decide_eq_true hi)]; rfl)
theorem y_lstore_n {n : Fin 4} {x : Int64} {ls' : xLs} (hd : decode (xmb k) pc = .ok (.lstore_n n, 1)) (hi : decide ((n : Nat) + 1 < ls.length) = true) (hs : xS2 ls (n : Nat) (.long x) = ls') : yX k pc ls (.long x :: st) h nc ns = yX k (pc + 1) ls' st h nc ns := by
  subst hs
  exact ygo hd (by show yq 1 1 (if (n : Nat) + 1 < ls.length then _ else _) = _; rw [if_pos (of_decide_eq_true hi)]; rfl)
theorem y_iadd {x y : Int32} (hd : decode (xmb k) pc = .ok (.iadd, 1)) : yX k pc ls (.int y :: .int x :: st) h nc ns = yX k (pc + 1) ls (.int (x + y) :: st) h nc ns := ygo hd rfl
theorem y_isub {x y : Int32} (hd : decode (xmb k) pc = .ok (.isub, 1)) : yX k pc ls (.int y :: .int x :: st) h nc ns = yX k (pc + 1) ls (.int (x - y) :: st) h nc ns := ygo hd rfl
theorem y_imul {x y : Int32} (hd : decode (xmb k) pc = .ok (.imul, 1)) : yX k pc ls (.int y :: .int x :: st) h nc ns = yX k (pc + 1) ls (.int (x * y) :: st) h nc ns := ygo hd rfl
theorem y_ishl {x y : Int32} (hd : decode (xmb k) pc = .ok (.ishl, 1)) : yX k pc ls (.int y :: .int x :: st) h nc ns = yX k (pc + 1) ls (.int (x <<< (y &&& 31)) :: st) h nc ns := ygo hd rfl
theorem y_ishr {x y : Int32} (hd : decode (xmb k) pc = .ok (.ishr, 1)) : yX k pc ls (.int y :: .int x :: st) h nc ns = yX k (pc + 1) ls (.int (x >>> (y &&& 31)) :: st) h nc ns := ygo hd rfl
theorem y_iushr {x y : Int32} (hd : decode (xmb k) pc = .ok (.iushr, 1)) : yX k pc ls (.int y :: .int x :: st) h nc ns = yX k (pc + 1) ls (.int ((x.toUInt32 >>> (y.toUInt32 &&& Int32.toUInt32 31)).toInt32) :: st) h nc ns := ygo hd rfl
theorem y_iand {x y : Int32} (hd : decode (xmb k) pc = .ok (.iand, 1)) : yX k pc ls (.int y :: .int x :: st) h nc ns = yX k (pc + 1) ls (.int (x &&& y) :: st) h nc ns := ygo hd rfl
theorem y_ior {x y : Int32} (hd : decode (xmb k) pc = .ok (.ior, 1)) : yX k pc ls (.int y :: .int x :: st) h nc ns = yX k (pc + 1) ls (.int (x ||| y) :: st) h nc ns := ygo hd rfl
theorem y_ixor {x y : Int32} (hd : decode (xmb k) pc = .ok (.ixor, 1)) : yX k pc ls (.int y :: .int x :: st) h nc ns = yX k (pc + 1) ls (.int (x ^^^ y) :: st) h nc ns := ygo hd rfl
theorem y_ladd {x y : Int64} (hd : decode (xmb k) pc = .ok (.ladd, 1)) : yX k pc ls (.long y :: .long x :: st) h nc ns = yX k (pc + 1) ls (.long (x + y) :: st) h nc ns := ygo hd rfl
theorem y_lsub {x y : Int64} (hd : decode (xmb k) pc = .ok (.lsub, 1)) : yX k pc ls (.long y :: .long x :: st) h nc ns = yX k (pc + 1) ls (.long (x - y) :: st) h nc ns := ygo hd rfl
theorem y_lmul {x y : Int64} (hd : decode (xmb k) pc = .ok (.lmul, 1)) : yX k pc ls (.long y :: .long x :: st) h nc ns = yX k (pc + 1) ls (.long (x * y) :: st) h nc ns := ygo hd rfl
theorem y_land {x y : Int64} (hd : decode (xmb k) pc = .ok (.land, 1)) : yX k pc ls (.long y :: .long x :: st) h nc ns = yX k (pc + 1) ls (.long (x &&& y) :: st) h nc ns := ygo hd rfl
theorem y_lor {x y : Int64} (hd : decode (xmb k) pc = .ok (.lor, 1)) : yX k pc ls (.long y :: .long x :: st) h nc ns = yX k (pc + 1) ls (.long (x ||| y) :: st) h nc ns := ygo hd rfl
theorem y_lshl {x : Int64} {y : Int32} (hd : decode (xmb k) pc = .ok (.lshl, 1)) : yX k pc ls (.int y :: .long x :: st) h nc ns = yX k (pc + 1) ls (.long (x <<< (y.toInt64 &&& 63)) :: st) h nc ns := ygo hd rfl
theorem y_lshr {x : Int64} {y : Int32} (hd : decode (xmb k) pc = .ok (.lshr, 1)) : yX k pc ls (.int y :: .long x :: st) h nc ns = yX k (pc + 1) ls (.long (x >>> (y.toInt64 &&& 63)) :: st) h nc ns := ygo hd rfl
theorem y_lushr {x : Int64} {y : Int32} (hd : decode (xmb k) pc = .ok (.lushr, 1)) : yX k pc ls (.int y :: .long x :: st) h nc ns = yX k (pc + 1) ls (.long (x.toUInt64 >>> (y.toInt64.toUInt64 &&& Int64.toUInt64 63)).toInt64 :: st) h nc ns := ygo hd rfl
theorem y_lcmp {x y : Int64} (hd : decode (xmb k) pc = .ok (.lcmp, 1)) : yX k pc ls (.long y :: .long x :: st) h nc ns = yX k (pc + 1) ls (.int (lg_cmp x y) :: st) h nc ns := ygo hd rfl
theorem y_ineg {x : Int32} (hd : decode (xmb k) pc = .ok (.ineg, 1)) : yX k pc ls (.int x :: st) h nc ns = yX k (pc + 1) ls (.int (-x) :: st) h nc ns := ygo hd rfl
theorem y_i2l {x : Int32} (hd : decode (xmb k) pc = .ok (.i2l, 1)) : yX k pc ls (.int x :: st) h nc ns = yX k (pc + 1) ls (.long x.toInt64 :: st) h nc ns := ygo hd rfl
theorem y_i2c {x : Int32} (hd : decode (xmb k) pc = .ok (.i2c, 1)) : yX k pc ls (.int x :: st) h nc ns = yX k (pc + 1) ls (.int (x.toUInt32 % 65536).toInt32 :: st) h nc ns := ygo hd rfl
theorem y_l2i {x : Int64} (hd : decode (xmb k) pc = .ok (.l2i, 1)) : yX k pc ls (.long x :: st) h nc ns = yX k (pc + 1) ls (.int x.toInt32 :: st) h nc ns := ygo hd rfl
theorem y_dup {v : Value} (hd : decode (xmb k) pc = .ok (.dup, 1)) (hv : xc1 v = true) : yX k pc ls (v :: st) h nc ns = yX k (pc + 1) ls (v :: v :: st) h nc ns :=
  ygo hd (by show yq 1 1 ((if xc1 v then some (v, st) else none).bind _) = _; rw [if_pos hv]; rfl)
theorem y_dup_x1 {v w : Value} (hd : decode (xmb k) pc = .ok (.dup_x1, 1)) (hv : (xc1 v && xc1 w) = true) : yX k pc ls (v :: w :: st) h nc ns = yX k (pc + 1) ls (v :: w :: v :: st) h nc ns :=
  ygo hd (by show yq 1 1 ((if xc1 v && xc1 w then some (v, w, st) else none).bind _) = _; rw [if_pos hv]; rfl)
theorem y_dup2 {v w : Value} (hd : decode (xmb k) pc = .ok (.dup2, 1)) (hv : (xc1 v && xc1 w) = true) : yX k pc ls (v :: w :: st) h nc ns = yX k (pc + 1) ls (v :: w :: v :: w :: st) h nc ns :=
  ygo hd (by show yq 1 1 ((if xc1 v && xc1 w then some (v, w, st) else none).bind _) = _; rw [if_pos hv]; rfl)
theorem y_pop {v : Value} (hd : decode (xmb k) pc = .ok (.pop, 1)) (hv : xc1 v = true) : yX k pc ls (v :: st) h nc ns = yX k (pc + 1) ls st h nc ns :=
  ygo hd (by show yq 1 1 ((if xc1 v then some (v, st) else none).bind _) = _; rw [if_pos hv]; rfl)
theorem y_imod {x y : Int32} (hd : decode (xmb k) pc = .ok (.irem, 1)) : yX k pc ls (.int y :: .int x :: st) h nc ns = if y = 0 then none else yX k (pc + 1) ls (.int (x % y) :: st) h nc ns := by
  rw [y_irem hd, irem_mod]
theorem y_imodc {x y : Int32} (hd : decode (xmb k) pc = .ok (.irem, 1)) (hy : y ≠ 0) : yX k pc ls (.int y :: .int x :: st) h nc ns = yX k (pc + 1) ls (.int (x % y) :: st) h nc ns := by
  rw [y_imod hd, if_neg hy]
theorem y_idivc {x y : Int32} (hd : decode (xmb k) pc = .ok (.idiv, 1)) (hy : y ≠ 0) : yX k pc ls (.int y :: .int x :: st) h nc ns = yX k (pc + 1) ls (.int (x / y) :: st) h nc ns := by
  rw [y_idiv hd, if_neg hy]
theorem y_lmod {x y : Int64} (hd : decode (xmb k) pc = .ok (.lrem, 1)) : yX k pc ls (.long y :: .long x :: st) h nc ns = if y = 0 then none else yX k (pc + 1) ls (.long (x % y) :: st) h nc ns := by
  rw [y_lrem hd, lrem_mod]
theorem y_lmodc {x y : Int64} (hd : decode (xmb k) pc = .ok (.lrem, 1)) (hy : y ≠ 0) : yX k pc ls (.long y :: .long x :: st) h nc ns = yX k (pc + 1) ls (.long (x % y) :: st) h nc ns := by
  rw [y_lmod hd, if_neg hy]
theorem y_ldivc {x y : Int64} (hd : decode (xmb k) pc = .ok (.ldiv, 1)) (hy : y ≠ 0) : yX k pc ls (.long y :: .long x :: st) h nc ns = yX k (pc + 1) ls (.long (x / y) :: st) h nc ns := by
  rw [y_ldiv hd, if_neg hy]
-- branches on compared longs
theorem y_lif_eq {off : Int} {t : Nat} {x y : Int64} (hd : decode (xmb k) pc = .ok (.ifCond .eq off, 3)) (ht : (pc : Int) + off = (t : Int)) : yX k pc ls (.int (lg_cmp x y) :: st) h nc ns = if x = y then yX k t ls st h nc ns else yX k (pc + 3) ls st h nc ns := by
  rw [y_if_eq hd ht]; simp only [lgc_eq]
theorem y_lif_ne {off : Int} {t : Nat} {x y : Int64} (hd : decode (xmb k) pc = .ok (.ifCond .ne off, 3)) (ht : (pc : Int) + off = (t : Int)) : yX k pc ls (.int (lg_cmp x y) :: st) h nc ns = if x = y then yX k (pc + 3) ls st h nc ns else yX k t ls st h nc ns := by
  rw [y_if_ne hd ht]; simp only [lgc_eq]
theorem y_lif_lt {off : Int} {t : Nat} {x y : Int64} (hd : decode (xmb k) pc = .ok (.ifCond .lt off, 3)) (ht : (pc : Int) + off = (t : Int)) : yX k pc ls (.int (lg_cmp x y) :: st) h nc ns = if x < y then yX k t ls st h nc ns else yX k (pc + 3) ls st h nc ns := by
  rw [y_if_lt hd ht]; simp only [lgc_lt]
theorem y_lif_ge {off : Int} {t : Nat} {x y : Int64} (hd : decode (xmb k) pc = .ok (.ifCond .ge off, 3)) (ht : (pc : Int) + off = (t : Int)) : yX k pc ls (.int (lg_cmp x y) :: st) h nc ns = if x < y then yX k (pc + 3) ls st h nc ns else yX k t ls st h nc ns := by
  rw [y_if_ge hd ht]; simp only [lgc_lt]
theorem y_lif_gt {off : Int} {t : Nat} {x y : Int64} (hd : decode (xmb k) pc = .ok (.ifCond .gt off, 3)) (ht : (pc : Int) + off = (t : Int)) : yX k pc ls (.int (lg_cmp x y) :: st) h nc ns = if x ≤ y then yX k (pc + 3) ls st h nc ns else yX k t ls st h nc ns := by
  rw [y_if_gt hd ht]; simp only [lgc_le]
theorem y_lif_le {off : Int} {t : Nat} {x y : Int64} (hd : decode (xmb k) pc = .ok (.ifCond .le off, 3)) (ht : (pc : Int) + off = (t : Int)) : yX k pc ls (.int (lg_cmp x y) :: st) h nc ns = if x ≤ y then yX k t ls st h nc ns else yX k (pc + 3) ls st h nc ns := by
  rw [y_if_le hd ht]; simp only [lgc_le]
-- switches, case by case
theorem y_ts {lo lo' : Int} {t : Nat} {ts : List Nat} {d : Nat} {x c : Int32} (hc : Int32.ofInt lo = c) (hl : lo + 1 = lo') : yX k (xTs lo (t :: ts) d x) ls st h nc ns = if x = c then yX k t ls st h nc ns else yX k (xTs lo' ts d x) ls st h nc ns := by
  subst hc hl
  show yX k (if x = Int32.ofInt lo then t else xTs (lo + 1) ts d x) ls st h nc ns = _
  split <;> rfl
theorem y_tsn {lo : Int} {d : Nat} {x : Int32} : yX k (xTs lo [] d x) ls st h nc ns = yX k d ls st h nc ns := rfl
theorem y_ls {c : Int32} {t : Nat} {ps : List (Int32 × Nat)} {d : Nat} {x : Int32} : yX k (xLs2 ((c, t) :: ps) d x) ls st h nc ns = if x = c then yX k t ls st h nc ns else yX k (xLs2 ps d x) ls st h nc ns := by
  show yX k (if x = c then t else xLs2 ps d x) ls st h nc ns = _
  split <;> rfl
theorem y_lsn {d : Nat} {x : Int32} : yX k (xLs2 [] d x) ls st h nc ns = yX k d ls st h nc ns := rfl
-- the heap
theorem y_geti {ix a t i : Nat} (hd : decode (xmb k) pc = .ok (.getfield ix, 3)) (hf : xfR (xmk k) ix = some (t, i)) (hs : ySi a t i) : yX k pc ls (.ref a :: st) h nc ns = yX k (pc + 3) ls (.int (h a i) :: st) h nc ns := by
  refine ygo hd ?_
  show yq 3 3 ((xfR (xmk k) ix).bind _) = _
  rw [hf, yq1]
  show (if (ysh a).1 = 100 + t then ((ysh a).2.2[i]?).bind _ else none) = _
  rw [if_pos hs.1, hs.2]
  rfl
theorem y_getr {ix a t i r : Nat} (hd : decode (xmb k) pc = .ok (.getfield ix, 3)) (hf : xfR (xmk k) ix = some (t, i)) (hs : ySr a t i r) : yX k pc ls (.ref a :: st) h nc ns = yX k (pc + 3) ls (.ref r :: st) h nc ns := by
  refine ygo hd ?_
  show yq 3 3 ((xfR (xmk k) ix).bind _) = _
  rw [hf, yq1]
  show (if (ysh a).1 = 100 + t then ((ysh a).2.2[i]?).bind _ else none) = _
  rw [if_pos hs.1, hs.2]
  rfl
theorem y_puti {ix a t i : Nat} {x : Int32} (hd : decode (xmb k) pc = .ok (.putfield ix, 3)) (hf : xfR (xmk k) ix = some (t, i)) (hs : ySi a t i) (hok : (xfit (xty t i) (.int x) && !((xcT t).2.1 i).2.2.2) = true) : yX k pc ls (.int x :: .ref a :: st) h nc ns = yX k (pc + 3) ls st (yU h a i x) nc ns := by
  refine ygo hd ?_
  show yq 3 3 ((xfR (xmk k) ix).bind _) = _
  rw [hf, yq1]
  show (if (ysh a).1 = 100 + t ∧ (ysh a).2.2[i]? = some none ∧ (xfit (xty t i) (.int x) && !((xcT t).2.1 i).2.2.2) = true then _ else none) = _
  rw [if_pos ⟨hs.1, hs.2, hok⟩]
/-- a boolean field -/
theorem y_putz {ix a t i : Nat} {x : Int32} (hd : decode (xmb k) pc = .ok (.putfield ix, 3)) (hf : xfR (xmk k) ix = some (t, i)) (hs : ySi a t i) (hty : xty t i = .boolean) (hok : ((xcT t).2.1 i).2.2.2 = false) : yX k pc ls (.int x :: .ref a :: st) h nc ns = if x = 0 ∨ x = 1 then yX k (pc + 3) ls st (yU h a i x) nc ns else none := by
  rw [yX_eq]
  unfold yF
  rw [hd]
  show yK yX k (yq 3 3 ((xfR (xmk k) ix).bind _)) = _
  rw [hf, yq1]
  show yK yX k (if (ysh a).1 = 100 + t ∧ (ysh a).2.2[i]? = some none ∧ (xfit (xty t i) (.int x) && !((xcT t).2.1 i).2.2.2) = true then _ else none) = _
  have e : (xfit (xty t i) (.int x) && !((xcT t).2.1 i).2.2.2) = decide (x = 0 ∨ x = 1) := by
    rw [hty, hok]
    show (decide (x = 0 ∨ x = 1) && !false) = _
    rw [Bool.not_false, Bool.and_true]
  rw [e]
  by_cases c : x = 0 ∨ x = 1
  · rw [if_pos ⟨hs.1, hs.2, decide_eq_true c⟩, if_pos c]
    rfl
  · rw [if_neg (fun z => c (of_decide_eq_true z.2.2)), if_neg c]
    rfl
theorem y_gets {ix g : Nat} (hd : decode (xmb k) pc = .ok (.getstatic ix, 3)) (hf : xsR (xmk k) ix = some g) : yX k pc ls st h nc ns = yX k (pc + 3) ls (.ref g :: st) h nc ns :=
  ygo hd (by show yq 3 3 ((xsR (xmk k) ix).bind _) = _; rw [hf]; rfl)
theorem y_iald {a n : Nat} {i : Int32} (hd : decode (xmb k) pc = .ok (.iaload, 1)) (hs : ySa a 0 n) : yX k pc ls (.int i :: .ref a :: st) h nc ns = if yinB i n = true then yX k (pc + 1) ls (.int (h a (yx i)) :: st) h nc ns else none := by
  rw [yX_eq]
  unfold yF
  rw [hd]
  show yK yX k (if ((ysh a).1 = 0 ∨ (ysh a).1 = 10) ∧ xin i (yn h a (ysh a)) = true then yGo (pc + 1) ls (.int (yrd h a (yx i)) :: st) h nc ns else none) = _
  have h7 : 7 ≤ a := by
    have h1 := yT_lo a
    have h2 := hs.1
    omega
  have hn : yn h a (ysh a) = n := by unfold yn; rw [if_neg (by omega), hs.2]
  have hk : ((ysh a).1 = 0 ∨ (ysh a).1 = 10) := Or.inl hs.1
  rw [hn, xin_yin, yrd_7 h7]
  by_cases c : yinB i n = true
  · rw [if_pos c, if_pos ⟨hk, c⟩]
    rfl
  · rw [if_neg c, if_neg (fun z => c z.2)]
    rfl
theorem y_cald {a n : Nat} {i : Int32} (hd : decode (xmb k) pc = .ok (.caload, 1)) (hs : ySa a 1 n) : yX k pc ls (.int i :: .ref a :: st) h nc ns = if yinB i n = true then yX k (pc + 1) ls (.int (h a (yx i)) :: st) h nc ns else none := by
  rw [yX_eq]
  unfold yF
  rw [hd]
  show yK yX k (if ((ysh a).1 = 1 ∨ (ysh a).1 = 11) ∧ xin i (yn h a (ysh a)) = true then yGo (pc + 1) ls (.int (yrd h a (yx i)) :: st) h nc ns else none) = _
  have h7 : 7 ≤ a := by
    have h1 := yT_lo a
    have h2 := hs.1
    omega
  have hn : yn h a (ysh a) = n := by unfold yn; rw [if_neg (by omega), hs.2]
  have hk : ((ysh a).1 = 1 ∨ (ysh a).1 = 11) := Or.inl hs.1
  rw [hn, xin_yin, yrd_7 h7]
  by_cases c : yinB i n = true
  · rw [if_pos c, if_pos ⟨hk, c⟩]
    rfl
  · rw [if_neg c, if_neg (fun z => c z.2)]
    rfl
theorem y_bald {a n : Nat} {i : Int32} (hd : decode (xmb k) pc = .ok (.baload, 1)) (hs : ySa a 2 n) : yX k pc ls (.int i :: .ref a :: st) h nc ns = if yinB i n = true then yX k (pc + 1) ls (.int (h a (yx i)) :: st) h nc ns else none := by
  rw [yX_eq]
  unfold yF
  rw [hd]
  show yK yX k (if ((ysh a).1 = 2) ∧ xin i (yn h a (ysh a)) = true then yGo (pc + 1) ls (.int (yrd h a (yx i)) :: st) h nc ns else none) = _
  have h7 : 7 ≤ a := by
    have h1 := yT_lo a
    have h2 := hs.1
    omega
  have hn : yn h a (ysh a) = n := by unfold yn; rw [if_neg (by omega), hs.2]
  have hk : (ysh a).1 = 2 := hs.1
  rw [hn, xin_yin, yrd_7 h7]
  by_cases c : yinB i n = true
  · rw [if_pos c, if_pos ⟨hk, c⟩]
    rfl
  · rw [if_neg c, if_neg (fun z => c z.2)]
    rfl
theorem y_iald1 {a n : Nat} {i : Int32} (hd : decode (xmb k) pc = .ok (.iaload, 1)) (hs : ySg a 10 n) : yX k pc ls (.int i :: .ref a :: st) h nc ns = if yinB i n = true then yX k (pc + 1) ls (.int (xsR0 a (yx i)) :: st) h nc ns else none := by
  rw [yX_eq]
  unfold yF
  rw [hd]
  show yK yX k (if ((ysh a).1 = 0 ∨ (ysh a).1 = 10) ∧ xin i (yn h a (ysh a)) = true then yGo (pc + 1) ls (.int (yrd h a (yx i)) :: st) h nc ns else none) = _
  have hn : yn h a (ysh a) = n := by unfold yn; rw [if_neg (by have := hs.2.2.1; omega), hs.2.1]
  have hk : ((ysh a).1 = 0 ∨ (ysh a).1 = 10) := Or.inr hs.1
  have hr : yrd h a = xsR0 a := if_pos hs.2.2
  rw [hn, xin_yin, hr]
  by_cases c : yinB i n = true
  · rw [if_pos c, if_pos ⟨hk, c⟩]
    rfl
  · rw [if_neg c, if_neg (fun z => c z.2)]
    rfl
theorem y_cald1 {a n : Nat} {i : Int32} (hd : decode (xmb k) pc = .ok (.caload, 1)) (hs : ySg a 11 n) : yX k pc ls (.int i :: .ref a :: st) h nc ns = if yinB i n = true then yX k (pc + 1) ls (.int (xsR0 a (yx i)) :: st) h nc ns else none := by
  rw [yX_eq]
  unfold yF
  rw [hd]
  show yK yX k (if ((ysh a).1 = 1 ∨ (ysh a).1 = 11) ∧ xin i (yn h a (ysh a)) = true then yGo (pc + 1) ls (.int (yrd h a (yx i)) :: st) h nc ns else none) = _
  have hn : yn h a (ysh a) = n := by unfold yn; rw [if_neg (by have := hs.2.2.1; omega), hs.2.1]
  have hk : ((ysh a).1 = 1 ∨ (ysh a).1 = 11) := Or.inr hs.1
  have hr : yrd h a = xsR0 a := if_pos hs.2.2
  rw [hn, xin_yin, hr]
  by_cases c : yinB i n = true
  · rw [if_pos c, if_pos ⟨hk, c⟩]
    rfl
  · rw [if_neg c, if_neg (fun z => c z.2)]
    rfl
theorem y_iald0 {i : Int32} (hd : decode (xmb k) pc = .ok (.iaload, 1)) : yX k pc ls (.int i :: .ref 0 :: st) h nc ns = if yinB i (ylen h) = true then yX k (pc + 1) ls (.int (h 0 (yx i)) :: st) h nc ns else none := by
  rw [yX_eq]
  unfold yF
  rw [hd]
  show yK yX k (if ((ysh 0).1 = 0 ∨ (ysh 0).1 = 10) ∧ xin i (yn h 0 (ysh 0)) = true then yGo (pc + 1) ls (.int (yrd h 0 (yx i)) :: st) h nc ns else none) = _
  have hn : yn h 0 (ysh 0) = ylen h := if_pos rfl
  have hk : ((ysh 0).1 = 0 ∨ (ysh 0).1 = 10) := by decide +kernel
  have hr : yrd h 0 = h 0 := if_neg (by omega)
  rw [hn, xin_yin, hr]
  by_cases c : yinB i (ylen h) = true
  · rw [if_pos c, if_pos ⟨hk, c⟩]
    rfl
  · rw [if_neg c, if_neg (fun z => c z.2)]
    rfl
theorem y_iast {a n : Nat} {i x : Int32} (hd : decode (xmb k) pc = .ok (.iastore, 1)) (hs : ySa a 0 n) : yX k pc ls (.int x :: .int i :: .ref a :: st) h nc ns = if yinB i n = true then yX k (pc + 1) ls st (yU h a (yx i) x) nc ns else none := by
  rw [yX_eq]
  unfold yF
  rw [hd]
  show yK yX k (if (ysh a).1 = 0 ∧ xin i (yn h a (ysh a)) = true then yGo (pc + 1) ls st (yU h a (yx i) x) nc ns else none) = _
  have h7 : 7 ≤ a := by
    have h1 := yT_lo a
    have h2 := hs.1
    omega
  have hn : yn h a (ysh a) = n := by unfold yn; rw [if_neg (by omega), hs.2]
  have hk : (ysh a).1 = 0 := hs.1
  rw [hn, xin_yin]
  by_cases c : yinB i n = true
  · rw [if_pos c, if_pos ⟨hk, c⟩]
    rfl
  · rw [if_neg c, if_neg (fun z => c z.2)]
    rfl
theorem y_cast {a n : Nat} {i x : Int32} (hd : decode (xmb k) pc = .ok (.castore, 1)) (hs : ySa a 1 n) : yX k pc ls (.int x :: .int i :: .ref a :: st) h nc ns = if yinB i n = true then yX k (pc + 1) ls st (yU h a (yx i) (vp_nar .char x)) nc ns else none := by
  rw [yX_eq]
  unfold yF
  rw [hd]
  show yK yX k (if (ysh a).1 = 1 ∧ xin i (yn h a (ysh a)) = true then yGo (pc + 1) ls st (yU h a (yx i) (vp_nar .char x)) nc ns else none) = _
  have h7 : 7 ≤ a := by
    have h1 := yT_lo a
    have h2 := hs.1
    omega
  have hn : yn h a (ysh a) = n := by unfold yn; rw [if_neg (by omega), hs.2]
  have hk : (ysh a).1 = 1 := hs.1
  rw [hn, xin_yin]
  by_cases c : yinB i n = true
  · rw [if_pos c, if_pos ⟨hk, c⟩]
    rfl
  · rw [if_neg c, if_neg (fun z => c z.2)]
    rfl
theorem y_bast {a n : Nat} {i x : Int32} (hd : decode (xmb k) pc = .ok (.bastore, 1)) (hs : ySa a 2 n) : yX k pc ls (.int x :: .int i :: .ref a :: st) h nc ns = if yinB i n = true then yX k (pc + 1) ls st (yU h a (yx i) (vp_nar .boolean x)) nc ns else none := by
  rw [yX_eq]
  unfold yF
  rw [hd]
  show yK yX k (if (ysh a).1 = 2 ∧ xin i (yn h a (ysh a)) = true then yGo (pc + 1) ls st (yU h a (yx i) (vp_nar .boolean x)) nc ns else none) = _
  have h7 : 7 ≤ a := by
    have h1 := yT_lo a
    have h2 := hs.1
    omega
  have hn : yn h a (ysh a) = n := by unfold yn; rw [if_neg (by omega), hs.2]
  have hk : (ysh a).1 = 2 := hs.1
  rw [hn, xin_yin]
  by_cases c : yinB i n = true
  · rw [if_pos c, if_pos ⟨hk, c⟩]
    rfl
  · rw [if_neg c, if_neg (fun z => c z.2)]
    rfl
theorem i64_i32 (x : Int32) : x.toInt64.toInt32 = x := by
  rw [← Int32.toInt_inj, Int64.toInt_toInt32, Int32.toInt_toInt64]
  exact Int32.toInt_bmod_size x
def yAr (a base n : Nat) : Prop := (ysh a).1 = 22 ∧ (ysh a).2.2.length = n ∧ ∀ j, j < n → (ysh a).2.2[j]? = some (some (base + 9 * j))
theorem yAr_43 : yAr 43 44 14 := by
  refine ⟨?_, ?_, ?_⟩ <;> decide +kernel
theorem yAr_170 : yAr 170 171 2 := by
  refine ⟨?_, ?_, ?_⟩ <;> decide +kernel
theorem y_aald {a base n : Nat} {i : Int32} (hd : decode (xmb k) pc = .ok (.aaload, 1)) (hs : yAr a base n) : yX k pc ls (.int i :: .ref a :: st) h nc ns = if yinB i n = true then yX k (pc + 1) ls (.ref (base + 9 * yx i) :: st) h nc ns else none := by
  rw [yX_eq]
  unfold yF
  rw [hd]
  show yK yX k (if (ysh a).1 = 22 ∧ xin i (ysh a).2.2.length = true then ((ysh a).2.2[yx i]?).bind fun o => o.bind fun r => yGo (pc + 1) ls (.ref r :: st) h nc ns else none) = _
  rw [hs.2.1, xin_yin]
  by_cases c : yinB i n = true
  · rw [if_pos c, if_pos ⟨hs.1, c⟩, hs.2.2 _ (yx_lt c)]
    rfl
  · rw [if_neg c, if_neg (fun z => c z.2)]
    rfl
theorem y_alen1 {a n : Nat} (hd : decode (xmb k) pc = .ok (.arraylength, 1)) (hs : ySg a 11 n) : yX k pc ls (.ref a :: st) h nc ns = yX k (pc + 1) ls (.int (Int32.ofNat n) :: st) h nc ns :=
  ygo hd (by
    have hn : yn h a (ysh a) = n := by unfold yn; rw [if_neg (by have := hs.2.2.1; omega), hs.2.1]
    show (if (ysh a).1 = 0 ∨ (ysh a).1 = 10 ∨ (ysh a).1 = 11 then yGo (pc + 1) ls (.int (Int32.ofNat (yn h a (ysh a))) :: st) h nc ns else none) = _
    rw [if_pos (Or.inr (Or.inr hs.1)), hn])
theorem y_alen0 (hd : decode (xmb k) pc = .ok (.arraylength, 1)) : yX k pc ls (.ref 0 :: st) h nc ns = yX k (pc + 1) ls (.int (Int32.ofNat (ylen h)) :: st) h nc ns :=
  ygo hd (by
    have hn : yn h 0 (ysh 0) = ylen h := if_pos rfl
    show (if (ysh 0).1 = 0 ∨ (ysh 0).1 = 10 ∨ (ysh 0).1 = 11 then yGo (pc + 1) ls (.int (Int32.ofNat (yn h 0 (ysh 0))) :: st) h nc ns else none) = _
    rw [if_pos (by decide +kernel), hn])
theorem y_copyq {ix a b n1 n2 N : Nat} {w : Nat × Nat × Nat} {n : Int32} {f : Nat → Int32} (hd : decode (xmb k) pc = .ok (.invokestatic ix, 3)) (hr : xcR (xmk k) ix = some (xmk k, ix, 0, 6, w)) (hl : st.length ≤ 4) (hck : decide (1 ≤ xmf k ∧ 60 ≤ xmo k) = true) (hb : ((ysh b).1 = 0 ∨ (ysh b).1 = 10) ∧ yn h b (ysh b) = n1 ∧ yrd h b = f) (ha : ySa a 0 n2) (hn : decide (¬ n < 0 ∧ n.toNatClampNeg = N ∧ N ≤ n1 ∧ N ≤ n2) = true) : yX k pc ls (.int n :: .int 0 :: .ref a :: .int 0 :: .ref b :: st) h nc ns = yX k (pc + 3) ls st (yUa h a (ycp f (h a) N)) nc ns := by
  obtain ⟨c1, c2⟩ := of_decide_eq_true hck
  obtain ⟨h1, h2, h3, h4⟩ := of_decide_eq_true hn
  have h7 : 7 ≤ a := by
    have h1 := yT_lo a
    have h2 := ha.1
    omega
  have hna : yn h a (ysh a) = n2 := by unfold yn; rw [if_neg (by omega), ha.2]
  refine ygo hd ?_
  show yq 3 3 ((xcR (xmk k) ix).bind fun r => yInv k pc r 1 ls (.int n :: .int 0 :: .ref a :: .int 0 :: .ref b :: st) h nc ns) = _
  rw [hr, yq1]
  show (if ((ysh b).1 = 0 ∨ (ysh b).1 = 10) ∧ (ysh a).1 = 0 ∧ ¬ (0 : Int32) < 0 ∧ ¬ (0 : Int32) < 0 ∧ ¬ n < 0 ∧ (0 : Int32).toNatClampNeg + n.toNatClampNeg ≤ yn h b (ysh b) ∧ (0 : Int32).toNatClampNeg + n.toNatClampNeg ≤ yn h a (ysh a) ∧ st.length ≤ 4 ∧ 1 ≤ xmf k ∧ 60 ≤ xmo k then yGo (pc + 3) ls st (yUa h a (va_cpy (yrd h b) (h a) (0 : Int32).toNatClampNeg (0 : Int32).toNatClampNeg n.toNatClampNeg)) nc ns else none) = _
  have e0 : (0 : Int32).toNatClampNeg = 0 := rfl
  rw [e0, h2, hb.2.1, hb.2.2, hna, va_cpy_0, if_pos ⟨hb.1, ha.1, by decide, by decide, h1, by omega, by omega, hl, c1, c2⟩]
theorem y_cp {a n : Nat} (hs : ySa a 0 n) : ((ysh a).1 = 0 ∨ (ysh a).1 = 10) ∧ yn h a (ysh a) = n ∧ yrd h a = h a := by
  have h7 : 7 ≤ a := by
    have h1 := yT_lo a
    have h2 := hs.1
    omega
  refine ⟨Or.inl hs.1, ?_, yrd_7 h7⟩
  unfold yn
  rw [if_neg (by omega), hs.2]
theorem y_cp1 {a n : Nat} (hs : ySg a 10 n) : ((ysh a).1 = 0 ∨ (ysh a).1 = 10) ∧ yn h a (ysh a) = n ∧ yrd h a = xsR0 a :=
  ⟨Or.inr hs.1, by unfold yn; rw [if_neg (by have := hs.2.2.1; omega), hs.2.1], if_pos hs.2.2⟩
theorem y_thr {ix E : Nat} (hd : decode (xmb k) pc = .ok (.new ix, 3)) (hT : xTh k pc = some E) (hr : xroom k nc ns 1 6 = true) : yX k pc ls [] h nc ns = yTw E h :=
  yret hd (by
    show yq 3 3 ((xTh k pc).bind fun E => if (xroom k nc ns 1 6 && true) = true then some (.inr (.inl (.inr E, h))) else none) = _
    rw [hT, hr, yq1]
    rfl)
-- calls
theorem y_call {i : Instr} {k' n n' : Nat} {as rest : List Value} {ent : xLs} {z : Bool} (hd : decode (xmb k) pc = .ok (i, 3)) (ha : yAct k pc i 3 ls st h nc ns = yCall k pc k' ls st h nc ns)
    (hst : st = as.reverse ++ rest) (hn : as.length = n) (hrl : rest.length ≤ 4) (hal : (xArg as).length ≤ n') (hent : xEnt n' as = ent)
    (hck : (decide (xna k' = n ∧ xml k' = n' ∧ xmf k' + 1 ≤ xmf k ∧ 8 + (n' + 11) + xmo k' ≤ xmo k ∧ xmh k = [] ∧ z = decide (xkd k' = 1 ∧ xkd k = 1))) = true) {nc' ns' : Nat} (hrm : nc + xmc k' = nc' ∧ ns + xms k' = ns' ∧ nc' ≤ xmc k ∧ ns' ≤ xms k) :
    yX k pc ls st h nc ns = yCo z (yX k' 0 ent [] h 0 0) (fun v h' => yX k (pc + 3) ls (xPush v rest) h' nc' ns') := by
  obtain ⟨c1, c0, c2, c3, hmh, hz⟩ := of_decide_eq_true hck
  obtain ⟨rfl, rfl, c4, c5⟩ := hrm
  subst c0
  have e1 : st.take (xna k') = as.reverse := by rw [hst, c1, List.take_append_of_le_length (by rw [List.length_reverse, hn]; exact Nat.le_refl _), List.take_of_length_le (by rw [List.length_reverse, hn]; exact Nat.le_refl _)]
  have e2 : st.drop (xna k') = rest := by rw [hst, c1, List.drop_append_of_le_length (by rw [List.length_reverse, hn]; exact Nat.le_refl _), List.drop_eq_nil_of_le (by rw [List.length_reverse, hn]; exact Nat.le_refl _), List.nil_append]
  have e3 : xna k' ≤ st.length := by rw [hst, c1, List.length_append, List.length_reverse, hn]; omega
  have hc : yCall k pc k' ls st h nc ns = some (.inr (.inr (k', as, pc, ls, rest, h, nc, ns))) := by
    unfold yCall
    rw [e1, e2, List.reverse_reverse, if_pos]
    simp only [Bool.and_eq_true, decide_eq_true_eq, xroom]
    exact ⟨⟨⟨e3, hrl, c2, c3⟩, hal⟩, c4, c5⟩
  rw [yX_eq]
  unfold yF
  rw [hd]
  show yK yX k (yAct k pc i 3 ls st h nc ns) = _
  rw [ha, hc]
  show (match yX k' 0 (xEnt (xml k') as) [] h 0 0 with | none => none | some (.inl v, h') => _ | some (.inr E, h') => _) = _
  rw [hent]
  cases yX k' 0 ent [] h 0 0 with
  | none => rfl
  | some q =>
    obtain ⟨o, h'⟩ := q
    cases o with
    | inl v => rfl
    | inr E =>
      show (if xkd k' = 1 then (match xHd k pc E with | some (pc', i) => _ | none => if xkd k = 1 then some ((.inr E, h') : yRes) else none) else none) = (if z = true then _ else none)
      have hHd : xHd k pc E = none := by
        unfold xHd
        rw [hmh]
        rfl
      rw [hHd, hz]
      by_cases g1 : xkd k' = 1
      · by_cases g2 : xkd k = 1
        · rw [if_pos g1, if_pos (decide_eq_true ⟨g1, g2⟩)]
          exact if_pos g2
        · rw [if_pos g1, show (decide (xkd k' = 1 ∧ xkd k = 1)) = false from decide_eq_false (fun w => g2 w.2)]
          exact if_neg g2
      · rw [if_neg g1, show (decide (xkd k' = 1 ∧ xkd k = 1)) = false from decide_eq_false (fun w => g1 w.1)]
        rfl
theorem y_calls {ix k' n n' md : Nat} {w : Nat × Nat × Nat} (as rest : List Value) {ent : xLs} (z : Bool) (hd : decode (xmb k) pc = .ok (.invokestatic ix, 3)) (hr : xcR (xmk k) ix = some (xmk k, ix, k', md, w)) (hmd : (md == 1 || md == 3 || md == 7) = true)
    (hst : st = as.reverse ++ rest) (hn : as.length = n) (hrl : rest.length ≤ 4) (hal : (xArg as).length ≤ n') (hent : xEnt n' as = ent)
    (hck : (decide (xna k' = n ∧ xml k' = n' ∧ xmf k' + 1 ≤ xmf k ∧ 8 + (n' + 11) + xmo k' ≤ xmo k ∧ xmh k = [] ∧ z = decide (xkd k' = 1 ∧ xkd k = 1))) = true) {nc' ns' : Nat} (hrm : nc + xmc k' = nc' ∧ ns + xms k' = ns' ∧ nc' ≤ xmc k ∧ ns' ≤ xms k) :
    yX k pc ls st h nc ns = yCo z (yX k' 0 ent [] h 0 0) (fun v h' => yX k (pc + 3) ls (xPush v rest) h' nc' ns') := by
  refine y_call hd ?_ hst hn hrl hal hent hck hrm
  show yq 3 3 ((xcR (xmk k) ix).bind fun r => yInv k pc r 1 ls st h nc ns) = _
  rw [hr, yq1]
  simp only [Bool.or_eq_true, beq_iff_eq] at hmd
  rcases hmd with (rfl | rfl) | rfl <;> rfl
theorem y_callv {ix k' n n' b t : Nat} {w : Nat × Nat × Nat} (as rest : List Value) {ent : xLs} (z : Bool) (hd : decode (xmb k) pc = .ok (.invokevirtual ix, 3)) (hr : xcR (xmk k) ix = some (xmk k, ix, k', 0, w)) (ht : xmk k' = t) (hb : (ysh b).1 = 100 + t)
    (hst : st = (Value.ref b :: as).reverse ++ rest) (hn : (Value.ref b :: as).length = n) (hrl : rest.length ≤ 4) (hal : (xArg (Value.ref b :: as)).length ≤ n') (hent : xEnt n' (Value.ref b :: as) = ent)
    (hck : (decide (xna k' = n ∧ xml k' = n' ∧ xmf k' + 1 ≤ xmf k ∧ 8 + (n' + 11) + xmo k' ≤ xmo k ∧ xmh k = [] ∧ z = decide (xkd k' = 1 ∧ xkd k = 1))) = true) {nc' ns' : Nat} (hrm : nc + xmc k' = nc' ∧ ns + xms k' = ns' ∧ nc' ≤ xmc k ∧ ns' ≤ xms k) :
    yX k pc ls st h nc ns = yCo z (yX k' 0 ent [] h 0 0) (fun v h' => yX k (pc + 3) ls (xPush v rest) h' nc' ns') := by
  have c1 : xna k' = n := (of_decide_eq_true hck).1
  have e1 : (st.take (xna k')).reverse = Value.ref b :: as := by rw [hst, c1, List.take_append_of_le_length (by rw [List.length_reverse, hn]; exact Nat.le_refl _), List.take_of_length_le (by rw [List.length_reverse, hn]; exact Nat.le_refl _), List.reverse_reverse]
  have e2 : yrecv k' (st.take (xna k')).reverse = true := by
    rw [e1]
    show decide ((ysh b).1 = 100 + xmk k') = true
    rw [ht]
    exact decide_eq_true hb
  refine y_call hd ?_ hst hn hrl hal hent hck hrm
  show yq 3 3 ((xcR (xmk k) ix).bind fun r => yInv k pc r 0 ls st h nc ns) = _
  rw [hr, yq1]
  show (if yrecv k' (st.take (xna k')).reverse = true then _ else _) = _
  rw [if_pos e2]
/-- a wrapper's call: what is thrown is caught -/
def yCh (r : Option yRes) (f : Int32 → yM → Option yRes) (g : Nat → yM → Option yRes) : Option yRes := match r with
  | some (.inl (some (.int v)), M) => f v M
  | some (.inr E, M) => g E M
  | _ => none
theorem y_callh {ix k' n n' b t : Nat} {w : Nat × Nat × Nat} (as rest : List Value) {ent : xLs} {f : Int32 → yM → Option yRes} {g : Nat → yM → Option yRes} (hd : decode (xmb k) pc = .ok (.invokevirtual ix, 3)) (hr : xcR (xmk k) ix = some (xmk k, ix, k', 0, w)) (ht : xmk k' = t) (hb : (ysh b).1 = 100 + t)
    (hst : st = (Value.ref b :: as).reverse ++ rest) (hn : (Value.ref b :: as).length = n) (hrl : rest.length ≤ 4) (hal : (xArg (Value.ref b :: as)).length ≤ n') (hent : xEnt n' (Value.ref b :: as) = ent)
    (hck : (decide (xna k' = n ∧ xml k' = n' ∧ xmf k' + 1 ≤ xmf k ∧ 8 + (n' + 11) + xmo k' ≤ xmo k ∧ xkd k' = 1 ∧ xkd k = 2)) = true) {nc' ns' : Nat} (hrm : nc + xmc k' = nc' ∧ ns + xms k' = ns' ∧ nc' ≤ xmc k ∧ ns' ≤ xms k)
    (hf : ∀ v M, yL (f v M) (yX k (pc + 3) ls (.int v :: rest) M nc' ns')) (hg : ∀ E M, yL (g E M) (match xHd k pc E with
        | some (pc', i) => if i < ls.length then yX k pc' (xS0 ls i) [] M nc' ns' else none
        | none => none)) :
    yL (yCh (yX k' 0 ent [] h 0 0) f g) (yX k pc ls st h nc ns) := by
  obtain ⟨c1, c0, c2, c3, hk1, hk2⟩ := of_decide_eq_true hck
  obtain ⟨rfl, rfl, c4, c5⟩ := hrm
  subst c0
  have e1 : (st.take (xna k')).reverse = Value.ref b :: as := by rw [hst, c1, List.take_append_of_le_length (by rw [List.length_reverse, hn]; exact Nat.le_refl _), List.take_of_length_le (by rw [List.length_reverse, hn]; exact Nat.le_refl _), List.reverse_reverse]
  have e2 : yrecv k' (st.take (xna k')).reverse = true := by
    rw [e1]
    show decide ((ysh b).1 = 100 + xmk k') = true
    rw [ht]
    exact decide_eq_true hb
  have e4 : st.drop (xna k') = rest := by rw [hst, c1, List.drop_append_of_le_length (by rw [List.length_reverse, hn]; exact Nat.le_refl _), List.drop_eq_nil_of_le (by rw [List.length_reverse, hn]; exact Nat.le_refl _), List.nil_append]
  have e3 : xna k' ≤ st.length := by rw [hst, c1, List.length_append, List.length_reverse, hn]; omega
  have hc : yCall k pc k' ls st h nc ns = some (.inr (.inr (k', Value.ref b :: as, pc, ls, rest, h, nc, ns))) := by
    unfold yCall
    rw [e1, e4, if_pos]
    simp only [Bool.and_eq_true, decide_eq_true_eq, xroom]
    exact ⟨⟨⟨e3, hrl, c2, c3⟩, hal⟩, c4, c5⟩
  intro r hq
  rw [yX_eq]
  unfold yF
  rw [hd]
  show yK yX k (yq 3 3 ((xcR (xmk k) ix).bind fun r => yInv k pc r 0 ls st h nc ns)) = _
  rw [hr, yq1]
  show yK yX k (if yrecv k' (st.take (xna k')).reverse = true then _ else _) = _
  rw [if_pos e2, hc]
  show (match yX k' 0 (xEnt (xml k') (Value.ref b :: as)) [] h 0 0 with | none => none | some (.inl v, h') => _ | some (.inr E, h') => _) = _
  rw [hent]
  cases hy : yX k' 0 ent [] h 0 0 with
  | none => rw [hy] at hq; cases hq
  | some q =>
    rw [hy] at hq
    obtain ⟨o, h'⟩ := q
    cases o with
    | inl v =>
      cases v with
      | none => cases hq
      | some v => cases v <;> first | exact hf _ _ r hq | cases hq
    | inr E =>
      have h9 := hg E h' r hq
      show (if xkd k' = 1 then (match xHd k pc E with | some (pc', i) => if xkd k = 2 ∧ i < ls.length then _ else none | none => if xkd k = 1 then some ((.inr E, h') : yRes) else none) else none) = _
      rw [if_pos hk1]
      cases hd2 : xHd k pc E with
      | none => rw [hd2] at h9; cases h9
      | some z =>
        rw [hd2] at h9
        obtain ⟨pc', i⟩ := z
        simp only at h9 ⊢
        by_cases hi : i < ls.length
        · rw [if_pos hi] at h9
          rw [if_pos ⟨hk2, hi⟩]
          exact h9
        · rw [if_neg hi] at h9; cases h9
end YR
theorem yL.lt {α : Type} {a : α} {f : α → Option yRes} {b : Option yRes} {g : α → Option yRes} (h : b = g a) (h2 : ∀ x, yL (f x) (g x)) : yL (yLet a f) b := by
  rw [h]
  exact h2 a
