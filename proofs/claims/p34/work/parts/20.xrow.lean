/-! how X goes on, an instruction a law -/
section XR
variable {k pc nc ns : Nat} {ls : xLs} {st : List Value} {h : xHp}
theorem xgo {i : Instr} {len pc' : Nat} {ls' : xLs} {st' : List Value} {h' : xHp} {nc' ns' : Nat} (hd : decode (xmb k) pc = .ok (i, len)) (ha : xAct k pc i len ls st h nc ns = xGo pc' ls' st' h' nc' ns') : xX k pc ls st h nc ns = xX k pc' ls' st' h' nc' ns' := by
  rw [xX_eq]
  unfold xF
  rw [hd]
  show xK xX k (xAct k pc i len ls st h nc ns) = _
  rw [ha]
  rfl
theorem xret {i : Instr} {len : Nat} {r : xRes} (hd : decode (xmb k) pc = .ok (i, len)) (ha : xAct k pc i len ls st h nc ns = some (.inr (.inl r))) : xX k pc ls st h nc ns = some r := by
  rw [xX_eq]
  unfold xF
  rw [hd]
  show xK xX k (xAct k pc i len ls st h nc ns) = _
  rw [ha]
  rfl
theorem xbind {α : Type} {i : Instr} {len : Nat} {o : Option α} {f : α → xJ} (hd : decode (xmb k) pc = .ok (i, len)) (ha : xAct k pc i len ls st h nc ns = o.bind fun v => some (.inl (f v))) : xX k pc ls st h nc ns = o.bind fun v => xX k (f v).1 (f v).2.1 (f v).2.2.1 (f v).2.2.2.1 (f v).2.2.2.2.1 (f v).2.2.2.2.2 := by
  rw [xX_eq]
  unfold xF
  rw [hd]
  show xK xX k (xAct k pc i len ls st h nc ns) = _
  rw [ha]
  cases o <;> rfl
theorem xq1 {a : Nat} {x : xA} : xq a a x = x := if_pos rfl
theorem x_ldc {ix : Nat} {v : Int32} (hd : decode (xmb k) pc = .ok (.ldc ix, 2)) (hv : xcI (xmk k) ix = some v) : xX k pc ls st h nc ns = xX k (pc + 2) ls (.int v :: st) h nc ns :=
  xgo hd (by show xq 2 2 ((xcI (xmk k) ix).bind _) = _; rw [hv]; rfl)
theorem x_ldc_w {ix : Nat} {v : Int32} (hd : decode (xmb k) pc = .ok (.ldc_w ix, 3)) (hv : xcI (xmk k) ix = some v) : xX k pc ls st h nc ns = xX k (pc + 3) ls (.int v :: st) h nc ns :=
  xgo hd (by show xq 3 3 ((xcI (xmk k) ix).bind _) = _; rw [hv]; rfl)
theorem x_ldc2_w {ix : Nat} {v : Int64} (hd : decode (xmb k) pc = .ok (.ldc2_w ix, 3)) (hv : xcL (xmk k) ix = some v) : xX k pc ls st h nc ns = xX k (pc + 3) ls (.long v :: st) h nc ns :=
  xgo hd (by show xq 3 3 ((xcL (xmk k) ix).bind _) = _; rw [hv]; rfl)
theorem x_iconst {n : Int} {v : Int32} (hd : decode (xmb k) pc = .ok (.iconst n, 1)) (hv : Int32.ofInt n = v) : xX k pc ls st h nc ns = xX k (pc + 1) ls (.int v :: st) h nc ns := by
  subst hv; exact xgo hd rfl
theorem x_bipush {n : Int} {v : Int32} (hd : decode (xmb k) pc = .ok (.bipush n, 2)) (hv : (Int8.ofInt n).toInt32 = v) : xX k pc ls st h nc ns = xX k (pc + 2) ls (.int v :: st) h nc ns := by
  subst hv; exact xgo hd rfl
theorem x_sipush {n : Int} {v : Int32} (hd : decode (xmb k) pc = .ok (.sipush n, 3)) (hv : (Int16.ofInt n).toInt32 = v) : xX k pc ls st h nc ns = xX k (pc + 3) ls (.int v :: st) h nc ns := by
  subst hv; exact xgo hd rfl
theorem x_lconst {n : Fin 2} {v : Int64} (hd : decode (xmb k) pc = .ok (.lconst n, 1)) (hv : Int64.ofNat (n : Nat) = v) : xX k pc ls st h nc ns = xX k (pc + 1) ls (.long v :: st) h nc ns := by
  subst hv; exact xgo hd rfl
theorem x_iinc {i : Nat} {n : Int} {v x : Int32} {ls' : xLs} (hd : decode (xmb k) pc = .ok (.iinc i n, 3)) (hv : Int32.ofInt n = v) (hl : xlI ls i = some x) (hi : i < ls.length) (hs : xS1 ls i (.int (x + v)) = ls') : xX k pc ls st h nc ns = xX k (pc + 3) ls' st h nc ns := by
  subst hv
  subst hs
  exact xgo hd (by show xq 3 3 ((xlI ls i).bind _) = _; rw [hl]; show xq 3 3 (if i < ls.length then _ else _) = _; rw [if_pos hi]; rfl)
theorem x_idiv {x y : Int32} (hd : decode (xmb k) pc = .ok (.idiv, 1)) : xX k pc ls (.int y :: .int x :: st) h nc ns = if y = 0 then none else xX k (pc + 1) ls (.int (x / y) :: st) h nc ns := by
  rw [xX_eq]
  unfold xF
  rw [hd]
  show xK xX k (if y = 0 then none else xGo (pc + 1) ls (.int (x / y) :: st) h nc ns) = _
  split <;> rfl
theorem x_irem {x y : Int32} (hd : decode (xmb k) pc = .ok (.irem, 1)) : xX k pc ls (.int y :: .int x :: st) h nc ns = if y = 0 then none else xX k (pc + 1) ls (.int (x - x / y * y) :: st) h nc ns := by
  rw [xX_eq]
  unfold xF
  rw [hd]
  show xK xX k (if y = 0 then none else xGo (pc + 1) ls (.int (x - x / y * y) :: st) h nc ns) = _
  split <;> rfl
theorem x_ldiv {x y : Int64} (hd : decode (xmb k) pc = .ok (.ldiv, 1)) : xX k pc ls (.long y :: .long x :: st) h nc ns = if y = 0 then none else xX k (pc + 1) ls (.long (x / y) :: st) h nc ns := by
  rw [xX_eq]
  unfold xF
  rw [hd]
  show xK xX k (if y = 0 then none else xGo (pc + 1) ls (.long (x / y) :: st) h nc ns) = _
  split <;> rfl
theorem x_lrem {x y : Int64} (hd : decode (xmb k) pc = .ok (.lrem, 1)) : xX k pc ls (.long y :: .long x :: st) h nc ns = if y = 0 then none else xX k (pc + 1) ls (.long (x - x / y * y) :: st) h nc ns := by
  rw [xX_eq]
  unfold xF
  rw [hd]
  show xK xX k (if y = 0 then none else xGo (pc + 1) ls (.long (x - x / y * y) :: st) h nc ns) = _
  split <;> rfl
theorem x_goto {off : Int} {t : Nat} (hd : decode (xmb k) pc = .ok (.goto off, 3)) (ht : (pc : Int) + off = (t : Int)) : xX k pc ls st h nc ns = xX k t ls st h nc ns :=
  xgo hd (by show xq 3 3 (if 0 ≤ (pc : Int) + off then _ else _) = _; rw [ht, if_pos (Int.natCast_nonneg t), Int.toNat_natCast]; rfl)
theorem x_icmp {cd : Jvm.ClassFile.Cond} {off : Int} {t : Nat} {x y : Int32} (hd : decode (xmb k) pc = .ok (.if_icmp cd off, 3)) (ht : (pc : Int) + off = (t : Int)) : xX k pc ls (.int y :: .int x :: st) h nc ns = if xCm cd x y = true then xX k t ls st h nc ns else xX k (pc + 3) ls st h nc ns := by
  rw [xX_eq]
  unfold xF
  rw [hd]
  show xK xX k (xBr pc off (xCm cd x y) ls st h nc ns) = _
  unfold xBr
  rw [ht, if_pos (Int.natCast_nonneg t), Int.toNat_natCast]
  split <;> rfl
theorem x_ifc {cd : Jvm.ClassFile.Cond} {off : Int} {t : Nat} {x : Int32} (hd : decode (xmb k) pc = .ok (.ifCond cd off, 3)) (ht : (pc : Int) + off = (t : Int)) : xX k pc ls (.int x :: st) h nc ns = if xCm cd x 0 = true then xX k t ls st h nc ns else xX k (pc + 3) ls st h nc ns := by
  rw [xX_eq]
  unfold xF
  rw [hd]
  show xK xX k (xBr pc off (xCm cd x 0) ls st h nc ns) = _
  unfold xBr
  rw [ht, if_pos (Int.natCast_nonneg t), Int.toNat_natCast]
  split <;> rfl
theorem x_icmp_eq {off : Int} {t : Nat} {x y : Int32} (hd : decode (xmb k) pc = .ok (.if_icmp .eq off, 3)) (ht : (pc : Int) + off = (t : Int)) : xX k pc ls (.int y :: .int x :: st) h nc ns = if x = y then xX k t ls st h nc ns else xX k (pc + 3) ls st h nc ns := by rw [x_icmp hd ht]; simp only [xCm, decide_eq_true_eq]
theorem x_icmp_ne {off : Int} {t : Nat} {x y : Int32} (hd : decode (xmb k) pc = .ok (.if_icmp .ne off, 3)) (ht : (pc : Int) + off = (t : Int)) : xX k pc ls (.int y :: .int x :: st) h nc ns = if x = y then xX k (pc + 3) ls st h nc ns else xX k t ls st h nc ns := by
  rw [x_icmp hd ht]
  by_cases e : x = y <;> simp [xCm, e]
theorem x_icmp_lt {off : Int} {t : Nat} {x y : Int32} (hd : decode (xmb k) pc = .ok (.if_icmp .lt off, 3)) (ht : (pc : Int) + off = (t : Int)) : xX k pc ls (.int y :: .int x :: st) h nc ns = if x < y then xX k t ls st h nc ns else xX k (pc + 3) ls st h nc ns := by rw [x_icmp hd ht]; simp only [xCm, decide_eq_true_eq]
theorem x_icmp_ge {off : Int} {t : Nat} {x y : Int32} (hd : decode (xmb k) pc = .ok (.if_icmp .ge off, 3)) (ht : (pc : Int) + off = (t : Int)) : xX k pc ls (.int y :: .int x :: st) h nc ns = if x < y then xX k (pc + 3) ls st h nc ns else xX k t ls st h nc ns := by
  rw [x_icmp hd ht]
  by_cases e : x < y
  · simp [xCm, e, Int32.not_le.mpr e]
  · simp [xCm, e, Int32.not_lt.mp e]
theorem x_icmp_gt {off : Int} {t : Nat} {x y : Int32} (hd : decode (xmb k) pc = .ok (.if_icmp .gt off, 3)) (ht : (pc : Int) + off = (t : Int)) : xX k pc ls (.int y :: .int x :: st) h nc ns = if x ≤ y then xX k (pc + 3) ls st h nc ns else xX k t ls st h nc ns := by
  rw [x_icmp hd ht]
  by_cases e : x ≤ y
  · simp [xCm, e, Int32.not_lt.mpr e]
  · simp [xCm, e, Int32.not_le.mp e]
theorem x_icmp_le {off : Int} {t : Nat} {x y : Int32} (hd : decode (xmb k) pc = .ok (.if_icmp .le off, 3)) (ht : (pc : Int) + off = (t : Int)) : xX k pc ls (.int y :: .int x :: st) h nc ns = if x ≤ y then xX k t ls st h nc ns else xX k (pc + 3) ls st h nc ns := by rw [x_icmp hd ht]; simp only [xCm, decide_eq_true_eq]
theorem x_if_eq {off : Int} {t : Nat} {x : Int32} (hd : decode (xmb k) pc = .ok (.ifCond .eq off, 3)) (ht : (pc : Int) + off = (t : Int)) : xX k pc ls (.int x :: st) h nc ns = if x = 0 then xX k t ls st h nc ns else xX k (pc + 3) ls st h nc ns := by rw [x_ifc hd ht]; simp only [xCm, decide_eq_true_eq]
theorem x_if_ne {off : Int} {t : Nat} {x : Int32} (hd : decode (xmb k) pc = .ok (.ifCond .ne off, 3)) (ht : (pc : Int) + off = (t : Int)) : xX k pc ls (.int x :: st) h nc ns = if x = 0 then xX k (pc + 3) ls st h nc ns else xX k t ls st h nc ns := by
  rw [x_ifc hd ht]
  by_cases e : x = 0 <;> simp [xCm, e]
theorem x_if_lt {off : Int} {t : Nat} {x : Int32} (hd : decode (xmb k) pc = .ok (.ifCond .lt off, 3)) (ht : (pc : Int) + off = (t : Int)) : xX k pc ls (.int x :: st) h nc ns = if x < 0 then xX k t ls st h nc ns else xX k (pc + 3) ls st h nc ns := by rw [x_ifc hd ht]; simp only [xCm, decide_eq_true_eq]
theorem x_if_ge {off : Int} {t : Nat} {x : Int32} (hd : decode (xmb k) pc = .ok (.ifCond .ge off, 3)) (ht : (pc : Int) + off = (t : Int)) : xX k pc ls (.int x :: st) h nc ns = if x < 0 then xX k (pc + 3) ls st h nc ns else xX k t ls st h nc ns := by
  rw [x_ifc hd ht]
  by_cases e : x < 0
  · simp [xCm, e, Int32.not_le.mpr e]
  · simp [xCm, e, Int32.not_lt.mp e]
theorem x_if_gt {off : Int} {t : Nat} {x : Int32} (hd : decode (xmb k) pc = .ok (.ifCond .gt off, 3)) (ht : (pc : Int) + off = (t : Int)) : xX k pc ls (.int x :: st) h nc ns = if x ≤ 0 then xX k (pc + 3) ls st h nc ns else xX k t ls st h nc ns := by
  rw [x_ifc hd ht]
  by_cases e : x ≤ 0
  · simp [xCm, e, Int32.not_lt.mpr e]
  · simp [xCm, e, Int32.not_le.mp e]
theorem x_if_le {off : Int} {t : Nat} {x : Int32} (hd : decode (xmb k) pc = .ok (.ifCond .le off, 3)) (ht : (pc : Int) + off = (t : Int)) : xX k pc ls (.int x :: st) h nc ns = if x ≤ 0 then xX k t ls st h nc ns else xX k (pc + 3) ls st h nc ns := by rw [x_ifc hd ht]; simp only [xCm, decide_eq_true_eq]
/-- a switch's target -/
def xTs (lo : Int) (ts : List Nat) (d : Nat) (x : Int32) : Nat := match ts with
  | [] => d
  | t :: ts => if x = Int32.ofInt lo then t else xTs (lo + 1) ts d x
theorem i32_ofInt_of {x : Int32} {z : Int} (h : x.toInt = z) : x = Int32.ofInt z := by rw [← h, Int32.ofInt_toInt]
theorem xTs_in : ∀ (ts : List Nat) (lo : Int) (d : Nat) (x : Int32), -2147483648 ≤ lo → lo + ts.length ≤ 2147483647 → xTs lo ts d x = if x.toInt < lo ∨ lo + ts.length ≤ x.toInt then d else (ts[(x.toInt - lo).toNat]?).getD d
  | [], lo, d, x, h1, h2 => by
    unfold xTs
    split
    · rfl
    · simp
  | t :: ts, lo, d, x, h1, h2 => by
    simp only [List.length_cons] at h2
    unfold xTs
    have hb : (Int32.ofInt lo).toInt = lo := Int32.toInt_ofInt_of_le (by omega) (by omega)
    by_cases e : x = Int32.ofInt lo
    · rw [if_pos e, if_neg (by rw [e, hb]; simp only [List.length_cons]; omega), e, hb]
      simp
    · have e2 : x.toInt ≠ lo := fun z => e (i32_ofInt_of z)
      rw [if_neg e, xTs_in ts (lo + 1) d x (by omega) (by omega)]
      by_cases c : x.toInt < lo ∨ lo + ((t :: ts).length : Int) ≤ x.toInt
      · rw [if_pos c, if_pos (by simp only [List.length_cons] at c; omega)]
      · rw [if_neg c, if_neg (by simp only [List.length_cons] at c; omega)]
        rw [show (x.toInt - lo).toNat = (x.toInt - (lo + 1)).toNat + 1 by omega, List.getElem?_cons_succ]
theorem x_tsw {dflt lo hi : Int} {offs : Array Int} {len d : Nat} {ts : List Nat} {x : Int32} (hd : decode (xmb k) pc = .ok (.tableswitch dflt lo hi offs, len)) (hok : decide (offs.toList.map (fun o => (pc : Int) + o) = ts.map (fun (t : Nat) => (t : Int)) ∧ (pc : Int) + dflt = (d : Int) ∧ hi = lo + ts.length - 1 ∧ -2147483648 ≤ lo ∧ lo + ts.length ≤ 2147483647) = true) : xX k pc ls (.int x :: st) h nc ns = xX k (xTs lo ts d x) ls st h nc ns := by
  obtain ⟨h1, h2, h3, h4, h5⟩ := of_decide_eq_true hok
  refine xgo hd ?_
  show (xSw lo hi dflt offs x).bind (fun off => xJm pc off ls st h nc ns) = _
  rw [xTs_in ts lo d x h4 h5]
  unfold xSw
  by_cases c : x.toInt < lo ∨ hi < x.toInt
  · rw [if_pos c, if_pos (by omega)]
    show (if 0 ≤ (pc : Int) + dflt then _ else _) = _
    rw [h2, if_pos (Int.natCast_nonneg d), Int.toNat_natCast]
  · rw [if_neg c, if_neg (by omega)]
    have hl : (x.toInt - lo).toNat < ts.length := by omega
    have hl2 : offs.toList.length = ts.length := by have := congrArg List.length h1; simpa using this
    have e1 : (offs.toList.map (fun o => (pc : Int) + o))[(x.toInt - lo).toNat]? = (ts.map (fun (t : Nat) => (t : Int)))[(x.toInt - lo).toNat]? := by rw [h1]
    rw [List.getElem?_map, List.getElem?_map] at e1
    have e2 : offs[(x.toInt - lo).toNat]? = offs.toList[(x.toInt - lo).toNat]? := by rw [Array.getElem?_toList]
    rw [e2]
    cases h6 : offs.toList[(x.toInt - lo).toNat]? with
    | none => rw [List.getElem?_eq_none_iff] at h6; omega
    | some off =>
      rw [h6] at e1
      cases h7 : ts[(x.toInt - lo).toNat]? with
      | none => rw [List.getElem?_eq_none_iff] at h7; omega
      | some t =>
        rw [h7] at e1
        have e3 : (pc : Int) + off = (t : Int) := by simpa using e1
        show (if 0 ≤ (pc : Int) + off then _ else _) = xGo t ls st h nc ns
        rw [e3, if_pos (Int.natCast_nonneg t), Int.toNat_natCast]
def xLs2 (ps : List (Int32 × Nat)) (d : Nat) (x : Int32) : Nat := match ps with
  | [] => d
  | p :: ps => if x = p.1 then p.2 else xLs2 ps d x
theorem x_lsw {dflt : Int} {prs : Array (Int × Int)} {len d : Nat} {ps : List (Int32 × Nat)} {x : Int32} (hd : decode (xmb k) pc = .ok (.lookupswitch dflt prs, len)) (hs : (prs.toList.zip (prs.toList.drop 1)).all (fun (a, next) => a.1 < next.1) = true) (ho : ∀ x : Int32, (pc : Int) + Op.lookupswitch.offset prs.toList dflt x.toInt = (xLs2 ps d x : Int)) : xX k pc ls (.int x :: st) h nc ns = xX k (xLs2 ps d x) ls st h nc ns := by
  refine xgo hd ?_
  show (if _ then xJm pc (Op.lookupswitch.offset prs.toList dflt x.toInt) ls st h nc ns else none) = _
  rw [if_pos hs]
  show (if 0 ≤ (pc : Int) + _ then _ else _) = _
  rw [ho x, if_pos (Int.natCast_nonneg _), Int.toNat_natCast]
-- the heap
def xF1 (h : xHp) (a t i : Nat) : Option Value := (xgO h a).bind fun o => if o.1 = t then o.2[i]? else none
theorem x_getf {ix a t i : Nat} (hd : decode (xmb k) pc = .ok (.getfield ix, 3)) (hf : xfR (xmk k) ix = some (t, i)) : xX k pc ls (.ref a :: st) h nc ns = (xF1 h a t i).bind fun v => xX k (pc + 3) ls (v :: st) h nc ns := by
  refine xbind (f := fun v => (pc + 3, ls, v :: st, h, nc, ns)) hd ?_
  show xq 3 3 ((xfR (xmk k) ix).bind _) = _
  rw [hf, xq1]
  show ((xgO h a).bind fun o => if o.1 = t then (o.2[i]?).bind fun v => xGo (pc + 3) ls (v :: st) h nc ns else none) = _
  unfold xF1
  cases xgO h a with
  | none => rfl
  | some o =>
    show (if o.1 = t then _ else _) = (if o.1 = t then _ else _ : Option Value).bind _
    split <;> rfl
/-- a field set: its kind 0 an int, 1 a boolean, 2 a reference -/
def xP1 (h : xHp) (a t i : Nat) (v : Value) (ok : Bool) : Option xHp := (xgO h a).bind fun o => if o.1 = t ∧ i < o.2.length ∧ ok = true then some (xSt h a (.inl (t, o.2.set i v))) else none
theorem x_putf {ix a t i : Nat} {v : Value} {ok : Bool} (hd : decode (xmb k) pc = .ok (.putfield ix, 3)) (hf : xfR (xmk k) ix = some (t, i)) (hok : (xfit (xty t i) v && (!((xcT t).2.1 i).2.2.2 || (xini k && decide (t = xmk k)))) = ok) : xX k pc ls (v :: .ref a :: st) h nc ns = (xP1 h a t i v ok).bind fun h' => xX k (pc + 3) ls st h' nc ns := by
  refine xbind (f := fun h' => (pc + 3, ls, st, h', nc, ns)) hd ?_
  show xq 3 3 ((xfR (xmk k) ix).bind _) = _
  rw [hf, xq1]
  show ((xgO h a).bind fun o => if xput k h (t, i) o v = true then xGo (pc + 3) ls st (xSt h a (.inl (o.1, o.2.set i v))) nc ns else none) = _
  unfold xP1
  cases xgO h a with
  | none => rfl
  | some o =>
    show (if xput k h (t, i) o v = true then _ else _) = (if o.1 = t ∧ i < o.2.length ∧ ok = true then _ else _ : Option xHp).bind _
    have e : xput k h (t, i) o v = true ↔ o.1 = t ∧ i < o.2.length ∧ ok = true := by
      unfold xput
      rw [hok]
      simp only [Bool.and_eq_true, decide_eq_true_eq, and_assoc]
    by_cases c : xput k h (t, i) o v = true
    · have c' := e.mp c
      rw [if_pos c, if_pos c', ← c'.1]
      rfl
    · rw [if_neg c, if_neg (fun z => c (e.mpr z))]
      rfl
theorem x_gets {ix g : Nat} (hd : decode (xmb k) pc = .ok (.getstatic ix, 3)) (hf : xsR (xmk k) ix = some g) : xX k pc ls st h nc ns = xX k (pc + 3) ls (.ref g :: st) h nc ns :=
  xgo hd (by show xq 3 3 ((xsR (xmk k) ix).bind _) = _; rw [hf]; rfl)
/-- an element: of ints (0, 10), chars (1, 11), booleans (2, 12) -/
def xA1 (h : xHp) (a t : Nat) (i : Int32) : Option Int32 := (xgA h a).bind fun o => if (o.1 = t ∨ o.1 = t + 10) ∧ xin i o.2.1 = true then some (o.2.2 i.toNatClampNeg) else none
theorem x_iald {a : Nat} {i : Int32} (hd : decode (xmb k) pc = .ok (.iaload, 1)) : xX k pc ls (.int i :: .ref a :: st) h nc ns = (xA1 h a 0 i).bind fun v => xX k (pc + 1) ls (.int v :: st) h nc ns := by
  refine xbind (f := fun v => (pc + 1, ls, .int v :: st, h, nc, ns)) hd ?_
  show ((xgA h a).bind fun o => if (o.1 = 0 ∨ o.1 = 10) ∧ xin i o.2.1 = true then xGo (pc + 1) ls (.int (o.2.2 i.toNatClampNeg) :: st) h nc ns else none) = _
  unfold xA1
  cases xgA h a with
  | none => rfl
  | some o =>
    show (if (o.1 = 0 ∨ o.1 = 10) ∧ xin i o.2.1 = true then _ else _) = (if (o.1 = 0 ∨ o.1 = 10) ∧ xin i o.2.1 = true then _ else _ : Option Int32).bind _
    split <;> rfl
theorem x_cald {a : Nat} {i : Int32} (hd : decode (xmb k) pc = .ok (.caload, 1)) : xX k pc ls (.int i :: .ref a :: st) h nc ns = (xA1 h a 1 i).bind fun v => xX k (pc + 1) ls (.int v :: st) h nc ns := by
  refine xbind (f := fun v => (pc + 1, ls, .int v :: st, h, nc, ns)) hd ?_
  show ((xgA h a).bind fun o => if (o.1 = 1 ∨ o.1 = 11) ∧ xin i o.2.1 = true then xGo (pc + 1) ls (.int (o.2.2 i.toNatClampNeg) :: st) h nc ns else none) = _
  unfold xA1
  cases xgA h a with
  | none => rfl
  | some o =>
    show (if (o.1 = 1 ∨ o.1 = 11) ∧ xin i o.2.1 = true then _ else _) = (if (o.1 = 1 ∨ o.1 = 11) ∧ xin i o.2.1 = true then _ else _ : Option Int32).bind _
    split <;> rfl
/-- an element of booleans -/
def xA0 (h : xHp) (a : Nat) (i : Int32) : Option Int32 := (xgA h a).bind fun o => if o.1 = 2 ∧ xin i o.2.1 = true then some (o.2.2 i.toNatClampNeg) else none
theorem x_bald {a : Nat} {i : Int32} (hd : decode (xmb k) pc = .ok (.baload, 1)) : xX k pc ls (.int i :: .ref a :: st) h nc ns = (xA0 h a i).bind fun v => xX k (pc + 1) ls (.int v :: st) h nc ns := by
  refine xbind (f := fun v => (pc + 1, ls, .int v :: st, h, nc, ns)) hd ?_
  show ((xgA h a).bind fun o => if o.1 = 2 ∧ xin i o.2.1 = true then xGo (pc + 1) ls (.int (o.2.2 i.toNatClampNeg) :: st) h nc ns else none) = _
  unfold xA0
  cases xgA h a with
  | none => rfl
  | some o =>
    show (if o.1 = 2 ∧ xin i o.2.1 = true then _ else _) = (if o.1 = 2 ∧ xin i o.2.1 = true then _ else _ : Option Int32).bind _
    split <;> rfl
/-- an element set -/
def xA2 (h : xHp) (a t : Nat) (i x : Int32) : Option xHp := (xgA h a).bind fun o => if o.1 = t ∧ xin i o.2.1 = true then some (xSt h a (.inr (t, o.2.1, upd o.2.2 i.toNatClampNeg x))) else none
theorem x_iast {a : Nat} {i x : Int32} (hd : decode (xmb k) pc = .ok (.iastore, 1)) : xX k pc ls (.int x :: .int i :: .ref a :: st) h nc ns = (xA2 h a 0 i x).bind fun h' => xX k (pc + 1) ls st h' nc ns := by
  refine xbind (f := fun h' => (pc + 1, ls, st, h', nc, ns)) hd ?_
  show ((xgA h a).bind fun o => if o.1 = 0 ∧ xin i o.2.1 = true then xGo (pc + 1) ls st (xSt h a (.inr (0, o.2.1, upd o.2.2 i.toNatClampNeg x))) nc ns else none) = _
  unfold xA2
  cases xgA h a with
  | none => rfl
  | some o =>
    show (if o.1 = 0 ∧ xin i o.2.1 = true then _ else _) = (if o.1 = 0 ∧ xin i o.2.1 = true then _ else _ : Option xHp).bind _
    split <;> rfl
theorem x_cast {a : Nat} {i x : Int32} (hd : decode (xmb k) pc = .ok (.castore, 1)) : xX k pc ls (.int x :: .int i :: .ref a :: st) h nc ns = (xA2 h a 1 i (vp_nar .char x)).bind fun h' => xX k (pc + 1) ls st h' nc ns := by
  refine xbind (f := fun h' => (pc + 1, ls, st, h', nc, ns)) hd ?_
  show ((xgA h a).bind fun o => if o.1 = 1 ∧ xin i o.2.1 = true then xGo (pc + 1) ls st (xSt h a (.inr (1, o.2.1, upd o.2.2 i.toNatClampNeg (vp_nar .char x)))) nc ns else none) = _
  unfold xA2
  cases xgA h a with
  | none => rfl
  | some o =>
    show (if o.1 = 1 ∧ xin i o.2.1 = true then _ else _) = (if o.1 = 1 ∧ xin i o.2.1 = true then _ else _ : Option xHp).bind _
    split <;> rfl
theorem x_bast {a : Nat} {i x : Int32} (hd : decode (xmb k) pc = .ok (.bastore, 1)) : xX k pc ls (.int x :: .int i :: .ref a :: st) h nc ns = (xA2 h a 2 i (vp_nar .boolean x)).bind fun h' => xX k (pc + 1) ls st h' nc ns := by
  refine xbind (f := fun h' => (pc + 1, ls, st, h', nc, ns)) hd ?_
  show ((xgA h a).bind fun o => if o.1 = 2 ∧ xin i o.2.1 = true then xGo (pc + 1) ls st (xSt h a (.inr (2, o.2.1, upd o.2.2 i.toNatClampNeg (vp_nar .boolean x)))) nc ns else none) = _
  unfold xA2
  cases xgA h a with
  | none => rfl
  | some o =>
    show (if o.1 = 2 ∧ xin i o.2.1 = true then _ else _) = (if o.1 = 2 ∧ xin i o.2.1 = true then _ else _ : Option xHp).bind _
    split <;> rfl
/-- rows of longs (21) and of references (22) -/
def xO1 (h : xHp) (a t : Nat) (i : Int32) : Option Value := (xgO h a).bind fun o => if o.1 = t ∧ xin i o.2.length = true then o.2[i.toNatClampNeg]? else none
def xAsL : Value → Option Int64
  | .long x => some x
  | _ => none
def xAsR : Value → Option Nat
  | .ref x => some x
  | _ => none
theorem x_aald {a : Nat} {i : Int32} (hd : decode (xmb k) pc = .ok (.aaload, 1)) : xX k pc ls (.int i :: .ref a :: st) h nc ns = ((xO1 h a 22 i).bind xAsR).bind fun v => xX k (pc + 1) ls (.ref v :: st) h nc ns := by
  refine xbind (f := fun v => (pc + 1, ls, .ref v :: st, h, nc, ns)) hd ?_
  show ((xgO h a).bind fun o => if o.1 = 22 ∧ xin i o.2.length = true then (match o.2[i.toNatClampNeg]? with
      | some (.ref x) => xGo (pc + 1) ls (.ref x :: st) h nc ns
      | _ => none) else none) = _
  unfold xO1
  cases xgO h a with
  | none => rfl
  | some o =>
    show (if o.1 = 22 ∧ xin i o.2.length = true then _ else _) = ((if o.1 = 22 ∧ xin i o.2.length = true then _ else _ : Option Value).bind xAsR).bind _
    split
    · cases o.2[i.toNatClampNeg]? with
      | none => rfl
      | some v => cases v <;> rfl
    · rfl
def xO2 (h : xHp) (a t : Nat) (i : Int32) (v : Value) (ok : Bool) : Option xHp := (xgO h a).bind fun o => if o.1 = t ∧ ok = true ∧ xin i o.2.length = true then some (xSt h a (.inl (t, o.2.set i.toNatClampNeg v))) else none
/-- the class of an object -/
def xtg (h : xHp) (a t : Nat) : Bool := match xgO h a with
  | some o => decide (o.1 = t)
  | none => false
theorem x_aast {a x : Nat} {i : Int32} (hd : decode (xmb k) pc = .ok (.aastore, 1)) : xX k pc ls (.ref x :: .int i :: .ref a :: st) h nc ns = (xO2 h a 22 i (.ref x) (xtg h x 0)).bind fun h' => xX k (pc + 1) ls st h' nc ns := by
  refine xbind (f := fun h' => (pc + 1, ls, st, h', nc, ns)) hd ?_
  show ((xgO h a).bind fun o => (xgO h x).bind fun o2 => if o.1 = 22 ∧ o2.1 = 0 ∧ xin i o.2.length = true then xGo (pc + 1) ls st (xSt h a (.inl (22, o.2.set i.toNatClampNeg (.ref x)))) nc ns else none) = _
  unfold xO2 xtg
  cases xgO h a with
  | none => rfl
  | some o =>
    cases xgO h x with
    | none =>
      show none = (if o.1 = 22 ∧ false = true ∧ xin i o.2.length = true then _ else _ : Option xHp).bind _
      rw [if_neg (fun z => by cases z.2.1)]
      rfl
    | some o2 =>
      show (if o.1 = 22 ∧ o2.1 = 0 ∧ xin i o.2.length = true then _ else _) = (if o.1 = 22 ∧ decide (o2.1 = 0) = true ∧ xin i o.2.length = true then _ else _ : Option xHp).bind _
      by_cases c : o.1 = 22 ∧ o2.1 = 0 ∧ xin i o.2.length = true
      · rw [if_pos c, if_pos ⟨c.1, decide_eq_true c.2.1, c.2.2⟩]; rfl
      · rw [if_neg c, if_neg (fun z => c ⟨z.1, of_decide_eq_true z.2.1, z.2.2⟩)]; rfl
def xAl (h : xHp) (a : Nat) : Option Int32 := (xgA h a).bind fun o => if o.1 = 0 ∨ o.1 = 10 ∨ o.1 = 11 then some (Int32.ofNat o.2.1) else none
theorem x_alen {a : Nat} (hd : decode (xmb k) pc = .ok (.arraylength, 1)) : xX k pc ls (.ref a :: st) h nc ns = (xAl h a).bind fun v => xX k (pc + 1) ls (.int v :: st) h nc ns := by
  refine xbind (f := fun v => (pc + 1, ls, .int v :: st, h, nc, ns)) hd ?_
  show ((xgA h a).bind fun o => if o.1 = 0 ∨ o.1 = 10 ∨ o.1 = 11 then xGo (pc + 1) ls (.int (Int32.ofNat o.2.1) :: st) h nc ns else none) = _
  unfold xAl
  cases xgA h a with
  | none => rfl
  | some o =>
    show (if o.1 = 0 ∨ o.1 = 10 ∨ o.1 = 11 then _ else _) = (if o.1 = 0 ∨ o.1 = 10 ∨ o.1 = 11 then _ else _ : Option Int32).bind _
    split <;> rfl
-- calls
def xCo (z : Bool) (r : Option xRes) (f : Option Value → xHp → Option xRes) : Option xRes := match r with
  | some (.inl v, h') => f v h'
  | some (.inr E, h') => if z = true then some (.inr E, h') else none
  | none => none
theorem xCo_inl {z : Bool} {v : Option Value} {h' : xHp} {f : Option Value → xHp → Option xRes} : xCo z (some (.inl v, h')) f = f v h' := rfl
theorem xCo_inr {E : Nat} {h' : xHp} {f : Option Value → xHp → Option xRes} : xCo true (some (.inr E, h')) f = some (.inr E, h') := rfl
theorem x_call {i : Instr} {k' n : Nat} {as rest : List Value} {ent : xLs} (z : Bool) (hd : decode (xmb k) pc = .ok (i, 3)) (ha : xAct k pc i 3 ls st h nc ns = xCall k pc k' ls st h nc ns)
    (hst : st = as.reverse ++ rest) (hn : as.length = n) (hrl : rest.length ≤ 4) (hal : (xArg as).length ≤ xml k') (hent : xEnt (xml k') as = ent)
    (hck : (decide (xna k' = n ∧ xmf k' + 1 ≤ xmf k ∧ 8 + (xml k' + 11) + xmo k' ≤ xmo k)) = true) {nc' ns' : Nat} (hrm : nc + xmc k' = nc' ∧ ns + xms k' = ns' ∧ nc' ≤ xmc k ∧ ns' ≤ xms k) (hz : (decide (z = decide (xkd k' = 1 ∧ xkd k = 1)) && (decide (xmh k = []))) = true) :
    xX k pc ls st h nc ns = xCo z (xX k' 0 ent [] h 0 0) (fun v h' => xX k (pc + 3) ls (xPush v rest) h' nc' ns') := by
  obtain ⟨c1, c2, c3⟩ := of_decide_eq_true hck
  obtain ⟨rfl, rfl, c4, c5⟩ := hrm
  simp only [Bool.and_eq_true, decide_eq_true_eq] at hz
  obtain ⟨hz, hmh⟩ := hz
  have e1 : st.take (xna k') = as.reverse := by rw [hst, c1, List.take_append_of_le_length (by rw [List.length_reverse, hn]; exact Nat.le_refl _), List.take_of_length_le (by rw [List.length_reverse, hn]; exact Nat.le_refl _)]
  have e2 : st.drop (xna k') = rest := by rw [hst, c1, List.drop_append_of_le_length (by rw [List.length_reverse, hn]; exact Nat.le_refl _), List.drop_eq_nil_of_le (by rw [List.length_reverse, hn]; exact Nat.le_refl _), List.nil_append]
  have e3 : xna k' ≤ st.length := by rw [hst, c1, List.length_append, List.length_reverse, hn]; omega
  have hc : xCall k pc k' ls st h nc ns = some (.inr (.inr (k', as, pc, ls, rest, h, nc, ns))) := by
    unfold xCall
    rw [e1, e2, List.reverse_reverse, if_pos]
    simp only [Bool.and_eq_true, decide_eq_true_eq, xroom]
    exact ⟨⟨⟨e3, xlow_4 hrl, c2, c3⟩, hal⟩, c4, c5⟩
  rw [xX_eq]
  unfold xF
  rw [hd]
  show xK xX k (xAct k pc i 3 ls st h nc ns) = _
  rw [ha, hc]
  show (match xX k' 0 (xEnt (xml k') as) [] h 0 0 with | none => none | some (.inl v, h') => _ | some (.inr E, h') => _) = _
  rw [hent]
  cases xX k' 0 ent [] h 0 0 with
  | none => rfl
  | some q =>
    obtain ⟨o, h'⟩ := q
    cases o with
    | inl v => rfl
    | inr E =>
      show (if xkd k' = 1 then (match xHd k pc E with | some (pc', i) => _ | none => if xkd k = 1 then some ((.inr E, h') : xRes) else none) else none) = (if z = true then _ else none)
      have hHd : xHd k pc E = none := by
        unfold xHd
        rw [hmh]
        rfl
      rw [hHd, hz]
      by_cases g1 : xkd k' = 1
      · by_cases g2 : xkd k = 1
        · rw [if_pos g1, if_pos (decide_eq_true ⟨g1, g2⟩)]
          exact if_pos g2
        · rw [if_pos g1, show (decide (xkd k' = 1 ∧ xkd k = 1)) = false from decide_eq_false (fun w => g2 w.2)]
          exact if_neg g2
      · rw [if_neg g1, show (decide (xkd k' = 1 ∧ xkd k = 1)) = false from decide_eq_false (fun w => g1 w.1)]
        rfl
/-- a static call -/
theorem x_calls {ix k' n md : Nat} {w : Nat × Nat × Nat} {as rest : List Value} {ent : xLs} (z : Bool) (hd : decode (xmb k) pc = .ok (.invokestatic ix, 3)) (hr : xcR (xmk k) ix = some (xmk k, ix, k', md, w)) (hmd : (md == 1 || md == 3 || md == 7) = true)
    (hst : st = as.reverse ++ rest) (hn : as.length = n) (hrl : rest.length ≤ 4) (hal : (xArg as).length ≤ xml k') (hent : xEnt (xml k') as = ent)
    (hck : (decide (xna k' = n ∧ xmf k' + 1 ≤ xmf k ∧ 8 + (xml k' + 11) + xmo k' ≤ xmo k)) = true) {nc' ns' : Nat} (hrm : nc + xmc k' = nc' ∧ ns + xms k' = ns' ∧ nc' ≤ xmc k ∧ ns' ≤ xms k) (hz : (decide (z = decide (xkd k' = 1 ∧ xkd k = 1)) && (decide (xmh k = []))) = true) :
    xX k pc ls st h nc ns = xCo z (xX k' 0 ent [] h 0 0) (fun v h' => xX k (pc + 3) ls (xPush v rest) h' nc' ns') := by
  refine x_call z hd ?_ hst hn hrl hal hent hck hrm hz
  show xq 3 3 ((xcR (xmk k) ix).bind fun r => xInv k pc r 1 ls st h nc ns) = _
  rw [hr, xq1]
  simp only [Bool.or_eq_true, beq_iff_eq] at hmd
  rcases hmd with (rfl | rfl) | rfl <;> rfl
/-- a constructor's call -/
theorem x_calli {ix k' n md b : Nat} {w : Nat × Nat × Nat} {as rest : List Value} {ent : xLs} (z : Bool) (hd : decode (xmb k) pc = .ok (.invokespecial ix, 3)) (hr : xcR (xmk k) ix = some (xmk k, ix, k', md, w)) (hmd : (md == 2 || md == 4) = true)
    (hst : st = (Value.ref b :: as).reverse ++ rest) (hn : (Value.ref b :: as).length = n) (hrl : rest.length ≤ 4) (hal : (xArg (Value.ref b :: as)).length ≤ xml k') (hent : xEnt (xml k') (Value.ref b :: as) = ent)
    (hck : (decide (xna k' = n ∧ xmf k' + 1 ≤ xmf k ∧ 8 + (xml k' + 11) + xmo k' ≤ xmo k)) = true) {nc' ns' : Nat} (hrm : nc + xmc k' = nc' ∧ ns + xms k' = ns' ∧ nc' ≤ xmc k ∧ ns' ≤ xms k) (hz : (decide (z = decide (xkd k' = 1 ∧ xkd k = 1)) && (decide (xmh k = []))) = true) :
    xX k pc ls st h nc ns = xCo z (xX k' 0 ent [] h 0 0) (fun v h' => xX k (pc + 3) ls (xPush v rest) h' nc' ns') := by
  refine x_call z hd ?_ hst hn hrl hal hent hck hrm hz
  have c1 : xna k' = n := (of_decide_eq_true hck).1
  have e1 : (st.take (xna k')).reverse = Value.ref b :: as := by rw [hst, c1, List.take_append_of_le_length (by rw [List.length_reverse, hn]; exact Nat.le_refl _), List.take_of_length_le (by rw [List.length_reverse, hn]; exact Nat.le_refl _), List.reverse_reverse]
  show xq 3 3 ((xcR (xmk k) ix).bind fun r => xInv k pc r 2 ls st h nc ns) = _
  rw [hr, xq1]
  simp only [Bool.or_eq_true, beq_iff_eq] at hmd
  rcases hmd with rfl | rfl
  · show (if xisR (st.take (xna k')).reverse = true then _ else _) = _
    rw [e1]
    rfl
  · show (if xisR (st.take (xna k')).reverse = true then _ else _) = _
    rw [e1]
    rfl
/-- a virtual call -/
theorem x_callv {ix k' n b t : Nat} {w : Nat × Nat × Nat} {as rest : List Value} {ent : xLs} (z : Bool) (hd : decode (xmb k) pc = .ok (.invokevirtual ix, 3)) (hr : xcR (xmk k) ix = some (xmk k, ix, k', 0, w)) (ht : xmk k' = t)
    (hst : st = (Value.ref b :: as).reverse ++ rest) (hn : (Value.ref b :: as).length = n) (hrl : rest.length ≤ 4) (hal : (xArg (Value.ref b :: as)).length ≤ xml k') (hent : xEnt (xml k') (Value.ref b :: as) = ent)
    (hck : (decide (xna k' = n ∧ xmf k' + 1 ≤ xmf k ∧ 8 + (xml k' + 11) + xmo k' ≤ xmo k)) = true) {nc' ns' : Nat} (hrm : nc + xmc k' = nc' ∧ ns + xms k' = ns' ∧ nc' ≤ xmc k ∧ ns' ≤ xms k) (hz : (decide (z = decide (xkd k' = 1 ∧ xkd k = 1)) && (decide (xmh k = []))) = true) :
    xX k pc ls st h nc ns = if xtg h b t = true then xCo z (xX k' 0 ent [] h 0 0) (fun v h' => xX k (pc + 3) ls (xPush v rest) h' nc' ns') else none := by
  have c1 : xna k' = n := (of_decide_eq_true hck).1
  have e1 : (st.take (xna k')).reverse = Value.ref b :: as := by rw [hst, c1, List.take_append_of_le_length (by rw [List.length_reverse, hn]; exact Nat.le_refl _), List.take_of_length_le (by rw [List.length_reverse, hn]; exact Nat.le_refl _), List.reverse_reverse]
  have e2 : xrecv h k' (st.take (xna k')).reverse = xtg h b t := by
    rw [e1, ← ht]
    rfl
  have e3 : xAct k pc (.invokevirtual ix) 3 ls st h nc ns = if xtg h b t = true then xCall k pc k' ls st h nc ns else none := by
    show xq 3 3 ((xcR (xmk k) ix).bind fun r => xInv k pc r 0 ls st h nc ns) = _
    rw [hr, xq1, ← e2]
    rfl
  by_cases c : xtg h b t = true
  · rw [if_pos c]
    rw [if_pos c] at e3
    exact x_call z hd e3 hst hn hrl hal hent hck hrm hz
  · rw [if_neg c]
    rw [if_neg c] at e3
    rw [xX_eq]
    unfold xF
    rw [hd]
    show xK xX k (xAct k pc (.invokevirtual ix) 3 ls st h nc ns) = _
    rw [e3]
    rfl
theorem x_obji {ix b : Nat} {w : Nat × Nat × Nat} {st : List Value} (hd : decode (xmb k) pc = .ok (.invokespecial ix, 3)) (hr : xcR (xmk k) ix = some (xmk k, ix, 0, 5, w)) (hl : st.length ≤ 4) (hck : decide (1 ≤ xmf k ∧ 20 ≤ xmo k) = true) : xX k pc ls (.ref b :: st) h nc ns = xX k (pc + 3) ls st h nc ns := by
  obtain ⟨c1, c2⟩ := of_decide_eq_true hck
  refine xgo hd ?_
  show xq 3 3 ((xcR (xmk k) ix).bind fun r => xInv k pc r 2 ls (.ref b :: st) h nc ns) = _
  rw [hr, xq1]
  show (if st.length ≤ 4 ∧ 1 ≤ xmf k ∧ 20 ≤ xmo k then _ else _) = _
  rw [if_pos ⟨hl, c1, c2⟩]
theorem x_mmax {ix : Nat} {w : Nat × Nat × Nat} {x y : Int32} (hd : decode (xmb k) pc = .ok (.invokestatic ix, 3)) (hr : xcR (xmk k) ix = some (xmk k, ix, 0, 8, w)) (hl : st.length ≤ 4) (hck : decide (1 ≤ xmf k ∧ 21 ≤ xmo k) = true) : xX k pc ls (.int y :: .int x :: st) h nc ns = xX k (pc + 3) ls (.int (if x < y then y else x) :: st) h nc ns := by
  obtain ⟨c1, c2⟩ := of_decide_eq_true hck
  refine xgo hd ?_
  show xq 3 3 ((xcR (xmk k) ix).bind fun r => xInv k pc r 1 ls (.int y :: .int x :: st) h nc ns) = _
  rw [hr, xq1]
  show (if st.length ≤ 4 ∧ 1 ≤ xmf k ∧ 21 ≤ xmo k then _ else _) = _
  rw [if_pos ⟨hl, c1, c2⟩]
theorem x_mmin {ix : Nat} {w : Nat × Nat × Nat} {x y : Int32} (hd : decode (xmb k) pc = .ok (.invokestatic ix, 3)) (hr : xcR (xmk k) ix = some (xmk k, ix, 0, 9, w)) (hl : st.length ≤ 4) (hck : decide (1 ≤ xmf k ∧ 21 ≤ xmo k) = true) : xX k pc ls (.int y :: .int x :: st) h nc ns = xX k (pc + 3) ls (.int (if y < x then y else x) :: st) h nc ns := by
  obtain ⟨c1, c2⟩ := of_decide_eq_true hck
  refine xgo hd ?_
  show xq 3 3 ((xcR (xmk k) ix).bind fun r => xInv k pc r 1 ls (.int y :: .int x :: st) h nc ns) = _
  rw [hr, xq1]
  show (if st.length ≤ 4 ∧ 1 ≤ xmf k ∧ 21 ≤ xmo k then _ else _) = _
  rw [if_pos ⟨hl, c1, c2⟩]
theorem x_mabs {ix : Nat} {w : Nat × Nat × Nat} {x : Int32} (hd : decode (xmb k) pc = .ok (.invokestatic ix, 3)) (hr : xcR (xmk k) ix = some (xmk k, ix, 0, 10, w)) (hl : st.length ≤ 4) (hck : decide (1 ≤ xmf k ∧ 21 ≤ xmo k) = true) : xX k pc ls (.int x :: st) h nc ns = xX k (pc + 3) ls (.int (if 0 ≤ x then x else 0 - x) :: st) h nc ns := by
  obtain ⟨c1, c2⟩ := of_decide_eq_true hck
  refine xgo hd ?_
  show xq 3 3 ((xcR (xmk k) ix).bind fun r => xInv k pc r 1 ls (.int x :: st) h nc ns) = _
  rw [hr, xq1]
  show (if st.length ≤ 4 ∧ 1 ≤ xmf k ∧ 21 ≤ xmo k then _ else _) = _
  rw [if_pos ⟨hl, c1, c2⟩]
/-- System.arraycopy of ints -/
def xY2 (h : xHp) (b a : Nat) (sp dp n : Int32) : Option xHp := (xgA h b).bind fun o => (xgA h a).bind fun q => if (o.1 = 0 ∨ o.1 = 10) ∧ q.1 = 0 ∧ ¬ sp < 0 ∧ ¬ dp < 0 ∧ ¬ n < 0 ∧ sp.toNatClampNeg + n.toNatClampNeg ≤ o.2.1 ∧ dp.toNatClampNeg + n.toNatClampNeg ≤ q.2.1 then some (xSt h a (.inr (0, q.2.1, va_cpy o.2.2 q.2.2 sp.toNatClampNeg dp.toNatClampNeg n.toNatClampNeg))) else none
theorem x_copy {ix a b : Nat} {w : Nat × Nat × Nat} {sp dp n : Int32} (hd : decode (xmb k) pc = .ok (.invokestatic ix, 3)) (hr : xcR (xmk k) ix = some (xmk k, ix, 0, 6, w)) (hl : st.length ≤ 4) (hck : decide (1 ≤ xmf k ∧ 60 ≤ xmo k) = true) : xX k pc ls (.int n :: .int dp :: .ref a :: .int sp :: .ref b :: st) h nc ns = (xY2 h b a sp dp n).bind fun h' => xX k (pc + 3) ls st h' nc ns := by
  obtain ⟨c1, c2⟩ := of_decide_eq_true hck
  refine xbind (f := fun h' => (pc + 3, ls, st, h', nc, ns)) hd ?_
  show xq 3 3 ((xcR (xmk k) ix).bind fun r => xInv k pc r 1 ls (.int n :: .int dp :: .ref a :: .int sp :: .ref b :: st) h nc ns) = _
  rw [hr, xq1]
  show (match xgA h b, xgA h a with | some (t0, n0, f), some (t1, n1, g) => _ | _, _ => none) = _
  unfold xY2
  cases xgA h b with
  | none => rfl
  | some o =>
    cases xgA h a with
    | none => rfl
    | some q =>
      obtain ⟨t0, n0, f⟩ := o
      obtain ⟨t1, n1, g⟩ := q
      show (if (t0 = 0 ∨ t0 = 10) ∧ t1 = 0 ∧ ¬ sp < 0 ∧ ¬ dp < 0 ∧ ¬ n < 0 ∧ sp.toNatClampNeg + n.toNatClampNeg ≤ n0 ∧ dp.toNatClampNeg + n.toNatClampNeg ≤ n1 ∧ st.length ≤ 4 ∧ 1 ≤ xmf k ∧ 60 ≤ xmo k then _ else _) = (if (t0 = 0 ∨ t0 = 10) ∧ t1 = 0 ∧ ¬ sp < 0 ∧ ¬ dp < 0 ∧ ¬ n < 0 ∧ sp.toNatClampNeg + n.toNatClampNeg ≤ n0 ∧ dp.toNatClampNeg + n.toNatClampNeg ≤ n1 then _ else _ : Option xHp).bind _
      by_cases c : (t0 = 0 ∨ t0 = 10) ∧ t1 = 0 ∧ ¬ sp < 0 ∧ ¬ dp < 0 ∧ ¬ n < 0 ∧ sp.toNatClampNeg + n.toNatClampNeg ≤ n0 ∧ dp.toNatClampNeg + n.toNatClampNeg ≤ n1
      · rw [if_pos c, if_pos ⟨c.1, c.2.1, c.2.2.1, c.2.2.2.1, c.2.2.2.2.1, c.2.2.2.2.2.1, c.2.2.2.2.2.2, hl, c1, c2⟩]
        rfl
      · rw [if_neg c, if_neg (fun z => c ⟨z.1, z.2.1, z.2.2.1, z.2.2.2.1, z.2.2.2.2.1, z.2.2.2.2.2.1, z.2.2.2.2.2.2.1⟩)]
        rfl
-- ends
theorem x_ireti {x : Int32} (hd : decode (xmb k) pc = .ok (.ireturn, 1)) (hr : xmr k = some .int) : xX k pc ls [.int x] h nc ns = some (.inl (some (.int x)), h) :=
  xret hd (by show (if decide (xmr k = some .int ∨ _) = true then _ else _) = _; rw [if_pos (decide_eq_true (Or.inl hr))])
theorem x_iretz {x : Int32} (hd : decode (xmb k) pc = .ok (.ireturn, 1)) (hr : xmr k = some .boolean) : xX k pc ls [.int x] h nc ns = if x = 0 ∨ x = 1 then some (.inl (some (.int x)), h) else none := by
  rw [xX_eq]
  unfold xF
  rw [hd]
  show xK xX k (if decide (xmr k = some .int ∨ (xmr k = some .boolean ∧ (x = 0 ∨ x = 1))) = true then _ else _) = _
  by_cases c : x = 0 ∨ x = 1
  · rw [if_pos c, if_pos (decide_eq_true (Or.inr ⟨hr, c⟩))]
    rfl
  · rw [if_neg c, if_neg]
    · rfl
    · intro z
      rcases of_decide_eq_true z with z | z
      · rw [hr] at z; cases z
      · exact c z.2
theorem x_lret {x : Int64} (hd : decode (xmb k) pc = .ok (.lreturn, 1)) (hr : xmr k = some .long) : xX k pc ls [.long x] h nc ns = some (.inl (some (.long x)), h) :=
  xret hd (by show (if decide (xmr k = some .long) = true then _ else _) = _; rw [if_pos (decide_eq_true hr)])
theorem x_ret (hd : decode (xmb k) pc = .ok (.return_, 1)) (hr : xmr k = none) : xX k pc ls [] h nc ns = some (.inl none, h) :=
  xret hd (by show (if decide (xmr k = none) = true then _ else _) = _; rw [if_pos (decide_eq_true hr)])
theorem x_thr {ix E : Nat} (hd : decode (xmb k) pc = .ok (.new ix, 3)) (hT : xTh k pc = some E) (hr : xroom k nc ns 1 6 = true) : xX k pc ls [] h nc ns = some (.inr E, xGb h) :=
  xret hd (by
    show xq 3 3 (match xTh k pc with | some E => _ | none => _) = _
    rw [hT, xq1]
    show (if (xroom k nc ns 1 6 && true) = true then _ else _) = _
    rw [hr]
    rfl)
theorem x_new {ix t : Nat} {c : xCel} {sz : Nat} (hd : decode (xmb k) pc = .ok (.new ix, 3)) (hT : xTh k pc = none) (ht : xnR (xmk k) ix = some t) (hs : (xcT t).2.2 = sz) (hc : (.inl (t, (List.range (xcT t).2.2).map (fun j => defaultValue (xty t j))) : xCel) = c) (hr : xroom k nc ns 1 sz = true) (hh : h.1 = true) : xX k pc ls st h nc ns = xX k (pc + 3) ls (.ref h.2.length :: st) (xNew h c) (nc + 1) (ns + sz) :=
  xgo hd (by
    show xq 3 3 (match xTh k pc with | some E => _ | none => (xnR (xmk k) ix).bind _) = _
    rw [hT, xq1, ht]
    show xAlloc k (pc + 3) ls st h nc ns (xcT t).2.2 _ = _
    rw [hc, hs]
    unfold xAlloc
    rw [hh, hr]
    rfl)
theorem x_newa {t : ArrayType} {n : Int32} {N : Nat} {c : xCel} (hd : decode (xmb k) pc = .ok (.newarray t, 2)) (hn : (decide (¬ n < 0 ∧ n.toNatClampNeg = N ∧ N ≤ 65536)) = true) (hc : xnewA t N = some c) (hr : xroom k nc ns 1 N = true) (hh : h.1 = true) : xX k pc ls (.int n :: st) h nc ns = xX k (pc + 2) ls (.ref h.2.length :: st) (xNew h c) (nc + 1) (ns + N) := by
  obtain ⟨h1, rfl, h2⟩ := of_decide_eq_true hn
  exact xgo hd (by
    show xq 2 2 (if ¬ n < 0 ∧ n.toNatClampNeg ≤ 65536 then (xnewA t n.toNatClampNeg).bind _ else none) = _
    rw [if_pos ⟨h1, h2⟩, hc, xq1]
    show xAlloc k (pc + 2) ls st h nc ns n.toNatClampNeg c = _
    unfold xAlloc
    rw [hh, hr]
    rfl)
theorem x_anew {ix : Nat} {n : Int32} {N : Nat} (hd : decode (xmb k) pc = .ok (.anewarray ix, 3)) (hn : (decide (¬ n < 0 ∧ n.toNatClampNeg = N ∧ N ≤ 65536)) = true) (hx : xnR (xmk k) ix = some 0) (hr : xroom k nc ns 1 N = true) (hh : h.1 = true) : xX k pc ls (.int n :: st) h nc ns = xX k (pc + 3) ls (.ref h.2.length :: st) (xNew h (.inl (22, List.replicate N .null))) (nc + 1) (ns + N) := by
  obtain ⟨h1, rfl, h2⟩ := of_decide_eq_true hn
  exact xgo hd (by
    show xq 3 3 (if ¬ n < 0 ∧ n.toNatClampNeg ≤ 65536 ∧ xnR (xmk k) ix = some 0 then _ else none) = _
    rw [if_pos ⟨h1, h2, hx⟩, xq1]
    show xAlloc k (pc + 3) ls st h nc ns n.toNatClampNeg _ = _
    unfold xAlloc
    rw [hh, hr]
    rfl)
end XR
