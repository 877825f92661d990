/-! a run that does not look at the script goes the same way with any script -/
def okH (h : xHp) : Prop := ∃ t, h.2 = ih0.2 ++ t
def swH (L : Nat) (xs : Nat → Int32) (h : xHp) : xHp := (h.1, xgiv L xs ++ h.2.drop 7)
def swo (L : Nat) (xs : Nat → Int32) : xJ ⊕ (xRes ⊕ xCa) → xJ ⊕ (xRes ⊕ xCa)
  | .inl (pc, ls, st, h, nc, ns) => .inl (pc, ls, st, swH L xs h, nc, ns)
  | .inr (.inl (r, h)) => .inr (.inl (r, swH L xs h))
  | .inr (.inr (k', as, pc, ls, st, h, nc, ns)) => .inr (.inr (k', as, pc, ls, st, swH L xs h, nc, ns))
def okO : xJ ⊕ (xRes ⊕ xCa) → Prop
  | .inl (_, _, _, h, _, _) => okH h
  | .inr (.inl (_, h)) => okH h
  | .inr (.inr (_, _, _, _, _, h, _, _)) => okH h
def wle (L : Nat) (xs : Nat → Int32) (a b : xA) : Prop := ∀ o, a = some o → okO o ∧ b = some (swo L xs o)
section SWH
variable {L : Nat} {xs : Nat → Int32} {h : xHp}
theorem sw_b (b : Bool) (t : List xCel) : swH L xs (b, ih0.2 ++ t) = (b, xgiv L xs ++ t) := rfl
theorem sw_len (hh : okH h) : (swH L xs h).2.length = h.2.length := by
  obtain ⟨b, l⟩ := h
  obtain ⟨t, e⟩ := hh
  have e : l = ih0.2 ++ t := e
  subst e
  rw [sw_b]
  show (xgiv L xs ++ t).length = (ih0.2 ++ t).length
  rw [List.length_append, List.length_append]
  rfl
theorem sw_O (hh : okH h) {a : Nat} {o : Nat × List Value} (z : xgO h a = some o) : xgO (swH L xs h) a = some o ∧ 7 ≤ a := by
  obtain ⟨b, l⟩ := h
  obtain ⟨t, e⟩ := hh
  have e : l = ih0.2 ++ t := e
  subst e
  rw [sw_b]
  match a, z with
  | 0, z => have z : (none : Option (Nat × List Value)) = some o := z; cases z
  | 1, z => have z : (none : Option (Nat × List Value)) = some o := z; cases z
  | 2, z => have z : (none : Option (Nat × List Value)) = some o := z; cases z
  | 3, z => have z : (none : Option (Nat × List Value)) = some o := z; cases z
  | 4, z => have z : (none : Option (Nat × List Value)) = some o := z; cases z
  | 5, z => have z : (none : Option (Nat × List Value)) = some o := z; cases z
  | 6, z => have z : (none : Option (Nat × List Value)) = some o := z; cases z
  | a + 7, z => exact ⟨z, by omega⟩
theorem sw_A (hh : okH h) {a k n : Nat} {f : Nat → Int32} (z : xgA h a = some (k, n, f)) (hk : k ≠ 99) : xgA (swH L xs h) a = some (k, n, f) ∧ (k < 10 → 7 ≤ a) := by
  obtain ⟨b, l⟩ := h
  obtain ⟨t, e⟩ := hh
  have e : l = ih0.2 ++ t := e
  subst e
  rw [sw_b]
  match a, z with
  | 0, z => have z : some ((99, 0, fun _ => 0) : Nat × Nat × (Nat → Int32)) = some (k, n, f) := z; cases z; exact absurd rfl hk
  | 1, z => have z : some ((10, 5, xsR0 1) : Nat × Nat × (Nat → Int32)) = some (k, n, f) := z; cases z; exact ⟨rfl, fun y => absurd y (by decide)⟩
  | 2, z => have z : some ((10, 5, xsR0 2) : Nat × Nat × (Nat → Int32)) = some (k, n, f) := z; cases z; exact ⟨rfl, fun y => absurd y (by decide)⟩
  | 3, z => have z : some ((10, 5, xsR0 3) : Nat × Nat × (Nat → Int32)) = some (k, n, f) := z; cases z; exact ⟨rfl, fun y => absurd y (by decide)⟩
  | 4, z => have z : some ((10, 4, xsR0 4) : Nat × Nat × (Nat → Int32)) = some (k, n, f) := z; cases z; exact ⟨rfl, fun y => absurd y (by decide)⟩
  | 5, z => have z : some ((11, 7, xsR0 5) : Nat × Nat × (Nat → Int32)) = some (k, n, f) := z; cases z; exact ⟨rfl, fun y => absurd y (by decide)⟩
  | 6, z => have z : some ((11, 4, xsR0 6) : Nat × Nat × (Nat → Int32)) = some (k, n, f) := z; cases z; exact ⟨rfl, fun y => absurd y (by decide)⟩
  | a + 7, z => exact ⟨z, fun _ => by omega⟩
theorem sw_set (hh : okH h) {a : Nat} {c : xCel} (ha : 7 ≤ a) : okH (xSt h a c) ∧ swH L xs (xSt h a c) = xSt (swH L xs h) a c := by
  obtain ⟨b, l⟩ := h
  obtain ⟨t, e⟩ := hh
  have e : l = ih0.2 ++ t := e
  subst e
  obtain ⟨a', rfl⟩ : ∃ a', a = a' + 7 := ⟨a - 7, by omega⟩
  have e1 : xSt (b, ih0.2 ++ t) (a' + 7) c = (b, ih0.2 ++ t.set a' c) := rfl
  rw [e1, sw_b, sw_b]
  exact ⟨⟨_, rfl⟩, rfl⟩
theorem sw_new (hh : okH h) {c : xCel} : okH (xNew h c) ∧ swH L xs (xNew h c) = xNew (swH L xs h) c := by
  obtain ⟨b, l⟩ := h
  obtain ⟨t, e⟩ := hh
  have e : l = ih0.2 ++ t := e
  subst e
  have e1 : xNew (b, ih0.2 ++ t) c = (b, ih0.2 ++ (t ++ [c])) := by unfold xNew; rw [List.append_assoc]
  rw [e1, sw_b, sw_b]
  unfold xNew
  exact ⟨⟨_, rfl⟩, by rw [List.append_assoc]⟩
theorem sw_gb (hh : okH h) : okH (xGb h) ∧ swH L xs (xGb h) = xGb (swH L xs h) := ⟨hh, rfl⟩
end SWH
section SLE
variable {L : Nat} {xs : Nat → Int32} {h : xHp} {k pc len nc ns : Nat} {ls : xLs} {st : List Value}
theorem wle_none {b : xA} : wle L xs none b := fun o z => by cases z
theorem wle_q {a b : Nat} {x y : xA} (h : wle L xs x y) : wle L xs (xq a b x) (xq a b y) := by
  unfold xq
  split
  · exact h
  · exact wle_none
theorem wle_bind {α : Type} {o : Option α} {f g : α → xA} (h : ∀ v, wle L xs (f v) (g v)) : wle L xs (o.bind f) (o.bind g) := by
  cases o with
  | none => exact wle_none
  | some v => exact h v
theorem wle_ite {p : Prop} [Decidable p] {a b c d : xA} (h1 : wle L xs a b) (h2 : wle L xs c d) : wle L xs (if p then a else c) (if p then b else d) := by
  split
  · exact h1
  · exact h2
theorem wle_go (hh : okH h) : wle L xs (xGo pc ls st h nc ns) (xGo pc ls st (swH L xs h) nc ns) := fun o z => by
  cases z
  exact ⟨hh, rfl⟩
theorem wle_eq {a b c : xA} (h : c = b) (h2 : wle L xs a b) : wle L xs a c := h ▸ h2
theorem wle_jm {off : Int} (hh : okH h) : wle L xs (xJm pc off ls st h nc ns) (xJm pc off ls st (swH L xs h) nc ns) := wle_ite (wle_go hh) wle_none
theorem wle_br {off : Int} {b : Bool} (hh : okH h) : wle L xs (xBr pc off b ls st h nc ns) (xBr pc off b ls st (swH L xs h) nc ns) := wle_ite (wle_ite (wle_go hh) (wle_go hh)) wle_none
theorem wle_rt {v : Option Value} {b : Bool} (hh : okH h) : wle L xs (xRt h v b) (xRt (swH L xs h) v b) := by
  unfold xRt
  refine wle_ite (fun o z => ?_) wle_none
  cases z
  exact ⟨hh, rfl⟩
theorem wle_bO {a : Nat} {f g : Nat × List Value → xA} (hh : okH h) (k : ∀ o, 7 ≤ a → wle L xs (f o) (g o)) : wle L xs ((xgO h a).bind f) ((xgO (swH L xs h) a).bind g) := by
  cases z : xgO h a with
  | none => exact wle_none
  | some o =>
    rw [(sw_O hh z).1]
    exact k o (sw_O (L := L) (xs := xs) hh z).2
theorem wle_bA {a : Nat} {f g : Nat × Nat × (Nat → Int32) → xA} (hh : okH h) (k0 : ∀ o : Nat × Nat × (Nat → Int32), o.1 = 99 → f o = none) (k : ∀ o : Nat × Nat × (Nat → Int32), (o.1 < 10 → 7 ≤ a) → wle L xs (f o) (g o)) : wle L xs ((xgA h a).bind f) ((xgA (swH L xs h) a).bind g) := by
  cases z : xgA h a with
  | none => exact wle_none
  | some o =>
    obtain ⟨t, n, f0⟩ := o
    by_cases e : t = 99
    · have := k0 (t, n, f0) e
      show wle L xs (f (t, n, f0)) _
      rw [this]
      exact wle_none
    · obtain ⟨z1, z2⟩ := sw_A (L := L) (xs := xs) hh z e
      rw [z1]
      exact k _ z2
theorem wle_al {s : Nat} {c : xCel} (hh : okH h) : wle L xs (xAlloc k pc ls st h nc ns s c) (xAlloc k pc ls st (swH L xs h) nc ns s c) := by
  unfold xAlloc
  rw [sw_len hh, ← (sw_new hh).2]
  exact wle_ite (wle_go (sw_new (L := L) (xs := xs) hh).1) wle_none
theorem wle_call {k' : Nat} (hh : okH h) : wle L xs (xCall k pc k' ls st h nc ns) (xCall k pc k' ls st (swH L xs h) nc ns) := by
  unfold xCall
  refine wle_ite (fun o z => ?_) wle_none
  cases z
  exact ⟨hh, rfl⟩
theorem sw_recv {k' : Nat} {as : List Value} (hh : okH h) (z : xrecv h k' as = true) : xrecv (swH L xs h) k' as = true := by
  unfold xrecv at z ⊢
  split at z
  · next b t =>
    split at z
    · next o ho => rw [(sw_O hh ho).1]; exact z
    · cases z
  · cases z
theorem wle_copy (hh : okH h) : wle L xs (xCopy k pc ls st h nc ns) (xCopy k pc ls st (swH L xs h) nc ns) := by
  intro o z
  unfold xCopy at z ⊢
  split at z
  · next n dp a sp b st' =>
    split at z
    · next t0 n0 f t1 n1 g h1 h2 =>
      split at z
      · next c =>
        obtain ⟨s1, s2⟩ := sw_A (L := L) (xs := xs) hh h1 (by rcases c.1 with e | e <;> rw [e] <;> decide)
        obtain ⟨s3, s4⟩ := sw_A (L := L) (xs := xs) hh h2 (by rw [c.2.1]; decide)
        obtain ⟨p1, p2⟩ := sw_set (L := L) (xs := xs) hh (a := a) (c := .inr (0, n1, va_cpy f g sp.toNatClampNeg dp.toNatClampNeg n.toNatClampNeg)) (s4 (by rw [c.2.1]; decide))
        cases z
        refine ⟨p1, ?_⟩
        simp only [s1, s3]
        rw [if_pos c, ← p2]
        rfl
      · cases z
    · cases z
  · cases z
theorem wle_inv {vm : Nat} {r : Nat × Nat × Nat × Nat × Nat × Nat × Nat} (hh : okH h) : wle L xs (xInv k pc r vm ls st h nc ns) (xInv k pc r vm ls st (swH L xs h) nc ns) := by
  unfold xInv
  split
  · intro o z
    split at z
    · next c => rw [if_pos (sw_recv hh c)]; exact wle_call hh o z
    · cases z
  · exact wle_call hh
  · exact wle_call hh
  · exact wle_copy hh
  · exact wle_call hh
  · exact wle_bind fun q => wle_ite (wle_go hh) wle_none
  · exact wle_bind fun q => wle_ite (wle_go hh) wle_none
  · exact wle_bind fun q => wle_ite (wle_go hh) wle_none
  · exact wle_ite (wle_call hh) wle_none
  · exact wle_ite (wle_call hh) wle_none
  · exact wle_bind fun q => wle_ite (wle_go hh) wle_none
  · exact wle_none
theorem wS_iconst {n} (hh : okH h) : wle L xs (xAct k pc (.iconst n) len ls st h nc ns) (xAct k pc (.iconst n) len ls st (swH L xs h) nc ns) :=
  wle_q (wle_go hh)
theorem wS_bipush {n} (hh : okH h) : wle L xs (xAct k pc (.bipush n) len ls st h nc ns) (xAct k pc (.bipush n) len ls st (swH L xs h) nc ns) :=
  wle_q (wle_go hh)
theorem wS_sipush {n} (hh : okH h) : wle L xs (xAct k pc (.sipush n) len ls st h nc ns) (xAct k pc (.sipush n) len ls st (swH L xs h) nc ns) :=
  wle_q (wle_go hh)
theorem wS_lconst {n} (hh : okH h) : wle L xs (xAct k pc (.lconst n) len ls st h nc ns) (xAct k pc (.lconst n) len ls st (swH L xs h) nc ns) :=
  wle_q (wle_go hh)
theorem wS_ldc {ix} (hh : okH h) : wle L xs (xAct k pc (.ldc ix) len ls st h nc ns) (xAct k pc (.ldc ix) len ls st (swH L xs h) nc ns) :=
  wle_q (wle_bind fun _ => (wle_go hh))
theorem wS_ldc_w {ix} (hh : okH h) : wle L xs (xAct k pc (.ldc_w ix) len ls st h nc ns) (xAct k pc (.ldc_w ix) len ls st (swH L xs h) nc ns) :=
  wle_q (wle_bind fun _ => (wle_go hh))
theorem wS_ldc2_w {ix} (hh : okH h) : wle L xs (xAct k pc (.ldc2_w ix) len ls st h nc ns) (xAct k pc (.ldc2_w ix) len ls st (swH L xs h) nc ns) :=
  wle_q (wle_bind fun _ => (wle_go hh))
theorem wS_iload_n {n} (hh : okH h) : wle L xs (xAct k pc (.iload_n n) len ls st h nc ns) (xAct k pc (.iload_n n) len ls st (swH L xs h) nc ns) :=
  wle_q (wle_bind fun _ => (wle_go hh))
theorem wS_iload {n} (hh : okH h) : wle L xs (xAct k pc (.iload n) len ls st h nc ns) (xAct k pc (.iload n) len ls st (swH L xs h) nc ns) :=
  wle_q (wle_bind fun _ => (wle_go hh))
theorem wS_lload_n {n} (hh : okH h) : wle L xs (xAct k pc (.lload_n n) len ls st h nc ns) (xAct k pc (.lload_n n) len ls st (swH L xs h) nc ns) :=
  wle_q (wle_bind fun _ => (wle_go hh))
theorem wS_lload {n} (hh : okH h) : wle L xs (xAct k pc (.lload n) len ls st h nc ns) (xAct k pc (.lload n) len ls st (swH L xs h) nc ns) :=
  wle_q (wle_bind fun _ => (wle_go hh))
theorem wS_aload_n {n} (hh : okH h) : wle L xs (xAct k pc (.aload_n n) len ls st h nc ns) (xAct k pc (.aload_n n) len ls st (swH L xs h) nc ns) :=
  wle_q (wle_bind fun _ => (wle_go hh))
theorem wS_aload {n} (hh : okH h) : wle L xs (xAct k pc (.aload n) len ls st h nc ns) (xAct k pc (.aload n) len ls st (swH L xs h) nc ns) :=
  wle_q (wle_bind fun _ => (wle_go hh))
theorem wS_istore_n {n} (hh : okH h) : wle L xs (xAct k pc (.istore_n n) len ls st h nc ns) (xAct k pc (.istore_n n) len ls st (swH L xs h) nc ns) :=
  wle_q (wle_bind fun _ => (wle_ite (wle_go hh) wle_none))
theorem wS_istore {n} (hh : okH h) : wle L xs (xAct k pc (.istore n) len ls st h nc ns) (xAct k pc (.istore n) len ls st (swH L xs h) nc ns) :=
  wle_q (wle_bind fun _ => (wle_ite (wle_go hh) wle_none))
theorem wS_lstore_n {n} (hh : okH h) : wle L xs (xAct k pc (.lstore_n n) len ls st h nc ns) (xAct k pc (.lstore_n n) len ls st (swH L xs h) nc ns) :=
  wle_q (wle_bind fun _ => (wle_ite (wle_go hh) wle_none))
theorem wS_lstore {n} (hh : okH h) : wle L xs (xAct k pc (.lstore n) len ls st h nc ns) (xAct k pc (.lstore n) len ls st (swH L xs h) nc ns) :=
  wle_q (wle_bind fun _ => (wle_ite (wle_go hh) wle_none))
theorem wS_astore_n {n} (hh : okH h) : wle L xs (xAct k pc (.astore_n n) len ls st h nc ns) (xAct k pc (.astore_n n) len ls st (swH L xs h) nc ns) :=
  wle_q (wle_bind fun _ => (wle_ite (wle_go hh) wle_none))
theorem wS_astore {n} (hh : okH h) : wle L xs (xAct k pc (.astore n) len ls st h nc ns) (xAct k pc (.astore n) len ls st (swH L xs h) nc ns) :=
  wle_q (wle_bind fun _ => (wle_ite (wle_go hh) wle_none))
theorem wS_iinc {i n} (hh : okH h) : wle L xs (xAct k pc (.iinc i n) len ls st h nc ns) (xAct k pc (.iinc i n) len ls st (swH L xs h) nc ns) :=
  wle_q (wle_bind fun _ => (wle_ite (wle_go hh) wle_none))
theorem wS_iadd (hh : okH h) : wle L xs (xAct k pc (.iadd) len ls st h nc ns) (xAct k pc (.iadd) len ls st (swH L xs h) nc ns) :=
  wle_q (wle_bind fun _ => (wle_go hh))
theorem wS_isub (hh : okH h) : wle L xs (xAct k pc (.isub) len ls st h nc ns) (xAct k pc (.isub) len ls st (swH L xs h) nc ns) :=
  wle_q (wle_bind fun _ => (wle_go hh))
theorem wS_imul (hh : okH h) : wle L xs (xAct k pc (.imul) len ls st h nc ns) (xAct k pc (.imul) len ls st (swH L xs h) nc ns) :=
  wle_q (wle_bind fun _ => (wle_go hh))
theorem wS_idiv (hh : okH h) : wle L xs (xAct k pc (.idiv) len ls st h nc ns) (xAct k pc (.idiv) len ls st (swH L xs h) nc ns) :=
  wle_q (wle_bind fun _ => (wle_ite wle_none (wle_go hh)))
theorem wS_irem (hh : okH h) : wle L xs (xAct k pc (.irem) len ls st h nc ns) (xAct k pc (.irem) len ls st (swH L xs h) nc ns) :=
  wle_q (wle_bind fun _ => (wle_ite wle_none (wle_go hh)))
theorem wS_ineg (hh : okH h) : wle L xs (xAct k pc (.ineg) len ls st h nc ns) (xAct k pc (.ineg) len ls st (swH L xs h) nc ns) :=
  wle_q (wle_bind fun _ => (wle_go hh))
theorem wS_ishl (hh : okH h) : wle L xs (xAct k pc (.ishl) len ls st h nc ns) (xAct k pc (.ishl) len ls st (swH L xs h) nc ns) :=
  wle_q (wle_bind fun _ => (wle_go hh))
theorem wS_ishr (hh : okH h) : wle L xs (xAct k pc (.ishr) len ls st h nc ns) (xAct k pc (.ishr) len ls st (swH L xs h) nc ns) :=
  wle_q (wle_bind fun _ => (wle_go hh))
theorem wS_iushr (hh : okH h) : wle L xs (xAct k pc (.iushr) len ls st h nc ns) (xAct k pc (.iushr) len ls st (swH L xs h) nc ns) :=
  wle_q (wle_bind fun _ => (wle_go hh))
theorem wS_iand (hh : okH h) : wle L xs (xAct k pc (.iand) len ls st h nc ns) (xAct k pc (.iand) len ls st (swH L xs h) nc ns) :=
  wle_q (wle_bind fun _ => (wle_go hh))
theorem wS_ior (hh : okH h) : wle L xs (xAct k pc (.ior) len ls st h nc ns) (xAct k pc (.ior) len ls st (swH L xs h) nc ns) :=
  wle_q (wle_bind fun _ => (wle_go hh))
theorem wS_ixor (hh : okH h) : wle L xs (xAct k pc (.ixor) len ls st h nc ns) (xAct k pc (.ixor) len ls st (swH L xs h) nc ns) :=
  wle_q (wle_bind fun _ => (wle_go hh))
theorem wS_i2l (hh : okH h) : wle L xs (xAct k pc (.i2l) len ls st h nc ns) (xAct k pc (.i2l) len ls st (swH L xs h) nc ns) :=
  wle_q (wle_bind fun _ => (wle_go hh))
theorem wS_l2i (hh : okH h) : wle L xs (xAct k pc (.l2i) len ls st h nc ns) (xAct k pc (.l2i) len ls st (swH L xs h) nc ns) :=
  wle_q (wle_bind fun _ => (wle_go hh))
theorem wS_i2c (hh : okH h) : wle L xs (xAct k pc (.i2c) len ls st h nc ns) (xAct k pc (.i2c) len ls st (swH L xs h) nc ns) :=
  wle_q (wle_bind fun _ => (wle_go hh))
theorem wS_ladd (hh : okH h) : wle L xs (xAct k pc (.ladd) len ls st h nc ns) (xAct k pc (.ladd) len ls st (swH L xs h) nc ns) :=
  wle_q (wle_bind fun _ => (wle_go hh))
theorem wS_lsub (hh : okH h) : wle L xs (xAct k pc (.lsub) len ls st h nc ns) (xAct k pc (.lsub) len ls st (swH L xs h) nc ns) :=
  wle_q (wle_bind fun _ => (wle_go hh))
theorem wS_lmul (hh : okH h) : wle L xs (xAct k pc (.lmul) len ls st h nc ns) (xAct k pc (.lmul) len ls st (swH L xs h) nc ns) :=
  wle_q (wle_bind fun _ => (wle_go hh))
theorem wS_ldiv (hh : okH h) : wle L xs (xAct k pc (.ldiv) len ls st h nc ns) (xAct k pc (.ldiv) len ls st (swH L xs h) nc ns) :=
  wle_q (wle_bind fun _ => (wle_ite wle_none (wle_go hh)))
theorem wS_lrem (hh : okH h) : wle L xs (xAct k pc (.lrem) len ls st h nc ns) (xAct k pc (.lrem) len ls st (swH L xs h) nc ns) :=
  wle_q (wle_bind fun _ => (wle_ite wle_none (wle_go hh)))
theorem wS_land (hh : okH h) : wle L xs (xAct k pc (.land) len ls st h nc ns) (xAct k pc (.land) len ls st (swH L xs h) nc ns) :=
  wle_q (wle_bind fun _ => (wle_go hh))
theorem wS_lor (hh : okH h) : wle L xs (xAct k pc (.lor) len ls st h nc ns) (xAct k pc (.lor) len ls st (swH L xs h) nc ns) :=
  wle_q (wle_bind fun _ => (wle_go hh))
theorem wS_lshl (hh : okH h) : wle L xs (xAct k pc (.lshl) len ls st h nc ns) (xAct k pc (.lshl) len ls st (swH L xs h) nc ns) :=
  wle_q (wle_bind fun _ => (wle_go hh))
theorem wS_lshr (hh : okH h) : wle L xs (xAct k pc (.lshr) len ls st h nc ns) (xAct k pc (.lshr) len ls st (swH L xs h) nc ns) :=
  wle_q (wle_bind fun _ => (wle_go hh))
theorem wS_lushr (hh : okH h) : wle L xs (xAct k pc (.lushr) len ls st h nc ns) (xAct k pc (.lushr) len ls st (swH L xs h) nc ns) :=
  wle_q (wle_bind fun _ => (wle_go hh))
theorem wS_lcmp (hh : okH h) : wle L xs (xAct k pc (.lcmp) len ls st h nc ns) (xAct k pc (.lcmp) len ls st (swH L xs h) nc ns) :=
  wle_q (wle_bind fun _ => (wle_go hh))
theorem wS_dup (hh : okH h) : wle L xs (xAct k pc (.dup) len ls st h nc ns) (xAct k pc (.dup) len ls st (swH L xs h) nc ns) :=
  wle_q (wle_bind fun _ => (wle_go hh))
theorem wS_dup_x1 (hh : okH h) : wle L xs (xAct k pc (.dup_x1) len ls st h nc ns) (xAct k pc (.dup_x1) len ls st (swH L xs h) nc ns) :=
  wle_q (wle_bind fun _ => (wle_go hh))
theorem wS_dup2 (hh : okH h) : wle L xs (xAct k pc (.dup2) len ls st h nc ns) (xAct k pc (.dup2) len ls st (swH L xs h) nc ns) :=
  wle_q (wle_bind fun _ => (wle_go hh))
theorem wS_pop (hh : okH h) : wle L xs (xAct k pc (.pop) len ls st h nc ns) (xAct k pc (.pop) len ls st (swH L xs h) nc ns) :=
  wle_q (wle_bind fun _ => (wle_go hh))
theorem wS_goto {off} (hh : okH h) : wle L xs (xAct k pc (.goto off) len ls st h nc ns) (xAct k pc (.goto off) len ls st (swH L xs h) nc ns) :=
  wle_q (wle_jm hh)
theorem wS_if_icmp {cd off} (hh : okH h) : wle L xs (xAct k pc (.if_icmp cd off) len ls st h nc ns) (xAct k pc (.if_icmp cd off) len ls st (swH L xs h) nc ns) :=
  wle_q (wle_bind fun q => (wle_br hh))
theorem wS_ifCond {cd off} (hh : okH h) : wle L xs (xAct k pc (.ifCond cd off) len ls st h nc ns) (xAct k pc (.ifCond cd off) len ls st (swH L xs h) nc ns) :=
  wle_q (wle_bind fun q => (wle_br hh))
theorem wS_tableswitch {dflt lo hi offs} (hh : okH h) : wle L xs (xAct k pc (.tableswitch dflt lo hi offs) len ls st h nc ns) (xAct k pc (.tableswitch dflt lo hi offs) len ls st (swH L xs h) nc ns) :=
  wle_bind fun q => wle_bind fun off => (wle_jm hh)
theorem wS_lookupswitch {dflt ps} (hh : okH h) : wle L xs (xAct k pc (.lookupswitch dflt ps) len ls st h nc ns) (xAct k pc (.lookupswitch dflt ps) len ls st (swH L xs h) nc ns) :=
  wle_bind fun q => wle_ite (wle_jm hh) wle_none
theorem wS_getstatic {ix} (hh : okH h) : wle L xs (xAct k pc (.getstatic ix) len ls st h nc ns) (xAct k pc (.getstatic ix) len ls st (swH L xs h) nc ns) :=
  wle_q (wle_bind fun _ => (wle_go hh))
theorem wS_getfield {ix} (hh : okH h) : wle L xs (xAct k pc (.getfield ix) len ls st h nc ns) (xAct k pc (.getfield ix) len ls st (swH L xs h) nc ns) :=
  wle_q (wle_bind fun q => wle_bind fun tf => wle_bO hh fun o _ => wle_ite (wle_bind fun v => wle_go hh) wle_none)
theorem wS_putfield {ix} (hh : okH h) : wle L xs (xAct k pc (.putfield ix) len ls st h nc ns) (xAct k pc (.putfield ix) len ls st (swH L xs h) nc ns) :=
  wle_q (wle_bind fun q => wle_bind fun tf => wle_bO hh fun o ha => wle_ite (wle_eq (by rw [(sw_set hh ha).2]) (wle_go (sw_set (L := L) (xs := xs) hh ha).1)) wle_none)
theorem wS_iaload (hh : okH h) : wle L xs (xAct k pc (.iaload) len ls st h nc ns) (xAct k pc (.iaload) len ls st (swH L xs h) nc ns) :=
  wle_q (wle_bind fun q => wle_bA hh (fun o e => if_neg (fun z => by rw [e] at z; rcases z.1 with y | y <;> exact absurd y (by decide))) fun o ha => wle_ite (wle_go hh) wle_none)
theorem wS_caload (hh : okH h) : wle L xs (xAct k pc (.caload) len ls st h nc ns) (xAct k pc (.caload) len ls st (swH L xs h) nc ns) :=
  wle_q (wle_bind fun q => wle_bA hh (fun o e => if_neg (fun z => by rw [e] at z; rcases z.1 with y | y <;> exact absurd y (by decide))) fun o ha => wle_ite (wle_go hh) wle_none)
theorem wS_baload (hh : okH h) : wle L xs (xAct k pc (.baload) len ls st h nc ns) (xAct k pc (.baload) len ls st (swH L xs h) nc ns) :=
  wle_q (wle_bind fun q => wle_bA hh (fun o e => if_neg (fun z => by rw [e] at z; exact absurd z.1 (by decide))) fun o ha => wle_ite (wle_go hh) wle_none)
theorem wS_arraylength (hh : okH h) : wle L xs (xAct k pc (.arraylength) len ls st h nc ns) (xAct k pc (.arraylength) len ls st (swH L xs h) nc ns) :=
  wle_q (wle_bind fun q => wle_bA hh (fun o e => if_neg (fun z => by rw [e] at z; rcases z with y | y | y <;> exact absurd y (by decide))) fun o ha => wle_ite (wle_go hh) wle_none)
theorem wS_anewarray {ix} (hh : okH h) : wle L xs (xAct k pc (.anewarray ix) len ls st h nc ns) (xAct k pc (.anewarray ix) len ls st (swH L xs h) nc ns) :=
  wle_q (wle_bind fun q => wle_ite (wle_al hh) wle_none)
theorem wS_newarray {t} (hh : okH h) : wle L xs (xAct k pc (.newarray t) len ls st h nc ns) (xAct k pc (.newarray t) len ls st (swH L xs h) nc ns) :=
  wle_q (wle_bind fun q => wle_ite (wle_bind fun c => wle_al hh) wle_none)
theorem wS_invokevirtual {ix} (hh : okH h) : wle L xs (xAct k pc (.invokevirtual ix) len ls st h nc ns) (xAct k pc (.invokevirtual ix) len ls st (swH L xs h) nc ns) :=
  wle_q (wle_bind fun r => wle_inv hh)
theorem wS_invokestatic {ix} (hh : okH h) : wle L xs (xAct k pc (.invokestatic ix) len ls st h nc ns) (xAct k pc (.invokestatic ix) len ls st (swH L xs h) nc ns) :=
  wle_q (wle_bind fun r => wle_inv hh)
theorem wS_invokespecial {ix} (hh : okH h) : wle L xs (xAct k pc (.invokespecial ix) len ls st h nc ns) (xAct k pc (.invokespecial ix) len ls st (swH L xs h) nc ns) :=
  wle_q (wle_bind fun r => wle_inv hh)
theorem wS_ireturn (hh : okH h) : wle L xs (xAct k pc (.ireturn) len ls st h nc ns) (xAct k pc (.ireturn) len ls st (swH L xs h) nc ns) :=
  wle_q (by split <;> first | exact wle_rt hh | exact wle_none)
theorem wS_lreturn (hh : okH h) : wle L xs (xAct k pc (.lreturn) len ls st h nc ns) (xAct k pc (.lreturn) len ls st (swH L xs h) nc ns) :=
  wle_q (by split <;> first | exact wle_rt hh | exact wle_none)
theorem wS_return_ (hh : okH h) : wle L xs (xAct k pc (.return_) len ls st h nc ns) (xAct k pc (.return_) len ls st (swH L xs h) nc ns) :=
  wle_q (by split <;> first | exact wle_rt hh | exact wle_none)
theorem wS_iastore (hh : okH h) : wle L xs (xAct k pc (.iastore) len ls st h nc ns) (xAct k pc (.iastore) len ls st (swH L xs h) nc ns) :=
  wle_q (wle_bind fun q => by
    refine wle_bA hh (fun o e => if_neg (fun z => by rw [e] at z; exact absurd z.1 (by decide))) fun o ha => ?_
    intro o' z
    split at z
    · next c =>
      have ha := ha (by rw [c.1]; decide)
      rw [if_pos c]
      exact wle_eq (by rw [(sw_set hh ha).2]) (wle_go (sw_set (L := L) (xs := xs) hh ha).1) o' z
    · cases z)
theorem wS_castore (hh : okH h) : wle L xs (xAct k pc (.castore) len ls st h nc ns) (xAct k pc (.castore) len ls st (swH L xs h) nc ns) :=
  wle_q (wle_bind fun q => by
    refine wle_bA hh (fun o e => if_neg (fun z => by rw [e] at z; exact absurd z.1 (by decide))) fun o ha => ?_
    intro o' z
    split at z
    · next c =>
      have ha := ha (by rw [c.1]; decide)
      rw [if_pos c]
      exact wle_eq (by rw [(sw_set hh ha).2]) (wle_go (sw_set (L := L) (xs := xs) hh ha).1) o' z
    · cases z)
theorem wS_bastore (hh : okH h) : wle L xs (xAct k pc (.bastore) len ls st h nc ns) (xAct k pc (.bastore) len ls st (swH L xs h) nc ns) :=
  wle_q (wle_bind fun q => by
    refine wle_bA hh (fun o e => if_neg (fun z => by rw [e] at z; exact absurd z.1 (by decide))) fun o ha => ?_
    intro o' z
    split at z
    · next c =>
      have ha := ha (by rw [c.1]; decide)
      rw [if_pos c]
      exact wle_eq (by rw [(sw_set hh ha).2]) (wle_go (sw_set (L := L) (xs := xs) hh ha).1) o' z
    · cases z)
theorem wS_aaload (hh : okH h) : wle L xs (xAct k pc (.aaload) len ls st h nc ns) (xAct k pc (.aaload) len ls st (swH L xs h) nc ns) :=
  wle_q (wle_bind fun q => wle_bO hh fun o _ => wle_ite (by split <;> first | exact wle_go hh | exact wle_none) wle_none)
theorem wS_aastore (hh : okH h) : wle L xs (xAct k pc (.aastore) len ls st h nc ns) (xAct k pc (.aastore) len ls st (swH L xs h) nc ns) :=
  wle_q (wle_bind fun q => wle_bO hh fun o ha => wle_bO hh fun o2 _ => wle_ite (wle_eq (by rw [(sw_set hh ha).2]) (wle_go (sw_set (L := L) (xs := xs) hh ha).1)) wle_none)
theorem wS_new {ix} (hh : okH h) : wle L xs (xAct k pc (.new ix) len ls st h nc ns) (xAct k pc (.new ix) len ls st (swH L xs h) nc ns) :=
  wle_q (by
    cases xTh k pc with
    | some E =>
      refine wle_ite (fun o z => ?_) wle_none
      cases z
      exact ⟨hh, rfl⟩
    | none => exact wle_bind fun t => wle_al hh)
theorem wS_all (i : Instr) (hh : okH h) : wle L xs (xAct k pc i len ls st h nc ns) (xAct k pc i len ls st (swH L xs h) nc ns) := by
  cases i
  case iconst => exact wS_iconst hh
  case bipush => exact wS_bipush hh
  case sipush => exact wS_sipush hh
  case lconst => exact wS_lconst hh
  case ldc => exact wS_ldc hh
  case ldc_w => exact wS_ldc_w hh
  case ldc2_w => exact wS_ldc2_w hh
  case iload_n => exact wS_iload_n hh
  case iload => exact wS_iload hh
  case lload_n => exact wS_lload_n hh
  case lload => exact wS_lload hh
  case aload_n => exact wS_aload_n hh
  case aload => exact wS_aload hh
  case istore_n => exact wS_istore_n hh
  case istore => exact wS_istore hh
  case lstore_n => exact wS_lstore_n hh
  case lstore => exact wS_lstore hh
  case astore_n => exact wS_astore_n hh
  case astore => exact wS_astore hh
  case iinc => exact wS_iinc hh
  case iadd => exact wS_iadd hh
  case isub => exact wS_isub hh
  case imul => exact wS_imul hh
  case idiv => exact wS_idiv hh
  case irem => exact wS_irem hh
  case ineg => exact wS_ineg hh
  case ishl => exact wS_ishl hh
  case ishr => exact wS_ishr hh
  case iushr => exact wS_iushr hh
  case iand => exact wS_iand hh
  case ior => exact wS_ior hh
  case ixor => exact wS_ixor hh
  case i2l => exact wS_i2l hh
  case l2i => exact wS_l2i hh
  case i2c => exact wS_i2c hh
  case ladd => exact wS_ladd hh
  case lsub => exact wS_lsub hh
  case lmul => exact wS_lmul hh
  case ldiv => exact wS_ldiv hh
  case lrem => exact wS_lrem hh
  case land => exact wS_land hh
  case lor => exact wS_lor hh
  case lshl => exact wS_lshl hh
  case lshr => exact wS_lshr hh
  case lushr => exact wS_lushr hh
  case lcmp => exact wS_lcmp hh
  case dup => exact wS_dup hh
  case dup_x1 => exact wS_dup_x1 hh
  case dup2 => exact wS_dup2 hh
  case pop => exact wS_pop hh
  case goto => exact wS_goto hh
  case if_icmp => exact wS_if_icmp hh
  case ifCond => exact wS_ifCond hh
  case tableswitch => exact wS_tableswitch hh
  case lookupswitch => exact wS_lookupswitch hh
  case getfield => exact wS_getfield hh
  case putfield => exact wS_putfield hh
  case getstatic => exact wS_getstatic hh
  case iaload => exact wS_iaload hh
  case caload => exact wS_caload hh
  case baload => exact wS_baload hh
  case iastore => exact wS_iastore hh
  case castore => exact wS_castore hh
  case bastore => exact wS_bastore hh
  case aaload => exact wS_aaload hh
  case arraylength => exact wS_arraylength hh
  case new => exact wS_new hh
  case invokevirtual => exact wS_invokevirtual hh
  case invokestatic => exact wS_invokestatic hh
  case invokespecial => exact wS_invokespecial hh
  case ireturn => exact wS_ireturn hh
  case lreturn => exact wS_lreturn hh
  case return_ => exact wS_return_ hh
  case anewarray => exact wS_anewarray hh
  case newarray => exact wS_newarray hh
  case aastore => exact wS_aastore hh
  all_goals exact wle_none
theorem wle_F (hh : okH h) : wle L xs (xF k pc ls st h nc ns) (xF k pc ls st (swH L xs h) nc ns) := by
  unfold xF
  split
  · exact wS_all _ hh
  · exact wle_none
end SLE
theorem sw_run {L : Nat} {xs : Nat → Int32} : ∀ (n k pc : Nat) (ls : xLs) (st : List Value) (h : xHp) (nc ns : Nat) (r : Option Value ⊕ Nat) (h' : xHp), okH h → xr n k pc ls st h nc ns = some (r, h') → okH h' ∧ xr n k pc ls st (swH L xs h) nc ns = some (r, swH L xs h') := by
  intro n
  induction n with
  | zero => intro k pc ls st h nc ns r h' hh z; cases z
  | succ n ih =>
    intro k pc ls st h nc ns r h' hh z
    have hF := wle_F (L := L) (xs := xs) (k := k) (pc := pc) (ls := ls) (st := st) (nc := nc) (ns := ns) hh
    have z : xK (xr n) k (xF k pc ls st h nc ns) = some (r, h') := z
    show okH h' ∧ xK (xr n) k (xF k pc ls st (swH L xs h) nc ns) = _
    cases ho : xF k pc ls st h nc ns with
    | none => rw [ho] at z; cases z
    | some o =>
      obtain ⟨g1, g2⟩ := hF o ho
      rw [ho] at z
      rw [g2]
      match o, g1, z with
      | .inl (pc1, ls1, st1, h1, nc1, ns1), g1, z => exact ih k pc1 ls1 st1 h1 nc1 ns1 r h' g1 z
      | .inr (.inl (r1, h1)), g1, z =>
        have z : some ((r1, h1) : xRes) = some (r, h') := z
        cases z
        exact ⟨g1, rfl⟩
      | .inr (.inr (k1, as, pc1, ls1, st1, h1, nc1, ns1)), g1, z =>
        have z : (match xr n k1 0 (xEnt (xml k1) as) [] h1 0 0 with
          | none => none
          | some (.inl v, h') => xr n k (pc1 + 3) ls1 (xPush v st1) h' (nc1 + xmc k1) (ns1 + xms k1)
          | some (.inr E, h') => if xkd k1 = 1 then (match xHd k pc1 E with
            | some (pc', i) => if xkd k = 2 ∧ i < ls1.length then xr n k pc' (xS0 ls1 i) [] h' (nc1 + xmc k1) (ns1 + xms k1) else none
            | none => if xkd k = 1 then some (.inr E, h') else none) else none) = some (r, h') := z
        show okH h' ∧ (match xr n k1 0 (xEnt (xml k1) as) [] (swH L xs h1) 0 0 with
          | none => none
          | some (.inl v, h') => xr n k (pc1 + 3) ls1 (xPush v st1) h' (nc1 + xmc k1) (ns1 + xms k1)
          | some (.inr E, h') => if xkd k1 = 1 then (match xHd k pc1 E with
            | some (pc', i) => if xkd k = 2 ∧ i < ls1.length then xr n k pc' (xS0 ls1 i) [] h' (nc1 + xmc k1) (ns1 + xms k1) else none
            | none => if xkd k = 1 then some (.inr E, h') else none) else none) = some (r, swH L xs h')
        cases hc : xr n k1 0 (xEnt (xml k1) as) [] h1 0 0 with
        | none => rw [hc] at z; cases z
        | some q =>
          obtain ⟨r2, h2⟩ := q
          obtain ⟨q1, q2⟩ := ih _ _ _ _ _ _ _ _ _ g1 hc
          rw [hc] at z
          rw [q2]
          cases r2 with
          | inl v => exact ih _ _ _ _ _ _ _ _ _ q1 z
          | inr E =>
            simp only at z ⊢
            by_cases hk : xkd k1 = 1
            · rw [if_pos hk] at z ⊢
              cases hd : xHd k pc1 E with
              | none =>
                rw [hd] at z
                simp only at z ⊢
                by_cases hk2 : xkd k = 1
                · rw [if_pos hk2] at z ⊢
                  cases z
                  exact ⟨q1, rfl⟩
                · rw [if_neg hk2] at z; cases z
              | some y =>
                obtain ⟨pc', i⟩ := y
                rw [hd] at z
                simp only at z ⊢
                by_cases hi : xkd k = 2 ∧ i < ls1.length
                · rw [if_pos hi] at z ⊢
                  exact ih _ _ _ _ _ _ _ _ _ q1 z
                · rw [if_neg hi] at z; cases z
            · rw [if_neg hk] at z; cases z
theorem sw_X {L : Nat} {xs : Nat → Int32} {n k pc : Nat} {ls : xLs} {st : List Value} {h : xHp} {nc ns : Nat} {r : Option Value ⊕ Nat} {h' : xHp} (hh : okH h) (z : xr n k pc ls st h nc ns = some (r, h')) : okH h' ∧ xX k pc ls st (swH L xs h) nc ns = some (r, swH L xs h') := ⟨(sw_run (L := L) (xs := xs) _ _ _ _ _ _ _ _ _ _ hh z).1, xX_some.mpr ⟨n, (sw_run _ _ _ _ _ _ _ _ _ _ hh z).2⟩⟩
