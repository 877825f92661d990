/-! the two objects' places changed one for the other -/
def sg (a : Nat) : Nat := if a < 7 then a else if a < 190 then a + 183 else if a < 373 then a - 183 else a
theorem sg_sg (a : Nat) : sg (sg a) = a := by
  unfold sg
  (repeat' split) <;> omega
def sgV : Value → Value
  | .ref a => .ref (sg a)
  | v => v
def sgS (st : List Value) : List Value := st.map sgV
def sgL (ls : xLs) : xLs := ls.map (fun o => o.map sgV)
def sgM (M : yM) : yM := fun a => M (sg a)
theorem sgV_V (v : Value) : sgV (sgV v) = v := by
  cases v <;> first | rfl | exact congrArg Value.ref (sg_sg _)
theorem sgM_M (M : yM) : sgM (sgM M) = M := funext fun a => congrArg M (sg_sg a)
theorem ysh_sg0 : ∀ a, a < 373 → (ysh (sg a)).1 = (ysh a).1 ∧ (ysh (sg a)).2.1 = (ysh a).2.1 ∧ (ysh (sg a)).2.2 = (ysh a).2.2.map (fun o => o.map sg) := by decide +kernel
theorem yT_373 : yT.length = 373 := by decide +kernel
theorem ysh_hi {a : Nat} (h : 373 ≤ a) : ysh a = (99, 0, []) := by
  unfold ysh
  rw [List.getElem?_eq_none (by rw [yT_373]; exact h)]
  rfl
theorem sg_hi {a : Nat} (h : 373 ≤ a) : sg a = a := by
  unfold sg
  rw [if_neg (by omega), if_neg (by omega), if_neg (by omega)]
theorem ysh_sg (a : Nat) : (ysh (sg a)).1 = (ysh a).1 ∧ (ysh (sg a)).2.1 = (ysh a).2.1 ∧ (ysh (sg a)).2.2 = (ysh a).2.2.map (fun o => o.map sg) := by
  by_cases h : a < 373
  · exact ysh_sg0 a h
  · rw [sg_hi (by omega), ysh_hi (by omega)]
    exact ⟨rfl, rfl, rfl⟩
theorem ysh_1 (a : Nat) : (ysh (sg a)).1 = (ysh a).1 := (ysh_sg a).1
theorem sg_16 {a : Nat} : (1 ≤ sg a ∧ sg a ≤ 6) ↔ (1 ≤ a ∧ a ≤ 6) := by
  unfold sg
  split
  · exact Iff.rfl
  · split
    · omega
    · split <;> omega
theorem sg_lo {a : Nat} (h : a < 7) : sg a = a := if_pos h
theorem sg_0 {a : Nat} : (sg a = 0) ↔ (a = 0) := by
  unfold sg
  split
  · exact Iff.rfl
  · split
    · omega
    · split <;> omega
theorem yrd_sg (M : yM) (a : Nat) : yrd (sgM M) (sg a) = yrd M a := by
  unfold yrd
  by_cases h : 1 ≤ a ∧ a ≤ 6
  · rw [if_pos (sg_16.mpr h), if_pos h, sg_lo (by omega)]
  · rw [if_neg (fun z => h (sg_16.mp z)), if_neg h]
    exact congrArg M (sg_sg a)
theorem ylen_sg (M : yM) : ylen (sgM M) = ylen M := rfl
theorem yn_sg (M : yM) (a : Nat) : yn (sgM M) (sg a) (ysh (sg a)) = yn M a (ysh a) := by
  unfold yn
  by_cases h : a = 0
  · rw [if_pos (sg_0.mpr h), if_pos h, ylen_sg]
  · rw [if_neg (fun z => h (sg_0.mp z)), if_neg h]
    exact (ysh_sg a).2.1
theorem sgM_at (M : yM) (a : Nat) : sgM M (sg a) = M a := congrArg M (sg_sg a)
theorem sg_inj {a b : Nat} : (a = sg b) ↔ (sg a = b) := ⟨fun h => by rw [h, sg_sg], fun h => by rw [← h, sg_sg]⟩
theorem sgU (M : yM) (a j : Nat) (x : Int32) : yU (sgM M) (sg a) j x = sgM (yU M a j x) := by
  funext b
  show (if b = sg a then upd (sgM M (sg a)) j x else sgM M b) = (if sg b = a then upd (M a) j x else M (sg b))
  by_cases h : b = sg a
  · rw [if_pos h, if_pos (sg_inj.mp h), sgM_at]
  · rw [if_neg h, if_neg (fun z => h (sg_inj.mpr z))]
    rfl
theorem sgUa (M : yM) (a : Nat) (f : Nat → Int32) : yUa (sgM M) (sg a) f = sgM (yUa M a f) := by
  funext b
  show (if b = sg a then f else sgM M b) = (if sg b = a then f else M (sg b))
  by_cases h : b = sg a
  · rw [if_pos h, if_pos (sg_inj.mp h)]
  · rw [if_neg h, if_neg (fun z => h (sg_inj.mpr z))]
    rfl
def sgR : yRes → yRes
  | (.inl v, M) => (.inl (v.map sgV), sgM M)
  | (.inr E, M) => (.inr E, sgM M)
def sgA : yJ ⊕ (yRes ⊕ yCa) → yJ ⊕ (yRes ⊕ yCa)
  | .inl (pc, ls, st, M, nc, ns) => .inl (pc, sgL ls, sgS st, sgM M, nc, ns)
  | .inr (.inl r) => .inr (.inl (sgR r))
  | .inr (.inr (k', as, pc, ls, st, M, nc, ns)) => .inr (.inr (k', sgS as, pc, sgL ls, sgS st, sgM M, nc, ns))
def sle (a b : yA) : Prop := ∀ o, a = some o → b = some (sgA o)
section SL
theorem sle_go {pc : Nat} {ls : xLs} {st : List Value} {M : yM} {nc ns : Nat} : sle (yGo pc ls st M nc ns) (yGo pc (sgL ls) (sgS st) (sgM M) nc ns) := by
  intro o h
  cases h
  rfl
theorem sle_none {b : yA} : sle none b := by
  intro o h
  cases h
theorem sle_q {n m : Nat} {a b : yA} (h : sle a b) : sle (yq n m a) (yq n m b) := by
  unfold yq
  split
  · exact h
  · exact sle_none
theorem sle_bind {α : Type} {o : Option α} {f g : α → yA} (h : ∀ v, sle (f v) (g v)) : sle (o.bind f) (o.bind g) := by
  cases o with
  | none => exact sle_none
  | some v => exact h v
theorem sle_bm {α : Type} {o o' : Option α} {t : α → α} {f g : α → yA} (ho : o' = o.map t) (h : ∀ v, sle (f v) (g (t v))) : sle (o.bind f) (o'.bind g) := by
  subst ho
  cases o with
  | none => exact sle_none
  | some v => exact h v
theorem sle_ite {p q : Prop} [Decidable p] [Decidable q] {a b c d : yA} (hpq : q ↔ p) (h1 : p → sle a b) (h2 : ¬ p → sle c d) : sle (if p then a else c) (if q then b else d) := by
  by_cases hp : p
  · rw [if_pos hp, if_pos (hpq.mpr hp)]; exact h1 hp
  · rw [if_neg hp, if_neg (fun z => hp (hpq.mp z))]; exact h2 hp
theorem sle_eq {a b c : yA} (h : b = c) (h2 : sle a b) : sle a c := h ▸ h2
end SL
theorem sgL_get (ls : xLs) (i : Nat) : (sgL ls)[i]? = (ls[i]?).map (fun o => o.map sgV) := List.getElem?_map ..
theorem sgL_len (ls : xLs) : (sgL ls).length = ls.length := List.length_map ..
theorem sgS_len (st : List Value) : (sgS st).length = st.length := List.length_map ..
theorem xlI_sg (ls : xLs) (i : Nat) : xlI (sgL ls) i = xlI ls i := by
  unfold xlI
  rw [sgL_get]
  cases ls[i]? with
  | none => rfl
  | some o =>
    cases o with
    | none => rfl
    | some v => cases v <;> rfl
theorem xlL_sg (ls : xLs) (i : Nat) : xlL (sgL ls) i = xlL ls i := by
  unfold xlL
  rw [sgL_get]
  cases ls[i]? with
  | none => rfl
  | some o =>
    cases o with
    | none => rfl
    | some v => cases v <;> rfl
theorem xlR_sg (ls : xLs) (i : Nat) : xlR (sgL ls) i = (xlR ls i).map sg := by
  unfold xlR
  rw [sgL_get]
  cases ls[i]? with
  | none => rfl
  | some o =>
    cases o with
    | none => rfl
    | some v => cases v <;> rfl
theorem xUn_sg (o : Option Value) : xUn (o.map sgV) = (xUn o).map sgV := by
  cases o with
  | none => rfl
  | some v => cases v <;> rfl
theorem xS1_sg : ∀ (ls : xLs) (i : Nat) (v : Value), xS1 (sgL ls) i (sgV v) = sgL (xS1 ls i v)
  | [], _, _ => rfl
  | _ :: t, 0, v => rfl
  | a :: t, 1, v => by
    show xUn (a.map sgV) :: xS1 (sgL t) 0 (sgV v) = _
    rw [xUn_sg, xS1_sg t 0 v]
    rfl
  | a :: t, i + 2, v => by
    show a.map sgV :: xS1 (sgL t) (i + 1) (sgV v) = _
    rw [xS1_sg t (i + 1) v]
    rfl
theorem sgL_setn (ls : xLs) (i : Nat) : (sgL ls).set i none = sgL (ls.set i none) := by
  unfold sgL
  rw [List.map_set]
  rfl
theorem xS2_sg (ls : xLs) (i : Nat) (v : Value) : xS2 (sgL ls) i (sgV v) = sgL (xS2 ls i v) := by
  unfold xS2
  rw [xS1_sg, sgL_setn]
theorem xS0_sg (ls : xLs) (i : Nat) : xS0 (sgL ls) i = sgL (xS0 ls i) := by
  unfold xS0
  rw [show xS1 (sgL ls) i .null = sgL (xS1 ls i .null) from xS1_sg ls i .null, sgL_setn]
theorem xc1_sg (v : Value) : xc1 (sgV v) = xc1 v := by cases v <;> rfl
theorem xpI_sg (st : List Value) : xpI (sgS st) = (xpI st).map (fun q => (q.1, sgS q.2)) := by
  cases st with
  | nil => rfl
  | cons v t => cases v <;> rfl
theorem xpL_sg (st : List Value) : xpL (sgS st) = (xpL st).map (fun q => (q.1, sgS q.2)) := by
  cases st with
  | nil => rfl
  | cons v t => cases v <;> rfl
theorem xpR_sg (st : List Value) : xpR (sgS st) = (xpR st).map (fun q => (sg q.1, sgS q.2)) := by
  cases st with
  | nil => rfl
  | cons v t => cases v <;> rfl
theorem xpV_sg (st : List Value) : xpV (sgS st) = (xpV st).map (fun q => (sgV q.1, sgS q.2)) := by
  cases st with
  | nil => rfl
  | cons v t => cases v <;> rfl
theorem xpII_sg (st : List Value) : xpII (sgS st) = (xpII st).map (fun q => (q.1, q.2.1, sgS q.2.2)) := by
  cases st with
  | nil => rfl
  | cons v t =>
    cases t with
    | nil => cases v <;> rfl
    | cons w t => cases v <;> cases w <;> rfl
theorem xpLL_sg (st : List Value) : xpLL (sgS st) = (xpLL st).map (fun q => (q.1, q.2.1, sgS q.2.2)) := by
  cases st with
  | nil => rfl
  | cons v t =>
    cases t with
    | nil => cases v <;> rfl
    | cons w t => cases v <;> cases w <;> rfl
theorem xpLI_sg (st : List Value) : xpLI (sgS st) = (xpLI st).map (fun q => (q.1, q.2.1, sgS q.2.2)) := by
  cases st with
  | nil => rfl
  | cons v t =>
    cases t with
    | nil => cases v <;> rfl
    | cons w t => cases v <;> cases w <;> rfl
theorem xpRI_sg (st : List Value) : xpRI (sgS st) = (xpRI st).map (fun q => (sg q.1, q.2.1, sgS q.2.2)) := by
  cases st with
  | nil => rfl
  | cons v t =>
    cases t with
    | nil => cases v <;> rfl
    | cons w t => cases v <;> cases w <;> rfl
theorem xpRV_sg (st : List Value) : xpRV (sgS st) = (xpRV st).map (fun q => (sg q.1, sgV q.2.1, sgS q.2.2)) := by
  cases st with
  | nil => rfl
  | cons v t =>
    cases t with
    | nil => cases v <;> rfl
    | cons w t => cases v <;> cases w <;> rfl
theorem xpVV_sg (st : List Value) : xpVV (sgS st) = (xpVV st).map (fun q => (sgV q.1, sgV q.2.1, sgS q.2.2)) := by
  cases st with
  | nil => rfl
  | cons v t =>
    cases t with
    | nil => cases v <;> rfl
    | cons w t => cases v <;> cases w <;> rfl
theorem xpRII_sg (st : List Value) : xpRII (sgS st) = (xpRII st).map (fun q => (sg q.1, q.2.1, q.2.2.1, sgS q.2.2.2)) := by
  cases st with
  | nil => rfl
  | cons v t =>
    cases t with
    | nil => cases v <;> rfl
    | cons w t =>
      cases t with
      | nil => cases v <;> cases w <;> rfl
      | cons u t => cases v <;> cases w <;> first | rfl | (cases u <;> rfl)
theorem xpRIR_sg (st : List Value) : xpRIR (sgS st) = (xpRIR st).map (fun q => (sg q.1, q.2.1, sg q.2.2.1, sgS q.2.2.2)) := by
  cases st with
  | nil => rfl
  | cons v t =>
    cases t with
    | nil => cases v <;> rfl
    | cons w t =>
      cases t with
      | nil => cases v <;> cases w <;> rfl
      | cons u t => cases v <;> cases w <;> first | rfl | (cases u <;> rfl)
theorem xst_7 : xst.all (fun r => decide (r.2.2.1 < 7)) = true := by decide +kernel
theorem xsR_7 {c i g : Nat} (h : xsR c i = some g) : g < 7 := by
  unfold xsR at h
  obtain ⟨r, h1, h2⟩ := Option.map_eq_some_iff.mp h
  have h3 := List.all_eq_true.mp xst_7 r (List.mem_of_find?_eq_some h1)
  rw [← h2]
  exact of_decide_eq_true h3
section SG
variable {k pc len nc ns : Nat} {ls : xLs} {st : List Value} {M : yM}
theorem sle_jm {off : Int} : sle (yJm pc off ls st M nc ns) (yJm pc off (sgL ls) (sgS st) (sgM M) nc ns) := by
  unfold yJm
  exact sle_ite Iff.rfl (fun _ => sle_go) (fun _ => sle_none)
theorem sle_br {off : Int} {b : Bool} : sle (yBr pc off b ls st M nc ns) (yBr pc off b (sgL ls) (sgS st) (sgM M) nc ns) := by
  unfold yBr
  exact sle_ite Iff.rfl (fun _ => sle_ite Iff.rfl (fun _ => sle_go) (fun _ => sle_go)) (fun _ => sle_none)
theorem sle_rt {v : Option Value} {b : Bool} : sle (yRt M v b) (yRt (sgM M) (v.map sgV) b) := by
  unfold yRt
  refine sle_ite Iff.rfl (fun _ => ?_) (fun _ => sle_none)
  intro o h
  cases h
  rfl
theorem xArg_sg : ∀ (as : List Value), xArg (sgS as) = sgL (xArg as)
  | [] => rfl
  | v :: t => by
    have ih := xArg_sg t
    cases v with
    | long x => show some (.long x) :: none :: xArg (sgS t) = _; rw [ih]; rfl
    | double x => show some (.double x) :: none :: xArg (sgS t) = _; rw [ih]; rfl
    | ref a => show some (.ref (sg a)) :: xArg (sgS t) = _; rw [ih]; rfl
    | _ => show some _ :: xArg (sgS t) = _; rw [ih]; rfl
theorem sgS_tr (n : Nat) (st : List Value) : ((sgS st).take n).reverse = sgS ((st.take n).reverse) := by
  unfold sgS
  rw [← List.map_take, ← List.map_reverse]
theorem sgS_drop (n : Nat) (st : List Value) : (sgS st).drop n = sgS (st.drop n) := by
  unfold sgS
  rw [← List.map_drop]
theorem sle_call {k' : Nat} : sle (yCall k pc k' ls st M nc ns) (yCall k pc k' (sgL ls) (sgS st) (sgM M) nc ns) := by
  unfold yCall
  rw [sgS_tr, sgS_drop, xArg_sg, sgS_len, sgS_len, sgL_len]
  refine sle_ite Iff.rfl (fun _ => ?_) (fun _ => sle_none)
  intro o h
  cases h
  rfl
theorem yrecv_sg (k' : Nat) (as : List Value) : yrecv k' (sgS as) = yrecv k' as := by
  cases as with
  | nil => rfl
  | cons v t =>
    cases v with
    | ref b => show decide ((ysh (sg b)).1 = _) = decide _; rw [ysh_1]
    | _ => rfl
theorem xisR_sg (as : List Value) : xisR (sgS as) = xisR as := by
  cases as with
  | nil => rfl
  | cons v t => cases v <;> rfl
theorem ypC_sg (st : List Value) : ypC (sgS st) = (ypC st).map (fun q => (sg q.1, q.2.1, sg q.2.2.1, q.2.2.2.1, q.2.2.2.2.1, sgS q.2.2.2.2.2)) := by
  cases st with
  | nil => rfl
  | cons v1 t =>
    cases v1 <;> first | rfl | skip
    cases t with
    | nil => rfl
    | cons v2 t =>
      cases v2 <;> first | rfl | skip
      cases t with
      | nil => rfl
      | cons v3 t =>
        cases v3 <;> first | rfl | skip
        cases t with
        | nil => rfl
        | cons v4 t =>
          cases v4 <;> first | rfl | skip
          cases t with
          | nil => rfl
          | cons v5 t => cases v5 <;> rfl
theorem sle_copy : sle (yCopy k pc ls st M nc ns) (yCopy k pc (sgL ls) (sgS st) (sgM M) nc ns) := by
  unfold yCopy
  refine sle_bm (ypC_sg st) (fun q => ?_)
  simp only [ysh_1, yn_sg, sgS_len]
  refine sle_ite Iff.rfl (fun _ => ?_) (fun _ => sle_none)
  rw [yrd_sg, sgM_at, sgUa]
  exact sle_go
theorem sle_inv {r : Nat × Nat × Nat × Nat × Nat × Nat × Nat} {vm : Nat} : sle (yInv k pc r vm ls st M nc ns) (yInv k pc r vm (sgL ls) (sgS st) (sgM M) nc ns) := by
  obtain ⟨c0, i0, k', md, w⟩ := r
  unfold yInv
  simp only [sgS_tr, yrecv_sg, xisR_sg]
  split
  · exact sle_ite Iff.rfl (fun _ => sle_call) (fun _ => sle_none)
  · exact sle_call
  · exact sle_call
  · exact sle_copy
  · exact sle_call
  · exact sle_bm (xpII_sg st) fun q => sle_ite (by rw [sgS_len]) (fun _ => sle_go) (fun _ => sle_none)
  · exact sle_bm (xpII_sg st) fun q => sle_ite (by rw [sgS_len]) (fun _ => sle_go) (fun _ => sle_none)
  · exact sle_bm (xpI_sg st) fun q => sle_ite (by rw [sgS_len]) (fun _ => sle_go) (fun _ => sle_none)
  · exact sle_ite Iff.rfl (fun _ => sle_call) (fun _ => sle_none)
  · exact sle_ite Iff.rfl (fun _ => sle_call) (fun _ => sle_none)
  · exact sle_bm (xpR_sg st) fun q => sle_ite (by rw [sgS_len]) (fun _ => sle_go) (fun _ => sle_none)
  · exact sle_none
theorem sS_iconst {n} : sle (yAct k pc (.iconst n) len ls st M nc ns) (yAct k pc (.iconst n) len (sgL ls) (sgS st) (sgM M) nc ns) := 
  sle_q sle_go
theorem sS_bipush {n} : sle (yAct k pc (.bipush n) len ls st M nc ns) (yAct k pc (.bipush n) len (sgL ls) (sgS st) (sgM M) nc ns) := 
  sle_q sle_go
theorem sS_sipush {n} : sle (yAct k pc (.sipush n) len ls st M nc ns) (yAct k pc (.sipush n) len (sgL ls) (sgS st) (sgM M) nc ns) := 
  sle_q sle_go
theorem sS_lconst {n} : sle (yAct k pc (.lconst n) len ls st M nc ns) (yAct k pc (.lconst n) len (sgL ls) (sgS st) (sgM M) nc ns) := 
  sle_q sle_go
theorem sS_ldc {ix} : sle (yAct k pc (.ldc ix) len ls st M nc ns) (yAct k pc (.ldc ix) len (sgL ls) (sgS st) (sgM M) nc ns) := 
  sle_q (sle_bind fun v => sle_go)
theorem sS_ldc_w {ix} : sle (yAct k pc (.ldc_w ix) len ls st M nc ns) (yAct k pc (.ldc_w ix) len (sgL ls) (sgS st) (sgM M) nc ns) := 
  sle_q (sle_bind fun v => sle_go)
theorem sS_ldc2_w {ix} : sle (yAct k pc (.ldc2_w ix) len ls st M nc ns) (yAct k pc (.ldc2_w ix) len (sgL ls) (sgS st) (sgM M) nc ns) := 
  sle_q (sle_bind fun v => sle_go)
theorem sS_iload_n {n} : sle (yAct k pc (.iload_n n) len ls st M nc ns) (yAct k pc (.iload_n n) len (sgL ls) (sgS st) (sgM M) nc ns) := 
  sle_q (by
    show sle ((xlI ls n).bind _) ((xlI (sgL ls) n).bind _)
    rw [xlI_sg]
    exact sle_bind fun x => sle_go)
theorem sS_iload {n} : sle (yAct k pc (.iload n) len ls st M nc ns) (yAct k pc (.iload n) len (sgL ls) (sgS st) (sgM M) nc ns) := 
  sle_q (by
    show sle ((xlI ls n).bind _) ((xlI (sgL ls) n).bind _)
    rw [xlI_sg]
    exact sle_bind fun x => sle_go)
theorem sS_lload_n {n} : sle (yAct k pc (.lload_n n) len ls st M nc ns) (yAct k pc (.lload_n n) len (sgL ls) (sgS st) (sgM M) nc ns) := 
  sle_q (by
    show sle ((xlL ls n).bind _) ((xlL (sgL ls) n).bind _)
    rw [xlL_sg]
    exact sle_bind fun x => sle_go)
theorem sS_lload {n} : sle (yAct k pc (.lload n) len ls st M nc ns) (yAct k pc (.lload n) len (sgL ls) (sgS st) (sgM M) nc ns) := 
  sle_q (by
    show sle ((xlL ls n).bind _) ((xlL (sgL ls) n).bind _)
    rw [xlL_sg]
    exact sle_bind fun x => sle_go)
theorem sS_aload_n {n} : sle (yAct k pc (.aload_n n) len ls st M nc ns) (yAct k pc (.aload_n n) len (sgL ls) (sgS st) (sgM M) nc ns) := 
  sle_q (sle_bm (xlR_sg ls n) fun x => sle_go)
theorem sS_aload {n} : sle (yAct k pc (.aload n) len ls st M nc ns) (yAct k pc (.aload n) len (sgL ls) (sgS st) (sgM M) nc ns) := 
  sle_q (sle_bm (xlR_sg ls n) fun x => sle_go)
theorem sS_istore_n {n} : sle (yAct k pc (.istore_n n) len ls st M nc ns) (yAct k pc (.istore_n n) len (sgL ls) (sgS st) (sgM M) nc ns) := 
  sle_q (sle_bm (xpI_sg st) fun q => sle_ite (by rw [sgL_len]) (fun _ => sle_eq (congrArg (fun z => yGo (pc + 1) z (sgS q.2) (sgM M) nc ns) (xS1_sg ls n (.int q.1)).symm) sle_go) (fun _ => sle_none))
theorem sS_istore {n} : sle (yAct k pc (.istore n) len ls st M nc ns) (yAct k pc (.istore n) len (sgL ls) (sgS st) (sgM M) nc ns) := 
  sle_q (sle_bm (xpI_sg st) fun q => sle_ite (by rw [sgL_len]) (fun _ => sle_eq (congrArg (fun z => yGo (pc + 2) z (sgS q.2) (sgM M) nc ns) (xS1_sg ls n (.int q.1)).symm) sle_go) (fun _ => sle_none))
theorem sS_lstore_n {n} : sle (yAct k pc (.lstore_n n) len ls st M nc ns) (yAct k pc (.lstore_n n) len (sgL ls) (sgS st) (sgM M) nc ns) := 
  sle_q (sle_bm (xpL_sg st) fun q => sle_ite (by rw [sgL_len]) (fun _ => sle_eq (congrArg (fun z => yGo (pc + 1) z (sgS q.2) (sgM M) nc ns) (xS2_sg ls n (.long q.1)).symm) sle_go) (fun _ => sle_none))
theorem sS_lstore {n} : sle (yAct k pc (.lstore n) len ls st M nc ns) (yAct k pc (.lstore n) len (sgL ls) (sgS st) (sgM M) nc ns) := 
  sle_q (sle_bm (xpL_sg st) fun q => sle_ite (by rw [sgL_len]) (fun _ => sle_eq (congrArg (fun z => yGo (pc + 2) z (sgS q.2) (sgM M) nc ns) (xS2_sg ls n (.long q.1)).symm) sle_go) (fun _ => sle_none))
theorem sS_astore_n {n} : sle (yAct k pc (.astore_n n) len ls st M nc ns) (yAct k pc (.astore_n n) len (sgL ls) (sgS st) (sgM M) nc ns) := 
  sle_q (sle_bm (xpR_sg st) fun q => sle_ite (by rw [sgL_len]) (fun _ => sle_eq (congrArg (fun z => yGo (pc + 1) z (sgS q.2) (sgM M) nc ns) (xS1_sg ls n (.ref q.1)).symm) sle_go) (fun _ => sle_none))
theorem sS_astore {n} : sle (yAct k pc (.astore n) len ls st M nc ns) (yAct k pc (.astore n) len (sgL ls) (sgS st) (sgM M) nc ns) := 
  sle_q (sle_bm (xpR_sg st) fun q => sle_ite (by rw [sgL_len]) (fun _ => sle_eq (congrArg (fun z => yGo (pc + 2) z (sgS q.2) (sgM M) nc ns) (xS1_sg ls n (.ref q.1)).symm) sle_go) (fun _ => sle_none))
theorem sS_iinc {i n} : sle (yAct k pc (.iinc i n) len ls st M nc ns) (yAct k pc (.iinc i n) len (sgL ls) (sgS st) (sgM M) nc ns) := 
  sle_q (by
    show sle ((xlI ls i).bind _) ((xlI (sgL ls) i).bind _)
    rw [xlI_sg]
    exact sle_bind fun x => sle_ite (by rw [sgL_len]) (fun _ => sle_eq (congrArg (fun z => yGo (pc + 3) z (sgS st) (sgM M) nc ns) (xS1_sg ls i (.int (x + Int32.ofInt n))).symm) sle_go) (fun _ => sle_none))
theorem sS_iadd : sle (yAct k pc (.iadd) len ls st M nc ns) (yAct k pc (.iadd) len (sgL ls) (sgS st) (sgM M) nc ns) := 
  sle_q (sle_bm (xpII_sg st) fun q => sle_go)
theorem sS_isub : sle (yAct k pc (.isub) len ls st M nc ns) (yAct k pc (.isub) len (sgL ls) (sgS st) (sgM M) nc ns) := 
  sle_q (sle_bm (xpII_sg st) fun q => sle_go)
theorem sS_imul : sle (yAct k pc (.imul) len ls st M nc ns) (yAct k pc (.imul) len (sgL ls) (sgS st) (sgM M) nc ns) := 
  sle_q (sle_bm (xpII_sg st) fun q => sle_go)
theorem sS_idiv : sle (yAct k pc (.idiv) len ls st M nc ns) (yAct k pc (.idiv) len (sgL ls) (sgS st) (sgM M) nc ns) := 
  sle_q (sle_bm (xpII_sg st) fun q => sle_ite Iff.rfl (fun _ => sle_none) (fun _ => sle_go))
theorem sS_irem : sle (yAct k pc (.irem) len ls st M nc ns) (yAct k pc (.irem) len (sgL ls) (sgS st) (sgM M) nc ns) := 
  sle_q (sle_bm (xpII_sg st) fun q => sle_ite Iff.rfl (fun _ => sle_none) (fun _ => sle_go))
theorem sS_ineg : sle (yAct k pc (.ineg) len ls st M nc ns) (yAct k pc (.ineg) len (sgL ls) (sgS st) (sgM M) nc ns) := 
  sle_q (sle_bm (xpI_sg st) fun q => sle_go)
theorem sS_ishl : sle (yAct k pc (.ishl) len ls st M nc ns) (yAct k pc (.ishl) len (sgL ls) (sgS st) (sgM M) nc ns) := 
  sle_q (sle_bm (xpII_sg st) fun q => sle_go)
theorem sS_ishr : sle (yAct k pc (.ishr) len ls st M nc ns) (yAct k pc (.ishr) len (sgL ls) (sgS st) (sgM M) nc ns) := 
  sle_q (sle_bm (xpII_sg st) fun q => sle_go)
theorem sS_iushr : sle (yAct k pc (.iushr) len ls st M nc ns) (yAct k pc (.iushr) len (sgL ls) (sgS st) (sgM M) nc ns) := 
  sle_q (sle_bm (xpII_sg st) fun q => sle_go)
theorem sS_iand : sle (yAct k pc (.iand) len ls st M nc ns) (yAct k pc (.iand) len (sgL ls) (sgS st) (sgM M) nc ns) := 
  sle_q (sle_bm (xpII_sg st) fun q => sle_go)
theorem sS_ior : sle (yAct k pc (.ior) len ls st M nc ns) (yAct k pc (.ior) len (sgL ls) (sgS st) (sgM M) nc ns) := 
  sle_q (sle_bm (xpII_sg st) fun q => sle_go)
theorem sS_ixor : sle (yAct k pc (.ixor) len ls st M nc ns) (yAct k pc (.ixor) len (sgL ls) (sgS st) (sgM M) nc ns) := 
  sle_q (sle_bm (xpII_sg st) fun q => sle_go)
theorem sS_i2l : sle (yAct k pc (.i2l) len ls st M nc ns) (yAct k pc (.i2l) len (sgL ls) (sgS st) (sgM M) nc ns) := 
  sle_q (sle_bm (xpI_sg st) fun q => sle_go)
theorem sS_l2i : sle (yAct k pc (.l2i) len ls st M nc ns) (yAct k pc (.l2i) len (sgL ls) (sgS st) (sgM M) nc ns) := 
  sle_q (sle_bm (xpL_sg st) fun q => sle_go)
theorem sS_i2c : sle (yAct k pc (.i2c) len ls st M nc ns) (yAct k pc (.i2c) len (sgL ls) (sgS st) (sgM M) nc ns) := 
  sle_q (sle_bm (xpI_sg st) fun q => sle_go)
theorem sS_ladd : sle (yAct k pc (.ladd) len ls st M nc ns) (yAct k pc (.ladd) len (sgL ls) (sgS st) (sgM M) nc ns) := 
  sle_q (sle_bm (xpLL_sg st) fun q => sle_go)
theorem sS_lsub : sle (yAct k pc (.lsub) len ls st M nc ns) (yAct k pc (.lsub) len (sgL ls) (sgS st) (sgM M) nc ns) := 
  sle_q (sle_bm (xpLL_sg st) fun q => sle_go)
theorem sS_lmul : sle (yAct k pc (.lmul) len ls st M nc ns) (yAct k pc (.lmul) len (sgL ls) (sgS st) (sgM M) nc ns) := 
  sle_q (sle_bm (xpLL_sg st) fun q => sle_go)
theorem sS_ldiv : sle (yAct k pc (.ldiv) len ls st M nc ns) (yAct k pc (.ldiv) len (sgL ls) (sgS st) (sgM M) nc ns) := 
  sle_q (sle_bm (xpLL_sg st) fun q => sle_ite Iff.rfl (fun _ => sle_none) (fun _ => sle_go))
theorem sS_lrem : sle (yAct k pc (.lrem) len ls st M nc ns) (yAct k pc (.lrem) len (sgL ls) (sgS st) (sgM M) nc ns) := 
  sle_q (sle_bm (xpLL_sg st) fun q => sle_ite Iff.rfl (fun _ => sle_none) (fun _ => sle_go))
theorem sS_land : sle (yAct k pc (.land) len ls st M nc ns) (yAct k pc (.land) len (sgL ls) (sgS st) (sgM M) nc ns) := 
  sle_q (sle_bm (xpLL_sg st) fun q => sle_go)
theorem sS_lor : sle (yAct k pc (.lor) len ls st M nc ns) (yAct k pc (.lor) len (sgL ls) (sgS st) (sgM M) nc ns) := 
  sle_q (sle_bm (xpLL_sg st) fun q => sle_go)
theorem sS_lshl : sle (yAct k pc (.lshl) len ls st M nc ns) (yAct k pc (.lshl) len (sgL ls) (sgS st) (sgM M) nc ns) := 
  sle_q (sle_bm (xpLI_sg st) fun q => sle_go)
theorem sS_lshr : sle (yAct k pc (.lshr) len ls st M nc ns) (yAct k pc (.lshr) len (sgL ls) (sgS st) (sgM M) nc ns) := 
  sle_q (sle_bm (xpLI_sg st) fun q => sle_go)
theorem sS_lushr : sle (yAct k pc (.lushr) len ls st M nc ns) (yAct k pc (.lushr) len (sgL ls) (sgS st) (sgM M) nc ns) := 
  sle_q (sle_bm (xpLI_sg st) fun q => sle_go)
theorem sS_lcmp : sle (yAct k pc (.lcmp) len ls st M nc ns) (yAct k pc (.lcmp) len (sgL ls) (sgS st) (sgM M) nc ns) := 
  sle_q (sle_bm (xpLL_sg st) fun q => sle_go)
theorem sS_dup : sle (yAct k pc (.dup) len ls st M nc ns) (yAct k pc (.dup) len (sgL ls) (sgS st) (sgM M) nc ns) := 
  sle_q (sle_bm (xpV_sg st) fun q => sle_go)
theorem sS_dup_x1 : sle (yAct k pc (.dup_x1) len ls st M nc ns) (yAct k pc (.dup_x1) len (sgL ls) (sgS st) (sgM M) nc ns) := 
  sle_q (sle_bm (xpVV_sg st) fun q => sle_go)
theorem sS_dup2 : sle (yAct k pc (.dup2) len ls st M nc ns) (yAct k pc (.dup2) len (sgL ls) (sgS st) (sgM M) nc ns) := 
  sle_q (sle_bm (xpVV_sg st) fun q => sle_go)
theorem sS_pop : sle (yAct k pc (.pop) len ls st M nc ns) (yAct k pc (.pop) len (sgL ls) (sgS st) (sgM M) nc ns) := 
  sle_q (sle_bm (xpV_sg st) fun q => sle_go)
theorem sS_goto {off} : sle (yAct k pc (.goto off) len ls st M nc ns) (yAct k pc (.goto off) len (sgL ls) (sgS st) (sgM M) nc ns) := 
  sle_q sle_jm
theorem sS_if_icmp {cd off} : sle (yAct k pc (.if_icmp cd off) len ls st M nc ns) (yAct k pc (.if_icmp cd off) len (sgL ls) (sgS st) (sgM M) nc ns) := 
  sle_q (sle_bm (xpII_sg st) fun q => sle_br)
theorem sS_ifCond {cd off} : sle (yAct k pc (.ifCond cd off) len ls st M nc ns) (yAct k pc (.ifCond cd off) len (sgL ls) (sgS st) (sgM M) nc ns) := 
  sle_q (sle_bm (xpI_sg st) fun q => sle_br)
theorem sS_tableswitch {dflt lo hi offs} : sle (yAct k pc (.tableswitch dflt lo hi offs) len ls st M nc ns) (yAct k pc (.tableswitch dflt lo hi offs) len (sgL ls) (sgS st) (sgM M) nc ns) := 
  sle_bm (xpI_sg st) fun q => sle_bind fun off => sle_jm
theorem sS_lookupswitch {dflt ps} : sle (yAct k pc (.lookupswitch dflt ps) len ls st M nc ns) (yAct k pc (.lookupswitch dflt ps) len (sgL ls) (sgS st) (sgM M) nc ns) := 
  sle_bm (xpI_sg st) fun q => sle_ite Iff.rfl (fun _ => sle_jm) (fun _ => sle_none)
theorem sS_getfield {ix} : sle (yAct k pc (.getfield ix) len ls st M nc ns) (yAct k pc (.getfield ix) len (sgL ls) (sgS st) (sgM M) nc ns) := 
  sle_q (sle_bm (xpR_sg st) fun q => sle_bind fun tf => by
    show sle (if (ysh q.1).1 = 100 + tf.1 then ((ysh q.1).2.2[tf.2]?).bind fun o => yGo (pc + 3) ls ((match o with | none => .int (M q.1 tf.2) | some r => .ref r) :: q.2) M nc ns else none) (if (ysh (sg q.1)).1 = 100 + tf.1 then ((ysh (sg q.1)).2.2[tf.2]?).bind fun o => yGo (pc + 3) (sgL ls) ((match o with | none => .int (sgM M (sg q.1) tf.2) | some r => .ref r) :: sgS q.2) (sgM M) nc ns else none)
    rw [ysh_1, (ysh_sg q.1).2.2, sgM_at, List.getElem?_map]
    refine sle_ite Iff.rfl (fun _ => ?_) (fun _ => sle_none)
    cases (ysh q.1).2.2[tf.2]? with
    | none => exact sle_none
    | some o => cases o <;> exact sle_go)
theorem sS_putfield {ix} : sle (yAct k pc (.putfield ix) len ls st M nc ns) (yAct k pc (.putfield ix) len (sgL ls) (sgS st) (sgM M) nc ns) := 
  sle_q (sle_bm (xpRV_sg st) fun q => sle_bind fun tf => by
    have e : xvI (sgV q.2.1) = xvI q.2.1 := by cases q.2.1 <;> rfl
    show sle _ ((xvI (sgV q.2.1)).bind fun x => if (ysh (sg q.1)).1 = 100 + tf.1 ∧ (ysh (sg q.1)).2.2[tf.2]? = some none ∧ (xfit (xty tf.1 tf.2) (.int x) && !((xcT tf.1).2.1 tf.2).2.2.2) = true then yGo (pc + 3) (sgL ls) (sgS q.2.2) (yU (sgM M) (sg q.1) tf.2 x) nc ns else none)
    rw [e, ysh_1, (ysh_sg q.1).2.2, List.getElem?_map]
    refine sle_bind fun x => ?_
    rw [sgU]
    refine sle_ite ?_ (fun _ => sle_go) (fun _ => sle_none)
    cases (ysh q.1).2.2[tf.2]? with
    | none => exact Iff.rfl
    | some o => cases o <;> simp)
theorem sS_getstatic {ix} : sle (yAct k pc (.getstatic ix) len ls st M nc ns) (yAct k pc (.getstatic ix) len (sgL ls) (sgS st) (sgM M) nc ns) := 
  sle_q (by
    cases hg : xsR (xmk k) ix with
    | none => exact sle_none
    | some g =>
      have h7 : g < 7 := xsR_7 hg
      show sle (yGo (pc + 3) ls (.ref g :: st) M nc ns) (yGo (pc + 3) (sgL ls) (.ref g :: sgS st) (sgM M) nc ns)
      have e : sgV (.ref g) = .ref g := congrArg Value.ref (sg_lo h7)
      rw [← e]
      rw [← show sgS (Value.ref g :: st) = sgV (.ref g) :: sgS st from rfl]
      rw [e]
      exact sle_go)
theorem sS_iaload : sle (yAct k pc (.iaload) len ls st M nc ns) (yAct k pc (.iaload) len (sgL ls) (sgS st) (sgM M) nc ns) := 
  sle_q (sle_bm (xpRI_sg st) fun q => by
    simp only [ysh_1, yn_sg, yrd_sg]
    exact sle_ite Iff.rfl (fun _ => sle_go) (fun _ => sle_none))
theorem sS_caload : sle (yAct k pc (.caload) len ls st M nc ns) (yAct k pc (.caload) len (sgL ls) (sgS st) (sgM M) nc ns) := 
  sle_q (sle_bm (xpRI_sg st) fun q => by
    simp only [ysh_1, yn_sg, yrd_sg]
    exact sle_ite Iff.rfl (fun _ => sle_go) (fun _ => sle_none))
theorem sS_baload : sle (yAct k pc (.baload) len ls st M nc ns) (yAct k pc (.baload) len (sgL ls) (sgS st) (sgM M) nc ns) := 
  sle_q (sle_bm (xpRI_sg st) fun q => by
    simp only [ysh_1, yn_sg, yrd_sg]
    exact sle_ite Iff.rfl (fun _ => sle_go) (fun _ => sle_none))
theorem sS_iastore : sle (yAct k pc (.iastore) len ls st M nc ns) (yAct k pc (.iastore) len (sgL ls) (sgS st) (sgM M) nc ns) := 
  sle_q (sle_bm (xpRII_sg st) fun q => by
    simp only [ysh_1, yn_sg, sgU]
    exact sle_ite Iff.rfl (fun _ => sle_go) (fun _ => sle_none))
theorem sS_castore : sle (yAct k pc (.castore) len ls st M nc ns) (yAct k pc (.castore) len (sgL ls) (sgS st) (sgM M) nc ns) := 
  sle_q (sle_bm (xpRII_sg st) fun q => by
    simp only [ysh_1, yn_sg, sgU]
    exact sle_ite Iff.rfl (fun _ => sle_go) (fun _ => sle_none))
theorem sS_bastore : sle (yAct k pc (.bastore) len ls st M nc ns) (yAct k pc (.bastore) len (sgL ls) (sgS st) (sgM M) nc ns) := 
  sle_q (sle_bm (xpRII_sg st) fun q => by
    simp only [ysh_1, yn_sg, sgU]
    exact sle_ite Iff.rfl (fun _ => sle_go) (fun _ => sle_none))
theorem sS_aaload : sle (yAct k pc (.aaload) len ls st M nc ns) (yAct k pc (.aaload) len (sgL ls) (sgS st) (sgM M) nc ns) := 
  sle_q (sle_bm (xpRI_sg st) fun q => by
    simp only [ysh_1, (ysh_sg q.1).2.2, List.length_map, List.getElem?_map]
    refine sle_ite Iff.rfl (fun _ => ?_) (fun _ => sle_none)
    cases (ysh q.1).2.2[q.2.1.toNatClampNeg]? with
    | none => exact sle_none
    | some o =>
      cases o with
      | none => exact sle_none
      | some r => exact sle_go)
theorem sS_arraylength : sle (yAct k pc (.arraylength) len ls st M nc ns) (yAct k pc (.arraylength) len (sgL ls) (sgS st) (sgM M) nc ns) := 
  sle_q (sle_bm (xpR_sg st) fun q => by
    simp only [ysh_1, yn_sg]
    exact sle_ite Iff.rfl (fun _ => sle_go) (fun _ => sle_none))
theorem sS_new {ix} : sle (yAct k pc (.new ix) len ls st M nc ns) (yAct k pc (.new ix) len (sgL ls) (sgS st) (sgM M) nc ns) := 
  sle_q (sle_bind fun E => by
    refine sle_ite (by cases st <;> rfl) (fun _ => ?_) (fun _ => sle_none)
    intro o h
    cases h
    rfl)
theorem sS_invokevirtual {ix} : sle (yAct k pc (.invokevirtual ix) len ls st M nc ns) (yAct k pc (.invokevirtual ix) len (sgL ls) (sgS st) (sgM M) nc ns) := 
  sle_q (sle_bind fun r => sle_inv)
theorem sS_invokestatic {ix} : sle (yAct k pc (.invokestatic ix) len ls st M nc ns) (yAct k pc (.invokestatic ix) len (sgL ls) (sgS st) (sgM M) nc ns) := 
  sle_q (sle_bind fun r => sle_inv)
theorem sS_invokespecial {ix} : sle (yAct k pc (.invokespecial ix) len ls st M nc ns) (yAct k pc (.invokespecial ix) len (sgL ls) (sgS st) (sgM M) nc ns) := 
  sle_q (sle_bind fun r => sle_inv)
theorem sS_ireturn : sle (yAct k pc (.ireturn) len ls st M nc ns) (yAct k pc (.ireturn) len (sgL ls) (sgS st) (sgM M) nc ns) := 
  sle_q (by
    cases st with
    | nil => exact sle_none
    | cons v t =>
      cases t with
      | nil => cases v <;> first | exact sle_none | exact sle_rt
      | cons w t => cases v <;> exact sle_none)
theorem sS_lreturn : sle (yAct k pc (.lreturn) len ls st M nc ns) (yAct k pc (.lreturn) len (sgL ls) (sgS st) (sgM M) nc ns) := 
  sle_q (by
    cases st with
    | nil => exact sle_none
    | cons v t =>
      cases t with
      | nil => cases v <;> first | exact sle_none | exact sle_rt
      | cons w t => cases v <;> exact sle_none)
theorem sS_return_ : sle (yAct k pc (.return_) len ls st M nc ns) (yAct k pc (.return_) len (sgL ls) (sgS st) (sgM M) nc ns) := 
  sle_q (by
    cases st with
    | nil => exact sle_rt
    | cons v t => exact sle_none)
theorem sle_act {i : Instr} : sle (yAct k pc i len ls st M nc ns) (yAct k pc i len (sgL ls) (sgS st) (sgM M) nc ns) := by
  cases i
  case iconst n => exact sS_iconst
  case bipush n => exact sS_bipush
  case sipush n => exact sS_sipush
  case lconst n => exact sS_lconst
  case ldc ix => exact sS_ldc
  case ldc_w ix => exact sS_ldc_w
  case ldc2_w ix => exact sS_ldc2_w
  case iload_n n => exact sS_iload_n
  case iload n => exact sS_iload
  case lload_n n => exact sS_lload_n
  case lload n => exact sS_lload
  case aload_n n => exact sS_aload_n
  case aload n => exact sS_aload
  case istore_n n => exact sS_istore_n
  case istore n => exact sS_istore
  case lstore_n n => exact sS_lstore_n
  case lstore n => exact sS_lstore
  case astore_n n => exact sS_astore_n
  case astore n => exact sS_astore
  case iinc i n => exact sS_iinc
  case iadd => exact sS_iadd
  case isub => exact sS_isub
  case imul => exact sS_imul
  case idiv => exact sS_idiv
  case irem => exact sS_irem
  case ineg => exact sS_ineg
  case ishl => exact sS_ishl
  case ishr => exact sS_ishr
  case iushr => exact sS_iushr
  case iand => exact sS_iand
  case ior => exact sS_ior
  case ixor => exact sS_ixor
  case i2l => exact sS_i2l
  case l2i => exact sS_l2i
  case i2c => exact sS_i2c
  case ladd => exact sS_ladd
  case lsub => exact sS_lsub
  case lmul => exact sS_lmul
  case ldiv => exact sS_ldiv
  case lrem => exact sS_lrem
  case land => exact sS_land
  case lor => exact sS_lor
  case lshl => exact sS_lshl
  case lshr => exact sS_lshr
  case lushr => exact sS_lushr
  case lcmp => exact sS_lcmp
  case dup => exact sS_dup
  case dup_x1 => exact sS_dup_x1
  case dup2 => exact sS_dup2
  case pop => exact sS_pop
  case goto off => exact sS_goto
  case if_icmp cd off => exact sS_if_icmp
  case ifCond cd off => exact sS_ifCond
  case tableswitch dflt lo hi offs => exact sS_tableswitch
  case lookupswitch dflt ps => exact sS_lookupswitch
  case getfield ix => exact sS_getfield
  case putfield ix => exact sS_putfield
  case getstatic ix => exact sS_getstatic
  case iaload => exact sS_iaload
  case caload => exact sS_caload
  case baload => exact sS_baload
  case iastore => exact sS_iastore
  case castore => exact sS_castore
  case bastore => exact sS_bastore
  case aaload => exact sS_aaload
  case arraylength => exact sS_arraylength
  case new ix => exact sS_new
  case invokevirtual ix => exact sS_invokevirtual
  case invokestatic ix => exact sS_invokestatic
  case invokespecial ix => exact sS_invokespecial
  case ireturn => exact sS_ireturn
  case lreturn => exact sS_lreturn
  case return_ => exact sS_return_
  all_goals exact sle_none
end SG
theorem sle_F {k pc : Nat} {ls : xLs} {st : List Value} {M : yM} {nc ns : Nat} : sle (yF k pc ls st M nc ns) (yF k pc (sgL ls) (sgS st) (sgM M) nc ns) := by
  unfold yF
  split
  · exact sle_act
  · exact sle_none
theorem xEnt_sg (n : Nat) (as : List Value) : xEnt n (sgS as) = sgL (xEnt n as) := by
  unfold xEnt
  rw [xArg_sg, sgL_len]
  unfold sgL
  rw [List.map_append, List.map_replicate]
  rfl
theorem xPush_sg (v : Option Value) (st : List Value) : xPush (v.map sgV) (sgS st) = sgS (xPush v st) := by
  cases v <;> rfl
theorem yr_sg : ∀ (n k pc : Nat) (ls : xLs) (st : List Value) (M : yM) (nc ns : Nat) (r : yRes), yr n k pc ls st M nc ns = some r → yr n k pc (sgL ls) (sgS st) (sgM M) nc ns = some (sgR r) := by
  intro n
  induction n with
  | zero => intro k pc ls st M nc ns r h; cases h
  | succ n ih =>
    intro k pc ls st M nc ns r h
    have h : yK (yr n) k (yF k pc ls st M nc ns) = some r := h
    show yK (yr n) k (yF k pc (sgL ls) (sgS st) (sgM M) nc ns) = some (sgR r)
    cases ha : yF k pc ls st M nc ns with
    | none => rw [ha] at h; cases h
    | some a =>
      rw [sle_F a ha]
      rw [ha] at h
      rcases a with ⟨pc', ls', st', M', nc', ns'⟩ | r' | ⟨k', as, pc', ls', st', M', nc', ns'⟩
      · exact ih _ _ _ _ _ _ _ _ h
      · cases h; rfl
      · show (match yr n k' 0 (xEnt (xml k') (sgS as)) [] (sgM M') 0 0 with
          | none => none
          | some (.inl v, h') => yr n k (pc' + 3) (sgL ls') (xPush v (sgS st')) h' (nc' + xmc k') (ns' + xms k')
          | some (.inr E, h') => if xkd k' = 1 then (match xHd k pc' E with
            | some (pc', i) => if xkd k = 2 ∧ i < (sgL ls').length then yr n k pc' (xS0 (sgL ls') i) [] h' (nc' + xmc k') (ns' + xms k') else none
            | none => if xkd k = 1 then some (.inr E, h') else none) else none) = some (sgR r)
        have h : (match yr n k' 0 (xEnt (xml k') as) [] M' 0 0 with
          | none => none
          | some (.inl v, h') => yr n k (pc' + 3) ls' (xPush v st') h' (nc' + xmc k') (ns' + xms k')
          | some (.inr E, h') => if xkd k' = 1 then (match xHd k pc' E with
            | some (pc', i) => if xkd k = 2 ∧ i < ls'.length then yr n k pc' (xS0 ls' i) [] h' (nc' + xmc k') (ns' + xms k') else none
            | none => if xkd k = 1 then some (.inr E, h') else none) else none) = some r := h
        cases hc : yr n k' 0 (xEnt (xml k') as) [] M' 0 0 with
        | none => rw [hc] at h; cases h
        | some q =>
          have h2 := ih _ _ _ _ _ _ _ _ hc
          rw [← xEnt_sg, show sgS [] = [] from rfl] at h2
          rw [h2]
          rw [hc] at h
          rcases q with ⟨v | E, M2⟩
          · have h : yr n k (pc' + 3) ls' (xPush v st') M2 (nc' + xmc k') (ns' + xms k') = some r := h
            show yr n k (pc' + 3) (sgL ls') (xPush (v.map sgV) (sgS st')) (sgM M2) _ _ = _
            rw [xPush_sg]
            exact ih _ _ _ _ _ _ _ _ h
          · simp only [sgR, sgL_len] at h ⊢
            by_cases hk : xkd k' = 1
            · rw [if_pos hk] at h ⊢
              cases hd : xHd k pc' E with
              | none =>
                rw [hd] at h
                simp only at h ⊢
                by_cases hk1 : xkd k = 1
                · rw [if_pos hk1] at h ⊢; cases h; rfl
                · rw [if_neg hk1] at h; cases h
              | some z =>
                rw [hd] at h
                obtain ⟨pc2, i⟩ := z
                simp only at h ⊢
                by_cases hi : xkd k = 2 ∧ i < ls'.length
                · rw [if_pos hi] at h ⊢
                  rw [xS0_sg]
                  exact ih _ _ _ _ _ _ _ _ h
                · rw [if_neg hi] at h; cases h
            · rw [if_neg hk] at h; cases h
/-- what Y answers, it answers with the objects changed one for the other -/
theorem yX_sg {k pc : Nat} {ls : xLs} {st : List Value} {M : yM} {nc ns : Nat} {r : yRes} (h : yX k pc ls st M nc ns = some r) : yX k pc (sgL ls) (sgS st) (sgM M) nc ns = some (sgR r) := by
  obtain ⟨n, hn⟩ := yX_some.mp h
  exact yX_some.mpr ⟨n, yr_sg n _ _ _ _ _ _ _ _ hn⟩
