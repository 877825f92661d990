/-! THE CLAIM OUT OF ONE WALK OF THE LAW'S BODY. Your part is whole_start (and what it stands on); all else here is the same for every law, but numbers. -/
def R_law : String := "SpoonCardsLaw"
def lw_P (b : Addr) (xs : List Int32) (args : Array Value) (s : State) : Prop := args = #[.ref b] ∧ s.IntsAt b xs ∧ xs.length ≤ 260 ∧ (Jvm.Cond.and given_1 narrow_1).before args s = true
def lw_Q (_ : Array Value) (s : State) (o : Outcome) (t : State) : Prop := o = .returned (some (.int 1)) ∧ Framed s o t [] 600130 7301079
def lw_Z (below : List Frame) (a : Array Value) (s : State) : State → Prop := fun t => ∃ o, t.status = .running ∧ Ended t below o ∧ lw_Q a s o t
/-- the law's own end, with 1 on the stack, nothing written that was there before, its room as the claim has it -/
theorem lw_ret {p : Program} {l : Launch} {e : Env} {s : State} {m : MethodId} {below : List Frame} {meth : Method} {c : Code} {b : Nat} (hx : p.tables.exec = Jvm.exec) (hb : c.code = code) (hr : meth.sig.returnType = ret) (hlocks : meth.locks = false) {pc : Nat} {H : Heap} {ls : Array Slot} (hdg : decode code pc = .ok (.ireturn, 1)) : W p l e room_1 s m #[Value.ref b] below meth c H [] 600130 7301079 (lw_Z below #[Value.ref b] s) (F0 m pc ls [.int 1]) := by
  intro T hT X
  obtain ⟨fs, hret, hrun, hended, hW, hframe⟩ := X.leave (v := some (.int 1)) (hlocks := hlocks) (fun h => by rw [hr] at h; cases h)
  have hmeth' : T.vm.method? m = some meth := X.method'
  refine ⟨T.setFrames fs, ?_, .returned (some (.int 1)), hrun, hended, rfl, ⟨_, rfl⟩, hW, hframe⟩
  jvm_step X.here [X.here.top, hx, hb, hdg, hmeth', hr, ret, narrow_b1]
  (try refine ⟨rfl, ?_⟩); (try refine ⟨rfl, ?_⟩)
  first | (intro acts; rw [hret _ acts rfl rfl rfl]) | rw [hret _ _ rfl rfl rfl]
  exact Steps.refl _
/-- what holds at the law's entry: the machine, the code, the tables' words (any of lw_tbl by 'hts w (by decide +kernel)'), the script of L ints xs at the cell b, what the Statement gives of the start (any of its parts by flat_of_before) -/
def lw_At (p : Program) (s : State) (m : MethodId) (meth : Method) (c : Code) (b L : Nat) (xs : Nat → Int32) : Prop :=
  p.tables.exec = Jvm.exec ∧ c.code = code ∧ meth.sig.returnType = ret ∧ c.maxLocals = 7 ∧ s.vm.findClass R_law = some m.cls ∧ (∀ w ∈ lw_tbl, w.before #[Value.ref b] s = true) ∧ va_X b L xs s s.heap ∧ b < s.heap.size ∧ meth.locks = false ∧ (Jvm.Cond.and given_1 narrow_1).before #[Value.ref b] s = true

/-- the static rows' values -/
def xsv (g : Nat) : List Int32 := match g with
  | 1 => [15, 1, 2, 1, 0]
  | 2 => [1, 0, 0, 1, 0]
  | 3 => [15, 2, 20, 3, 3]
  | 4 => [6, 48, 144, 2304]
  | 5 => [105, 115, 117, 110, 107, 118, 114]
  | _ => [112, 116, 84, 99]
def xsR0 (g : Nat) : Nat → Int32 := fun j => (xsv g).getD j 0
/-- what is given: the script, the static rows -/
def xgiv (L : Nat) (xs : Nat → Int32) : List xCel := [.inr (10, L, xs), .inr (10, 5, xsR0 1), .inr (10, 5, xsR0 2), .inr (10, 5, xsR0 3), .inr (10, 4, xsR0 4), .inr (11, 7, xsR0 5), .inr (11, 4, xsR0 6)]
def xh0 (L : Nat) (xs : Nat → Int32) : xHp := (true, xgiv L xs)
def xLawOk : Prop := ∀ (L : Nat) (xs : Nat → Int32), L ≤ 260 → ∃ h', xX 143 0 (xEnt 7 [.ref 0]) [] (xh0 L xs) 0 0 = some (.inl (some (.int 1)), h')
section XST
variable {s : State} {b : Addr}
theorem xstat_1 (hs : ∀ c ∈ flatC (Jvm.Cond.and given_1 narrow_1), c.before #[Value.ref b] s = true) (hts : ∀ w ∈ lw_tbl, w.before #[Value.ref b] s = true) : ∃ t : Nat, va_Z "SpoonCards" "FIRST_SETTING" "[I" (.ref t) (fun q => s.heap.size ≤ q) s s.heap ∧ va_T .int t 5 (fun j => .int (xsR0 1 j)) (fun q => s.heap.size ≤ q) s s.heap := by
  have hA : ∀ a : Nat, a < s.heap.size → ¬ (fun q => s.heap.size ≤ q) a := fun a h => Nat.not_le.mpr h
  obtain ⟨t, ht, hT⟩ := va_Tof (tm := .static "SpoonCards" "FIRST_SETTING" "[I") (ty := .int) (N := 5) (f := fun j => .int (xsR0 1 j)) (A := fun q => s.heap.size ≤ q) (by omega) (hs _ (by decide +kernel)) (va_eqt (z := Int32.ofNat 5) (hs _ (by decide +kernel))) (fun j hj => by
    have key : ∀ j, j < 5 → Cond.eq (.elem (.static "SpoonCards" "FIRST_SETTING" "[I") (.int (Int32.ofNat j))) (.int (xsR0 1 j)) ∈ flatC (Jvm.Cond.and given_1 narrow_1) := by decide +kernel
    exact va_eqt (hs _ (key j hj))) hA
  exact ⟨t, va_Zref (hts _ (List.mem_of_getElem? (i := 106) (by decide +kernel))) (hts _ (List.mem_of_getElem? (i := 30) (by decide +kernel))) ht hA, hT⟩
theorem xstat_2 (hs : ∀ c ∈ flatC (Jvm.Cond.and given_1 narrow_1), c.before #[Value.ref b] s = true) (hts : ∀ w ∈ lw_tbl, w.before #[Value.ref b] s = true) : ∃ t : Nat, va_Z "SpoonCards" "LEAST_SETTING" "[I" (.ref t) (fun q => s.heap.size ≤ q) s s.heap ∧ va_T .int t 5 (fun j => .int (xsR0 2 j)) (fun q => s.heap.size ≤ q) s s.heap := by
  have hA : ∀ a : Nat, a < s.heap.size → ¬ (fun q => s.heap.size ≤ q) a := fun a h => Nat.not_le.mpr h
  obtain ⟨t, ht, hT⟩ := va_Tof (tm := .static "SpoonCards" "LEAST_SETTING" "[I") (ty := .int) (N := 5) (f := fun j => .int (xsR0 2 j)) (A := fun q => s.heap.size ≤ q) (by omega) (hs _ (by decide +kernel)) (va_eqt (z := Int32.ofNat 5) (hs _ (by decide +kernel))) (fun j hj => by
    have key : ∀ j, j < 5 → Cond.eq (.elem (.static "SpoonCards" "LEAST_SETTING" "[I") (.int (Int32.ofNat j))) (.int (xsR0 2 j)) ∈ flatC (Jvm.Cond.and given_1 narrow_1) := by decide +kernel
    exact va_eqt (hs _ (key j hj))) hA
  exact ⟨t, va_Zref (hts _ (List.mem_of_getElem? (i := 365) (by decide +kernel))) (hts _ (List.mem_of_getElem? (i := 30) (by decide +kernel))) ht hA, hT⟩
theorem xstat_3 (hs : ∀ c ∈ flatC (Jvm.Cond.and given_1 narrow_1), c.before #[Value.ref b] s = true) (hts : ∀ w ∈ lw_tbl, w.before #[Value.ref b] s = true) : ∃ t : Nat, va_Z "SpoonCards" "MOST_SETTING" "[I" (.ref t) (fun q => s.heap.size ≤ q) s s.heap ∧ va_T .int t 5 (fun j => .int (xsR0 3 j)) (fun q => s.heap.size ≤ q) s s.heap := by
  have hA : ∀ a : Nat, a < s.heap.size → ¬ (fun q => s.heap.size ≤ q) a := fun a h => Nat.not_le.mpr h
  obtain ⟨t, ht, hT⟩ := va_Tof (tm := .static "SpoonCards" "MOST_SETTING" "[I") (ty := .int) (N := 5) (f := fun j => .int (xsR0 3 j)) (A := fun q => s.heap.size ≤ q) (by omega) (hs _ (by decide +kernel)) (va_eqt (z := Int32.ofNat 5) (hs _ (by decide +kernel))) (fun j hj => by
    have key : ∀ j, j < 5 → Cond.eq (.elem (.static "SpoonCards" "MOST_SETTING" "[I") (.int (Int32.ofNat j))) (.int (xsR0 3 j)) ∈ flatC (Jvm.Cond.and given_1 narrow_1) := by decide +kernel
    exact va_eqt (hs _ (key j hj))) hA
  exact ⟨t, va_Zref (hts _ (List.mem_of_getElem? (i := 367) (by decide +kernel))) (hts _ (List.mem_of_getElem? (i := 30) (by decide +kernel))) ht hA, hT⟩
theorem xstat_4 (hs : ∀ c ∈ flatC (Jvm.Cond.and given_1 narrow_1), c.before #[Value.ref b] s = true) (hts : ∀ w ∈ lw_tbl, w.before #[Value.ref b] s = true) : ∃ t : Nat, va_Z "SpoonCards" "GRAINS" "[I" (.ref t) (fun q => s.heap.size ≤ q) s s.heap ∧ va_T .int t 4 (fun j => .int (xsR0 4 j)) (fun q => s.heap.size ≤ q) s s.heap := by
  have hA : ∀ a : Nat, a < s.heap.size → ¬ (fun q => s.heap.size ≤ q) a := fun a h => Nat.not_le.mpr h
  obtain ⟨t, ht, hT⟩ := va_Tof (tm := .static "SpoonCards" "GRAINS" "[I") (ty := .int) (N := 4) (f := fun j => .int (xsR0 4 j)) (A := fun q => s.heap.size ≤ q) (by omega) (hs _ (by decide +kernel)) (va_eqt (z := Int32.ofNat 4) (hs _ (by decide +kernel))) (fun j hj => by
    have key : ∀ j, j < 4 → Cond.eq (.elem (.static "SpoonCards" "GRAINS" "[I") (.int (Int32.ofNat j))) (.int (xsR0 4 j)) ∈ flatC (Jvm.Cond.and given_1 narrow_1) := by decide +kernel
    exact va_eqt (hs _ (key j hj))) hA
  exact ⟨t, va_Zref (hts _ (List.mem_of_getElem? (i := 313) (by decide +kernel))) (hts _ (List.mem_of_getElem? (i := 30) (by decide +kernel))) ht hA, hT⟩
theorem xstat_5 (hs : ∀ c ∈ flatC (Jvm.Cond.and given_1 narrow_1), c.before #[Value.ref b] s = true) (hts : ∀ w ∈ lw_tbl, w.before #[Value.ref b] s = true) : ∃ t : Nat, va_Z "SpoonCards" "COMMAND_LETTERS" "[C" (.ref t) (fun q => s.heap.size ≤ q) s s.heap ∧ va_T .char t 7 (fun j => .int (xsR0 5 j)) (fun q => s.heap.size ≤ q) s s.heap := by
  have hA : ∀ a : Nat, a < s.heap.size → ¬ (fun q => s.heap.size ≤ q) a := fun a h => Nat.not_le.mpr h
  obtain ⟨t, ht, hT⟩ := va_Tof (tm := .static "SpoonCards" "COMMAND_LETTERS" "[C") (ty := .char) (N := 7) (f := fun j => .int (xsR0 5 j)) (A := fun q => s.heap.size ≤ q) (by omega) (hs _ (by decide +kernel)) (va_eqt (z := Int32.ofNat 7) (hs _ (by decide +kernel))) (fun j hj => by
    have key : ∀ j, j < 7 → Cond.eq (.elem (.static "SpoonCards" "COMMAND_LETTERS" "[C") (.int (Int32.ofNat j))) (.int (xsR0 5 j)) ∈ flatC (Jvm.Cond.and given_1 narrow_1) := by decide +kernel
    exact va_eqt (hs _ (key j hj))) hA
  exact ⟨t, va_Zref (hts _ (List.mem_of_getElem? (i := 293) (by decide +kernel))) (hts _ (List.mem_of_getElem? (i := 30) (by decide +kernel))) ht hA, hT⟩
theorem xstat_6 (hs : ∀ c ∈ flatC (Jvm.Cond.and given_1 narrow_1), c.before #[Value.ref b] s = true) (hts : ∀ w ∈ lw_tbl, w.before #[Value.ref b] s = true) : ∃ t : Nat, va_Z "SpoonCards" "MEASURE_LETTERS" "[C" (.ref t) (fun q => s.heap.size ≤ q) s s.heap ∧ va_T .char t 4 (fun j => .int (xsR0 6 j)) (fun q => s.heap.size ≤ q) s s.heap := by
  have hA : ∀ a : Nat, a < s.heap.size → ¬ (fun q => s.heap.size ≤ q) a := fun a h => Nat.not_le.mpr h
  obtain ⟨t, ht, hT⟩ := va_Tof (tm := .static "SpoonCards" "MEASURE_LETTERS" "[C") (ty := .char) (N := 4) (f := fun j => .int (xsR0 6 j)) (A := fun q => s.heap.size ≤ q) (by omega) (hs _ (by decide +kernel)) (va_eqt (z := Int32.ofNat 4) (hs _ (by decide +kernel))) (fun j hj => by
    have key : ∀ j, j < 4 → Cond.eq (.elem (.static "SpoonCards" "MEASURE_LETTERS" "[C") (.int (Int32.ofNat j))) (.int (xsR0 6 j)) ∈ flatC (Jvm.Cond.and given_1 narrow_1) := by decide +kernel
    exact va_eqt (hs _ (key j hj))) hA
  exact ⟨t, va_Zref (hts _ (List.mem_of_getElem? (i := 311) (by decide +kernel))) (hts _ (List.mem_of_getElem? (i := 30) (by decide +kernel))) ht hA, hT⟩
theorem xarr_0 (hts : ∀ w ∈ lw_tbl, w.before #[Value.ref b] s = true) : ∃ cA, ArrOfT s cA .int ∧ va_RA s cA .int := by
  obtain ⟨cA, kA, comp, h1, h2, h3⟩ := Cond.arrayClass_spec (hts (.arrayClass .int) (List.mem_of_getElem? (i := 168) (by decide +kernel)))
  exact ⟨cA, fun n z => ⟨fun k h => (by cases h), kA, h2, comp, h3⟩, h1⟩
theorem xarr_1 (hts : ∀ w ∈ lw_tbl, w.before #[Value.ref b] s = true) : ∃ cA, ArrOfT s cA .char ∧ va_RA s cA .char := by
  obtain ⟨cA, kA, comp, h1, h2, h3⟩ := Cond.arrayClass_spec (hts (.arrayClass .char) (List.mem_of_getElem? (i := 88) (by decide +kernel)))
  exact ⟨cA, fun n z => ⟨fun k h => (by cases h), kA, h2, comp, h3⟩, h1⟩
theorem xarr_2 (hts : ∀ w ∈ lw_tbl, w.before #[Value.ref b] s = true) : ∃ cA, ArrOfT s cA .boolean ∧ va_RA s cA .boolean := by
  obtain ⟨cA, kA, comp, h1, h2, h3⟩ := Cond.arrayClass_spec (hts (.arrayClass .boolean) (List.mem_of_getElem? (i := 261) (by decide +kernel)))
  exact ⟨cA, fun n z => ⟨fun k h => (by cases h), kA, h2, comp, h3⟩, h1⟩
theorem xarr_3 (hts : ∀ w ∈ lw_tbl, w.before #[Value.ref b] s = true) : ∃ cA, ArrOfT s cA .byte ∧ va_RA s cA .byte := by
  obtain ⟨cA, kA, comp, h1, h2, h3⟩ := Cond.arrayClass_spec (hts (.arrayClass .byte) (List.mem_of_getElem? (i := 458) (by decide +kernel)))
  exact ⟨cA, fun n z => ⟨fun k h => (by cases h), kA, h2, comp, h3⟩, h1⟩
theorem xarr_4 (hts : ∀ w ∈ lw_tbl, w.before #[Value.ref b] s = true) : va_AO RX0 s ∧ ∃ cA, ArrOfT s cA (.object RX0) ∧ va_RA s cA (.object RX0) := by
  have h := hts (.arrayOver (.object RX0)) (List.mem_of_getElem? (i := 221) (by decide +kernel))
  obtain ⟨comp, c, k, h1, h2, h3, h4, h5⟩ := Cond.arrayOver_spec h
  exact ⟨va_AO.of h, c, fun n z => ⟨fun k h => (by cases h), k, h3, comp, h4⟩, k, comp, h3, h4, h1, h5⟩
theorem xstr (hs : ∀ c ∈ flatC (Jvm.Cond.and given_1 narrow_1), c.before #[Value.ref b] s = true) (hts : ∀ w ∈ lw_tbl, w.before #[Value.ref b] s = true) : ∃ sa : Nat → Nat, ∀ E, E < 3 → vk_R "SpoonCards" (xsi E) (xtx E) (sa E) s := by
  have h : ∀ E, ∃ a, E < 3 → vk_R "SpoonCards" (xsi E) (xtx E) a s := by
    intro E
    by_cases hE : E < 3
    · have h1 : ∀ E, E < 3 → Cond.exactly (.string "SpoonCards" (xsi E)) "java/lang/String" ∈ flatC (Jvm.Cond.and given_1 narrow_1) := by decide +kernel
      have h2 : ∀ E, E < 3 → Cond.stringRef "SpoonCards" (xsi E) (xtx E) ∈ lw_tbl := by decide +kernel
      obtain ⟨a, c, cA, kA, q1, -⟩ := Cond.exactly_spec (args := #[Value.ref b]) (first := s) (o := none) (s := s) (idx := []) (hs _ (h1 E hE))
      have h3 := hts _ (h2 E hE)
      exact ⟨a, fun _ => vk_R.of h3 q1⟩
    · exact ⟨0, fun h => absurd h hE⟩
  exact ⟨fun E => Classical.choose (h E), fun E hE => Classical.choose_spec (h E) hE⟩
theorem xncs (hs : ∀ c ∈ flatC (Jvm.Cond.and given_1 narrow_1), c.before #[Value.ref b] s = true) : ∀ E F, E < 3 → F < 3 → E ≠ F → va_Nc (xen E) (xen F) s := by
  have h1 : ∀ E, E < 3 → ∀ F, F < 3 → E ≠ F → Cond.not (.castable (xen E) (xen F)) ∈ flatC (Jvm.Cond.and given_1 narrow_1) := by decide +kernel
  exact fun E F hE hF hn => va_Nc.of (hs _ (h1 E hE F hF hn))
theorem xknown (hts : ∀ w ∈ lw_tbl, w.before #[Value.ref b] s = true) : ∃ (dC : Nat → ClassId) (dI : Nat → Nat → Nat), ∀ (k : Nat) (q : vw_C), xcl0[k]? = some q → u_Kn s q.1 q.2.1 q.2.2 (dC k) (dI k) := by
  have h : ∀ t, ∃ z : ClassId × (Nat → Nat), t < 5 → u_Kn s (xcT t).1 (xcT t).2.1 (xcT t).2.2 z.1 z.2 := by
    intro t
    by_cases ht : t < 5
    · have h1 : ∀ t, t < 5 → Cond.instantiable (xcT t).1 (xcT t).2.2 ∈ lw_tbl := by decide +kernel
      obtain ⟨cC, iS, h2⟩ := u_known (n := (xcT t).2.2) hts (fun w hw => (List.mem_filter.mp (xcT_in ht w hw)).1) (hts _ (h1 t ht))
      exact ⟨(cC, iS), fun _ => h2⟩
    · exact ⟨(0, fun _ => 0), fun h => absurd h ht⟩
  refine ⟨fun t => (Classical.choose (h t)).1, fun t => (Classical.choose (h t)).2, fun k q hq => ?_⟩
  have hk : k < 5 := (List.getElem?_eq_some_iff.mp hq).1
  rw [xcl0_at hk] at hq
  cases hq
  exact Classical.choose_spec (h k) hk
end XST

set_option maxHeartbeats 4000000 in
/-- the law's walk, out of X's answer -/
theorem whole_of (hLaw : xLawOk) {p : Program} {e : Env} {s : State} {m : MethodId} {below : List Frame} {meth : Method} {c : Code} (l : Launch) (hflags : l.flags = flags0) {b L : Nat} {xs : Nat → Int32} (hL : L ≤ 260) (C0 : lw_At p s m meth c b L xs) : W p l e room_1 s m #[Value.ref b] below meth c s.heap [] 0 0 (lw_Z below #[Value.ref b] s) (entryFrame m ([Value.ref b] : List Value).toArray 7) := by
  obtain ⟨hx, hb, hr, hml, hown, hts, hX, hbl, hlocks, hgv⟩ := C0
  have hs := flat_of_before _ hgv
  have hfl : l.stackTraces = false := by
    unfold Launch.stackTraces
    rw [hflags]
    decide +kernel
  obtain ⟨t1, z1, T1⟩ := xstat_1 hs hts
  obtain ⟨t2, z2, T2⟩ := xstat_2 hs hts
  obtain ⟨t3, z3, T3⟩ := xstat_3 hs hts
  obtain ⟨t4, z4, T4⟩ := xstat_4 hs hts
  obtain ⟨t5, z5, T5⟩ := xstat_5 hs hts
  obtain ⟨t6, z6, T6⟩ := xstat_6 hs hts
  obtain ⟨a0, A0, B0⟩ := xarr_0 hts
  obtain ⟨a1, A1, B1⟩ := xarr_1 hts
  obtain ⟨a2, A2, B2⟩ := xarr_2 hts
  obtain ⟨a3, A3, B3⟩ := xarr_3 hts
  obtain ⟨hAO, a4, A4, B4⟩ := xarr_4 hts
  obtain ⟨sa, hsa⟩ := xstr hs hts
  obtain ⟨dC, dI, hKn⟩ := xknown hts
  obtain ⟨G, hG⟩ : ∃ G : xG, G = (s.heap.size, (fun i => if i = 0 then b else if i = 1 then t1 else if i = 2 then t2 else if i = 3 then t3 else if i = 4 then t4 else if i = 5 then t5 else t6), dC, dI, (fun i => if i = 0 then a0 else if i = 1 then a1 else if i = 2 then a2 else if i = 3 then a3 else a4), xgiv L xs, sa) := ⟨_, rfl⟩
  have hAr : xAr G = fun q => s.heap.size ≤ q := by rw [hG]; rfl
  have hA : ∀ a : Nat, a < s.heap.size → ¬ (fun q => s.heap.size ≤ q) a := fun a h => Nat.not_le.mpr h
  have T0 : va_T .int b L (fun j => .int (xs j)) (fun q => s.heap.size ≤ q) s s.heap := by
    obtain ⟨scr, g1, g2, g3, g4, g5⟩ := hX
    exact ⟨scr, g1, g2, g3, Nat.le_of_eq g4.symm, by rw [g4], g5, hA b hbl⟩
  have hK : xKn G s := by
    refine ⟨⟨?_, ?_⟩, ?_, ?_, ?_, hAO, ?_, ⟨?_, ?_⟩, xncs hs, ?_⟩
    · rw [hG]; exact hKn
    · intro k q hq
      rw [hG] at hq
      match k, hq with
      | 0, hq => cases hq; exact ⟨A0, B0⟩
      | 1, hq => cases hq; exact ⟨A1, B1⟩
      | 2, hq => cases hq; exact ⟨A2, B2⟩
      | 3, hq => cases hq; exact ⟨A3, B3⟩
      | 4, hq => cases hq; exact ⟨A4, B4⟩
      | k + 5, hq => cases hq
    · intro a t n f ha hg
      rw [hAr]
      rw [hG] at hg ⊢
      match a, ha, hg with
      | 0, _, hg => cases hg; exact T0
      | 1, _, hg => cases hg; exact T1
      | 2, _, hg => cases hg; exact T2
      | 3, _, hg => cases hg; exact T3
      | 4, _, hg => cases hg; exact T4
      | 5, _, hg => cases hg; exact T5
      | 6, _, hg => cases hg; exact T6
    · intro g h1 h2
      rw [hAr, hG]
      match g, h1, h2 with
      | 1, _, _ => exact z1
      | 2, _, _ => exact z2
      | 3, _, _ => exact z3
      | 4, _, _ => exact z4
      | 5, _, _ => exact z5
      | 6, _, _ => exact z6
    · intro w hw
      obtain ⟨h1, h2⟩ := List.mem_filter.mp hw
      exact va_Nw.of (xisn_tab h2) (hts w h1)
    · rw [hG]; exact hsa
    · rw [hAr]
      exact vx_Zqof (hts _ (List.mem_of_getElem? (i := 418) (by decide +kernel))) (hts _ (List.mem_of_getElem? (i := 36) (by decide +kernel))) (hs _ (by decide +kernel)) hA
    · rw [hAr]
      exact vx_Zqof (hts _ (List.mem_of_getElem? (i := 420) (by decide +kernel))) (hts _ (List.mem_of_getElem? (i := 36) (by decide +kernel))) (hs _ (by decide +kernel)) hA
    · rw [hG]; exact Nat.le_refl _
  have hO : xO G (xh0 L xs) s.heap := by
    refine ⟨?_, ?_, Nat.le_refl 7, ?_, ?_⟩
    · intro k q hq
      cases hq
    · intro _
      rw [hG]
      rfl
    · intro a _
      rw [hG]
      rfl
    · intro a c hc
      match a, hc with
      | 0, hc => cases hc; exact ⟨fun _ => rfl, fun _ => by omega⟩
      | 1, hc => cases hc; exact ⟨fun _ => rfl, fun _ => by omega⟩
      | 2, hc => cases hc; exact ⟨fun _ => rfl, fun _ => by omega⟩
      | 3, hc => cases hc; exact ⟨fun _ => rfl, fun _ => by omega⟩
      | 4, hc => cases hc; exact ⟨fun _ => rfl, fun _ => by omega⟩
      | 5, hc => cases hc; exact ⟨fun _ => rfl, fun _ => by omega⟩
      | 6, hc => cases hc; exact ⟨fun _ => rfl, fun _ => by omega⟩
      | a + 7, hc => cases hc
  have A : xAt G l 143 p room_1 s m #[Value.ref b] meth c := ⟨hx, hb, hml, hr, hlocks, fun hi => absurd hi (by decide +kernel), hown, fun h3 => absurd h3 (by decide +kernel), fun w hw => hts w (List.mem_filter.mp hw).1, ⟨Nat.le_of_ble_eq_true rfl, Nat.le_of_ble_eq_true rfl, Nat.le_of_ble_eq_true rfl, Nat.le_of_ble_eq_true rfl⟩, hK, hfl⟩
  obtain ⟨h', hres⟩ := hLaw L xs hL
  obtain ⟨n, hn⟩ := xX_some.mp hres
  have hE : xEnd G 143 (.inl (some (.int 1)), h') p l e room_1 s m #[Value.ref b] below meth c (lw_Z below #[Value.ref b] s) := by
    refine ⟨fun v hv H locs nc ns pc lsM i hO hS h1 h2 hd hri => ?_, fun E hE => by cases hE⟩
    cases hv
    rcases hri with ⟨x, hx1, rfl, -⟩ | ⟨x, hx1, -⟩ | ⟨hx1, -⟩
    · cases hx1
      refine W.widen h1 h2 (va_forget (fun q hq => ?_) (lw_ret hx hb hr hlocks hd))
      have := hS.2.2 q hq
      rw [hAr] at this
      exact this
    · cases hx1
    · cases hx1
  have e0 : xv G (.ref 0) = .ref b := by
    rw [xad_ge (by omega), hG]
    rfl
  have hlM := lv_entry (([.ref 0] : List Value).map (xv G)) (n := 7) (Nat.le_of_ble_eq_true rfl)
  rw [lg_entry_eq]
  have hfin := xB_all (G := G) hfl n 143 0 (xEnt 7 [.ref 0]) [] (xh0 L xs) 0 0 _ p e room_1 s m #[Value.ref b] below meth c s.heap [] _ _ hn (by decide) A hO va_S.rf (xEnt_lr (Nat.le_of_ble_eq_true rfl) hlM) ⟨Nat.zero_le _, Nat.zero_le _⟩ hE
  rw [List.map_cons, e0] at hfin
  exact hfin
