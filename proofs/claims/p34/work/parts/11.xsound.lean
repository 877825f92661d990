def xIl (a : xA) : Prop := ∀ b, a ≠ some (.inr b)
theorem xi_none : xIl none := fun _ h => by cases h
theorem xi_go {pc ls st h nc ns} : xIl (xGo pc ls st h nc ns) := fun _ h => by cases h
theorem xi_q {a b : Nat} {x : xA} (h : xIl x) : xIl (xq a b x) := fun b hb => h b (xq_some hb).2
theorem xi_bind {α : Type} {o : Option α} {f : α → xA} (h : ∀ q, xIl (f q)) : xIl (o.bind f) := fun b hb => by
  obtain ⟨q, -, h2⟩ := Option.bind_eq_some_iff.mp hb
  exact h q b h2
theorem xi_if {c : Prop} [Decidable c] {a b : xA} (h1 : xIl a) (h2 : xIl b) : xIl (if c then a else b) := by
  split
  · exact h1
  · exact h2
theorem xi_jm {pc off ls st h nc ns} : xIl (xJm pc off ls st h nc ns) := xi_if xi_go xi_none
theorem xi_br {pc off b ls st h nc ns} : xIl (xBr pc off b ls st h nc ns) := xi_if (xi_if xi_go xi_go) xi_none
theorem xi_alloc {k pc ls st h nc ns s c} : xIl (xAlloc k pc ls st h nc ns s c) := xi_if xi_go xi_none
section XF
variable {G : xG} {k pc len nc ns : Nat} {ls : xLs} {st : List Value} {h : xHp} {p : Program} {l : Launch} {e : Env} {R : Room} {s : State} {m : MethodId} {args : Array Value} {below : List Frame} {meth : Method} {c : Code} {H : Heap} {locs : List Loc} {lsM : Array Slot} {Q : State → Prop}
theorem xclass {i : Instr} {b : xRes ⊕ xCa} (ha : xAct k pc i len ls st h nc ns = some (.inr b)) : (∃ ix, i = .invokevirtual ix) ∨ (∃ ix, i = .invokestatic ix) ∨ (∃ ix, i = .invokespecial ix) ∨ i = .ireturn ∨ i = .lreturn ∨ i = .return_ ∨ ∃ ix, i = .new ix := by
  cases i with
  | iconst n => exact absurd ha ((show xIl _ by (repeat' first | exact xi_none | exact xi_go | exact xi_jm | exact xi_br | exact xi_alloc | refine xi_q ?_ | refine xi_bind fun _ => ?_ | refine xi_if ?_ ?_ | split)) b)
  | bipush n => exact absurd ha ((show xIl _ by (repeat' first | exact xi_none | exact xi_go | exact xi_jm | exact xi_br | exact xi_alloc | refine xi_q ?_ | refine xi_bind fun _ => ?_ | refine xi_if ?_ ?_ | split)) b)
  | sipush n => exact absurd ha ((show xIl _ by (repeat' first | exact xi_none | exact xi_go | exact xi_jm | exact xi_br | exact xi_alloc | refine xi_q ?_ | refine xi_bind fun _ => ?_ | refine xi_if ?_ ?_ | split)) b)
  | lconst n => exact absurd ha ((show xIl _ by (repeat' first | exact xi_none | exact xi_go | exact xi_jm | exact xi_br | exact xi_alloc | refine xi_q ?_ | refine xi_bind fun _ => ?_ | refine xi_if ?_ ?_ | split)) b)
  | ldc ix => exact absurd ha ((show xIl _ by (repeat' first | exact xi_none | exact xi_go | exact xi_jm | exact xi_br | exact xi_alloc | refine xi_q ?_ | refine xi_bind fun _ => ?_ | refine xi_if ?_ ?_ | split)) b)
  | ldc_w ix => exact absurd ha ((show xIl _ by (repeat' first | exact xi_none | exact xi_go | exact xi_jm | exact xi_br | exact xi_alloc | refine xi_q ?_ | refine xi_bind fun _ => ?_ | refine xi_if ?_ ?_ | split)) b)
  | ldc2_w ix => exact absurd ha ((show xIl _ by (repeat' first | exact xi_none | exact xi_go | exact xi_jm | exact xi_br | exact xi_alloc | refine xi_q ?_ | refine xi_bind fun _ => ?_ | refine xi_if ?_ ?_ | split)) b)
  | iload_n n => exact absurd ha ((show xIl _ by (repeat' first | exact xi_none | exact xi_go | exact xi_jm | exact xi_br | exact xi_alloc | refine xi_q ?_ | refine xi_bind fun _ => ?_ | refine xi_if ?_ ?_ | split)) b)
  | iload n => exact absurd ha ((show xIl _ by (repeat' first | exact xi_none | exact xi_go | exact xi_jm | exact xi_br | exact xi_alloc | refine xi_q ?_ | refine xi_bind fun _ => ?_ | refine xi_if ?_ ?_ | split)) b)
  | lload_n n => exact absurd ha ((show xIl _ by (repeat' first | exact xi_none | exact xi_go | exact xi_jm | exact xi_br | exact xi_alloc | refine xi_q ?_ | refine xi_bind fun _ => ?_ | refine xi_if ?_ ?_ | split)) b)
  | lload n => exact absurd ha ((show xIl _ by (repeat' first | exact xi_none | exact xi_go | exact xi_jm | exact xi_br | exact xi_alloc | refine xi_q ?_ | refine xi_bind fun _ => ?_ | refine xi_if ?_ ?_ | split)) b)
  | aload_n n => exact absurd ha ((show xIl _ by (repeat' first | exact xi_none | exact xi_go | exact xi_jm | exact xi_br | exact xi_alloc | refine xi_q ?_ | refine xi_bind fun _ => ?_ | refine xi_if ?_ ?_ | split)) b)
  | aload n => exact absurd ha ((show xIl _ by (repeat' first | exact xi_none | exact xi_go | exact xi_jm | exact xi_br | exact xi_alloc | refine xi_q ?_ | refine xi_bind fun _ => ?_ | refine xi_if ?_ ?_ | split)) b)
  | istore_n n => exact absurd ha ((show xIl _ by (repeat' first | exact xi_none | exact xi_go | exact xi_jm | exact xi_br | exact xi_alloc | refine xi_q ?_ | refine xi_bind fun _ => ?_ | refine xi_if ?_ ?_ | split)) b)
  | istore n => exact absurd ha ((show xIl _ by (repeat' first | exact xi_none | exact xi_go | exact xi_jm | exact xi_br | exact xi_alloc | refine xi_q ?_ | refine xi_bind fun _ => ?_ | refine xi_if ?_ ?_ | split)) b)
  | astore_n n => exact absurd ha ((show xIl _ by (repeat' first | exact xi_none | exact xi_go | exact xi_jm | exact xi_br | exact xi_alloc | refine xi_q ?_ | refine xi_bind fun _ => ?_ | refine xi_if ?_ ?_ | split)) b)
  | astore n => exact absurd ha ((show xIl _ by (repeat' first | exact xi_none | exact xi_go | exact xi_jm | exact xi_br | exact xi_alloc | refine xi_q ?_ | refine xi_bind fun _ => ?_ | refine xi_if ?_ ?_ | split)) b)
  | lstore_n n => exact absurd ha ((show xIl _ by (repeat' first | exact xi_none | exact xi_go | exact xi_jm | exact xi_br | exact xi_alloc | refine xi_q ?_ | refine xi_bind fun _ => ?_ | refine xi_if ?_ ?_ | split)) b)
  | lstore n => exact absurd ha ((show xIl _ by (repeat' first | exact xi_none | exact xi_go | exact xi_jm | exact xi_br | exact xi_alloc | refine xi_q ?_ | refine xi_bind fun _ => ?_ | refine xi_if ?_ ?_ | split)) b)
  | iinc i n => exact absurd ha ((show xIl _ by (repeat' first | exact xi_none | exact xi_go | exact xi_jm | exact xi_br | exact xi_alloc | refine xi_q ?_ | refine xi_bind fun _ => ?_ | refine xi_if ?_ ?_ | split)) b)
  | iadd => exact absurd ha ((show xIl _ by (repeat' first | exact xi_none | exact xi_go | exact xi_jm | exact xi_br | exact xi_alloc | refine xi_q ?_ | refine xi_bind fun _ => ?_ | refine xi_if ?_ ?_ | split)) b)
  | isub => exact absurd ha ((show xIl _ by (repeat' first | exact xi_none | exact xi_go | exact xi_jm | exact xi_br | exact xi_alloc | refine xi_q ?_ | refine xi_bind fun _ => ?_ | refine xi_if ?_ ?_ | split)) b)
  | imul => exact absurd ha ((show xIl _ by (repeat' first | exact xi_none | exact xi_go | exact xi_jm | exact xi_br | exact xi_alloc | refine xi_q ?_ | refine xi_bind fun _ => ?_ | refine xi_if ?_ ?_ | split)) b)
  | ishl => exact absurd ha ((show xIl _ by (repeat' first | exact xi_none | exact xi_go | exact xi_jm | exact xi_br | exact xi_alloc | refine xi_q ?_ | refine xi_bind fun _ => ?_ | refine xi_if ?_ ?_ | split)) b)
  | ishr => exact absurd ha ((show xIl _ by (repeat' first | exact xi_none | exact xi_go | exact xi_jm | exact xi_br | exact xi_alloc | refine xi_q ?_ | refine xi_bind fun _ => ?_ | refine xi_if ?_ ?_ | split)) b)
  | iand => exact absurd ha ((show xIl _ by (repeat' first | exact xi_none | exact xi_go | exact xi_jm | exact xi_br | exact xi_alloc | refine xi_q ?_ | refine xi_bind fun _ => ?_ | refine xi_if ?_ ?_ | split)) b)
  | ior => exact absurd ha ((show xIl _ by (repeat' first | exact xi_none | exact xi_go | exact xi_jm | exact xi_br | exact xi_alloc | refine xi_q ?_ | refine xi_bind fun _ => ?_ | refine xi_if ?_ ?_ | split)) b)
  | ixor => exact absurd ha ((show xIl _ by (repeat' first | exact xi_none | exact xi_go | exact xi_jm | exact xi_br | exact xi_alloc | refine xi_q ?_ | refine xi_bind fun _ => ?_ | refine xi_if ?_ ?_ | split)) b)
  | idiv => exact absurd ha ((show xIl _ by (repeat' first | exact xi_none | exact xi_go | exact xi_jm | exact xi_br | exact xi_alloc | refine xi_q ?_ | refine xi_bind fun _ => ?_ | refine xi_if ?_ ?_ | split)) b)
  | irem => exact absurd ha ((show xIl _ by (repeat' first | exact xi_none | exact xi_go | exact xi_jm | exact xi_br | exact xi_alloc | refine xi_q ?_ | refine xi_bind fun _ => ?_ | refine xi_if ?_ ?_ | split)) b)
  | iushr => exact absurd ha ((show xIl _ by (repeat' first | exact xi_none | exact xi_go | exact xi_jm | exact xi_br | exact xi_alloc | refine xi_q ?_ | refine xi_bind fun _ => ?_ | refine xi_if ?_ ?_ | split)) b)
  | ineg => exact absurd ha ((show xIl _ by (repeat' first | exact xi_none | exact xi_go | exact xi_jm | exact xi_br | exact xi_alloc | refine xi_q ?_ | refine xi_bind fun _ => ?_ | refine xi_if ?_ ?_ | split)) b)
  | i2l => exact absurd ha ((show xIl _ by (repeat' first | exact xi_none | exact xi_go | exact xi_jm | exact xi_br | exact xi_alloc | refine xi_q ?_ | refine xi_bind fun _ => ?_ | refine xi_if ?_ ?_ | split)) b)
  | i2c => exact absurd ha ((show xIl _ by (repeat' first | exact xi_none | exact xi_go | exact xi_jm | exact xi_br | exact xi_alloc | refine xi_q ?_ | refine xi_bind fun _ => ?_ | refine xi_if ?_ ?_ | split)) b)
  | l2i => exact absurd ha ((show xIl _ by (repeat' first | exact xi_none | exact xi_go | exact xi_jm | exact xi_br | exact xi_alloc | refine xi_q ?_ | refine xi_bind fun _ => ?_ | refine xi_if ?_ ?_ | split)) b)
  | ladd => exact absurd ha ((show xIl _ by (repeat' first | exact xi_none | exact xi_go | exact xi_jm | exact xi_br | exact xi_alloc | refine xi_q ?_ | refine xi_bind fun _ => ?_ | refine xi_if ?_ ?_ | split)) b)
  | lsub => exact absurd ha ((show xIl _ by (repeat' first | exact xi_none | exact xi_go | exact xi_jm | exact xi_br | exact xi_alloc | refine xi_q ?_ | refine xi_bind fun _ => ?_ | refine xi_if ?_ ?_ | split)) b)
  | lmul => exact absurd ha ((show xIl _ by (repeat' first | exact xi_none | exact xi_go | exact xi_jm | exact xi_br | exact xi_alloc | refine xi_q ?_ | refine xi_bind fun _ => ?_ | refine xi_if ?_ ?_ | split)) b)
  | land => exact absurd ha ((show xIl _ by (repeat' first | exact xi_none | exact xi_go | exact xi_jm | exact xi_br | exact xi_alloc | refine xi_q ?_ | refine xi_bind fun _ => ?_ | refine xi_if ?_ ?_ | split)) b)
  | lor => exact absurd ha ((show xIl _ by (repeat' first | exact xi_none | exact xi_go | exact xi_jm | exact xi_br | exact xi_alloc | refine xi_q ?_ | refine xi_bind fun _ => ?_ | refine xi_if ?_ ?_ | split)) b)
  | ldiv => exact absurd ha ((show xIl _ by (repeat' first | exact xi_none | exact xi_go | exact xi_jm | exact xi_br | exact xi_alloc | refine xi_q ?_ | refine xi_bind fun _ => ?_ | refine xi_if ?_ ?_ | split)) b)
  | lrem => exact absurd ha ((show xIl _ by (repeat' first | exact xi_none | exact xi_go | exact xi_jm | exact xi_br | exact xi_alloc | refine xi_q ?_ | refine xi_bind fun _ => ?_ | refine xi_if ?_ ?_ | split)) b)
  | lshl => exact absurd ha ((show xIl _ by (repeat' first | exact xi_none | exact xi_go | exact xi_jm | exact xi_br | exact xi_alloc | refine xi_q ?_ | refine xi_bind fun _ => ?_ | refine xi_if ?_ ?_ | split)) b)
  | lshr => exact absurd ha ((show xIl _ by (repeat' first | exact xi_none | exact xi_go | exact xi_jm | exact xi_br | exact xi_alloc | refine xi_q ?_ | refine xi_bind fun _ => ?_ | refine xi_if ?_ ?_ | split)) b)
  | lushr => exact absurd ha ((show xIl _ by (repeat' first | exact xi_none | exact xi_go | exact xi_jm | exact xi_br | exact xi_alloc | refine xi_q ?_ | refine xi_bind fun _ => ?_ | refine xi_if ?_ ?_ | split)) b)
  | lcmp => exact absurd ha ((show xIl _ by (repeat' first | exact xi_none | exact xi_go | exact xi_jm | exact xi_br | exact xi_alloc | refine xi_q ?_ | refine xi_bind fun _ => ?_ | refine xi_if ?_ ?_ | split)) b)
  | dup => exact absurd ha ((show xIl _ by (repeat' first | exact xi_none | exact xi_go | exact xi_jm | exact xi_br | exact xi_alloc | refine xi_q ?_ | refine xi_bind fun _ => ?_ | refine xi_if ?_ ?_ | split)) b)
  | pop => exact absurd ha ((show xIl _ by (repeat' first | exact xi_none | exact xi_go | exact xi_jm | exact xi_br | exact xi_alloc | refine xi_q ?_ | refine xi_bind fun _ => ?_ | refine xi_if ?_ ?_ | split)) b)
  | dup_x1 => exact absurd ha ((show xIl _ by (repeat' first | exact xi_none | exact xi_go | exact xi_jm | exact xi_br | exact xi_alloc | refine xi_q ?_ | refine xi_bind fun _ => ?_ | refine xi_if ?_ ?_ | split)) b)
  | dup2 => exact absurd ha ((show xIl _ by (repeat' first | exact xi_none | exact xi_go | exact xi_jm | exact xi_br | exact xi_alloc | refine xi_q ?_ | refine xi_bind fun _ => ?_ | refine xi_if ?_ ?_ | split)) b)
  | goto off => exact absurd ha ((show xIl _ by (repeat' first | exact xi_none | exact xi_go | exact xi_jm | exact xi_br | exact xi_alloc | refine xi_q ?_ | refine xi_bind fun _ => ?_ | refine xi_if ?_ ?_ | split)) b)
  | tableswitch dflt lo hi offs => exact absurd ha ((show xIl _ by (repeat' first | exact xi_none | exact xi_go | exact xi_jm | exact xi_br | exact xi_alloc | refine xi_q ?_ | refine xi_bind fun _ => ?_ | refine xi_if ?_ ?_ | split)) b)
  | lookupswitch dflt ps => exact absurd ha ((show xIl _ by (repeat' first | exact xi_none | exact xi_go | exact xi_jm | exact xi_br | exact xi_alloc | refine xi_q ?_ | refine xi_bind fun _ => ?_ | refine xi_if ?_ ?_ | split)) b)
  | getfield ix => exact absurd ha ((show xIl _ by (repeat' first | exact xi_none | exact xi_go | exact xi_jm | exact xi_br | exact xi_alloc | refine xi_q ?_ | refine xi_bind fun _ => ?_ | refine xi_if ?_ ?_ | split)) b)
  | putfield ix => exact absurd ha ((show xIl _ by (repeat' first | exact xi_none | exact xi_go | exact xi_jm | exact xi_br | exact xi_alloc | refine xi_q ?_ | refine xi_bind fun _ => ?_ | refine xi_if ?_ ?_ | split)) b)
  | getstatic ix => exact absurd ha ((show xIl _ by (repeat' first | exact xi_none | exact xi_go | exact xi_jm | exact xi_br | exact xi_alloc | refine xi_q ?_ | refine xi_bind fun _ => ?_ | refine xi_if ?_ ?_ | split)) b)
  | iaload => exact absurd ha ((show xIl _ by (repeat' first | exact xi_none | exact xi_go | exact xi_jm | exact xi_br | exact xi_alloc | refine xi_q ?_ | refine xi_bind fun _ => ?_ | refine xi_if ?_ ?_ | split)) b)
  | caload => exact absurd ha ((show xIl _ by (repeat' first | exact xi_none | exact xi_go | exact xi_jm | exact xi_br | exact xi_alloc | refine xi_q ?_ | refine xi_bind fun _ => ?_ | refine xi_if ?_ ?_ | split)) b)
  | baload => exact absurd ha ((show xIl _ by (repeat' first | exact xi_none | exact xi_go | exact xi_jm | exact xi_br | exact xi_alloc | refine xi_q ?_ | refine xi_bind fun _ => ?_ | refine xi_if ?_ ?_ | split)) b)
  | iastore => exact absurd ha ((show xIl _ by (repeat' first | exact xi_none | exact xi_go | exact xi_jm | exact xi_br | exact xi_alloc | refine xi_q ?_ | refine xi_bind fun _ => ?_ | refine xi_if ?_ ?_ | split)) b)
  | castore => exact absurd ha ((show xIl _ by (repeat' first | exact xi_none | exact xi_go | exact xi_jm | exact xi_br | exact xi_alloc | refine xi_q ?_ | refine xi_bind fun _ => ?_ | refine xi_if ?_ ?_ | split)) b)
  | bastore => exact absurd ha ((show xIl _ by (repeat' first | exact xi_none | exact xi_go | exact xi_jm | exact xi_br | exact xi_alloc | refine xi_q ?_ | refine xi_bind fun _ => ?_ | refine xi_if ?_ ?_ | split)) b)
  | aaload => exact absurd ha ((show xIl _ by (repeat' first | exact xi_none | exact xi_go | exact xi_jm | exact xi_br | exact xi_alloc | refine xi_q ?_ | refine xi_bind fun _ => ?_ | refine xi_if ?_ ?_ | split)) b)
  | aastore => exact absurd ha ((show xIl _ by (repeat' first | exact xi_none | exact xi_go | exact xi_jm | exact xi_br | exact xi_alloc | refine xi_q ?_ | refine xi_bind fun _ => ?_ | refine xi_if ?_ ?_ | split)) b)
  | arraylength => exact absurd ha ((show xIl _ by (repeat' first | exact xi_none | exact xi_go | exact xi_jm | exact xi_br | exact xi_alloc | refine xi_q ?_ | refine xi_bind fun _ => ?_ | refine xi_if ?_ ?_ | split)) b)
  | newarray t => exact absurd ha ((show xIl _ by (repeat' first | exact xi_none | exact xi_go | exact xi_jm | exact xi_br | exact xi_alloc | refine xi_q ?_ | refine xi_bind fun _ => ?_ | refine xi_if ?_ ?_ | split)) b)
  | anewarray ix => exact absurd ha ((show xIl _ by (repeat' first | exact xi_none | exact xi_go | exact xi_jm | exact xi_br | exact xi_alloc | refine xi_q ?_ | refine xi_bind fun _ => ?_ | refine xi_if ?_ ?_ | split)) b)
  | if_icmp cd off => exact absurd ha ((show xIl _ by (repeat' first | exact xi_none | exact xi_go | exact xi_jm | exact xi_br | exact xi_alloc | refine xi_q ?_ | refine xi_bind fun _ => ?_ | refine xi_if ?_ ?_ | split)) b)
  | ifCond cd off => exact absurd ha ((show xIl _ by (repeat' first | exact xi_none | exact xi_go | exact xi_jm | exact xi_br | exact xi_alloc | refine xi_q ?_ | refine xi_bind fun _ => ?_ | refine xi_if ?_ ?_ | split)) b)
  | new ix => exact Or.inr (Or.inr (Or.inr (Or.inr (Or.inr (Or.inr ⟨ix, rfl⟩)))))
  | invokevirtual ix => exact Or.inl ⟨ix, rfl⟩
  | invokestatic ix => exact Or.inr (Or.inl ⟨ix, rfl⟩)
  | invokespecial ix => exact Or.inr (Or.inr (Or.inl ⟨ix, rfl⟩))
  | ireturn => exact Or.inr (Or.inr (Or.inr (Or.inl rfl)))
  | lreturn => exact Or.inr (Or.inr (Or.inr (Or.inr (Or.inl rfl))))
  | return_ => exact Or.inr (Or.inr (Or.inr (Or.inr (Or.inr (Or.inl rfl)))))
  | _ => exact absurd ha (xi_none b)
theorem xCall_ninl {k' : Nat} {j : xJ} : xCall k pc k' ls st h nc ns ≠ some (.inl j) := fun ha => by
  have := (xif_some ha).2
  cases this
theorem xif_ninl {c : Prop} [Decidable c] {k' : Nat} {j : xJ} : (if c then xCall k pc k' ls st h nc ns else none) ≠ some (.inl j) := fun ha => xCall_ninl (xif_some ha).2
theorem xjump {i : Instr} {j : xJ} (hd : decode (xmb k) pc = .ok (i, len)) (ha : xAct k pc i len ls st h nc ns = some (.inl j)) (A : xAt G l k p R s m args meth c) (hO : xO G h H) (hS : va_S (xAr G) s.heap H locs) (hl : xlr G ls lsM (xml k)) (hn : nc ≤ xmc k ∧ ns ≤ xms k)
    (kk : ∀ (H' : Heap) (locs' : List Loc) (lsM' : Array Slot), xO G j.2.2.2.1 H' → va_S (xAr G) s.heap H' locs' → xlr G j.2.1 lsM' (xml k) → j.2.2.2.2.1 ≤ xmc k ∧ j.2.2.2.2.2 ≤ xms k → W p l e R s m args below meth c H' locs' j.2.2.2.2.1 j.2.2.2.2.2 Q (F0 m j.1 lsM' (j.2.2.1.map (xv G)))) : W p l e R s m args below meth c H locs nc ns Q (F0 m pc lsM (st.map (xv G))) := by
  cases i with
  | iconst n => exact xj_iconst hd ha A hO hS hl hn kk
  | bipush n => exact xj_bipush hd ha A hO hS hl hn kk
  | sipush n => exact xj_sipush hd ha A hO hS hl hn kk
  | lconst n => exact xj_lconst hd ha A hO hS hl hn kk
  | ldc ix => exact xj_ldc hd ha A hO hS hl hn kk
  | ldc_w ix => exact xj_ldc_w hd ha A hO hS hl hn kk
  | ldc2_w ix => exact xj_ldc2_w hd ha A hO hS hl hn kk
  | iload_n n => exact xj_iload_n hd ha A hO hS hl hn kk
  | iload n => exact xj_iload hd ha A hO hS hl hn kk
  | lload_n n => exact xj_lload_n hd ha A hO hS hl hn kk
  | lload n => exact xj_lload hd ha A hO hS hl hn kk
  | aload_n n => exact xj_aload_n hd ha A hO hS hl hn kk
  | aload n => exact xj_aload hd ha A hO hS hl hn kk
  | istore_n n => exact xj_istore_n hd ha A hO hS hl hn kk
  | istore n => exact xj_istore hd ha A hO hS hl hn kk
  | astore_n n => exact xj_astore_n hd ha A hO hS hl hn kk
  | astore n => exact xj_astore hd ha A hO hS hl hn kk
  | lstore_n n => exact xj_lstore_n hd ha A hO hS hl hn kk
  | lstore n => exact xj_lstore hd ha A hO hS hl hn kk
  | iinc i n => exact xj_iinc hd ha A hO hS hl hn kk
  | iadd => exact xj_iadd hd ha A hO hS hl hn kk
  | isub => exact xj_isub hd ha A hO hS hl hn kk
  | imul => exact xj_imul hd ha A hO hS hl hn kk
  | ishl => exact xj_ishl hd ha A hO hS hl hn kk
  | ishr => exact xj_ishr hd ha A hO hS hl hn kk
  | iand => exact xj_iand hd ha A hO hS hl hn kk
  | ior => exact xj_ior hd ha A hO hS hl hn kk
  | ixor => exact xj_ixor hd ha A hO hS hl hn kk
  | idiv => exact xj_idiv hd ha A hO hS hl hn kk
  | irem => exact xj_irem hd ha A hO hS hl hn kk
  | iushr => exact xj_iushr hd ha A hO hS hl hn kk
  | ineg => exact xj_ineg hd ha A hO hS hl hn kk
  | i2l => exact xj_i2l hd ha A hO hS hl hn kk
  | i2c => exact xj_i2c hd ha A hO hS hl hn kk
  | l2i => exact xj_l2i hd ha A hO hS hl hn kk
  | ladd => exact xj_ladd hd ha A hO hS hl hn kk
  | lsub => exact xj_lsub hd ha A hO hS hl hn kk
  | lmul => exact xj_lmul hd ha A hO hS hl hn kk
  | land => exact xj_land hd ha A hO hS hl hn kk
  | lor => exact xj_lor hd ha A hO hS hl hn kk
  | ldiv => exact xj_ldiv hd ha A hO hS hl hn kk
  | lrem => exact xj_lrem hd ha A hO hS hl hn kk
  | lshl => exact xj_lshl hd ha A hO hS hl hn kk
  | lshr => exact xj_lshr hd ha A hO hS hl hn kk
  | lushr => exact xj_lushr hd ha A hO hS hl hn kk
  | lcmp => exact xj_lcmp hd ha A hO hS hl hn kk
  | dup => exact xj_dup hd ha A hO hS hl hn kk
  | pop => exact xj_pop hd ha A hO hS hl hn kk
  | dup_x1 => exact xj_dup_x1 hd ha A hO hS hl hn kk
  | dup2 => exact xj_dup2 hd ha A hO hS hl hn kk
  | goto off => exact xj_goto hd ha A hO hS hl hn kk
  | tableswitch dflt lo hi offs => exact xj_tableswitch hd ha A hO hS hl hn kk
  | lookupswitch dflt ps => exact xj_lookupswitch hd ha A hO hS hl hn kk
  | getfield ix => exact xj_getfield hd ha A hO hS hl hn kk
  | putfield ix => exact xj_putfield hd ha A hO hS hl hn kk
  | getstatic ix => exact xj_getstatic hd ha A hO hS hl hn kk
  | iaload => exact xj_iaload hd ha A hO hS hl hn kk
  | caload => exact xj_caload hd ha A hO hS hl hn kk
  | baload => exact xj_baload hd ha A hO hS hl hn kk
  | iastore => exact xj_iastore hd ha A hO hS hl hn kk
  | castore => exact xj_castore hd ha A hO hS hl hn kk
  | bastore => exact xj_bastore hd ha A hO hS hl hn kk
  | aaload => exact xj_aaload hd ha A hO hS hl hn kk
  | aastore => exact xj_aastore hd ha A hO hS hl hn kk
  | arraylength => exact xj_arraylength hd ha A hO hS hl hn kk
  | new ix => exact xj_new hd ha A hO hS hl hn kk
  | newarray t => exact xj_newarray hd ha A hO hS hl hn kk
  | anewarray ix => exact xj_anewarray hd ha A hO hS hl hn kk
  | if_icmp cd off => cases cd with
    | eq => exact xj_icmp_eq hd ha A hO hS hl hn kk
    | ne => exact xj_icmp_ne hd ha A hO hS hl hn kk
    | lt => exact xj_icmp_lt hd ha A hO hS hl hn kk
    | ge => exact xj_icmp_ge hd ha A hO hS hl hn kk
    | gt => exact xj_icmp_gt hd ha A hO hS hl hn kk
    | le => exact xj_icmp_le hd ha A hO hS hl hn kk
  | ifCond cd off => cases cd with
    | eq => exact xj_if_eq hd ha A hO hS hl hn kk
    | ne => exact xj_if_ne hd ha A hO hS hl hn kk
    | lt => exact xj_if_lt hd ha A hO hS hl hn kk
    | ge => exact xj_if_ge hd ha A hO hS hl hn kk
    | gt => exact xj_if_gt hd ha A hO hS hl hn kk
    | le => exact xj_if_le hd ha A hO hS hl hn kk
  | invokevirtual ix =>
    exfalso
    obtain ⟨-, ha1⟩ := xq_some ha
    obtain ⟨r, hr1, ha2⟩ := Option.bind_eq_some_iff.mp ha1
    unfold xInv at ha2
    split at ha2 <;> first | exact xif_ninl ha2 | exact xCall_ninl ha2 | (cases ha2; done) | (simp at *; done)
  | invokestatic ix =>
    obtain ⟨rfl, ha1⟩ := xq_some ha
    obtain ⟨r, hr1, ha2⟩ := Option.bind_eq_some_iff.mp ha1
    obtain ⟨k', md, pa, pb, pd, rfl, hok⟩ := xcR_ok hr1
    have hsum : ∀ z : List Value, z.length ≤ 4 → ((z.map (xv G)).map fun v => v.category).sum ≤ 8 := fun z hz => by
      have := xsum_le G z
      omega
    unfold xInv at ha2
    split at ha2 <;> (try (exact absurd ha2 xCall_ninl)) <;> (try (simp at *; done))
    · next _ _ hmd =>
      simp only at hmd
      subst hmd
      simp only [xcOk, Bool.and_eq_true, decide_eq_true_eq] at hok
      exact xj_copy hd ha2 (xg_in hok.1 rfl) (xg_in hok.2.1 rfl) (xg_in hok.2.2 rfl) A hO hS hl hn kk
    · next _ _ hmd =>
      simp only at hmd
      subst hmd
      simp only [xcOk, Bool.and_eq_true, decide_eq_true_eq] at hok
      obtain ⟨hx, hb, hml, hr, hlk, hnm, hown, htb, hts, hR, hK, hfl⟩ := A
      obtain ⟨q, hp, ha3⟩ := Option.bind_eq_some_iff.mp ha2
      obtain rfl := xpII_some hp
      obtain ⟨⟨h1, h2, h3⟩, ha4⟩ := xif_some ha3
      obtain rfl := xGo_some ha4
      have := hsum _ h1
      exact va_mmax hx hb (by rw [hml]; exact hl.1.1.symm) hown (hts _ (xg_in hok.1 rfl)) (hts _ (xg_in hok.2.1 rfl)) (hts _ xmath_ok) (hts _ (xg_in hok.2.2 rfl)) (by omega) (by omega) (by omega) (by omega) hd (kk H locs lsM hO hS hl hn)
    · next _ _ hmd =>
      simp only at hmd
      subst hmd
      simp only [xcOk, Bool.and_eq_true, decide_eq_true_eq] at hok
      obtain ⟨hx, hb, hml, hr, hlk, hnm, hown, htb, hts, hR, hK, hfl⟩ := A
      obtain ⟨q, hp, ha3⟩ := Option.bind_eq_some_iff.mp ha2
      obtain rfl := xpII_some hp
      obtain ⟨⟨h1, h2, h3⟩, ha4⟩ := xif_some ha3
      obtain rfl := xGo_some ha4
      have := hsum _ h1
      exact va_mmin hx hb (by rw [hml]; exact hl.1.1.symm) hown (hts _ (xg_in hok.1 rfl)) (hts _ (xg_in hok.2.1 rfl)) (hts _ xmath_ok) (hts _ (xg_in hok.2.2 rfl)) (by omega) (by omega) (by omega) (by omega) hd (kk H locs lsM hO hS hl hn)
    · next _ _ hmd =>
      simp only at hmd
      subst hmd
      simp only [xcOk, Bool.and_eq_true, decide_eq_true_eq] at hok
      obtain ⟨hx, hb, hml, hr, hlk, hnm, hown, htb, hts, hR, hK, hfl⟩ := A
      obtain ⟨q, hp, ha3⟩ := Option.bind_eq_some_iff.mp ha2
      obtain rfl := xpI_some hp
      obtain ⟨⟨h1, h2, h3⟩, ha4⟩ := xif_some ha3
      obtain rfl := xGo_some ha4
      have := hsum _ h1
      exact va_mabs hx hb (by rw [hml]; exact hl.1.1.symm) hown (hts _ (xg_in hok.1 rfl)) (hts _ (xg_in hok.2.1 rfl)) (hts _ xmath_ok) (hts _ (xg_in hok.2.2 rfl)) (by omega) (by omega) (by omega) (by omega) hd (kk H locs lsM hO hS hl hn)
  | invokespecial ix =>
    obtain ⟨rfl, ha1⟩ := xq_some ha
    obtain ⟨r, hr1, ha2⟩ := Option.bind_eq_some_iff.mp ha1
    obtain ⟨k', md, pa, pb, pd, rfl, hok⟩ := xcR_ok hr1
    unfold xInv at ha2
    split at ha2 <;> (try (exact absurd ha2 xif_ninl)) <;> (try (simp at *; done))
    · next _ _ hmd =>
      simp only at hmd
      subst hmd
      simp only [xcOk, Bool.and_eq_true, decide_eq_true_eq] at hok
      obtain ⟨hx, hb, hml, hr, hlk, hnm, hown, htb, hts, hR, hK, hfl⟩ := A
      obtain ⟨q, hp, ha3⟩ := Option.bind_eq_some_iff.mp ha2
      obtain rfl := xpR_some hp
      obtain ⟨⟨h1, h2, h3⟩, ha4⟩ := xif_some ha3
      obtain rfl := xGo_some ha4
      have := xsum_le G q.2
      exact W.objInit hx hb hown (hts _ (xg_in hok.1 rfl)) (hts _ (xg_in hok.2.1 rfl)) (hts _ (xg_in hok.2.2 rfl)) rfl (by rw [hml]; exact hl.1.1) rfl hd (by omega) (by show 2 * 0 + _ + 12 ≤ _; omega) (kk H locs lsM hO hS hl hn)
  | ireturn =>
    exfalso
    have ha1 := (xq_some ha).2
    split at ha1
    · have := (xif_some ha1).2
      cases this
    · cases ha1
  | lreturn =>
    exfalso
    have ha1 := (xq_some ha).2
    split at ha1
    · have := (xif_some ha1).2
      cases this
    · cases ha1
  | return_ =>
    exfalso
    have ha1 := (xq_some ha).2
    split at ha1
    · have := (xif_some ha1).2
      cases this
    · cases ha1
  | _ => exact absurd ha (by intro hz; cases (show (none : xA) = some (.inl j) from hz))
theorem xtd_0_4 : decode (xmb 91) 4 = .ok (.new 258, 3) := by decide +kernel
theorem xtd_0_7 : decode (xmb 91) 7 = .ok (.dup, 1) := by decide +kernel
theorem xtd_0_8 : decode (xmb 91) 8 = .ok (.ldc_w 260, 3) := by decide +kernel
theorem xtd_0_11 : decode (xmb 91) 11 = .ok (.invokespecial 262, 3) := by decide +kernel
theorem xtd_0_14 : decode (xmb 91) 14 = .ok (.athrow, 1) := by decide +kernel
theorem xthrow_0 {h : xHp} (A : xAt G l 91 p R s m args meth c) (hO : xO G h H) (hS : va_S (xAr G) s.heap H locs) (hl : xlr G ls lsM (xml 91)) (hn : nc + 1 ≤ xmc 91 ∧ ns + 6 ≤ xms 91) : W p l e R s m args below meth c H locs nc ns (vx_MQ below (xQc G (.inr 0, xGb h)) (xXC G (.inr 0, xGb h)) args s (xmc 91) (xms 91) (xAr G)) (F0 m 4 lsM []) := by
  obtain ⟨hx, hb, hml, hr, hlk, hnm, hown, htb, hts, hR, hK, hfl⟩ := A
  have hf : 6 ≤ R.frames := Nat.le_trans (by decide +kernel : 6 ≤ xmf 91) hR.2.2.1
  have ho : 90 ≤ R.locals := Nat.le_trans (by decide +kernel : 90 ≤ xmo 91) hR.2.2.2
  refine vx_throwSW (own := "SpoonCards") (cls := "java/lang/IndexOutOfBoundsException") (text := "there is no such place") (names := ["java/lang/RuntimeException", "java/lang/Exception"]) (ik := 258) (is := 260) (ic := 262) (sa := xsa G 0) (A := xAr G) hx hb hfl hown (by decide +kernel) (by decide +kernel) (hts _ xck_0) (hts _ xci_0) (hK.2.2.2.2.2.1 0 (by omega)) ?_ xato_0 hK.2.2.2.2.2.2.1.1 hK.2.2.2.2.2.2.1.2 hS (by rw [hml]; exact hl.1.1) xtd_0_4 xtd_0_7 xtd_0_8 xtd_0_11 xtd_0_14 ?_ (by show 5 < _; omega) (by show 0 + 82 ≤ _; omega) (by omega) (by omega) hlk ?_ hS.2.2 hn.1 hn.2
  · exact vx_hat (fun w hw => hts w (xatg_0 w hw)) xatn_0 (fun w hw => (hK.2.2.2.1 w hw).use (xisn_tab (List.mem_filter.mp hw).2))
  · intro x hx0
    rw [htb (by decide +kernel)] at hx0
    cases hx0
  · intro t hal h1 h2
    refine ⟨by omega, rfl, ⟨va_P.kept hO.1 fun k q hk => h2 _ (hO.1 k q hk).lt, fun hz => (by cases hz), hO.2.2.1, hO.2.2.2.1, hO.2.2.2.2⟩, ⟨Nat.le_trans hS.1 h1, fun q g1 g2 => by rw [h2 q (Nat.lt_of_lt_of_le g1 hS.1)]; exact hS.2.1 q g1 g2⟩⟩
theorem xtd_1_4 : decode (xmb 92) 4 = .ok (.new 265, 3) := by decide +kernel
theorem xtd_1_7 : decode (xmb 92) 7 = .ok (.dup, 1) := by decide +kernel
theorem xtd_1_8 : decode (xmb 92) 8 = .ok (.ldc_w 267, 3) := by decide +kernel
theorem xtd_1_11 : decode (xmb 92) 11 = .ok (.invokespecial 269, 3) := by decide +kernel
theorem xtd_1_14 : decode (xmb 92) 14 = .ok (.athrow, 1) := by decide +kernel
theorem xthrow_1 {h : xHp} (A : xAt G l 92 p R s m args meth c) (hO : xO G h H) (hS : va_S (xAr G) s.heap H locs) (hl : xlr G ls lsM (xml 92)) (hn : nc + 1 ≤ xmc 92 ∧ ns + 6 ≤ xms 92) : W p l e R s m args below meth c H locs nc ns (vx_MQ below (xQc G (.inr 1, xGb h)) (xXC G (.inr 1, xGb h)) args s (xmc 92) (xms 92) (xAr G)) (F0 m 4 lsM []) := by
  obtain ⟨hx, hb, hml, hr, hlk, hnm, hown, htb, hts, hR, hK, hfl⟩ := A
  have hf : 6 ≤ R.frames := Nat.le_trans (by decide +kernel : 6 ≤ xmf 92) hR.2.2.1
  have ho : 90 ≤ R.locals := Nat.le_trans (by decide +kernel : 90 ≤ xmo 92) hR.2.2.2
  refine vx_throwSW (own := "SpoonCards") (cls := "java/lang/IllegalArgumentException") (text := "an argument is out of its range") (names := ["java/lang/RuntimeException", "java/lang/Exception"]) (ik := 265) (is := 267) (ic := 269) (sa := xsa G 1) (A := xAr G) hx hb hfl hown (by decide +kernel) (by decide +kernel) (hts _ xck_1) (hts _ xci_1) (hK.2.2.2.2.2.1 1 (by omega)) ?_ xato_1 hK.2.2.2.2.2.2.1.1 hK.2.2.2.2.2.2.1.2 hS (by rw [hml]; exact hl.1.1) xtd_1_4 xtd_1_7 xtd_1_8 xtd_1_11 xtd_1_14 ?_ (by show 5 < _; omega) (by show 0 + 82 ≤ _; omega) (by omega) (by omega) hlk ?_ hS.2.2 hn.1 hn.2
  · exact vx_hat (fun w hw => hts w (xatg_1 w hw)) xatn_1 (fun w hw => (hK.2.2.2.1 w hw).use (xisn_tab (List.mem_filter.mp hw).2))
  · intro x hx0
    rw [htb (by decide +kernel)] at hx0
    cases hx0
  · intro t hal h1 h2
    refine ⟨by omega, rfl, ⟨va_P.kept hO.1 fun k q hk => h2 _ (hO.1 k q hk).lt, fun hz => (by cases hz), hO.2.2.1, hO.2.2.2.1, hO.2.2.2.2⟩, ⟨Nat.le_trans hS.1 h1, fun q g1 g2 => by rw [h2 q (Nat.lt_of_lt_of_le g1 hS.1)]; exact hS.2.1 q g1 g2⟩⟩
theorem xtd_2_4 : decode (xmb 93) 4 = .ok (.new 270, 3) := by decide +kernel
theorem xtd_2_7 : decode (xmb 93) 7 = .ok (.dup, 1) := by decide +kernel
theorem xtd_2_8 : decode (xmb 93) 8 = .ok (.ldc_w 272, 3) := by decide +kernel
theorem xtd_2_11 : decode (xmb 93) 11 = .ok (.invokespecial 274, 3) := by decide +kernel
theorem xtd_2_14 : decode (xmb 93) 14 = .ok (.athrow, 1) := by decide +kernel
theorem xthrow_2 {h : xHp} (A : xAt G l 93 p R s m args meth c) (hO : xO G h H) (hS : va_S (xAr G) s.heap H locs) (hl : xlr G ls lsM (xml 93)) (hn : nc + 1 ≤ xmc 93 ∧ ns + 6 ≤ xms 93) : W p l e R s m args below meth c H locs nc ns (vx_MQ below (xQc G (.inr 2, xGb h)) (xXC G (.inr 2, xGb h)) args s (xmc 93) (xms 93) (xAr G)) (F0 m 4 lsM []) := by
  obtain ⟨hx, hb, hml, hr, hlk, hnm, hown, htb, hts, hR, hK, hfl⟩ := A
  have hf : 6 ≤ R.frames := Nat.le_trans (by decide +kernel : 6 ≤ xmf 93) hR.2.2.1
  have ho : 90 ≤ R.locals := Nat.le_trans (by decide +kernel : 90 ≤ xmo 93) hR.2.2.2
  refine vx_throwSW (own := "SpoonCards") (cls := "java/lang/IllegalStateException") (text := "this cannot be done now") (names := ["java/lang/RuntimeException", "java/lang/Exception"]) (ik := 270) (is := 272) (ic := 274) (sa := xsa G 2) (A := xAr G) hx hb hfl hown (by decide +kernel) (by decide +kernel) (hts _ xck_2) (hts _ xci_2) (hK.2.2.2.2.2.1 2 (by omega)) ?_ xato_2 hK.2.2.2.2.2.2.1.1 hK.2.2.2.2.2.2.1.2 hS (by rw [hml]; exact hl.1.1) xtd_2_4 xtd_2_7 xtd_2_8 xtd_2_11 xtd_2_14 ?_ (by show 5 < _; omega) (by show 0 + 82 ≤ _; omega) (by omega) (by omega) hlk ?_ hS.2.2 hn.1 hn.2
  · exact vx_hat (fun w hw => hts w (xatg_2 w hw)) xatn_2 (fun w hw => (hK.2.2.2.1 w hw).use (xisn_tab (List.mem_filter.mp hw).2))
  · intro x hx0
    rw [htb (by decide +kernel)] at hx0
    cases hx0
  · intro t hal h1 h2
    refine ⟨by omega, rfl, ⟨va_P.kept hO.1 fun k q hk => h2 _ (hO.1 k q hk).lt, fun hz => (by cases hz), hO.2.2.1, hO.2.2.2.1, hO.2.2.2.2⟩, ⟨Nat.le_trans hS.1 h1, fun q g1 g2 => by rw [h2 q (Nat.lt_of_lt_of_le g1 hS.1)]; exact hS.2.1 q g1 g2⟩⟩
theorem xB_all {G : xG} {l : Launch} (hfl : l.stackTraces = false) : ∀ n, xBn G l n
  | 0 => by
    intro k pc ls st h nc ns r p e R s m args below meth c H locs lsM Q hr
    cases hr
  | n + 1 => by
    have hB : xBn G l n := xB_all hfl n
    intro k pc ls st h nc ns r p e R s m args below meth c H locs lsM Q hr hk A hO hS hl hn hE
    have hr1 : xK (xr n) k (xF k pc ls st h nc ns) = some r := hr
    cases hF : xF k pc ls st h nc ns with
    | none => rw [hF] at hr1; cases hr1
    | some a =>
      rw [hF] at hr1
      unfold xF at hF
      split at hF
      · next i len hd =>
        match a, hF, hr1 with
        | .inl j, hF, hr1 =>
          exact xjump hd hF A hO hS hl hn (fun H' locs' lsM' hO' hS' hl' hn' => hB k j.1 j.2.1 j.2.2.1 j.2.2.2.1 j.2.2.2.2.1 j.2.2.2.2.2 r p e R s m args below meth c H' locs' lsM' Q hr1 hk A hO' hS' hl' hn' hE)
        | .inr (.inl r'), hF, hr1 =>
          have hrr : r' = r := Option.some.inj hr1
          subst hrr
          have inv : ∀ {i : Instr}, decode (xmb k) pc = .ok (i, 3) → xAct k pc i 3 ls st h nc ns = some (.inr (.inl r')) → ((∃ ix, i = .invokevirtual ix) ∨ (∃ ix, i = .invokestatic ix) ∨ (∃ ix, i = .invokespecial ix)) → False := fun hd hF hi => by
            obtain ⟨k', as, rest, h1, -⟩ := xcall (e := e) (below := below) hd hF hi A hO hS hl hn
            cases h1
          rcases xclass hF with ⟨ix, rfl⟩ | ⟨ix, rfl⟩ | ⟨ix, rfl⟩ | rfl | rfl | rfl | ⟨ix, rfl⟩
          · obtain ⟨rfl, -⟩ := xq_some hF
            exact (inv hd hF (Or.inl ⟨ix, rfl⟩)).elim
          · obtain ⟨rfl, -⟩ := xq_some hF
            exact (inv hd hF (Or.inr (Or.inl ⟨ix, rfl⟩))).elim
          · obtain ⟨rfl, -⟩ := xq_some hF
            exact (inv hd hF (Or.inr (Or.inr ⟨ix, rfl⟩))).elim
          · obtain ⟨rfl, ha1⟩ := xq_some hF
            split at ha1
            · next x hxx =>
              obtain ⟨h1, h2⟩ := xif_some ha1
              cases h2
              exact hE.1 (some (.int x)) rfl H locs nc ns pc lsM _ hO hS hn.1 hn.2 hd (Or.inl ⟨x, rfl, rfl, of_decide_eq_true h1⟩)
            · cases ha1
          · obtain ⟨rfl, ha1⟩ := xq_some hF
            split at ha1
            · next x hxx =>
              obtain ⟨h1, h2⟩ := xif_some ha1
              cases h2
              exact hE.1 (some (.long x)) rfl H locs nc ns pc lsM _ hO hS hn.1 hn.2 hd (Or.inr (Or.inl ⟨x, rfl, rfl, of_decide_eq_true h1⟩))
            · cases ha1
          · obtain ⟨rfl, ha1⟩ := xq_some hF
            split at ha1
            · obtain ⟨h1, h2⟩ := xif_some ha1
              cases h2
              exact hE.1 none rfl H locs nc ns pc lsM _ hO hS hn.1 hn.2 hd (Or.inr (Or.inr ⟨rfl, rfl, of_decide_eq_true h1⟩))
            · cases ha1
          · obtain ⟨rfl, ha1⟩ := xq_some hF
            split at ha1
            · next E hTh =>
              obtain ⟨h1, h2⟩ := xif_some ha1
              simp only [Bool.and_eq_true, List.isEmpty_iff] at h1
              obtain ⟨h3, rfl⟩ := h1
              cases h2
              have hQ := hE.2 E rfl
              subst hQ
              have h4 := xroom_ok h3
              unfold xTh at hTh
              split at hTh
              · next hc =>
                obtain ⟨rfl, rfl⟩ := hc
                cases hTh
                exact xthrow_0 A hO hS hl h4
              · split at hTh
                · next hc =>
                  obtain ⟨rfl, rfl⟩ := hc
                  cases hTh
                  exact xthrow_1 A hO hS hl h4
                · split at hTh
                  · next hc =>
                    obtain ⟨rfl, rfl⟩ := hc
                    cases hTh
                    exact xthrow_2 A hO hS hl h4
                  · cases hTh
            · exact absurd ha1 (xi_bind (fun _ => xi_alloc) _)
        | .inr (.inr call), hF, hr1 =>
          have inv : ∀ {i : Instr}, decode (xmb k) pc = .ok (i, 3) → xAct k pc i 3 ls st h nc ns = some (.inr (.inr call)) → ((∃ ix, i = .invokevirtual ix) ∨ (∃ ix, i = .invokestatic ix) ∨ (∃ ix, i = .invokespecial ix)) → W p l e R s m args below meth c H locs nc ns Q (F0 m pc lsM (st.map (xv G))) := fun hd hF hi => by
            obtain ⟨k', as, rest, h1, h2, h3, ⟨h4, h4'⟩, h5, h6⟩ := xcall (e := e) (below := below) hd hF hi A hO hS hl hn
            cases h1
            simp only [xK] at hr1
            cases hc : xr n k' 0 (xEnt (xml k') as) [] h 0 0 with
            | none => rw [hc] at hr1; cases hr1
            | some z =>
              rw [hc] at hr1
              have hcon := xAofB hfl hB h2 hc h4'
              obtain ⟨o, h'⟩ := z
              cases o with
              | inl v =>
                exact xfin_ret (h6 _ (Or.inr ⟨v, h', rfl⟩) hcon) hS (fun H' locs' hO' hS' => hB k (pc + 3) ls (xPush v rest) h' _ _ r p e R s m args below meth c H' locs' lsM Q hr1 hk A hO' hS' hl h4 hE)
              | inr E =>
                simp only at hr1
                obtain ⟨hk1, hr2⟩ := xif_some hr1
                refine xfin_thr (h6 _ (Or.inl hk1) hcon) hS (fun H' locs' q ce hE3 hO' hS' hce hcv hcl => ?_)
                split at hr2
                · next pc' i hd2 =>
                  obtain ⟨⟨g1, g2⟩, hr3⟩ := xif_some hr2
                  exact xcatch hd2 g1 hk g2 A hl hE3 hce hcv hcl (fun lsM' hl' => hB k pc' (xS0 ls i) [] h' _ _ r p e R s m args below meth c H' locs' lsM' Q hr3 hk A hO' hS' hl' h4 hE)
                · obtain ⟨g1, hr3⟩ := xif_some hr2
                  have hrr : (Sum.inr E, h') = r := Option.some.inj hr3
                  subst hrr
                  have hQ := hE.2 E rfl
                  subst hQ
                  obtain ⟨hx, hb, hml, hr, hlk, hnm, hown, htb, hts, hR, hK, hfl⟩ := A
                  have hmh : xmh k = [] := (xm_ok hk).2.2.2.2.resolve_right (by omega)
                  refine vx_out (E := xen E) (fun x hx0 => by rw [htb (by omega), hmh] at hx0; cases hx0) hlk hce hcv hcl (fun t ht _ => ⟨hE3, rfl, by rw [ht]; exact hO', hS'.F ht⟩) hS'.2.2 h4.1 h4.2
          rcases xclass hF with ⟨ix, rfl⟩ | ⟨ix, rfl⟩ | ⟨ix, rfl⟩ | rfl | rfl | rfl | ⟨ix, rfl⟩
          · obtain ⟨rfl, -⟩ := xq_some hF
            exact inv hd hF (Or.inl ⟨ix, rfl⟩)
          · obtain ⟨rfl, -⟩ := xq_some hF
            exact inv hd hF (Or.inr (Or.inl ⟨ix, rfl⟩))
          · obtain ⟨rfl, -⟩ := xq_some hF
            exact inv hd hF (Or.inr (Or.inr ⟨ix, rfl⟩))
          · exfalso
            have ha1 := (xq_some hF).2
            split at ha1
            · have := (xif_some ha1).2
              cases this
            · cases ha1
          · exfalso
            have ha1 := (xq_some hF).2
            split at ha1
            · have := (xif_some ha1).2
              cases this
            · cases ha1
          · exfalso
            have ha1 := (xq_some hF).2
            split at ha1
            · have := (xif_some ha1).2
              cases this
            · cases ha1
          · exfalso
            have ha1 := (xq_some hF).2
            split at ha1
            · have := (xif_some ha1).2
              cases this
            · exact xi_bind (fun _ => xi_alloc) _ ha1
      · cases hF
end XF
