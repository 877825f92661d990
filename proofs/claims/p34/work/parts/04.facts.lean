def xmok (k : Nat) : Bool := plainName (xmn k).cls && (decide (lw_tbl[xip.getD (xmk k) 0]? = some (.initialized (xcn (xmk k)))) && (decide ((xmn k).cls = xcn (xmk k)) && (decide ((xmn k).cls ≠ "java/lang/invoke/MethodHandle" ∧ (xmn k).cls ≠ "java/lang/invoke/VarHandle") && decide (xmh k = [] ∨ xkd k = 2))))
set_option maxRecDepth 100000 in
theorem xip_math : lw_tbl[xip.getD 7 0]? = some (.initialized "java/lang/Math") := by decide +kernel
theorem xip_sys : Cond.initialized "java/lang/System" ∈ lw_tbl := by decide +kernel
set_option maxRecDepth 100000 in
theorem xmok_all : (List.range xN).all xmok = true := by decide +kernel
theorem xm_ok {k : Nat} (hk : k < xN) : plainName (xmn k).cls = true ∧ Cond.initialized (xcn (xmk k)) ∈ xgt ∧ (xmn k).cls = xcn (xmk k) ∧ ((xmn k).cls ≠ "java/lang/invoke/MethodHandle" ∧ (xmn k).cls ≠ "java/lang/invoke/VarHandle") ∧ (xmh k = [] ∨ xkd k = 2) := by
  have h := List.all_eq_true.mp xmok_all k (List.mem_range.mpr hk)
  simp only [xmok, Bool.and_eq_true, decide_eq_true_eq] at h
  exact ⟨h.1, xg_in h.2.1 rfl, h.2.2.1, h.2.2.2.1, h.2.2.2.2⟩
/-- the number of a method's parameters -/
def xnp (k : Nat) : Option Nat := (parseMethodDescriptor (xmn k).desc).map (fun d => d.parameters.length)
/-- what the tables say of a call: its entry, and by mode the rest -/
def xcOk (r : Nat × Nat × Nat × Nat × Nat × Nat × Nat) : Bool := match r with
  | (c, i, k, md, a, b, d) => match md with
    | 0 => decide (lw_tbl[a]? = some (.methodLink (xcn c) i (xmn k))) && (decide (lw_tbl[b]? = some (.instanceMethod (xmn k))) && (decide (lw_tbl[d]? = some (.selects (xmn k).cls (xmn k) (xmn k))) && (decide (xnp k = some (xna k - 1)) && (decide (0 < xna k) && (decide (xmh k = []) && decide (k < xN ∧ k ≠ 143 ∧ xmk k < 5))))))
    | 1 => decide (lw_tbl[a]? = some (.methodLink (xcn c) i (xmn k))) && (decide (lw_tbl[b]? = some (.static (xmn k))) && (decide (xnp k = some (xna k)) && (decide (xmh k = []) && decide (k < xN ∧ k ≠ 143))))
    | 2 => decide (lw_tbl[a]? = some (.methodLink (xcn c) i (xmn k))) && (decide (lw_tbl[b]? = some (.instanceMethod (xmn k))) && (decide ((xmn k).name = "<init>" ∧ xmr k = none) && (decide (xnp k = some (xna k - 1)) && (decide (0 < xna k) && (decide (xmh k = [] ∧ xkd k = 0) && decide (k < xN ∧ k ≠ 143))))))
    | 3 => decide (lw_tbl[a]? = some (.methodLinkNest (xcn c) i (xmn k) "SpoonCards")) && (decide (lw_tbl[b]? = some (.static (xmn k))) && (decide (xnp k = some (xna k)) && (decide (xmh k = [] ∧ xkd k = 0) && decide (k < xN ∧ k ≠ 143))))
    | 4 => decide (lw_tbl[a]? = some (.methodLinkNest (xcn c) i (xmn k) "SpoonCards")) && (decide (lw_tbl[b]? = some (.instanceMethod (xmn k))) && (decide ((xmn k).name = "<init>" ∧ xmr k = none) && (decide (xnp k = some (xna k - 1)) && (decide (0 < xna k) && (decide (xmh k = [] ∧ xkd k = 0) && decide (k < xN ∧ k ≠ 143))))))
    | 5 => decide (lw_tbl[a]? = some (.methodLink (xcn c) i Lib.objectInit)) && (decide (lw_tbl[b]? = some (.instanceMethod Lib.objectInit)) && decide (lw_tbl[d]? = some (.code Lib.objectInit ⟨#[0xb1]⟩ 1 none)))
    | 6 => decide (lw_tbl[a]? = some (.methodLink (xcn c) i arraycopyName)) && (decide (lw_tbl[b]? = some (.static arraycopyName)) && decide (lw_tbl[d]? = some (.native arraycopyName)))
    | 7 => decide (lw_tbl[a]? = some (.methodLink (xcn c) i (xmn k))) && (decide (lw_tbl[b]? = some (.static (xmn k))) && (decide (xnp k = some (xna k)) && (decide (xmh k ≠ []) && decide (k < xN ∧ k ≠ 143))))
    | 8 => decide (lw_tbl[a]? = some (.methodLink (xcn c) i Lib.Math.max.name)) && (decide (lw_tbl[b]? = some (.static Lib.Math.max.name)) && decide (lw_tbl[d]? = some (.code Lib.Math.max.name Lib.Math.max.code 2 (some .int))))
    | 9 => decide (lw_tbl[a]? = some (.methodLink (xcn c) i Lib.Math.min.name)) && (decide (lw_tbl[b]? = some (.static Lib.Math.min.name)) && decide (lw_tbl[d]? = some (.code Lib.Math.min.name Lib.Math.min.code 2 (some .int))))
    | 10 => decide (lw_tbl[a]? = some (.methodLink (xcn c) i Lib.Math.abs.name)) && (decide (lw_tbl[b]? = some (.static Lib.Math.abs.name)) && decide (lw_tbl[d]? = some (.code Lib.Math.abs.name Lib.Math.abs.code 1 (some .int))))
    | _ => false
set_option maxRecDepth 100000 in
theorem xct_ok : xct.all xcOk = true := by decide +kernel
set_option maxRecDepth 100000 in
theorem xft_ok : xft.all (fun r => match r with
  | (c, i, t, j, a) => decide (j < (xcT t).2.2 ∧ t < 5) && decide (lw_tbl[a]? = some (.fieldLink (xcn c) i (xcT t).1 ((xcT t).2.1 j).2.1 ((xcT t).2.1 j).2.2.1))) = true := by decide +kernel
set_option maxRecDepth 100000 in
theorem xst_ok : xst.all (fun r => match r with
  | (c, i, g, a) => decide (1 ≤ g ∧ g < 7) && decide (lw_tbl[a]? = some (.fieldLinkNest (xcn c) i "SpoonCards" (xsn g).1 (xsn g).2 "SpoonCards"))) = true := by decide +kernel
set_option maxRecDepth 100000 in
theorem xci_ok : xci.all (fun r => match r with
  | (c, i, v, a) => decide (lw_tbl[a]? = some (.constant (xcn c) i v))) = true := by decide +kernel
set_option maxRecDepth 100000 in
theorem xcl_ok : xcl.all (fun r => match r with
  | (c, i, v, a) => decide (lw_tbl[a]? = some (.constantLong (xcn c) i v))) = true := by decide +kernel
set_option maxRecDepth 100000 in
theorem xnw_ok : xnw.all (fun r => match r with
  | (c, i, t, a, b) => decide (t < 5) && (decide (lw_tbl[a]? = some (.classLink (xcn c) i (xcT t).1)) && decide (lw_tbl[b]? = some (.instantiable (xcT t).1 (xcT t).2.2)))) = true := by decide +kernel
set_option maxRecDepth 100000 in
theorem xct_ws : (List.range 5).all (fun t => (u_ws (xcT t).1 (xcT t).2.1 (xcT t).2.2).all (fun w => decide (w ∈ lw_tbl) && goodWord w)) = true := by decide +kernel
