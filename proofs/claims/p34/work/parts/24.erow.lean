/-! E: what Y does between the heads of each method, by program -/
section YR2
variable {k pc nc ns : Nat} {ls : xLs} {st : List Value} {h : yM} {f : yM → Option yRes}
def yqr (o : Option (Nat × Nat × Nat × Nat × Nat × Nat × Nat)) (r : Nat × Nat × Nat × Nat × Nat × Nat × Nat) : Bool := match o with
  | some q => q.1 == r.1 && (q.2.1 == r.2.1 && (q.2.2.1 == r.2.2.1 && (q.2.2.2.1 == r.2.2.2.1 && (q.2.2.2.2.1 == r.2.2.2.2.1 && (q.2.2.2.2.2.1 == r.2.2.2.2.2.1 && q.2.2.2.2.2.2 == r.2.2.2.2.2.2)))))
  | none => false
theorem yqr_ok {o : Option (Nat × Nat × Nat × Nat × Nat × Nat × Nat)} {r : Nat × Nat × Nat × Nat × Nat × Nat × Nat} (h : yqr o r = true) : o = some r := by
  unfold yqr at h
  split at h
  · next q =>
    simp only [Bool.and_eq_true, beq_iff_eq] at h
    obtain ⟨a, b, c, d, e, f, g⟩ := q
    obtain ⟨h1, h2, h3, h4, h5, h6, h7⟩ := h
    simp only at h1 h2 h3 h4 h5 h6 h7
    rw [h1, h2, h3, h4, h5, h6, h7]
  · cases h
theorem y_putiL {ix a t i : Nat} {x : Int32} (hd : decode (xmb k) pc = .ok (.putfield ix, 3)) (hf : xfR (xmk k) ix = some (t, i)) (hs : ySi a t i) (hok : (xfit (xty t i) (.int x) && !((xcT t).2.1 i).2.2.2) = true) (hg : ∀ M, yL (f M) (yX k (pc + 3) ls st M nc ns)) : yL (yLet (yU h a i x) f) (yX k pc ls (.int x :: .ref a :: st) h nc ns) := by
  rw [y_puti hd hf hs hok]
  exact hg _
theorem y_putzL {ix a t i : Nat} {x : Int32} (hd : decode (xmb k) pc = .ok (.putfield ix, 3)) (hf : xfR (xmk k) ix = some (t, i)) (hs : ySi a t i) (hty : xty t i = .boolean) (hok : ((xcT t).2.1 i).2.2.2 = false) (hg : x = 0 ∨ x = 1 → ∀ M, yL (f M) (yX k (pc + 3) ls st M nc ns)) : yL (if x = 0 ∨ x = 1 then yLet (yU h a i x) f else none) (yX k pc ls (.int x :: .ref a :: st) h nc ns) := by
  rw [y_putz hd hf hs hty hok]
  exact yL.gd (fun c => hg c _)
theorem y_iastL {a n : Nat} {i x : Int32} (hd : decode (xmb k) pc = .ok (.iastore, 1)) (hs : ySa a 0 n) (hg : yinB i n = true → ∀ M, yL (f M) (yX k (pc + 1) ls st M nc ns)) : yL (if yinB i n = true then yLet (yU h a (yx i) x) f else none) (yX k pc ls (.int x :: .int i :: .ref a :: st) h nc ns) := by
  rw [y_iast hd hs]
  exact yL.gd (fun c => hg c _)
theorem y_castL {a n : Nat} {i x : Int32} (hd : decode (xmb k) pc = .ok (.castore, 1)) (hs : ySa a 1 n) (hg : yinB i n = true → ∀ M, yL (f M) (yX k (pc + 1) ls st M nc ns)) : yL (if yinB i n = true then yLet (yU h a (yx i) (vp_nar .char x)) f else none) (yX k pc ls (.int x :: .int i :: .ref a :: st) h nc ns) := by
  rw [y_cast hd hs]
  exact yL.gd (fun c => hg c _)
theorem y_bastL {a n : Nat} {i x : Int32} (hd : decode (xmb k) pc = .ok (.bastore, 1)) (hs : ySa a 2 n) (hg : yinB i n = true → ∀ M, yL (f M) (yX k (pc + 1) ls st M nc ns)) : yL (if yinB i n = true then yLet (yU h a (yx i) (vp_nar .boolean x)) f else none) (yX k pc ls (.int x :: .int i :: .ref a :: st) h nc ns) := by
  rw [y_bast hd hs]
  exact yL.gd (fun c => hg c _)
theorem y_copyL {ix a b n1 n2 N : Nat} {w : Nat × Nat × Nat} {n : Int32} {g : Nat → Int32} (hd : decode (xmb k) pc = .ok (.invokestatic ix, 3)) (hr : xcR (xmk k) ix = some (xmk k, ix, 0, 6, w)) (hl : st.length ≤ 4) (hck : decide (1 ≤ xmf k ∧ 60 ≤ xmo k) = true) (hb : ((ysh b).1 = 0 ∨ (ysh b).1 = 10) ∧ yn h b (ysh b) = n1 ∧ yrd h b = g) (ha : ySa a 0 n2) (hn : decide (¬ n < 0 ∧ n.toNatClampNeg = N ∧ N ≤ n1 ∧ N ≤ n2) = true) (hg : ∀ M, yL (f M) (yX k (pc + 3) ls st M nc ns)) : yL (yLet (yUa h a (ycp g (h a) N)) f) (yX k pc ls (.int n :: .int 0 :: .ref a :: .int 0 :: .ref b :: st) h nc ns) := by
  rw [y_copyq hd hr hl hck hb ha hn]
  exact hg _
theorem yL.il {p : Prop} [Decidable p] {a c b : Option yRes} (h1 : p → yL a b) (h2 : ¬ p → yL c b) : yL (if p then a else c) b := by
  by_cases hp : p
  · rw [if_pos hp]; exact h1 hp
  · rw [if_neg hp]; exact h2 hp
theorem y_hd {E tpc i ix : Nat} {v : Int64} {nc' ns' : Nat} (hx : xHd k pc E = some (tpc, i)) (hi : decide (i < ls.length) = true) (d1 : decode (xmb k) tpc = .ok (.ldc2_w ix, 3)) (hv : xcL (xmk k) ix = some v) (d2 : decode (xmb k) (tpc + 3) = .ok (.lreturn, 1)) (hr : xmr k = some .long) : (match xHd k pc E with
        | some (pc', i) => if i < ls.length then yX k pc' (xS0 ls i) [] h nc' ns' else none
        | none => none) = yJr v h := by
  rw [hx]
  show (if i < ls.length then yX k tpc (xS0 ls i) [] h nc' ns' else none) = _
  rw [if_pos (of_decide_eq_true hi), y_ldc2_w d1 hv, y_lret d2 hr]
  rfl
theorem y_rm0 {k' C S mc ms : Nat} (h1 : xmc k' = 0 ∧ xms k' = 0) (hk : xmc k = mc ∧ xms k = ms) (hn : nc + C ≤ mc ∧ ns + S ≤ ms) : nc + xmc k' = nc ∧ ns + xms k' = ns ∧ nc ≤ xmc k ∧ ns ≤ xms k := by
  omega
theorem y_rmc {k' c s C S mc ms : Nat} (h1 : xmc k' = c ∧ xms k' = s) (hk : xmc k = mc ∧ xms k = ms) (hn : nc + C ≤ mc ∧ ns + S ≤ ms) (hc : decide (c ≤ C ∧ s ≤ S) = true) : nc + xmc k' = nc + c ∧ ns + xms k' = ns + s ∧ nc + c ≤ xmc k ∧ ns + s ≤ xms k := by
  have e2 := of_decide_eq_true hc
  omega
theorem y_rmd {k' c s C S mc ms : Nat} (h1 : xmc k' = 0 ∧ xms k' = 0) (hk : xmc k = mc ∧ xms k = ms) (hn : nc + C ≤ mc ∧ ns + S ≤ ms) (hc : decide (c ≤ C ∧ s ≤ S) = true) : nc + c + xmc k' = nc + c ∧ ns + s + xms k' = ns + s ∧ nc + c ≤ xmc k ∧ ns + s ≤ xms k := by
  have e2 := of_decide_eq_true hc
  omega
theorem y_rme {k' c s c0 s0 c1 s1 C S mc ms : Nat} (h1 : xmc k' = c ∧ xms k' = s) (hk : xmc k = mc ∧ xms k = ms) (hn : nc + C ≤ mc ∧ ns + S ≤ ms) (hc : decide (c1 ≤ C ∧ s1 ≤ S ∧ c0 + c = c1 ∧ s0 + s = s1) = true) : nc + c0 + xmc k' = nc + c1 ∧ ns + s0 + xms k' = ns + s1 ∧ nc + c1 ≤ xmc k ∧ ns + s1 ≤ xms k := by
  have e2 := of_decide_eq_true hc
  omega
theorem y_calls_i {ix k' n n' md : Nat} {w : Nat × Nat × Nat} (as rest : List Value) {ent : xLs} (z : Bool) {f : Int32 → yM → Option yRes} {nc' ns' : Nat} (hd : decode (xmb k) pc = .ok (.invokestatic ix, 3)) (hr : xcR (xmk k) ix = some (xmk k, ix, k', md, w)) (hmd : (md == 1 || md == 3 || md == 7) = true) (hst : st = as.reverse ++ rest) (hn : as.length = n) (hrl : rest.length ≤ 4) (hal : (xArg as).length ≤ n') (hent : xEnt n' as = ent) (hck : (decide (xna k' = n ∧ xml k' = n' ∧ xmf k' + 1 ≤ xmf k ∧ 8 + (n' + 11) + xmo k' ≤ xmo k ∧ xmh k = [] ∧ z = decide (xkd k' = 1 ∧ xkd k = 1))) = true) (hrm : nc + xmc k' = nc' ∧ ns + xms k' = ns' ∧ nc' ≤ xmc k ∧ ns' ≤ xms k) (hf : ∀ v M, yL (f v M) (yX k (pc + 3) ls (.int v :: rest) M nc' ns')) : yL (yCi z (yX k' 0 ent [] h 0 0) f) (yX k pc ls st h nc ns) := by
  rw [y_calls as rest z hd hr hmd hst hn hrl hal hent hck hrm]
  exact yL.ci (fun v M => hf v M)
theorem y_callv_i {ix k' n n' b t : Nat} {w : Nat × Nat × Nat} (as rest : List Value) {ent : xLs} (z : Bool) {f : Int32 → yM → Option yRes} {nc' ns' : Nat} (hd : decode (xmb k) pc = .ok (.invokevirtual ix, 3)) (hr : xcR (xmk k) ix = some (xmk k, ix, k', 0, w)) (ht : xmk k' = t) (hb : (ysh b).1 = 100 + t) (hst : st = (Value.ref b :: as).reverse ++ rest) (hn : (Value.ref b :: as).length = n) (hrl : rest.length ≤ 4) (hal : (xArg (Value.ref b :: as)).length ≤ n') (hent : xEnt n' (Value.ref b :: as) = ent) (hck : (decide (xna k' = n ∧ xml k' = n' ∧ xmf k' + 1 ≤ xmf k ∧ 8 + (n' + 11) + xmo k' ≤ xmo k ∧ xmh k = [] ∧ z = decide (xkd k' = 1 ∧ xkd k = 1))) = true) (hrm : nc + xmc k' = nc' ∧ ns + xms k' = ns' ∧ nc' ≤ xmc k ∧ ns' ≤ xms k) (hf : ∀ v M, yL (f v M) (yX k (pc + 3) ls (.int v :: rest) M nc' ns')) : yL (yCi z (yX k' 0 ent [] h 0 0) f) (yX k pc ls st h nc ns) := by
  rw [y_callv as rest z hd hr ht hb hst hn hrl hal hent hck hrm]
  exact yL.ci (fun v M => hf v M)
theorem y_calls_j {ix k' n n' md : Nat} {w : Nat × Nat × Nat} (as rest : List Value) {ent : xLs} (z : Bool) {f : Int64 → yM → Option yRes} {nc' ns' : Nat} (hd : decode (xmb k) pc = .ok (.invokestatic ix, 3)) (hr : xcR (xmk k) ix = some (xmk k, ix, k', md, w)) (hmd : (md == 1 || md == 3 || md == 7) = true) (hst : st = as.reverse ++ rest) (hn : as.length = n) (hrl : rest.length ≤ 4) (hal : (xArg as).length ≤ n') (hent : xEnt n' as = ent) (hck : (decide (xna k' = n ∧ xml k' = n' ∧ xmf k' + 1 ≤ xmf k ∧ 8 + (n' + 11) + xmo k' ≤ xmo k ∧ xmh k = [] ∧ z = decide (xkd k' = 1 ∧ xkd k = 1))) = true) (hrm : nc + xmc k' = nc' ∧ ns + xms k' = ns' ∧ nc' ≤ xmc k ∧ ns' ≤ xms k) (hf : ∀ v M, yL (f v M) (yX k (pc + 3) ls (.long v :: rest) M nc' ns')) : yL (yCj z (yX k' 0 ent [] h 0 0) f) (yX k pc ls st h nc ns) := by
  rw [y_calls as rest z hd hr hmd hst hn hrl hal hent hck hrm]
  exact yL.cj (fun v M => hf v M)
theorem y_callv_j {ix k' n n' b t : Nat} {w : Nat × Nat × Nat} (as rest : List Value) {ent : xLs} (z : Bool) {f : Int64 → yM → Option yRes} {nc' ns' : Nat} (hd : decode (xmb k) pc = .ok (.invokevirtual ix, 3)) (hr : xcR (xmk k) ix = some (xmk k, ix, k', 0, w)) (ht : xmk k' = t) (hb : (ysh b).1 = 100 + t) (hst : st = (Value.ref b :: as).reverse ++ rest) (hn : (Value.ref b :: as).length = n) (hrl : rest.length ≤ 4) (hal : (xArg (Value.ref b :: as)).length ≤ n') (hent : xEnt n' (Value.ref b :: as) = ent) (hck : (decide (xna k' = n ∧ xml k' = n' ∧ xmf k' + 1 ≤ xmf k ∧ 8 + (n' + 11) + xmo k' ≤ xmo k ∧ xmh k = [] ∧ z = decide (xkd k' = 1 ∧ xkd k = 1))) = true) (hrm : nc + xmc k' = nc' ∧ ns + xms k' = ns' ∧ nc' ≤ xmc k ∧ ns' ≤ xms k) (hf : ∀ v M, yL (f v M) (yX k (pc + 3) ls (.long v :: rest) M nc' ns')) : yL (yCj z (yX k' 0 ent [] h 0 0) f) (yX k pc ls st h nc ns) := by
  rw [y_callv as rest z hd hr ht hb hst hn hrl hal hent hck hrm]
  exact yL.cj (fun v M => hf v M)
theorem y_calls_v {ix k' n n' md : Nat} {w : Nat × Nat × Nat} (as rest : List Value) {ent : xLs} (z : Bool) {f : yM → Option yRes} {nc' ns' : Nat} (hd : decode (xmb k) pc = .ok (.invokestatic ix, 3)) (hr : xcR (xmk k) ix = some (xmk k, ix, k', md, w)) (hmd : (md == 1 || md == 3 || md == 7) = true) (hst : st = as.reverse ++ rest) (hn : as.length = n) (hrl : rest.length ≤ 4) (hal : (xArg as).length ≤ n') (hent : xEnt n' as = ent) (hck : (decide (xna k' = n ∧ xml k' = n' ∧ xmf k' + 1 ≤ xmf k ∧ 8 + (n' + 11) + xmo k' ≤ xmo k ∧ xmh k = [] ∧ z = decide (xkd k' = 1 ∧ xkd k = 1))) = true) (hrm : nc + xmc k' = nc' ∧ ns + xms k' = ns' ∧ nc' ≤ xmc k ∧ ns' ≤ xms k) (hf : ∀ M, yL (f M) (yX k (pc + 3) ls rest M nc' ns')) : yL (yCv z (yX k' 0 ent [] h 0 0) f) (yX k pc ls st h nc ns) := by
  rw [y_calls as rest z hd hr hmd hst hn hrl hal hent hck hrm]
  exact yL.cv (fun M => hf M)
theorem y_callv_v {ix k' n n' b t : Nat} {w : Nat × Nat × Nat} (as rest : List Value) {ent : xLs} (z : Bool) {f : yM → Option yRes} {nc' ns' : Nat} (hd : decode (xmb k) pc = .ok (.invokevirtual ix, 3)) (hr : xcR (xmk k) ix = some (xmk k, ix, k', 0, w)) (ht : xmk k' = t) (hb : (ysh b).1 = 100 + t) (hst : st = (Value.ref b :: as).reverse ++ rest) (hn : (Value.ref b :: as).length = n) (hrl : rest.length ≤ 4) (hal : (xArg (Value.ref b :: as)).length ≤ n') (hent : xEnt n' (Value.ref b :: as) = ent) (hck : (decide (xna k' = n ∧ xml k' = n' ∧ xmf k' + 1 ≤ xmf k ∧ 8 + (n' + 11) + xmo k' ≤ xmo k ∧ xmh k = [] ∧ z = decide (xkd k' = 1 ∧ xkd k = 1))) = true) (hrm : nc + xmc k' = nc' ∧ ns + xms k' = ns' ∧ nc' ≤ xmc k ∧ ns' ≤ xms k) (hf : ∀ M, yL (f M) (yX k (pc + 3) ls rest M nc' ns')) : yL (yCv z (yX k' 0 ent [] h 0 0) f) (yX k pc ls st h nc ns) := by
  rw [y_callv as rest z hd hr ht hb hst hn hrl hal hent hck hrm]
  exact yL.cv (fun M => hf M)
end YR2
theorem lsw_nil {pc d : Nat} {o : Int} {x : Int32} (h : (pc : Int) + o = (d : Int)) : (pc : Int) + Op.lookupswitch.offset [] o x.toInt = (xLs2 [] d x : Int) := h
theorem lsw_cons {pc d t : Nat} {a o df : Int} {c x : Int32} {r : List (Int × Int)} {ps : List (Int32 × Nat)} (ha : c.toInt = a) (ho : (pc : Int) + o = (t : Int)) (h : (pc : Int) + Op.lookupswitch.offset r df x.toInt = (xLs2 ps d x : Int)) : (pc : Int) + Op.lookupswitch.offset ((a, o) :: r) df x.toInt = (xLs2 ((c, t) :: ps) d x : Int) := by
  rw [Op.lookupswitch.offset_cons]
  show _ = ((if x = c then t else xLs2 ps d x : Nat) : Int)
  by_cases e : x = c
  · rw [if_pos (by rw [e, ha]), if_pos e]
    exact ho
  · have e2 : ¬ a = x.toInt := fun z => e (Int32.toInt_inj.mp (by rw [← z, ha]))
    rw [if_neg e2, if_neg e]
    exact h
theorem kc_0 : Int32.ofInt 0 = 0 := by decide +kernel
theorem q1_39 : xfR (xmk 1) 39 = some (0, 0) := by decide +kernel
theorem q1_43 : xfR (xmk 1) 43 = some (0, 1) := by decide +kernel
theorem kc_4 : Int32.ofInt 4 = 4 := by decide +kernel
theorem q1_46 : xfR (xmk 1) 46 = some (0, 2) := by decide +kernel
theorem q1_49 : xfR (xmk 1) 49 = some (0, 3) := by decide +kernel
theorem q1_30 : xfR (xmk 1) 30 = some (0, 10) := by decide +kernel
theorem kc_1 : Int32.ofInt 1 = 1 := by decide +kernel
theorem q1_52 : xsR (xmk 1) 52 = some 1 := by decide +kernel
theorem s_g_1 : ySg 1 10 5 := by unfold ySg; decide +kernel
theorem q1_33 : xfR (xmk 1) 33 = some (0, 11) := by decide +kernel
theorem kc_5 : Int32.ofInt 5 = 5 := by decide +kernel
theorem q1_55 : xcR (xmk 1) 55 = some (xmk 1, 55, 0, 6, (107, 108, 109)) := yqr_ok (by decide +kernel)
theorem mr_1 : xmr 1 = none := by decide +kernel
theorem q2_39 : xfR (xmk 2) 39 = some (0, 0) := by decide +kernel
theorem q2_43 : xfR (xmk 2) 43 = some (0, 1) := by decide +kernel
theorem q2_46 : xfR (xmk 2) 46 = some (0, 2) := by decide +kernel
theorem q2_49 : xfR (xmk 2) 49 = some (0, 3) := by decide +kernel
theorem q2_9 : xfR (xmk 2) 9 = some (0, 4) := by decide +kernel
theorem kb_12 : (Int8.ofInt 12).toInt32 = 12 := by decide +kernel
theorem q2_55 : xcR (xmk 2) 55 = some (xmk 2, 55, 0, 6, (107, 108, 109)) := yqr_ok (by decide +kernel)
theorem q2_15 : xfR (xmk 2) 15 = some (0, 5) := by decide +kernel
theorem kb_14 : (Int8.ofInt 14).toInt32 = 14 := by decide +kernel
theorem q2_18 : xfR (xmk 2) 18 = some (0, 6) := by decide +kernel
theorem q2_21 : xfR (xmk 2) 21 = some (0, 7) := by decide +kernel
theorem q2_24 : xfR (xmk 2) 24 = some (0, 8) := by decide +kernel
theorem q2_27 : xfR (xmk 2) 27 = some (0, 9) := by decide +kernel
theorem q2_30 : xfR (xmk 2) 30 = some (0, 10) := by decide +kernel
theorem q2_33 : xfR (xmk 2) 33 = some (0, 11) := by decide +kernel
theorem mr_2 : xmr 2 = none := by decide +kernel
theorem q3_39 : xfR (xmk 3) 39 = some (0, 0) := by decide +kernel
theorem q3_61 : xcR (xmk 3) 61 = some (xmk 3, 61, 94, 3, (341, 326, 0)) := yqr_ok (by decide +kernel)
theorem mr_3 : xmr 3 = some .boolean := by decide +kernel
theorem q4_43 : xfR (xmk 4) 43 = some (0, 1) := by decide +kernel
theorem q4_61 : xcR (xmk 4) 61 = some (xmk 4, 61, 94, 3, (341, 326, 0)) := yqr_ok (by decide +kernel)
theorem mr_4 : xmr 4 = some .boolean := by decide +kernel
theorem q5_65 : xcR (xmk 5) 65 = some (xmk 5, 65, 6, 0, (336, 337, 338)) := yqr_ok (by decide +kernel)
theorem mk_6 : xmk 6 = 0 := by decide +kernel
theorem q5_69 : xcR (xmk 5) 69 = some (xmk 5, 69, 8, 0, (368, 369, 370)) := yqr_ok (by decide +kernel)
theorem mk_8 : xmk 8 = 0 := by decide +kernel
theorem mr_5 : xmr 5 = some .boolean := by decide +kernel
theorem q6_72 : xcI (xmk 6) 72 = some 50000 := by decide +kernel
theorem q6_61 : xcR (xmk 6) 61 = some (xmk 6, 61, 94, 3, (341, 326, 0)) := yqr_ok (by decide +kernel)
theorem q6_39 : xfR (xmk 6) 39 = some (0, 0) := by decide +kernel
theorem q6_73 : xcR (xmk 6) 73 = some (xmk 6, 73, 7, 1, (342, 343, 0)) := yqr_ok (by decide +kernel)
theorem mr_6 : xmr 6 = some .int := by decide +kernel
theorem kb_90 : (Int8.ofInt 90).toInt32 = 90 := by decide +kernel
theorem q6_43 : xfR (xmk 6) 43 = some (0, 1) := by decide +kernel
theorem kc_m1 : Int32.ofInt (-1) = (-1) := by decide +kernel
theorem kc_3 : Int32.ofInt 3 = 3 := by decide +kernel
theorem kc_2 : Int32.ofInt 2 = 2 := by decide +kernel
theorem q6_77 : xcR (xmk 6) 77 = some (xmk 6, 77, 4, 0, (345, 346, 347)) := yqr_ok (by decide +kernel)
theorem mk_4 : xmk 4 = 0 := by decide +kernel
theorem q6_81 : xcR (xmk 6) 81 = some (xmk 6, 81, 3, 0, (349, 350, 351)) := yqr_ok (by decide +kernel)
theorem mk_3 : xmk 3 = 0 := by decide +kernel
theorem q6_84 : xcR (xmk 6) 84 = some (xmk 6, 84, 21, 0, (353, 354, 355)) := yqr_ok (by decide +kernel)
theorem mk_21 : xmk 21 = 0 := by decide +kernel
theorem q6_88 : xcR (xmk 6) 88 = some (xmk 6, 88, 99, 3, (357, 358, 0)) := yqr_ok (by decide +kernel)
theorem q6_92 : xcR (xmk 6) 92 = some (xmk 6, 92, 95, 3, (360, 323, 0)) := yqr_ok (by decide +kernel)
theorem kb_24 : (Int8.ofInt 24).toInt32 = 24 := by decide +kernel
theorem kc_6 : Int32.ofInt 6 = 6 := by decide +kernel
theorem q6_95 : xcR (xmk 6) 95 = some (xmk 6, 95, 96, 3, (361, 362, 0)) := yqr_ok (by decide +kernel)
theorem q6_98 : xsR (xmk 6) 98 = some 2 := by decide +kernel
theorem s_g_2 : ySg 2 10 5 := by unfold ySg; decide +kernel
theorem q6_101 : xsR (xmk 6) 101 = some 3 := by decide +kernel
theorem s_g_3 : ySg 3 10 5 := by unfold ySg; decide +kernel
theorem kc_7 : Int32.ofInt 7 = 7 := by decide +kernel
theorem mr_7 : xmr 7 = some .int := by decide +kernel
theorem q8_9 : xfR (xmk 8) 9 = some (0, 4) := by decide +kernel
theorem q8_39 : xfR (xmk 8) 39 = some (0, 0) := by decide +kernel
theorem mr_8 : xmr 8 = some .int := by decide +kernel
theorem q8_104 : xcR (xmk 8) 104 = some (xmk 8, 104, 9, 0, (372, 374, 10)) := yqr_ok (by decide +kernel)
theorem mk_9 : xmk 9 = 0 := by decide +kernel
theorem q8_24 : xfR (xmk 8) 24 = some (0, 8) := by decide +kernel
theorem q8_108 : xcR (xmk 8) 108 = some (xmk 8, 108, 100, 3, (376, 377, 0)) := yqr_ok (by decide +kernel)
theorem q8_112 : xcR (xmk 8) 112 = some (xmk 8, 112, 144, 1, (379, 380, 0)) := yqr_ok (by decide +kernel)
theorem q8_27 : xfR (xmk 8) 27 = some (0, 9) := by decide +kernel
theorem q8_30 : xfR (xmk 8) 30 = some (0, 10) := by decide +kernel
theorem q8_117 : xcR (xmk 8) 117 = some (xmk 8, 117, 10, 1, (385, 386, 0)) := yqr_ok (by decide +kernel)
theorem q8_46 : xfR (xmk 8) 46 = some (0, 2) := by decide +kernel
theorem q8_49 : xfR (xmk 8) 49 = some (0, 3) := by decide +kernel
theorem q8_33 : xfR (xmk 8) 33 = some (0, 11) := by decide +kernel
theorem q8_15 : xfR (xmk 8) 15 = some (0, 5) := by decide +kernel
theorem q9_15 : xfR (xmk 9) 15 = some (0, 5) := by decide +kernel
theorem q9_43 : xfR (xmk 9) 43 = some (0, 1) := by decide +kernel
theorem q9_18 : xfR (xmk 9) 18 = some (0, 6) := by decide +kernel
theorem q9_21 : xfR (xmk 9) 21 = some (0, 7) := by decide +kernel
theorem q9_24 : xfR (xmk 9) 24 = some (0, 8) := by decide +kernel
theorem q9_27 : xfR (xmk 9) 27 = some (0, 9) := by decide +kernel
theorem mr_9 : xmr 9 = some .int := by decide +kernel
theorem mr_10 : xmr 10 = some .int := by decide +kernel
theorem q11_46 : xfR (xmk 11) 46 = some (0, 2) := by decide +kernel
theorem cp_Int32_0_lt_1 : (0 : Int32) < 1 := by decide +kernel
theorem mr_11 : xmr 11 = some .int := by decide +kernel
theorem q11_9 : xfR (xmk 11) 9 = some (0, 4) := by decide +kernel
theorem q12_121 : xsR (xmk 12) 121 = some 4 := by decide +kernel
theorem s_g_4 : ySg 4 10 4 := by unfold ySg; decide +kernel
theorem q12_124 : xcR (xmk 12) 124 = some (xmk 12, 124, 13, 0, (554, 556, 12)) := yqr_ok (by decide +kernel)
theorem mk_13 : xmk 13 = 0 := by decide +kernel
theorem q12_128 : xcR (xmk 12) 128 = some (xmk 12, 128, 11, 0, (558, 559, 560)) := yqr_ok (by decide +kernel)
theorem mk_11 : xmk 11 = 0 := by decide +kernel
theorem q12_33 : xfR (xmk 12) 33 = some (0, 11) := by decide +kernel
theorem in_1_5 : yinB 1 5 = true := by decide +kernel
theorem mr_12 : xmr 12 = some .int := by decide +kernel
theorem q13_33 : xfR (xmk 13) 33 = some (0, 11) := by decide +kernel
theorem in_0_5 : yinB 0 5 = true := by decide +kernel
theorem q13_88 : xcR (xmk 13) 88 = some (xmk 13, 88, 99, 3, (357, 358, 0)) := yqr_ok (by decide +kernel)
theorem mr_13 : xmr 13 = some .int := by decide +kernel
theorem q14_132 : xcR (xmk 14) 132 = some (xmk 14, 132, 12, 0, (549, 550, 551)) := yqr_ok (by decide +kernel)
theorem mk_12 : xmk 12 = 0 := by decide +kernel
theorem mr_14 : xmr 14 = some .int := by decide +kernel
theorem q14_33 : xfR (xmk 14) 33 = some (0, 11) := by decide +kernel
theorem q14_88 : xcR (xmk 14) 88 = some (xmk 14, 88, 99, 3, (357, 358, 0)) := yqr_ok (by decide +kernel)
theorem q14_121 : xsR (xmk 14) 121 = some 4 := by decide +kernel
theorem q15_39 : xfR (xmk 15) 39 = some (0, 0) := by decide +kernel
theorem kb_15 : (Int8.ofInt 15).toInt32 = 15 := by decide +kernel
theorem q15_135 : xcR (xmk 15) 135 = some (xmk 15, 135, 14, 0, (545, 546, 547)) := yqr_ok (by decide +kernel)
theorem mk_14 : xmk 14 = 0 := by decide +kernel
theorem mr_15 : xmr 15 = some .int := by decide +kernel
theorem q16_39 : xfR (xmk 16) 39 = some (0, 0) := by decide +kernel
theorem q16_132 : xcR (xmk 16) 132 = some (xmk 16, 132, 12, 0, (549, 550, 551)) := yqr_ok (by decide +kernel)
theorem q16_128 : xcR (xmk 16) 128 = some (xmk 16, 128, 11, 0, (558, 559, 560)) := yqr_ok (by decide +kernel)
theorem q16_138 : xcR (xmk 16) 138 = some (xmk 16, 138, 0, 10, (819, 820, 821)) := yqr_ok (by decide +kernel)
theorem mr_16 : xmr 16 = some .int := by decide +kernel
theorem q17_43 : xfR (xmk 17) 43 = some (0, 1) := by decide +kernel
theorem q17_24 : xfR (xmk 17) 24 = some (0, 8) := by decide +kernel
theorem q17_88 : xcR (xmk 17) 88 = some (xmk 17, 88, 99, 3, (357, 358, 0)) := yqr_ok (by decide +kernel)
theorem q17_143 : xcR (xmk 17) 143 = some (xmk 17, 143, 98, 3, (641, 642, 0)) := yqr_ok (by decide +kernel)
theorem mr_17 : xmr 17 = some .int := by decide +kernel
theorem q18_39 : xfR (xmk 18) 39 = some (0, 0) := by decide +kernel
theorem q18_147 : xcR (xmk 18) 147 = some (xmk 18, 147, 17, 0, (637, 638, 639)) := yqr_ok (by decide +kernel)
theorem mk_17 : xmk 17 = 0 := by decide +kernel
theorem q18_143 : xcR (xmk 18) 143 = some (xmk 18, 143, 98, 3, (641, 642, 0)) := yqr_ok (by decide +kernel)
theorem mr_18 : xmr 18 = some .int := by decide +kernel
theorem q19_43 : xfR (xmk 19) 43 = some (0, 1) := by decide +kernel
theorem q19_15 : xfR (xmk 19) 15 = some (0, 5) := by decide +kernel
theorem mr_19 : xmr 19 = some .int := by decide +kernel
theorem q20_43 : xfR (xmk 20) 43 = some (0, 1) := by decide +kernel
theorem q20_27 : xfR (xmk 20) 27 = some (0, 9) := by decide +kernel
theorem q20_88 : xcR (xmk 20) 88 = some (xmk 20, 88, 99, 3, (357, 358, 0)) := yqr_ok (by decide +kernel)
theorem q20_108 : xcR (xmk 20) 108 = some (xmk 20, 108, 100, 3, (376, 377, 0)) := yqr_ok (by decide +kernel)
theorem mr_20 : xmr 20 = some .int := by decide +kernel
theorem q21_27 : xfR (xmk 21) 27 = some (0, 9) := by decide +kernel
theorem q21_43 : xfR (xmk 21) 43 = some (0, 1) := by decide +kernel
theorem mr_21 : xmr 21 = some .int := by decide +kernel
theorem q21_88 : xcR (xmk 21) 88 = some (xmk 21, 88, 99, 3, (357, 358, 0)) := yqr_ok (by decide +kernel)
theorem q23_15 : xfR (xmk 23) 15 = some (1, 1) := by decide +kernel
theorem s_i_8_1 : ySi 8 1 1 := by unfold ySi; decide +kernel
theorem kb_120 : (Int8.ofInt 120).toInt32 = 120 := by decide +kernel
theorem q23_9 : xfR (xmk 23) 9 = some (1, 0) := by decide +kernel
theorem s_a_9 : ySa 9 1 120 := by unfold ySa; decide +kernel
theorem s_r_8_0 : ySr 8 1 0 9 := by unfold ySr; decide +kernel
theorem mr_23 : xmr 23 = some .int := by decide +kernel
theorem q24_19 : xcR (xmk 24) 19 = some (xmk 24, 19, 1, 0, (279, 102, 103)) := yqr_ok (by decide +kernel)
theorem mk_1 : xmk 1 = 0 := by decide +kernel
theorem q24_24 : xfR (xmk 24) 24 = some (1, 2) := by decide +kernel
theorem s_i_8_2 : ySi 8 1 2 := by unfold ySi; decide +kernel
theorem q24_27 : xfR (xmk 24) 27 = some (1, 3) := by decide +kernel
theorem s_i_8_3 : ySi 8 1 3 := by unfold ySi; decide +kernel
theorem q24_30 : xfR (xmk 24) 30 = some (1, 4) := by decide +kernel
theorem s_i_8_4 : ySi 8 1 4 := by unfold ySi; decide +kernel
theorem kb_67 : (Int8.ofInt 67).toInt32 = 67 := by decide +kernel
theorem q24_34 : xcR (xmk 24) 34 = some (xmk 24, 34, 33, 0, (280, 282, 0)) := yqr_ok (by decide +kernel)
theorem s_t_8 : (ysh 8).1 = 100 + 1 := by decide +kernel
theorem mk_33 : xmk 33 = 1 := by decide +kernel
theorem q24_15 : xfR (xmk 24) 15 = some (1, 1) := by decide +kernel
theorem q24_38 : xcR (xmk 24) 38 = some (xmk 24, 38, 25, 0, (288, 290, 2)) := yqr_ok (by decide +kernel)
theorem mk_25 : xmk 25 = 1 := by decide +kernel
theorem q24_42 : xfR (xmk 24) 42 = some (1, 5) := by decide +kernel
theorem s_i_8_5 : ySi 8 1 5 := by unfold ySi; decide +kernel
theorem q24_45 : xfR (xmk 24) 45 = some (1, 6) := by decide +kernel
theorem s_i_8_6 : ySi 8 1 6 := by unfold ySi; decide +kernel
theorem q24_48 : xfR (xmk 24) 48 = some (1, 7) := by decide +kernel
theorem s_i_8_7 : ySi 8 1 7 := by unfold ySi; decide +kernel
theorem q24_51 : xfR (xmk 24) 51 = some (1, 8) := by decide +kernel
theorem s_i_8_8 : ySi 8 1 8 := by unfold ySi; decide +kernel
theorem q24_54 : xcR (xmk 24) 54 = some (xmk 24, 54, 5, 0, (332, 333, 334)) := yqr_ok (by decide +kernel)
theorem mk_5 : xmk 5 = 0 := by decide +kernel
theorem mr_24 : xmr 24 = some .int := by decide +kernel
theorem q25_58 : xsR (xmk 25) 58 = some 5 := by decide +kernel
theorem s_g_5 : ySg 5 11 7 := by unfold ySg; decide +kernel
theorem q25_61 : xcR (xmk 25) 61 = some (xmk 25, 61, 32, 0, (294, 296, 3)) := yqr_ok (by decide +kernel)
theorem mk_32 : xmk 32 = 1 := by decide +kernel
theorem q25_65 : xcR (xmk 25) 65 = some (xmk 25, 65, 29, 0, (298, 300, 4)) := yqr_ok (by decide +kernel)
theorem mk_29 : xmk 29 = 1 := by decide +kernel
theorem q25_69 : xcR (xmk 25) 69 = some (xmk 25, 69, 26, 0, (314, 316, 7)) := yqr_ok (by decide +kernel)
theorem mk_26 : xmk 26 = 1 := by decide +kernel
theorem mr_25 : xmr 25 = none := by decide +kernel
theorem q25_73 : xcR (xmk 25) 73 = some (xmk 25, 73, 30, 0, (302, 304, 5)) := yqr_ok (by decide +kernel)
theorem mk_30 : xmk 30 = 1 := by decide +kernel
theorem q25_77 : xcR (xmk 25) 77 = some (xmk 25, 77, 28, 0, (318, 320, 8)) := yqr_ok (by decide +kernel)
theorem mk_28 : xmk 28 = 1 := by decide +kernel
theorem q25_80 : xcR (xmk 25) 80 = some (xmk 25, 80, 31, 0, (306, 308, 6)) := yqr_ok (by decide +kernel)
theorem mk_31 : xmk 31 = 1 := by decide +kernel
theorem q25_83 : xcR (xmk 25) 83 = some (xmk 25, 83, 27, 0, (328, 330, 9)) := yqr_ok (by decide +kernel)
theorem mk_27 : xmk 27 = 1 := by decide +kernel
theorem kb_11 : (Int8.ofInt 11).toInt32 = 11 := by decide +kernel
theorem q25_86 : xfR (xmk 25) 86 = some (0, 2) := by decide +kernel
theorem kb_6 : (Int8.ofInt 6).toInt32 = 6 := by decide +kernel
theorem q26_42 : xfR (xmk 26) 42 = some (1, 5) := by decide +kernel
theorem q26_45 : xfR (xmk 26) 45 = some (1, 6) := by decide +kernel
theorem q26_48 : xfR (xmk 26) 48 = some (1, 7) := by decide +kernel
theorem q26_51 : xfR (xmk 26) 51 = some (1, 8) := by decide +kernel
theorem mr_26 : xmr 26 = none := by decide +kernel
theorem kb_13 : (Int8.ofInt 13).toInt32 = 13 := by decide +kernel
theorem q27_73 : xcR (xmk 27) 73 = some (xmk 27, 73, 30, 0, (302, 304, 5)) := yqr_ok (by decide +kernel)
theorem mr_27 : xmr 27 = some .int := by decide +kernel
theorem q28_80 : xcR (xmk 28) 80 = some (xmk 28, 80, 31, 0, (306, 308, 6)) := yqr_ok (by decide +kernel)
theorem q28_89 : xcR (xmk 28) 89 = some (xmk 28, 89, 95, 3, (322, 323, 0)) := yqr_ok (by decide +kernel)
theorem mr_28 : xmr 28 = some .int := by decide +kernel
theorem kb_99 : (Int8.ofInt 99).toInt32 = 99 := by decide +kernel
theorem q29_73 : xcR (xmk 29) 73 = some (xmk 29, 73, 30, 0, (302, 304, 5)) := yqr_ok (by decide +kernel)
theorem kb_43 : (Int8.ofInt 43).toInt32 = 43 := by decide +kernel
theorem q29_93 : xcR (xmk 29) 93 = some (xmk 29, 93, 34, 0, (284, 286, 1)) := yqr_ok (by decide +kernel)
theorem mk_34 : xmk 34 = 1 := by decide +kernel
theorem q29_27 : xfR (xmk 29) 27 = some (1, 3) := by decide +kernel
theorem kb_7 : (Int8.ofInt 7).toInt32 = 7 := by decide +kernel
theorem q29_80 : xcR (xmk 29) 80 = some (xmk 29, 80, 31, 0, (306, 308, 6)) := yqr_ok (by decide +kernel)
theorem kb_47 : (Int8.ofInt 47).toInt32 = 47 := by decide +kernel
theorem q29_34 : xcR (xmk 29) 34 = some (xmk 29, 34, 33, 0, (280, 282, 0)) := yqr_ok (by decide +kernel)
theorem kb_8 : (Int8.ofInt 8).toInt32 = 8 := by decide +kernel
theorem q29_97 : xsR (xmk 29) 97 = some 6 := by decide +kernel
theorem s_g_6 : ySg 6 11 4 := by unfold ySg; decide +kernel
theorem q29_61 : xcR (xmk 29) 61 = some (xmk 29, 61, 32, 0, (294, 296, 3)) := yqr_ok (by decide +kernel)
theorem q29_30 : xfR (xmk 29) 30 = some (1, 4) := by decide +kernel
theorem mr_29 : xmr 29 = some .int := by decide +kernel
theorem q29_100 : xsR (xmk 29) 100 = some 4 := by decide +kernel
theorem kb_10 : (Int8.ofInt 10).toInt32 = 10 := by decide +kernel
theorem nzI_10 : (10 : Int32) ≠ 0 := by decide +kernel
theorem q30_80 : xcR (xmk 30) 80 = some (xmk 30, 80, 31, 0, (306, 308, 6)) := yqr_ok (by decide +kernel)
theorem mr_30 : xmr 30 = some .int := by decide +kernel
theorem kb_9 : (Int8.ofInt 9).toInt32 = 9 := by decide +kernel
theorem kb_48 : (Int8.ofInt 48).toInt32 = 48 := by decide +kernel
theorem q31_93 : xcR (xmk 31) 93 = some (xmk 31, 93, 34, 0, (284, 286, 1)) := yqr_ok (by decide +kernel)
theorem q31_27 : xfR (xmk 31) 27 = some (1, 3) := by decide +kernel
theorem mr_31 : xmr 31 = some .int := by decide +kernel
theorem q31_30 : xfR (xmk 31) 30 = some (1, 4) := by decide +kernel
theorem q32_93 : xcR (xmk 32) 93 = some (xmk 32, 93, 34, 0, (284, 286, 1)) := yqr_ok (by decide +kernel)
theorem q32_27 : xfR (xmk 32) 27 = some (1, 3) := by decide +kernel
theorem mr_32 : xmr 32 = some .int := by decide +kernel
theorem q32_30 : xfR (xmk 32) 30 = some (1, 4) := by decide +kernel
theorem q33_93 : xcR (xmk 33) 93 = some (xmk 33, 93, 34, 0, (284, 286, 1)) := yqr_ok (by decide +kernel)
theorem q33_30 : xfR (xmk 33) 30 = some (1, 4) := by decide +kernel
theorem mr_33 : xmr 33 = none := by decide +kernel
theorem q33_27 : xfR (xmk 33) 27 = some (1, 3) := by decide +kernel
theorem q34_30 : xfR (xmk 34) 30 = some (1, 4) := by decide +kernel
theorem q34_27 : xfR (xmk 34) 27 = some (1, 3) := by decide +kernel
theorem q34_15 : xfR (xmk 34) 15 = some (1, 1) := by decide +kernel
theorem q34_9 : xfR (xmk 34) 9 = some (1, 0) := by decide +kernel
theorem mr_34 : xmr 34 = some .boolean := by decide +kernel
theorem q36_11 : xfR (xmk 36) 11 = some (2, 0) := by decide +kernel
theorem s_r_42_0 : ySr 42 2 0 43 := by unfold ySr; decide +kernel
theorem q36_18 : xfR (xmk 36) 18 = some (2, 1) := by decide +kernel
theorem s_i_42_1 : ySi 42 2 1 := by unfold ySi; decide +kernel
theorem q36_22 : xcR (xmk 36) 22 = some (xmk 36, 22, 2, 0, (716, 460, 461)) := yqr_ok (by decide +kernel)
theorem mk_2 : xmk 2 = 0 := by decide +kernel
theorem q36_26 : xfR (xmk 36) 26 = some (2, 2) := by decide +kernel
theorem s_i_42_2 : ySi 42 2 2 := by unfold ySi; decide +kernel
theorem q36_29 : xcR (xmk 36) 29 = some (xmk 36, 29, 0, 9, (717, 718, 719)) := yqr_ok (by decide +kernel)
theorem mr_36 : xmr 36 = none := by decide +kernel
theorem q37_18 : xfR (xmk 37) 18 = some (2, 1) := by decide +kernel
theorem q37_11 : xfR (xmk 37) 11 = some (2, 0) := by decide +kernel
theorem q37_22 : xcR (xmk 37) 22 = some (xmk 37, 22, 2, 0, (716, 460, 461)) := yqr_ok (by decide +kernel)
theorem q37_26 : xfR (xmk 37) 26 = some (2, 2) := by decide +kernel
theorem mr_37 : xmr 37 = some .int := by decide +kernel
theorem q38_26 : xfR (xmk 38) 26 = some (2, 2) := by decide +kernel
theorem mr_38 : xmr 38 = none := by decide +kernel
theorem q40_37 : xcR (xmk 40) 37 = some (xmk 40, 37, 48, 0, (570, 571, 572)) := yqr_ok (by decide +kernel)
theorem mk_48 : xmk 48 = 3 := by decide +kernel
theorem q40_12 : xfR (xmk 40) 12 = some (3, 0) := by decide +kernel
theorem q40_40 : xfR (xmk 40) 40 = some (0, 1) := by decide +kernel
theorem q40_25 : xfR (xmk 40) 25 = some (3, 3) := by decide +kernel
theorem q40_44 : xcR (xmk 40) 44 = some (xmk 40, 44, 0, 8, (580, 581, 582)) := yqr_ok (by decide +kernel)
theorem mr_40 : xmr 40 = some .int := by decide +kernel
theorem q41_50 : xfR (xmk 41) 50 = some (3, 6) := by decide +kernel
theorem q41_12 : xfR (xmk 41) 12 = some (3, 0) := by decide +kernel
theorem q41_53 : xfR (xmk 41) 53 = some (0, 8) := by decide +kernel
theorem q41_31 : xfR (xmk 41) 31 = some (3, 5) := by decide +kernel
theorem q41_56 : xcR (xmk 41) 56 = some (xmk 41, 56, 99, 3, (579, 358, 0)) := yqr_ok (by decide +kernel)
theorem q41_18 : xfR (xmk 41) 18 = some (3, 1) := by decide +kernel
theorem mr_41 : xmr 41 = some .int := by decide +kernel
theorem q42_50 : xfR (xmk 42) 50 = some (3, 6) := by decide +kernel
theorem q42_31 : xfR (xmk 42) 31 = some (3, 5) := by decide +kernel
theorem q42_60 : xcR (xmk 42) 60 = some (xmk 42, 60, 43, 0, (761, 763, 24)) := yqr_ok (by decide +kernel)
theorem mk_43 : xmk 43 = 3 := by decide +kernel
theorem q42_64 : xcR (xmk 42) 64 = some (xmk 42, 64, 98, 3, (765, 642, 0)) := yqr_ok (by decide +kernel)
theorem mr_42 : xmr 42 = some .int := by decide +kernel
theorem q43_18 : xfR (xmk 43) 18 = some (3, 1) := by decide +kernel
theorem q43_22 : xfR (xmk 43) 22 = some (3, 2) := by decide +kernel
theorem cn_Int32_1_eq_0 : ¬ ((1 : Int32) = 0) := by decide +kernel
theorem q43_12 : xfR (xmk 43) 12 = some (3, 0) := by decide +kernel
theorem q43_68 : xfR (xmk 43) 68 = some (0, 7) := by decide +kernel
theorem mr_43 : xmr 43 = some .boolean := by decide +kernel
theorem q43_71 : xfR (xmk 43) 71 = some (0, 6) := by decide +kernel
theorem q43_74 : xcR (xmk 43) 74 = some (xmk 43, 74, 44, 0, (597, 599, 17)) := yqr_ok (by decide +kernel)
theorem mk_44 : xmk 44 = 3 := by decide +kernel
theorem cp_Int32_0_eq_0 : (0 : Int32) = 0 := by decide +kernel
theorem q44_22 : xfR (xmk 44) 22 = some (3, 2) := by decide +kernel
theorem q44_12 : xfR (xmk 44) 12 = some (3, 0) := by decide +kernel
theorem q44_78 : xfR (xmk 44) 78 = some (0, 11) := by decide +kernel
theorem in_2_5 : yinB 2 5 = true := by decide +kernel
theorem mr_44 : xmr 44 = some .int := by decide +kernel
theorem q45_81 : xcR (xmk 45) 81 = some (xmk 45, 81, 46, 0, (566, 568, 13)) := yqr_ok (by decide +kernel)
theorem mk_46 : xmk 46 = 3 := by decide +kernel
theorem q45_50 : xfR (xmk 45) 50 = some (3, 6) := by decide +kernel
theorem q45_84 : xfR (xmk 45) 84 = some (3, 8) := by decide +kernel
theorem q45_12 : xfR (xmk 45) 12 = some (3, 0) := by decide +kernel
theorem q45_40 : xfR (xmk 45) 40 = some (0, 1) := by decide +kernel
theorem q45_18 : xfR (xmk 45) 18 = some (3, 1) := by decide +kernel
theorem q45_22 : xfR (xmk 45) 22 = some (3, 2) := by decide +kernel
theorem kb_28 : (Int8.ofInt 28).toInt32 = 28 := by decide +kernel
theorem q45_97 : xfR (xmk 45) 97 = some (3, 7) := by decide +kernel
theorem mr_45 : xmr 45 = none := by decide +kernel
theorem q45_87 : xcR (xmk 45) 87 = some (xmk 45, 87, 50, 0, (592, 594, 16)) := yqr_ok (by decide +kernel)
theorem mk_50 : xmk 50 = 3 := by decide +kernel
theorem q45_91 : xcR (xmk 45) 91 = some (xmk 45, 91, 52, 0, (606, 608, 19)) := yqr_ok (by decide +kernel)
theorem mk_52 : xmk 52 = 3 := by decide +kernel
theorem q45_94 : xcR (xmk 45) 94 = some (xmk 45, 94, 55, 0, (618, 620, 22)) := yqr_ok (by decide +kernel)
theorem mk_55 : xmk 55 = 3 := by decide +kernel
theorem q46_12 : xfR (xmk 46) 12 = some (3, 0) := by decide +kernel
theorem q46_78 : xfR (xmk 46) 78 = some (0, 11) := by decide +kernel
theorem in_4_5 : yinB 4 5 = true := by decide +kernel
theorem q46_37 : xcR (xmk 46) 37 = some (xmk 46, 37, 48, 0, (570, 571, 572)) := yqr_ok (by decide +kernel)
theorem q46_40 : xfR (xmk 46) 40 = some (0, 1) := by decide +kernel
theorem q46_28 : xfR (xmk 46) 28 = some (3, 4) := by decide +kernel
theorem q46_100 : xcR (xmk 46) 100 = some (xmk 46, 100, 47, 0, (583, 585, 15)) := yqr_ok (by decide +kernel)
theorem mk_47 : xmk 47 = 3 := by decide +kernel
theorem mr_46 : xmr 46 = none := by decide +kernel
theorem q47_12 : xfR (xmk 47) 12 = some (3, 0) := by decide +kernel
theorem q47_103 : xfR (xmk 47) 103 = some (0, 5) := by decide +kernel
theorem mr_47 : xmr 47 = some .int := by decide +kernel
theorem q47_25 : xfR (xmk 47) 25 = some (3, 3) := by decide +kernel
theorem q47_106 : xcR (xmk 47) 106 = some (xmk 47, 106, 20, 0, (587, 588, 589)) := yqr_ok (by decide +kernel)
theorem mk_20 : xmk 20 = 0 := by decide +kernel
theorem q47_109 : xcR (xmk 47) 109 = some (xmk 47, 109, 144, 1, (591, 380, 0)) := yqr_ok (by decide +kernel)
theorem q48_12 : xfR (xmk 48) 12 = some (3, 0) := by decide +kernel
theorem q48_103 : xfR (xmk 48) 103 = some (0, 5) := by decide +kernel
theorem q48_25 : xfR (xmk 48) 25 = some (3, 3) := by decide +kernel
theorem q48_114 : xcR (xmk 48) 114 = some (xmk 48, 114, 0, 6, (574, 108, 109)) := yqr_ok (by decide +kernel)
theorem q48_40 : xfR (xmk 48) 40 = some (0, 1) := by decide +kernel
theorem mr_48 : xmr 48 = none := by decide +kernel
theorem q48_120 : xcR (xmk 48) 120 = some (xmk 48, 120, 49, 0, (575, 577, 14)) := yqr_ok (by decide +kernel)
theorem mk_49 : xmk 49 = 3 := by decide +kernel
theorem q49_12 : xfR (xmk 49) 12 = some (3, 0) := by decide +kernel
theorem q49_40 : xfR (xmk 49) 40 = some (0, 1) := by decide +kernel
theorem q49_123 : xfR (xmk 49) 123 = some (0, 9) := by decide +kernel
theorem q49_56 : xcR (xmk 49) 56 = some (xmk 49, 56, 99, 3, (579, 358, 0)) := yqr_ok (by decide +kernel)
theorem q49_25 : xfR (xmk 49) 25 = some (3, 3) := by decide +kernel
theorem q49_103 : xfR (xmk 49) 103 = some (0, 5) := by decide +kernel
theorem q49_44 : xcR (xmk 49) 44 = some (xmk 49, 44, 0, 8, (580, 581, 582)) := yqr_ok (by decide +kernel)
theorem mr_49 : xmr 49 = none := by decide +kernel
theorem q50_126 : xfR (xmk 50) 126 = some (3, 9) := by decide +kernel
theorem q50_12 : xfR (xmk 50) 12 = some (3, 0) := by decide +kernel
theorem q50_78 : xfR (xmk 50) 78 = some (0, 11) := by decide +kernel
theorem in_3_5 : yinB 3 5 = true := by decide +kernel
theorem q50_129 : xfR (xmk 50) 129 = some (3, 10) := by decide +kernel
theorem q50_132 : xfR (xmk 50) 132 = some (0, 10) := by decide +kernel
theorem q50_34 : xfR (xmk 50) 34 = some (3, 11) := by decide +kernel
theorem q50_114 : xcR (xmk 50) 114 = some (xmk 50, 114, 0, 6, (574, 108, 109)) := yqr_ok (by decide +kernel)
theorem q50_50 : xfR (xmk 50) 50 = some (3, 6) := by decide +kernel
theorem q50_31 : xfR (xmk 50) 31 = some (3, 5) := by decide +kernel
theorem q50_22 : xfR (xmk 50) 22 = some (3, 2) := by decide +kernel
theorem q50_135 : xcR (xmk 50) 135 = some (xmk 50, 135, 100, 3, (596, 377, 0)) := yqr_ok (by decide +kernel)
theorem q50_74 : xcR (xmk 50) 74 = some (xmk 50, 74, 44, 0, (597, 599, 17)) := yqr_ok (by decide +kernel)
theorem q50_139 : xcR (xmk 50) 139 = some (xmk 50, 139, 51, 0, (601, 603, 18)) := yqr_ok (by decide +kernel)
theorem mk_51 : xmk 51 = 3 := by decide +kernel
theorem q50_68 : xfR (xmk 50) 68 = some (0, 7) := by decide +kernel
theorem mr_50 : xmr 50 = none := by decide +kernel
theorem q51_12 : xfR (xmk 51) 12 = some (3, 0) := by decide +kernel
theorem q51_71 : xfR (xmk 51) 71 = some (0, 6) := by decide +kernel
theorem q51_142 : xcR (xmk 51) 142 = some (xmk 51, 142, 95, 3, (605, 323, 0)) := yqr_ok (by decide +kernel)
theorem mr_51 : xmr 51 = none := by decide +kernel
theorem q51_34 : xfR (xmk 51) 34 = some (3, 11) := by decide +kernel
theorem q52_12 : xfR (xmk 52) 12 = some (3, 0) := by decide +kernel
theorem q52_40 : xfR (xmk 52) 40 = some (0, 1) := by decide +kernel
theorem q52_146 : xcR (xmk 52) 146 = some (xmk 52, 146, 53, 0, (610, 612, 20)) := yqr_ok (by decide +kernel)
theorem mk_53 : xmk 53 = 3 := by decide +kernel
theorem mr_52 : xmr 52 = none := by decide +kernel
theorem q52_18 : xfR (xmk 52) 18 = some (3, 1) := by decide +kernel
theorem q52_22 : xfR (xmk 52) 22 = some (3, 2) := by decide +kernel
theorem q52_103 : xfR (xmk 52) 103 = some (0, 5) := by decide +kernel
theorem q52_31 : xfR (xmk 52) 31 = some (3, 5) := by decide +kernel
theorem q52_50 : xfR (xmk 52) 50 = some (3, 6) := by decide +kernel
theorem q52_84 : xfR (xmk 52) 84 = some (3, 8) := by decide +kernel
theorem q52_44 : xcR (xmk 52) 44 = some (xmk 52, 44, 0, 8, (580, 581, 582)) := yqr_ok (by decide +kernel)
theorem q52_129 : xfR (xmk 52) 129 = some (3, 10) := by decide +kernel
theorem q52_68 : xfR (xmk 52) 68 = some (0, 7) := by decide +kernel
theorem q52_139 : xcR (xmk 52) 139 = some (xmk 52, 139, 51, 0, (601, 603, 18)) := yqr_ok (by decide +kernel)
theorem q53_12 : xfR (xmk 53) 12 = some (3, 0) := by decide +kernel
theorem q53_40 : xfR (xmk 53) 40 = some (0, 1) := by decide +kernel
theorem q53_150 : xcR (xmk 53) 150 = some (xmk 53, 150, 54, 0, (614, 616, 21)) := yqr_ok (by decide +kernel)
theorem mk_54 : xmk 54 = 3 := by decide +kernel
theorem q53_28 : xfR (xmk 53) 28 = some (3, 4) := by decide +kernel
theorem mr_53 : xmr 53 = some .int := by decide +kernel
theorem q54_12 : xfR (xmk 54) 12 = some (3, 0) := by decide +kernel
theorem q54_71 : xfR (xmk 54) 71 = some (0, 6) := by decide +kernel
theorem q54_18 : xfR (xmk 54) 18 = some (3, 1) := by decide +kernel
theorem q54_123 : xfR (xmk 54) 123 = some (0, 9) := by decide +kernel
theorem q54_126 : xfR (xmk 54) 126 = some (3, 9) := by decide +kernel
theorem q54_129 : xfR (xmk 54) 129 = some (3, 10) := by decide +kernel
theorem q54_68 : xfR (xmk 54) 68 = some (0, 7) := by decide +kernel
theorem mr_54 : xmr 54 = some .boolean := by decide +kernel
theorem q54_142 : xcR (xmk 54) 142 = some (xmk 54, 142, 95, 3, (605, 323, 0)) := yqr_ok (by decide +kernel)
theorem q54_34 : xfR (xmk 54) 34 = some (3, 11) := by decide +kernel
theorem q55_50 : xfR (xmk 55) 50 = some (3, 6) := by decide +kernel
theorem q55_31 : xfR (xmk 55) 31 = some (3, 5) := by decide +kernel
theorem q55_22 : xfR (xmk 55) 22 = some (3, 2) := by decide +kernel
theorem q55_153 : xcR (xmk 55) 153 = some (xmk 55, 153, 56, 1, (622, 623, 0)) := yqr_ok (by decide +kernel)
theorem q55_74 : xcR (xmk 55) 74 = some (xmk 55, 74, 44, 0, (597, 599, 17)) := yqr_ok (by decide +kernel)
theorem mr_55 : xmr 55 = some .int := by decide +kernel
theorem mr_56 : xmr 56 = some .int := by decide +kernel
theorem ks_255 : (Int16.ofInt 255).toInt32 = 255 := by decide +kernel
theorem q58_54 : xcR (xmk 58) 54 = some (xmk 58, 54, 94, 1, (325, 326, 0)) := yqr_ok (by decide +kernel)
theorem q58_58 : xcR (xmk 58) 58 = some (xmk 58, 58, 92, 1, (522, 523, 0)) := yqr_ok (by decide +kernel)
theorem q58_10 : xfR (xmk 58) 10 = some (4, 0) := by decide +kernel
theorem s_r_7_0 : ySr 7 4 0 8 := by unfold ySr; decide +kernel
theorem q58_62 : xfR (xmk 58) 62 = some (1, 1) := by decide +kernel
theorem q58_66 : xcR (xmk 58) 66 = some (xmk 58, 66, 93, 1, (388, 389, 0)) := yqr_ok (by decide +kernel)
theorem q58_69 : xcR (xmk 58) 69 = some (xmk 58, 69, 23, 0, (879, 880, 881)) := yqr_ok (by decide +kernel)
theorem mk_23 : xmk 23 = 1 := by decide +kernel
theorem mr_58 : xmr 58 = some .int := by decide +kernel
theorem q59_10 : xfR (xmk 59) 10 = some (4, 0) := by decide +kernel
theorem q59_62 : xfR (xmk 59) 62 = some (1, 1) := by decide +kernel
theorem mr_59 : xmr 59 = some .int := by decide +kernel
theorem q60_10 : xfR (xmk 60) 10 = some (4, 0) := by decide +kernel
theorem q60_33 : xfR (xmk 60) 33 = some (4, 4) := by decide +kernel
theorem yC27 : yC 27 := by show 27 ∈ yCs; decide +kernel
theorem s_r_7_4 : ySr 7 4 4 27 := by unfold ySr; decide +kernel
theorem q60_73 : xcR (xmk 60) 73 = some (xmk 60, 73, 24, 0, (275, 276, 277)) := yqr_ok (by decide +kernel)
theorem mk_24 : xmk 24 = 1 := by decide +kernel
theorem mr_60 : xmr 60 = some .int := by decide +kernel
theorem q61_10 : xfR (xmk 61) 10 = some (4, 0) := by decide +kernel
theorem q61_33 : xfR (xmk 61) 33 = some (4, 4) := by decide +kernel
theorem q61_73 : xcR (xmk 61) 73 = some (xmk 61, 73, 24, 0, (275, 276, 277)) := yqr_ok (by decide +kernel)
theorem q61_66 : xcR (xmk 61) 66 = some (xmk 61, 66, 93, 1, (388, 389, 0)) := yqr_ok (by decide +kernel)
theorem q61_27 : xfR (xmk 61) 27 = some (4, 2) := by decide +kernel
theorem yC11 : yC 11 := by show 11 ∈ yCs; decide +kernel
theorem s_r_7_2 : ySr 7 4 2 11 := by unfold ySr; decide +kernel
theorem q61_77 : xcR (xmk 61) 77 = some (xmk 61, 77, 2, 0, (459, 460, 461)) := yqr_ok (by decide +kernel)
theorem q61_39 : xfR (xmk 61) 39 = some (4, 5) := by decide +kernel
theorem s_r_7_5 : ySr 7 4 5 42 := by unfold ySr; decide +kernel
theorem q61_81 : xcR (xmk 61) 81 = some (xmk 61, 81, 38, 0, (463, 464, 465)) := yqr_ok (by decide +kernel)
theorem s_t_42 : (ysh 42).1 = 100 + 2 := by decide +kernel
theorem mk_38 : xmk 38 = 2 := by decide +kernel
theorem q61_50 : xfR (xmk 61) 50 = some (4, 7) := by decide +kernel
theorem s_a_189 : ySa 189 2 2 := by unfold ySa; decide +kernel
theorem s_r_7_7 : ySr 7 4 7 189 := by unfold ySr; decide +kernel
theorem q61_84 : xfR (xmk 61) 84 = some (1, 2) := by decide +kernel
theorem mr_61 : xmr 61 = some .int := by decide +kernel
theorem q62_54 : xcR (xmk 62) 54 = some (xmk 62, 54, 94, 1, (325, 326, 0)) := yqr_ok (by decide +kernel)
theorem q62_58 : xcR (xmk 62) 58 = some (xmk 62, 58, 92, 1, (522, 523, 0)) := yqr_ok (by decide +kernel)
theorem q62_27 : xfR (xmk 62) 27 = some (4, 2) := by decide +kernel
theorem q62_87 : xfR (xmk 62) 87 = some (0, 0) := by decide +kernel
theorem mr_62 : xmr 62 = some .int := by decide +kernel
theorem q62_90 : xfR (xmk 62) 90 = some (0, 1) := by decide +kernel
theorem q62_93 : xfR (xmk 62) 93 = some (0, 2) := by decide +kernel
theorem q62_96 : xfR (xmk 62) 96 = some (0, 3) := by decide +kernel
theorem q62_99 : xcR (xmk 62) 99 = some (xmk 62, 99, 15, 0, (541, 542, 543)) := yqr_ok (by decide +kernel)
theorem mk_15 : xmk 15 = 0 := by decide +kernel
theorem q62_19 : xfR (xmk 62) 19 = some (4, 1) := by decide +kernel
theorem yP10 : yP 10 := by show 10 ∈ ([10, 26] : List Nat); decide +kernel
theorem s_r_7_1 : ySr 7 4 1 10 := by unfold ySr; decide +kernel
theorem q62_103 : xcR (xmk 62) 103 = some (xmk 62, 103, 45, 0, (562, 563, 564)) := yqr_ok (by decide +kernel)
theorem mk_45 : xmk 45 = 3 := by decide +kernel
theorem q62_106 : xfR (xmk 62) 106 = some (3, 8) := by decide +kernel
theorem q62_109 : xfR (xmk 62) 109 = some (3, 7) := by decide +kernel
theorem q62_112 : xcR (xmk 62) 112 = some (xmk 62, 112, 40, 0, (625, 626, 627)) := yqr_ok (by decide +kernel)
theorem mk_40 : xmk 40 = 3 := by decide +kernel
theorem kc_8 : Int32.ofInt 8 = 8 := by decide +kernel
theorem q62_116 : xcR (xmk 62) 116 = some (xmk 62, 116, 19, 0, (629, 630, 631)) := yqr_ok (by decide +kernel)
theorem mk_19 : xmk 19 = 0 := by decide +kernel
theorem q62_119 : xcR (xmk 62) 119 = some (xmk 62, 119, 18, 0, (633, 634, 635)) := yqr_ok (by decide +kernel)
theorem mk_18 : xmk 18 = 0 := by decide +kernel
theorem q63_27 : xfR (xmk 63) 27 = some (4, 2) := by decide +kernel
theorem q63_122 : xcR (xmk 63) 122 = some (xmk 63, 122, 3, 0, (669, 350, 351)) := yqr_ok (by decide +kernel)
theorem q63_126 : xcR (xmk 63) 126 = some (xmk 63, 126, 91, 1, (479, 480, 0)) := yqr_ok (by decide +kernel)
theorem q63_54 : xcR (xmk 63) 54 = some (xmk 63, 54, 94, 1, (325, 326, 0)) := yqr_ok (by decide +kernel)
theorem q63_58 : xcR (xmk 63) 58 = some (xmk 63, 58, 92, 1, (522, 523, 0)) := yqr_ok (by decide +kernel)
theorem q63_96 : xfR (xmk 63) 96 = some (0, 3) := by decide +kernel
theorem q63_129 : xfR (xmk 63) 129 = some (0, 4) := by decide +kernel
theorem mr_63 : xmr 63 = some .int := by decide +kernel
theorem q63_133 : xcR (xmk 63) 133 = some (xmk 63, 133, 11, 0, (670, 559, 560)) := yqr_ok (by decide +kernel)
theorem q63_137 : xcR (xmk 63) 137 = some (xmk 63, 137, 12, 0, (671, 550, 551)) := yqr_ok (by decide +kernel)
theorem q63_140 : xcR (xmk 63) 140 = some (xmk 63, 140, 14, 0, (672, 546, 547)) := yqr_ok (by decide +kernel)
theorem q63_144 : xcR (xmk 63) 144 = some (xmk 63, 144, 17, 0, (673, 638, 639)) := yqr_ok (by decide +kernel)
theorem q63_19 : xfR (xmk 63) 19 = some (4, 1) := by decide +kernel
theorem q63_103 : xcR (xmk 63) 103 = some (xmk 63, 103, 45, 0, (562, 563, 564)) := yqr_ok (by decide +kernel)
theorem q63_147 : xcR (xmk 63) 147 = some (xmk 63, 147, 41, 0, (674, 675, 676)) := yqr_ok (by decide +kernel)
theorem mk_41 : xmk 41 = 3 := by decide +kernel
theorem q64_27 : xfR (xmk 64) 27 = some (4, 2) := by decide +kernel
theorem q64_122 : xcR (xmk 64) 122 = some (xmk 64, 122, 3, 0, (669, 350, 351)) := yqr_ok (by decide +kernel)
theorem q64_126 : xcR (xmk 64) 126 = some (xmk 64, 126, 91, 1, (479, 480, 0)) := yqr_ok (by decide +kernel)
theorem q64_54 : xcR (xmk 64) 54 = some (xmk 64, 54, 94, 1, (325, 326, 0)) := yqr_ok (by decide +kernel)
theorem q64_58 : xcR (xmk 64) 58 = some (xmk 64, 58, 92, 1, (522, 523, 0)) := yqr_ok (by decide +kernel)
theorem q64_96 : xfR (xmk 64) 96 = some (0, 3) := by decide +kernel
theorem q64_140 : xcR (xmk 64) 140 = some (xmk 64, 140, 14, 0, (672, 546, 547)) := yqr_ok (by decide +kernel)
theorem mr_64 : xmr 64 = some .int := by decide +kernel
theorem q65_27 : xfR (xmk 65) 27 = some (4, 2) := by decide +kernel
theorem q65_150 : xcR (xmk 65) 150 = some (xmk 65, 150, 4, 0, (685, 346, 347)) := yqr_ok (by decide +kernel)
theorem q65_126 : xcR (xmk 65) 126 = some (xmk 65, 126, 91, 1, (479, 480, 0)) := yqr_ok (by decide +kernel)
theorem q65_54 : xcR (xmk 65) 54 = some (xmk 65, 54, 94, 1, (325, 326, 0)) := yqr_ok (by decide +kernel)
theorem q65_58 : xcR (xmk 65) 58 = some (xmk 65, 58, 92, 1, (522, 523, 0)) := yqr_ok (by decide +kernel)
theorem q65_153 : xfR (xmk 65) 153 = some (0, 5) := by decide +kernel
theorem mr_65 : xmr 65 = some .int := by decide +kernel
theorem q65_156 : xfR (xmk 65) 156 = some (0, 6) := by decide +kernel
theorem q65_159 : xfR (xmk 65) 159 = some (0, 7) := by decide +kernel
theorem q65_162 : xfR (xmk 65) 162 = some (0, 8) := by decide +kernel
theorem q65_165 : xfR (xmk 65) 165 = some (0, 9) := by decide +kernel
theorem q65_168 : xcR (xmk 65) 168 = some (xmk 65, 168, 20, 0, (686, 588, 589)) := yqr_ok (by decide +kernel)
theorem q65_19 : xfR (xmk 65) 19 = some (4, 1) := by decide +kernel
theorem q65_171 : xcR (xmk 65) 171 = some (xmk 65, 171, 48, 0, (687, 571, 572)) := yqr_ok (by decide +kernel)
theorem q65_174 : xfR (xmk 65) 174 = some (3, 3) := by decide +kernel
theorem q65_103 : xcR (xmk 65) 103 = some (xmk 65, 103, 45, 0, (562, 563, 564)) := yqr_ok (by decide +kernel)
theorem q65_177 : xfR (xmk 65) 177 = some (3, 1) := by decide +kernel
theorem q65_180 : xfR (xmk 65) 180 = some (3, 2) := by decide +kernel
theorem q65_183 : xcR (xmk 65) 183 = some (xmk 65, 183, 21, 0, (688, 354, 355)) := yqr_ok (by decide +kernel)
theorem q65_186 : xcR (xmk 65) 186 = some (xmk 65, 186, 144, 1, (689, 380, 0)) := yqr_ok (by decide +kernel)
theorem q66_19 : xfR (xmk 66) 19 = some (4, 1) := by decide +kernel
theorem q66_103 : xcR (xmk 66) 103 = some (xmk 66, 103, 45, 0, (562, 563, 564)) := yqr_ok (by decide +kernel)
theorem q66_191 : xfR (xmk 66) 191 = some (3, 6) := by decide +kernel
theorem q66_54 : xcR (xmk 66) 54 = some (xmk 66, 54, 94, 1, (325, 326, 0)) := yqr_ok (by decide +kernel)
theorem q66_126 : xcR (xmk 66) 126 = some (xmk 66, 126, 91, 1, (479, 480, 0)) := yqr_ok (by decide +kernel)
theorem q66_194 : xfR (xmk 66) 194 = some (3, 5) := by decide +kernel
theorem mr_66 : xmr 66 = some .int := by decide +kernel
theorem q67_197 : xcR (xmk 67) 197 = some (xmk 67, 197, 95, 1, (661, 323, 0)) := yqr_ok (by decide +kernel)
theorem q67_126 : xcR (xmk 67) 126 = some (xmk 67, 126, 91, 1, (479, 480, 0)) := yqr_ok (by decide +kernel)
theorem q67_27 : xfR (xmk 67) 27 = some (4, 2) := by decide +kernel
theorem q67_200 : xfR (xmk 67) 200 = some (0, 10) := by decide +kernel
theorem mr_67 : xmr 67 = some .int := by decide +kernel
theorem q68_203 : xcR (xmk 68) 203 = some (xmk 68, 203, 96, 1, (652, 362, 0)) := yqr_ok (by decide +kernel)
theorem q68_58 : xcR (xmk 68) 58 = some (xmk 68, 58, 92, 1, (522, 523, 0)) := yqr_ok (by decide +kernel)
theorem q68_27 : xfR (xmk 68) 27 = some (4, 2) := by decide +kernel
theorem q68_206 : xfR (xmk 68) 206 = some (0, 11) := by decide +kernel
theorem mr_68 : xmr 68 = some .int := by decide +kernel
theorem ks_1500 : (Int16.ofInt 1500).toInt32 = 1500 := by decide +kernel
theorem q69_54 : xcR (xmk 69) 54 = some (xmk 69, 54, 94, 1, (325, 326, 0)) := yqr_ok (by decide +kernel)
theorem q69_58 : xcR (xmk 69) 58 = some (xmk 69, 58, 92, 1, (522, 523, 0)) := yqr_ok (by decide +kernel)
theorem q69_19 : xfR (xmk 69) 19 = some (4, 1) := by decide +kernel
theorem q69_103 : xcR (xmk 69) 103 = some (xmk 69, 103, 45, 0, (562, 563, 564)) := yqr_ok (by decide +kernel)
theorem q69_209 : xcR (xmk 69) 209 = some (xmk 69, 209, 42, 0, (757, 758, 759)) := yqr_ok (by decide +kernel)
theorem mk_42 : xmk 42 = 3 := by decide +kernel
theorem mr_69 : xmr 69 = some .int := by decide +kernel
theorem q70_212 : xcR (xmk 70) 212 = some (xmk 70, 212, 89, 0, (704, 706, 23)) := yqr_ok (by decide +kernel)
theorem s_t_7 : (ysh 7).1 = 100 + 4 := by decide +kernel
theorem mk_89 : xmk 89 = 4 := by decide +kernel
theorem mr_70 : xmr 70 = some .int := by decide +kernel
theorem q71_212 : xcR (xmk 71) 212 = some (xmk 71, 212, 89, 0, (704, 706, 23)) := yqr_ok (by decide +kernel)
theorem mr_71 : xmr 71 = some .int := by decide +kernel
theorem q72_27 : xfR (xmk 72) 27 = some (4, 2) := by decide +kernel
theorem q72_212 : xcR (xmk 72) 212 = some (xmk 72, 212, 89, 0, (704, 706, 23)) := yqr_ok (by decide +kernel)
theorem q72_99 : xcR (xmk 72) 99 = some (xmk 72, 99, 15, 0, (541, 542, 543)) := yqr_ok (by decide +kernel)
theorem mr_72 : xmr 72 = some .int := by decide +kernel
theorem q73_216 : xcR (xmk 73) 216 = some (xmk 73, 216, 98, 1, (735, 642, 0)) := yqr_ok (by decide +kernel)
theorem q73_212 : xcR (xmk 73) 212 = some (xmk 73, 212, 89, 0, (704, 706, 23)) := yqr_ok (by decide +kernel)
theorem mr_73 : xmr 73 = some .int := by decide +kernel
theorem q74_212 : xcR (xmk 74) 212 = some (xmk 74, 212, 89, 0, (704, 706, 23)) := yqr_ok (by decide +kernel)
theorem mr_74 : xmr 74 = some .int := by decide +kernel
theorem q75_216 : xcR (xmk 75) 216 = some (xmk 75, 216, 98, 1, (735, 642, 0)) := yqr_ok (by decide +kernel)
theorem q75_212 : xcR (xmk 75) 212 = some (xmk 75, 212, 89, 0, (704, 706, 23)) := yqr_ok (by decide +kernel)
theorem mr_75 : xmr 75 = some .int := by decide +kernel
theorem q76_216 : xcR (xmk 76) 216 = some (xmk 76, 216, 98, 1, (735, 642, 0)) := yqr_ok (by decide +kernel)
theorem q76_212 : xcR (xmk 76) 212 = some (xmk 76, 212, 89, 0, (704, 706, 23)) := yqr_ok (by decide +kernel)
theorem mr_76 : xmr 76 = some .int := by decide +kernel
theorem q77_212 : xcR (xmk 77) 212 = some (xmk 77, 212, 89, 0, (704, 706, 23)) := yqr_ok (by decide +kernel)
theorem mr_77 : xmr 77 = some .int := by decide +kernel
theorem q78_212 : xcR (xmk 78) 212 = some (xmk 78, 212, 89, 0, (704, 706, 23)) := yqr_ok (by decide +kernel)
theorem mr_78 : xmr 78 = some .int := by decide +kernel
theorem q79_39 : xfR (xmk 79) 39 = some (4, 5) := by decide +kernel
theorem q79_220 : xfR (xmk 79) 220 = some (2, 2) := by decide +kernel
theorem q79_66 : xcR (xmk 79) 66 = some (xmk 79, 66, 93, 1, (388, 389, 0)) := yqr_ok (by decide +kernel)
theorem q79_27 : xfR (xmk 79) 27 = some (4, 2) := by decide +kernel
theorem q79_223 : xcR (xmk 79) 223 = some (xmk 79, 223, 37, 0, (907, 908, 909)) := yqr_ok (by decide +kernel)
theorem mk_37 : xmk 37 = 2 := by decide +kernel
theorem mr_79 : xmr 79 = some .int := by decide +kernel
theorem q80_197 : xcR (xmk 80) 197 = some (xmk 80, 197, 95, 1, (661, 323, 0)) := yqr_ok (by decide +kernel)
theorem q80_126 : xcR (xmk 80) 126 = some (xmk 80, 126, 91, 1, (479, 480, 0)) := yqr_ok (by decide +kernel)
theorem q80_54 : xcR (xmk 80) 54 = some (xmk 80, 54, 94, 1, (325, 326, 0)) := yqr_ok (by decide +kernel)
theorem q80_58 : xcR (xmk 80) 58 = some (xmk 80, 58, 92, 1, (522, 523, 0)) := yqr_ok (by decide +kernel)
theorem q80_33 : xfR (xmk 80) 33 = some (4, 4) := by decide +kernel
theorem q80_27 : xfR (xmk 80) 27 = some (4, 2) := by decide +kernel
theorem q80_77 : xcR (xmk 80) 77 = some (xmk 80, 77, 2, 0, (459, 460, 461)) := yqr_ok (by decide +kernel)
theorem q80_200 : xfR (xmk 80) 200 = some (0, 10) := by decide +kernel
theorem q80_30 : xfR (xmk 80) 30 = some (4, 3) := by decide +kernel
theorem yP26 : yP 26 := by show 26 ∈ ([10, 26] : List Nat); decide +kernel
theorem s_r_7_3 : ySr 7 4 3 26 := by unfold ySr; decide +kernel
theorem q80_103 : xcR (xmk 80) 103 = some (xmk 80, 103, 45, 0, (562, 563, 564)) := yqr_ok (by decide +kernel)
theorem q80_106 : xfR (xmk 80) 106 = some (3, 8) := by decide +kernel
theorem mr_80 : xmr 80 = some .int := by decide +kernel
theorem q80_109 : xfR (xmk 80) 109 = some (3, 7) := by decide +kernel
theorem q81_54 : xcR (xmk 81) 54 = some (xmk 81, 54, 94, 1, (325, 326, 0)) := yqr_ok (by decide +kernel)
theorem q81_58 : xcR (xmk 81) 58 = some (xmk 81, 58, 92, 1, (522, 523, 0)) := yqr_ok (by decide +kernel)
theorem q81_27 : xfR (xmk 81) 27 = some (4, 2) := by decide +kernel
theorem q81_99 : xcR (xmk 81) 99 = some (xmk 81, 99, 15, 0, (541, 542, 543)) := yqr_ok (by decide +kernel)
theorem mr_81 : xmr 81 = some .int := by decide +kernel
theorem q81_226 : xcR (xmk 81) 226 = some (xmk 81, 226, 16, 0, (815, 816, 817)) := yqr_ok (by decide +kernel)
theorem mk_16 : xmk 16 = 0 := by decide +kernel
theorem q82_27 : xfR (xmk 82) 27 = some (4, 2) := by decide +kernel
theorem q82_150 : xcR (xmk 82) 150 = some (xmk 82, 150, 4, 0, (685, 346, 347)) := yqr_ok (by decide +kernel)
theorem q82_126 : xcR (xmk 82) 126 = some (xmk 82, 126, 91, 1, (479, 480, 0)) := yqr_ok (by decide +kernel)
theorem q82_19 : xfR (xmk 82) 19 = some (4, 1) := by decide +kernel
theorem q82_103 : xcR (xmk 82) 103 = some (xmk 82, 103, 45, 0, (562, 563, 564)) := yqr_ok (by decide +kernel)
theorem q82_177 : xfR (xmk 82) 177 = some (3, 1) := by decide +kernel
theorem mr_82 : xmr 82 = some .int := by decide +kernel
theorem q82_33 : xfR (xmk 82) 33 = some (4, 4) := by decide +kernel
theorem q82_77 : xcR (xmk 82) 77 = some (xmk 82, 77, 2, 0, (459, 460, 461)) := yqr_ok (by decide +kernel)
theorem kb_60 : (Int8.ofInt 60).toInt32 = 60 := by decide +kernel
theorem q82_153 : xfR (xmk 82) 153 = some (0, 5) := by decide +kernel
theorem q82_30 : xfR (xmk 82) 30 = some (4, 3) := by decide +kernel
theorem q82_106 : xfR (xmk 82) 106 = some (3, 8) := by decide +kernel
theorem q83_33 : xfR (xmk 83) 33 = some (4, 4) := by decide +kernel
theorem q83_27 : xfR (xmk 83) 27 = some (4, 2) := by decide +kernel
theorem q83_77 : xcR (xmk 83) 77 = some (xmk 83, 77, 2, 0, (459, 460, 461)) := yqr_ok (by decide +kernel)
theorem q83_206 : xfR (xmk 83) 206 = some (0, 11) := by decide +kernel
theorem q83_30 : xfR (xmk 83) 30 = some (4, 3) := by decide +kernel
theorem q83_103 : xcR (xmk 83) 103 = some (xmk 83, 103, 45, 0, (562, 563, 564)) := yqr_ok (by decide +kernel)
theorem q83_109 : xfR (xmk 83) 109 = some (3, 7) := by decide +kernel
theorem q83_106 : xfR (xmk 83) 106 = some (3, 8) := by decide +kernel
theorem mr_83 : xmr 83 = some .int := by decide +kernel
theorem q84_54 : xcR (xmk 84) 54 = some (xmk 84, 54, 94, 1, (325, 326, 0)) := yqr_ok (by decide +kernel)
theorem q84_58 : xcR (xmk 84) 58 = some (xmk 84, 58, 92, 1, (522, 523, 0)) := yqr_ok (by decide +kernel)
theorem q84_27 : xfR (xmk 84) 27 = some (4, 2) := by decide +kernel
theorem q84_226 : xcR (xmk 84) 226 = some (xmk 84, 226, 16, 0, (815, 816, 817)) := yqr_ok (by decide +kernel)
theorem mr_84 : xmr 84 = some .int := by decide +kernel
theorem q85_54 : xcR (xmk 85) 54 = some (xmk 85, 54, 94, 1, (325, 326, 0)) := yqr_ok (by decide +kernel)
theorem q85_58 : xcR (xmk 85) 58 = some (xmk 85, 58, 92, 1, (522, 523, 0)) := yqr_ok (by decide +kernel)
theorem kl_1 : Int64.ofNat ((1 : Fin 2) : Nat) = 1 := by decide +kernel
theorem q85_229 : xcL (xmk 85) 229 = some 1000000 := by decide +kernel
theorem kl_0 : Int64.ofNat ((0 : Fin 2) : Nat) = 0 := by decide +kernel
theorem q85_33 : xfR (xmk 85) 33 = some (4, 4) := by decide +kernel
theorem q85_27 : xfR (xmk 85) 27 = some (4, 2) := by decide +kernel
theorem q85_77 : xcR (xmk 85) 77 = some (xmk 85, 77, 2, 0, (459, 460, 461)) := yqr_ok (by decide +kernel)
theorem nzJ_1000000 : (1000000 : Int64) ≠ 0 := by decide +kernel
theorem q85_30 : xfR (xmk 85) 30 = some (4, 3) := by decide +kernel
theorem q85_103 : xcR (xmk 85) 103 = some (xmk 85, 103, 45, 0, (562, 563, 564)) := yqr_ok (by decide +kernel)
theorem q85_231 : xcR (xmk 85) 231 = some (xmk 85, 231, 101, 0, (844, 846, 25)) := yqr_ok (by decide +kernel)
theorem mk_101 : xmk 101 = 4 := by decide +kernel
theorem mr_85 : xmr 85 = some .int := by decide +kernel
theorem q86_54 : xcR (xmk 86) 54 = some (xmk 86, 54, 94, 1, (325, 326, 0)) := yqr_ok (by decide +kernel)
theorem q86_58 : xcR (xmk 86) 58 = some (xmk 86, 58, 92, 1, (522, 523, 0)) := yqr_ok (by decide +kernel)
theorem q86_33 : xfR (xmk 86) 33 = some (4, 4) := by decide +kernel
theorem q86_27 : xfR (xmk 86) 27 = some (4, 2) := by decide +kernel
theorem q86_77 : xcR (xmk 86) 77 = some (xmk 86, 77, 2, 0, (459, 460, 461)) := yqr_ok (by decide +kernel)
theorem q86_234 : xcL (xmk 86) 234 = some 6364136223846793005 := by decide +kernel
theorem q86_236 : xcL (xmk 86) 236 = some 1442695040888963407 := by decide +kernel
theorem kb_33 : (Int8.ofInt 33).toInt32 = 33 := by decide +kernel
theorem nzI_8 : (8 : Int32) ≠ 0 := by decide +kernel
theorem q86_238 : xcR (xmk 86) 238 = some (xmk 86, 238, 104, 0, (868, 870, 28)) := yqr_ok (by decide +kernel)
theorem mk_104 : xmk 104 = 4 := by decide +kernel
theorem q86_30 : xfR (xmk 86) 30 = some (4, 3) := by decide +kernel
theorem q86_103 : xcR (xmk 86) 103 = some (xmk 86, 103, 45, 0, (562, 563, 564)) := yqr_ok (by decide +kernel)
theorem q86_96 : xfR (xmk 86) 96 = some (0, 3) := by decide +kernel
theorem q86_99 : xcR (xmk 86) 99 = some (xmk 86, 99, 15, 0, (541, 542, 543)) := yqr_ok (by decide +kernel)
theorem ks_1000 : (Int16.ofInt 1000).toInt32 = 1000 := by decide +kernel
theorem q86_106 : xfR (xmk 86) 106 = some (3, 8) := by decide +kernel
theorem q86_109 : xfR (xmk 86) 109 = some (3, 7) := by decide +kernel
theorem mr_86 : xmr 86 = some .int := by decide +kernel
theorem q87_242 : xcR (xmk 87) 242 = some (xmk 87, 242, 97, 1, (476, 477, 0)) := yqr_ok (by decide +kernel)
theorem q87_126 : xcR (xmk 87) 126 = some (xmk 87, 126, 91, 1, (479, 480, 0)) := yqr_ok (by decide +kernel)
theorem q87_46 : xfR (xmk 87) 46 = some (4, 6) := by decide +kernel
theorem s_r_7_6 : ySr 7 4 6 170 := by unfold ySr; decide +kernel
theorem q87_27 : xfR (xmk 87) 27 = some (4, 2) := by decide +kernel
theorem q87_77 : xcR (xmk 87) 77 = some (xmk 87, 77, 2, 0, (459, 460, 461)) := yqr_ok (by decide +kernel)
theorem q87_50 : xfR (xmk 87) 50 = some (4, 7) := by decide +kernel
theorem q87_90 : xfR (xmk 87) 90 = some (0, 1) := by decide +kernel
theorem mr_87 : xmr 87 = some .int := by decide +kernel
theorem q88_242 : xcR (xmk 88) 242 = some (xmk 88, 242, 97, 1, (476, 477, 0)) := yqr_ok (by decide +kernel)
theorem q88_126 : xcR (xmk 88) 126 = some (xmk 88, 126, 91, 1, (479, 480, 0)) := yqr_ok (by decide +kernel)
theorem q88_50 : xfR (xmk 88) 50 = some (4, 7) := by decide +kernel
theorem q88_66 : xcR (xmk 88) 66 = some (xmk 88, 66, 93, 1, (388, 389, 0)) := yqr_ok (by decide +kernel)
theorem q88_27 : xfR (xmk 88) 27 = some (4, 2) := by decide +kernel
theorem q88_46 : xfR (xmk 88) 46 = some (4, 6) := by decide +kernel
theorem q88_77 : xcR (xmk 88) 77 = some (xmk 88, 77, 2, 0, (459, 460, 461)) := yqr_ok (by decide +kernel)
theorem q88_39 : xfR (xmk 88) 39 = some (4, 5) := by decide +kernel
theorem q88_81 : xcR (xmk 88) 81 = some (xmk 88, 81, 38, 0, (463, 464, 465)) := yqr_ok (by decide +kernel)
theorem q88_90 : xfR (xmk 88) 90 = some (0, 1) := by decide +kernel
theorem mr_88 : xmr 88 = some .int := by decide +kernel
theorem q89_27 : xfR (xmk 89) 27 = some (4, 2) := by decide +kernel
theorem q89_245 : xcR (xmk 89) 245 = some (xmk 89, 245, 6, 0, (708, 337, 338)) := yqr_ok (by decide +kernel)
theorem q89_248 : xcR (xmk 89) 248 = some (xmk 89, 248, 90, 1, (709, 710, 0)) := yqr_ok (by decide +kernel)
theorem q89_39 : xfR (xmk 89) 39 = some (4, 5) := by decide +kernel
theorem q89_252 : xcR (xmk 89) 252 = some (xmk 89, 252, 36, 0, (712, 713, 714)) := yqr_ok (by decide +kernel)
theorem mk_36 : xmk 36 = 2 := by decide +kernel
theorem q89_255 : xcR (xmk 89) 255 = some (xmk 89, 255, 8, 0, (720, 369, 370)) := yqr_ok (by decide +kernel)
theorem mr_89 : xmr 89 = some .int := by decide +kernel
theorem q90_126 : xcR (xmk 90) 126 = some (xmk 90, 126, 91, 1, (479, 480, 0)) := yqr_ok (by decide +kernel)
theorem q90_58 : xcR (xmk 90) 58 = some (xmk 90, 58, 92, 1, (522, 523, 0)) := yqr_ok (by decide +kernel)
theorem q90_66 : xcR (xmk 90) 66 = some (xmk 90, 66, 93, 1, (388, 389, 0)) := yqr_ok (by decide +kernel)
theorem mr_90 : xmr 90 = none := by decide +kernel
theorem mr_91 : xmr 91 = none := by decide +kernel
theorem mr_92 : xmr 92 = none := by decide +kernel
theorem mr_93 : xmr 93 = none := by decide +kernel
theorem mr_94 : xmr 94 = some .boolean := by decide +kernel
theorem q95_54 : xcR (xmk 95) 54 = some (xmk 95, 54, 94, 1, (325, 326, 0)) := yqr_ok (by decide +kernel)
theorem mr_95 : xmr 95 = some .boolean := by decide +kernel
theorem q96_54 : xcR (xmk 96) 54 = some (xmk 96, 54, 94, 1, (325, 326, 0)) := yqr_ok (by decide +kernel)
theorem mr_96 : xmr 96 = some .boolean := by decide +kernel
theorem q97_54 : xcR (xmk 97) 54 = some (xmk 97, 54, 94, 1, (325, 326, 0)) := yqr_ok (by decide +kernel)
theorem mr_97 : xmr 97 = some .boolean := by decide +kernel
theorem mr_98 : xmr 98 = some .int := by decide +kernel
theorem mr_99 : xmr 99 = some .boolean := by decide +kernel
theorem mr_100 : xmr 100 = some .int := by decide +kernel
theorem nzI_1000 : (1000 : Int32) ≠ 0 := by decide +kernel
theorem kb_100 : (Int8.ofInt 100).toInt32 = 100 := by decide +kernel
theorem nzI_100 : (100 : Int32) ≠ 0 := by decide +kernel
theorem q101_275 : xcI (xmk 101) 275 = some 100000 := by decide +kernel
theorem nzI_100000 : (100000 : Int32) ≠ 0 := by decide +kernel
theorem q101_33 : xfR (xmk 101) 33 = some (4, 4) := by decide +kernel
theorem q101_276 : xcR (xmk 101) 276 = some (xmk 101, 276, 5, 0, (849, 333, 334)) := yqr_ok (by decide +kernel)
theorem mr_101 : xmr 101 = some .boolean := by decide +kernel
theorem q101_280 : xcR (xmk 101) 280 = some (xmk 101, 280, 102, 0, (850, 852, 26)) := yqr_ok (by decide +kernel)
theorem mk_102 : xmk 102 = 4 := by decide +kernel
theorem q101_30 : xfR (xmk 101) 30 = some (4, 3) := by decide +kernel
theorem q101_106 : xfR (xmk 101) 106 = some (3, 8) := by decide +kernel
theorem q101_284 : xcR (xmk 101) 284 = some (xmk 101, 284, 103, 0, (854, 856, 27)) := yqr_ok (by decide +kernel)
theorem mk_103 : xmk 103 = 4 := by decide +kernel
theorem kc_9 : Int32.ofInt 9 = 9 := by decide +kernel
theorem q101_109 : xfR (xmk 101) 109 = some (3, 7) := by decide +kernel
theorem q102_33 : xfR (xmk 102) 33 = some (4, 4) := by decide +kernel
theorem q102_150 : xcR (xmk 102) 150 = some (xmk 102, 150, 4, 0, (685, 346, 347)) := yqr_ok (by decide +kernel)
theorem mr_102 : xmr 102 = some .boolean := by decide +kernel
theorem q102_30 : xfR (xmk 102) 30 = some (4, 3) := by decide +kernel
theorem q102_177 : xfR (xmk 102) 177 = some (3, 1) := by decide +kernel
theorem q103_33 : xfR (xmk 103) 33 = some (4, 4) := by decide +kernel
theorem q103_122 : xcR (xmk 103) 122 = some (xmk 103, 122, 3, 0, (669, 350, 351)) := yqr_ok (by decide +kernel)
theorem mr_103 : xmr 103 = some .boolean := by decide +kernel
theorem q103_96 : xfR (xmk 103) 96 = some (0, 3) := by decide +kernel
theorem q103_140 : xcR (xmk 103) 140 = some (xmk 103, 140, 14, 0, (672, 546, 547)) := yqr_ok (by decide +kernel)
theorem q104_33 : xfR (xmk 104) 33 = some (4, 4) := by decide +kernel
theorem ks_5000 : (Int16.ofInt 5000).toInt32 = 5000 := by decide +kernel
theorem nzI_5000 : (5000 : Int32) ≠ 0 := by decide +kernel
theorem q104_276 : xcR (xmk 104) 276 = some (xmk 104, 276, 5, 0, (849, 333, 334)) := yqr_ok (by decide +kernel)
theorem mr_104 : xmr 104 = none := by decide +kernel
theorem kb_40 : (Int8.ofInt 40).toInt32 = 40 := by decide +kernel
theorem nzI_40 : (40 : Int32) ≠ 0 := by decide +kernel
theorem kb_64 : (Int8.ofInt 64).toInt32 = 64 := by decide +kernel
theorem nzI_64 : (64 : Int32) ≠ 0 := by decide +kernel
theorem nzI_5 : (5 : Int32) ≠ 0 := by decide +kernel
theorem ks_512 : (Int16.ofInt 512).toInt32 = 512 := by decide +kernel
theorem nzI_512 : (512 : Int32) ≠ 0 := by decide +kernel
theorem nzI_2 : (2 : Int32) ≠ 0 := by decide +kernel
theorem nzI_14 : (14 : Int32) ≠ 0 := by decide +kernel
theorem kb_16 : (Int8.ofInt 16).toInt32 = 16 := by decide +kernel
theorem nzI_16 : (16 : Int32) ≠ 0 := by decide +kernel
theorem nzI_12 : (12 : Int32) ≠ 0 := by decide +kernel
theorem ks_256 : (Int16.ofInt 256).toInt32 = 256 := by decide +kernel
theorem nzI_256 : (256 : Int32) ≠ 0 := by decide +kernel
theorem nzI_4 : (4 : Int32) ≠ 0 := by decide +kernel
theorem q104_216 : xcR (xmk 104) 216 = some (xmk 104, 216, 98, 1, (735, 642, 0)) := yqr_ok (by decide +kernel)
theorem nzI_24 : (24 : Int32) ≠ 0 := by decide +kernel
theorem ks_128 : (Int16.ofInt 128).toInt32 = 128 := by decide +kernel
theorem nzI_128 : (128 : Int32) ≠ 0 := by decide +kernel
theorem q144_265 : xcI (xmk 144) 265 = some 1431655765 := by decide +kernel
theorem q144_266 : xcI (xmk 144) 266 = some 858993459 := by decide +kernel
theorem q144_267 : xcI (xmk 144) 267 = some 252645135 := by decide +kernel
theorem kb_63 : (Int8.ofInt 63).toInt32 = 63 := by decide +kernel
theorem mr_144 : xmr 144 = some .int := by decide +kernel
theorem q105_8 : xcI (xmk 105) 8 = some 2147483647 := by decide +kernel
theorem mr_105 : xmr 105 = some .int := by decide +kernel
theorem q105_7 : xcI (xmk 105) 7 = some 15594227 := by decide +kernel
theorem ks_10799 : (Int16.ofInt 10799).toInt32 = 10799 := by decide +kernel
theorem mr_106 : xmr 106 = some .boolean := by decide +kernel
theorem q107_9 : xcR (xmk 107) 9 = some (xmk 107, 9, 58, 0, (875, 876, 877)) := yqr_ok (by decide +kernel)
theorem mk_58 : xmk 58 = 4 := by decide +kernel
theorem mr_107 : xmr 107 = some .long := by decide +kernel
theorem hx107_1 : xHd 107 2 1 = some (8, 2) := by decide +kernel
theorem q107_17 : xcL (xmk 107) 17 = some (-9000000000000000002) := by decide +kernel
theorem hx107_2 : xHd 107 2 2 = some (13, 2) := by decide +kernel
theorem q107_21 : xcL (xmk 107) 21 = some (-9000000000000000003) := by decide +kernel
theorem q108_23 : xcR (xmk 108) 23 = some (xmk 108, 23, 61, 0, (271, 272, 273)) := yqr_ok (by decide +kernel)
theorem mk_61 : xmk 61 = 4 := by decide +kernel
theorem mr_108 : xmr 108 = some .long := by decide +kernel
theorem hx108_2 : xHd 108 1 2 = some (7, 1) := by decide +kernel
theorem q108_21 : xcL (xmk 108) 21 = some (-9000000000000000003) := by decide +kernel
theorem q109_27 : xcR (xmk 109) 27 = some (xmk 109, 27, 62, 0, (518, 519, 520)) := yqr_ok (by decide +kernel)
theorem mk_62 : xmk 62 = 4 := by decide +kernel
theorem mr_109 : xmr 109 = some .long := by decide +kernel
theorem hx109_1 : xHd 109 2 1 = some (8, 2) := by decide +kernel
theorem q109_17 : xcL (xmk 109) 17 = some (-9000000000000000002) := by decide +kernel
theorem q110_30 : xcR (xmk 110) 30 = some (xmk 110, 30, 63, 0, (665, 666, 667)) := yqr_ok (by decide +kernel)
theorem mk_63 : xmk 63 = 4 := by decide +kernel
theorem mr_110 : xmr 110 = some .long := by decide +kernel
theorem hx110_0 : xHd 110 3 0 = some (9, 3) := by decide +kernel
theorem q110_36 : xcL (xmk 110) 36 = some (-9000000000000000001) := by decide +kernel
theorem hx110_1 : xHd 110 3 1 = some (14, 3) := by decide +kernel
theorem q110_17 : xcL (xmk 110) 17 = some (-9000000000000000002) := by decide +kernel
theorem q111_38 : xcR (xmk 111) 38 = some (xmk 111, 38, 64, 0, (693, 694, 695)) := yqr_ok (by decide +kernel)
theorem mk_64 : xmk 64 = 4 := by decide +kernel
theorem mr_111 : xmr 111 = some .long := by decide +kernel
theorem hx111_0 : xHd 111 3 0 = some (9, 3) := by decide +kernel
theorem q111_36 : xcL (xmk 111) 36 = some (-9000000000000000001) := by decide +kernel
theorem hx111_1 : xHd 111 3 1 = some (14, 3) := by decide +kernel
theorem q111_17 : xcL (xmk 111) 17 = some (-9000000000000000002) := by decide +kernel
theorem q112_41 : xcR (xmk 112) 41 = some (xmk 112, 41, 65, 0, (681, 682, 683)) := yqr_ok (by decide +kernel)
theorem mk_65 : xmk 65 = 4 := by decide +kernel
theorem mr_112 : xmr 112 = some .long := by decide +kernel
theorem hx112_0 : xHd 112 3 0 = some (9, 3) := by decide +kernel
theorem q112_36 : xcL (xmk 112) 36 = some (-9000000000000000001) := by decide +kernel
theorem hx112_1 : xHd 112 3 1 = some (14, 3) := by decide +kernel
theorem q112_17 : xcL (xmk 112) 17 = some (-9000000000000000002) := by decide +kernel
theorem q113_44 : xcR (xmk 113) 44 = some (xmk 113, 44, 66, 0, (746, 747, 748)) := yqr_ok (by decide +kernel)
theorem mk_66 : xmk 66 = 4 := by decide +kernel
theorem mr_113 : xmr 113 = some .long := by decide +kernel
theorem hx113_0 : xHd 113 2 0 = some (8, 2) := by decide +kernel
theorem q113_36 : xcL (xmk 113) 36 = some (-9000000000000000001) := by decide +kernel
theorem q114_47 : xcR (xmk 114) 47 = some (xmk 114, 47, 67, 0, (657, 658, 659)) := yqr_ok (by decide +kernel)
theorem mk_67 : xmk 67 = 4 := by decide +kernel
theorem mr_114 : xmr 114 = some .long := by decide +kernel
theorem hx114_0 : xHd 114 2 0 = some (8, 2) := by decide +kernel
theorem q114_36 : xcL (xmk 114) 36 = some (-9000000000000000001) := by decide +kernel
theorem q115_50 : xcR (xmk 115) 50 = some (xmk 115, 50, 68, 0, (648, 649, 650)) := yqr_ok (by decide +kernel)
theorem mk_68 : xmk 68 = 4 := by decide +kernel
theorem mr_115 : xmr 115 = some .long := by decide +kernel
theorem hx115_1 : xHd 115 2 1 = some (8, 2) := by decide +kernel
theorem q115_17 : xcL (xmk 115) 17 = some (-9000000000000000002) := by decide +kernel
theorem q116_53 : xcR (xmk 116) 53 = some (xmk 116, 53, 69, 0, (753, 754, 755)) := yqr_ok (by decide +kernel)
theorem mk_69 : xmk 69 = 4 := by decide +kernel
theorem mr_116 : xmr 116 = some .long := by decide +kernel
theorem hx116_1 : xHd 116 3 1 = some (9, 3) := by decide +kernel
theorem q116_17 : xcL (xmk 116) 17 = some (-9000000000000000002) := by decide +kernel
theorem q117_56 : xcR (xmk 117) 56 = some (xmk 117, 56, 70, 0, (769, 770, 771)) := yqr_ok (by decide +kernel)
theorem mk_70 : xmk 70 = 4 := by decide +kernel
theorem mr_117 : xmr 117 = some .long := by decide +kernel
theorem hx117_1 : xHd 117 2 1 = some (8, 2) := by decide +kernel
theorem q117_17 : xcL (xmk 117) 17 = some (-9000000000000000002) := by decide +kernel
theorem hx117_2 : xHd 117 2 2 = some (13, 2) := by decide +kernel
theorem q117_21 : xcL (xmk 117) 21 = some (-9000000000000000003) := by decide +kernel
theorem q118_59 : xcR (xmk 118) 59 = some (xmk 118, 59, 71, 0, (700, 701, 702)) := yqr_ok (by decide +kernel)
theorem mk_71 : xmk 71 = 4 := by decide +kernel
theorem mr_118 : xmr 118 = some .long := by decide +kernel
theorem hx118_0 : xHd 118 3 0 = some (9, 3) := by decide +kernel
theorem q118_36 : xcL (xmk 118) 36 = some (-9000000000000000001) := by decide +kernel
theorem hx118_1 : xHd 118 3 1 = some (14, 3) := by decide +kernel
theorem q118_17 : xcL (xmk 118) 17 = some (-9000000000000000002) := by decide +kernel
theorem q119_62 : xcR (xmk 119) 62 = some (xmk 119, 62, 72, 0, (776, 777, 778)) := yqr_ok (by decide +kernel)
theorem mk_72 : xmk 72 = 4 := by decide +kernel
theorem mr_119 : xmr 119 = some .long := by decide +kernel
theorem hx119_1 : xHd 119 3 1 = some (9, 3) := by decide +kernel
theorem q119_17 : xcL (xmk 119) 17 = some (-9000000000000000002) := by decide +kernel
theorem q120_65 : xcR (xmk 120) 65 = some (xmk 120, 65, 73, 0, (783, 784, 785)) := yqr_ok (by decide +kernel)
theorem mk_73 : xmk 73 = 4 := by decide +kernel
theorem mr_120 : xmr 120 = some .long := by decide +kernel
theorem hx120_1 : xHd 120 4 1 = some (11, 4) := by decide +kernel
theorem q120_17 : xcL (xmk 120) 17 = some (-9000000000000000002) := by decide +kernel
theorem hx120_2 : xHd 120 4 2 = some (17, 4) := by decide +kernel
theorem q120_21 : xcL (xmk 120) 21 = some (-9000000000000000003) := by decide +kernel
theorem q121_69 : xcR (xmk 121) 69 = some (xmk 121, 69, 74, 0, (724, 725, 726)) := yqr_ok (by decide +kernel)
theorem mk_74 : xmk 74 = 4 := by decide +kernel
theorem mr_121 : xmr 121 = some .long := by decide +kernel
theorem hx121_0 : xHd 121 3 0 = some (9, 3) := by decide +kernel
theorem q121_36 : xcL (xmk 121) 36 = some (-9000000000000000001) := by decide +kernel
theorem hx121_1 : xHd 121 3 1 = some (14, 3) := by decide +kernel
theorem q121_17 : xcL (xmk 121) 17 = some (-9000000000000000002) := by decide +kernel
theorem q122_72 : xcR (xmk 122) 72 = some (xmk 122, 72, 75, 0, (739, 740, 741)) := yqr_ok (by decide +kernel)
theorem mk_75 : xmk 75 = 4 := by decide +kernel
theorem mr_122 : xmr 122 = some .long := by decide +kernel
theorem hx122_0 : xHd 122 4 0 = some (11, 4) := by decide +kernel
theorem q122_36 : xcL (xmk 122) 36 = some (-9000000000000000001) := by decide +kernel
theorem q123_75 : xcR (xmk 123) 75 = some (xmk 123, 75, 76, 0, (731, 732, 733)) := yqr_ok (by decide +kernel)
theorem mk_76 : xmk 76 = 4 := by decide +kernel
theorem mr_123 : xmr 123 = some .long := by decide +kernel
theorem hx123_0 : xHd 123 4 0 = some (11, 4) := by decide +kernel
theorem q123_36 : xcL (xmk 123) 36 = some (-9000000000000000001) := by decide +kernel
theorem hx123_2 : xHd 123 4 2 = some (17, 4) := by decide +kernel
theorem q123_21 : xcL (xmk 123) 21 = some (-9000000000000000003) := by decide +kernel
theorem q124_78 : xcR (xmk 124) 78 = some (xmk 124, 78, 77, 0, (790, 791, 792)) := yqr_ok (by decide +kernel)
theorem mk_77 : xmk 77 = 4 := by decide +kernel
theorem mr_124 : xmr 124 = some .long := by decide +kernel
theorem hx124_0 : xHd 124 3 0 = some (9, 3) := by decide +kernel
theorem q124_36 : xcL (xmk 124) 36 = some (-9000000000000000001) := by decide +kernel
theorem hx124_1 : xHd 124 3 1 = some (14, 3) := by decide +kernel
theorem q124_17 : xcL (xmk 124) 17 = some (-9000000000000000002) := by decide +kernel
theorem q125_81 : xcR (xmk 125) 81 = some (xmk 125, 81, 78, 0, (797, 798, 799)) := yqr_ok (by decide +kernel)
theorem mk_78 : xmk 78 = 4 := by decide +kernel
theorem mr_125 : xmr 125 = some .long := by decide +kernel
theorem hx125_1 : xHd 125 3 1 = some (9, 3) := by decide +kernel
theorem q125_17 : xcL (xmk 125) 17 = some (-9000000000000000002) := by decide +kernel
theorem q126_84 : xcR (xmk 126) 84 = some (xmk 126, 84, 79, 0, (903, 904, 905)) := yqr_ok (by decide +kernel)
theorem mk_79 : xmk 79 = 4 := by decide +kernel
theorem mr_126 : xmr 126 = some .long := by decide +kernel
theorem hx126_2 : xHd 126 1 2 = some (7, 1) := by decide +kernel
theorem q126_21 : xcL (xmk 126) 21 = some (-9000000000000000003) := by decide +kernel
theorem q127_87 : xcR (xmk 127) 87 = some (xmk 127, 87, 80, 0, (804, 805, 806)) := yqr_ok (by decide +kernel)
theorem mk_80 : xmk 80 = 4 := by decide +kernel
theorem mr_127 : xmr 127 = some .long := by decide +kernel
theorem hx127_0 : xHd 127 3 0 = some (9, 3) := by decide +kernel
theorem q127_36 : xcL (xmk 127) 36 = some (-9000000000000000001) := by decide +kernel
theorem hx127_1 : xHd 127 3 1 = some (14, 3) := by decide +kernel
theorem q127_17 : xcL (xmk 127) 17 = some (-9000000000000000002) := by decide +kernel
theorem q128_90 : xcR (xmk 128) 90 = some (xmk 128, 90, 81, 0, (811, 812, 813)) := yqr_ok (by decide +kernel)
theorem mk_81 : xmk 81 = 4 := by decide +kernel
theorem mr_128 : xmr 128 = some .long := by decide +kernel
theorem hx128_1 : xHd 128 3 1 = some (9, 3) := by decide +kernel
theorem q128_17 : xcL (xmk 128) 17 = some (-9000000000000000002) := by decide +kernel
theorem q129_93 : xcR (xmk 129) 93 = some (xmk 129, 93, 82, 0, (825, 826, 827)) := yqr_ok (by decide +kernel)
theorem mk_82 : xmk 82 = 4 := by decide +kernel
theorem mr_129 : xmr 129 = some .long := by decide +kernel
theorem hx129_0 : xHd 129 2 0 = some (8, 2) := by decide +kernel
theorem q129_36 : xcL (xmk 129) 36 = some (-9000000000000000001) := by decide +kernel
theorem q130_96 : xcR (xmk 130) 96 = some (xmk 130, 96, 84, 0, (832, 833, 834)) := yqr_ok (by decide +kernel)
theorem mk_84 : xmk 84 = 4 := by decide +kernel
theorem mr_130 : xmr 130 = some .long := by decide +kernel
theorem hx130_1 : xHd 130 3 1 = some (9, 3) := by decide +kernel
theorem q130_17 : xcL (xmk 130) 17 = some (-9000000000000000002) := by decide +kernel
theorem q131_99 : xcR (xmk 131) 99 = some (xmk 131, 99, 85, 0, (839, 840, 841)) := yqr_ok (by decide +kernel)
theorem mk_85 : xmk 85 = 4 := by decide +kernel
theorem mr_131 : xmr 131 = some .long := by decide +kernel
theorem hx131_1 : xHd 131 3 1 = some (10, 4) := by decide +kernel
theorem q131_17 : xcL (xmk 131) 17 = some (-9000000000000000002) := by decide +kernel
theorem q132_103 : xcR (xmk 132) 103 = some (xmk 132, 103, 86, 0, (862, 863, 864)) := yqr_ok (by decide +kernel)
theorem mk_86 : xmk 86 = 4 := by decide +kernel
theorem mr_132 : xmr 132 = some .long := by decide +kernel
theorem hx132_1 : xHd 132 3 1 = some (10, 4) := by decide +kernel
theorem q132_17 : xcL (xmk 132) 17 = some (-9000000000000000002) := by decide +kernel
theorem q133_107 : xcR (xmk 133) 107 = some (xmk 133, 107, 87, 0, (472, 473, 474)) := yqr_ok (by decide +kernel)
theorem mk_87 : xmk 87 = 4 := by decide +kernel
theorem mr_133 : xmr 133 = some .long := by decide +kernel
theorem hx133_0 : xHd 133 2 0 = some (8, 2) := by decide +kernel
theorem q133_36 : xcL (xmk 133) 36 = some (-9000000000000000001) := by decide +kernel
theorem q134_110 : xcR (xmk 134) 110 = some (xmk 134, 110, 88, 0, (502, 503, 504)) := yqr_ok (by decide +kernel)
theorem mk_88 : xmk 88 = 4 := by decide +kernel
theorem mr_134 : xmr 134 = some .long := by decide +kernel
theorem hx134_0 : xHd 134 2 0 = some (8, 2) := by decide +kernel
theorem q134_36 : xcL (xmk 134) 36 = some (-9000000000000000001) := by decide +kernel
theorem hx134_2 : xHd 134 2 2 = some (13, 2) := by decide +kernel
theorem q134_21 : xcL (xmk 134) 21 = some (-9000000000000000003) := by decide +kernel
theorem q135_113 : xcL (xmk 135) 113 = some 127 := by decide +kernel
theorem q135_115 : xcL (xmk 135) 115 = some 31 := by decide +kernel
theorem q135_117 : xcR (xmk 135) 117 = some (xmk 135, 117, 109, 7, (514, 515, 0)) := yqr_ok (by decide +kernel)
theorem mcs_109 : xmc 109 = 1 ∧ xms 109 = 6 := by decide +kernel
theorem mcs_135 : xmc 135 = 400 ∧ xms 135 = 2400 := by decide +kernel
theorem q135_122 : xcR (xmk 135) 122 = some (xmk 135, 122, 115, 7, (645, 646, 0)) := yqr_ok (by decide +kernel)
theorem mcs_115 : xmc 115 = 1 ∧ xms 115 = 6 := by decide +kernel
theorem q135_124 : xcL (xmk 135) 124 = some 97 := by decide +kernel
theorem q135_126 : xcR (xmk 135) 126 = some (xmk 135, 126, 114, 7, (654, 655, 0)) := yqr_ok (by decide +kernel)
theorem mcs_114 : xmc 114 = 1 ∧ xms 114 = 6 := by decide +kernel
theorem q135_128 : xcR (xmk 135) 128 = some (xmk 135, 128, 110, 7, (662, 663, 0)) := yqr_ok (by decide +kernel)
theorem mcs_110 : xmc 110 = 2 ∧ xms 110 = 12 := by decide +kernel
theorem mr_135 : xmr 135 = some .long := by decide +kernel
theorem q135_131 : xcR (xmk 135) 131 = some (xmk 135, 131, 112, 7, (678, 679, 0)) := yqr_ok (by decide +kernel)
theorem mcs_112 : xmc 112 = 2 ∧ xms 112 = 12 := by decide +kernel
theorem q140_183 : xcR (xmk 140) 183 = some (xmk 140, 183, 107, 7, (872, 873, 0)) := yqr_ok (by decide +kernel)
theorem mr_140 : xmr 140 = some .boolean := by decide +kernel
theorem kb_32 : (Int8.ofInt 32).toInt32 = 32 := by decide +kernel
theorem nzI_32 : (32 : Int32) ≠ 0 := by decide +kernel
theorem kc_10 : Int32.ofInt 10 = 10 := by decide +kernel
theorem kc_11 : Int32.ofInt 11 = 11 := by decide +kernel
theorem kc_12 : Int32.ofInt 12 = 12 := by decide +kernel
theorem kc_13 : Int32.ofInt 13 = 13 := by decide +kernel
theorem kc_14 : Int32.ofInt 14 = 14 := by decide +kernel
theorem kc_15 : Int32.ofInt 15 = 15 := by decide +kernel
theorem kc_16 : Int32.ofInt 16 = 16 := by decide +kernel
theorem kc_17 : Int32.ofInt 17 = 17 := by decide +kernel
theorem kc_18 : Int32.ofInt 18 = 18 := by decide +kernel
theorem kc_19 : Int32.ofInt 19 = 19 := by decide +kernel
theorem kc_20 : Int32.ofInt 20 = 20 := by decide +kernel
theorem kc_21 : Int32.ofInt 21 = 21 := by decide +kernel
theorem kc_22 : Int32.ofInt 22 = 22 := by decide +kernel
theorem ks_6000 : (Int16.ofInt 6000).toInt32 = 6000 := by decide +kernel
theorem nzI_6000 : (6000 : Int32) ≠ 0 := by decide +kernel
theorem q142_152 : xcR (xmk 142) 152 = some (xmk 142, 152, 117, 7, (766, 767, 0)) := yqr_ok (by decide +kernel)
theorem mr_142 : xmr 142 = some .long := by decide +kernel
theorem kb_30 : (Int8.ofInt 30).toInt32 = 30 := by decide +kernel
theorem nzI_30 : (30 : Int32) ≠ 0 := by decide +kernel
theorem q142_156 : xcR (xmk 142) 156 = some (xmk 142, 156, 120, 7, (780, 781, 0)) := yqr_ok (by decide +kernel)
theorem q142_154 : xcR (xmk 142) 154 = some (xmk 142, 154, 119, 7, (773, 774, 0)) := yqr_ok (by decide +kernel)
theorem q142_146 : xcR (xmk 142) 146 = some (xmk 142, 146, 122, 7, (736, 737, 0)) := yqr_ok (by decide +kernel)
theorem q142_143 : xcR (xmk 142) 143 = some (xmk 142, 143, 123, 7, (728, 729, 0)) := yqr_ok (by decide +kernel)
theorem q142_158 : xcR (xmk 142) 158 = some (xmk 142, 158, 124, 7, (787, 788, 0)) := yqr_ok (by decide +kernel)
theorem q142_160 : xcR (xmk 142) 160 = some (xmk 142, 160, 125, 7, (794, 795, 0)) := yqr_ok (by decide +kernel)
theorem nzI_90 : (90 : Int32) ≠ 0 := by decide +kernel
theorem q142_141 : xcR (xmk 142) 141 = some (xmk 142, 141, 121, 7, (721, 722, 0)) := yqr_ok (by decide +kernel)
theorem ks_9000 : (Int16.ofInt 9000).toInt32 = 9000 := by decide +kernel
theorem nzI_9000 : (9000 : Int32) ≠ 0 := by decide +kernel
theorem q142_139 : xcR (xmk 142) 139 = some (xmk 142, 139, 118, 7, (697, 698, 0)) := yqr_ok (by decide +kernel)
theorem q142_205 : xcR (xmk 142) 205 = some (xmk 142, 205, 126, 7, (900, 901, 0)) := yqr_ok (by decide +kernel)
theorem q142_179 : xcR (xmk 142) 179 = some (xmk 142, 179, 133, 7, (468, 469, 0)) := yqr_ok (by decide +kernel)
theorem q142_181 : xcR (xmk 142) 181 = some (xmk 142, 181, 134, 7, (499, 500, 0)) := yqr_ok (by decide +kernel)
theorem q136_133 : xcR (xmk 136) 133 = some (xmk 136, 133, 135, 1, (509, 510, 0)) := yqr_ok (by decide +kernel)
theorem mcs_136 : xmc 136 = 1500 ∧ xms 136 = 9000 := by decide +kernel
theorem q136_117 : xcR (xmk 136) 117 = some (xmk 136, 117, 109, 7, (514, 515, 0)) := yqr_ok (by decide +kernel)
theorem q136_17 : xcL (xmk 136) 17 = some (-9000000000000000002) := by decide +kernel
theorem q136_128 : xcR (xmk 136) 128 = some (xmk 136, 128, 110, 7, (662, 663, 0)) := yqr_ok (by decide +kernel)
theorem q136_36 : xcL (xmk 136) 36 = some (-9000000000000000001) := by decide +kernel
theorem q136_137 : xcR (xmk 136) 137 = some (xmk 136, 137, 111, 7, (690, 691, 0)) := yqr_ok (by decide +kernel)
theorem mcs_111 : xmc 111 = 2 ∧ xms 111 = 12 := by decide +kernel
theorem mr_136 : xmr 136 = some .boolean := by decide +kernel
theorem q136_131 : xcR (xmk 136) 131 = some (xmk 136, 131, 112, 7, (678, 679, 0)) := yqr_ok (by decide +kernel)
theorem q136_139 : xcR (xmk 136) 139 = some (xmk 136, 139, 118, 7, (697, 698, 0)) := yqr_ok (by decide +kernel)
theorem mcs_118 : xmc 118 = 3 ∧ xms 118 = 18 := by decide +kernel
theorem q136_148 : xcR (xmk 136) 148 = some (xmk 136, 148, 113, 7, (743, 744, 0)) := yqr_ok (by decide +kernel)
theorem mcs_113 : xmc 113 = 1 ∧ xms 113 = 6 := by decide +kernel
theorem q136_126 : xcR (xmk 136) 126 = some (xmk 136, 126, 114, 7, (654, 655, 0)) := yqr_ok (by decide +kernel)
theorem q136_122 : xcR (xmk 136) 122 = some (xmk 136, 122, 115, 7, (645, 646, 0)) := yqr_ok (by decide +kernel)
theorem kb_91 : (Int8.ofInt 91).toInt32 = 91 := by decide +kernel
theorem q136_141 : xcR (xmk 136) 141 = some (xmk 136, 141, 121, 7, (721, 722, 0)) := yqr_ok (by decide +kernel)
theorem mcs_121 : xmc 121 = 3 ∧ xms 121 = 18 := by decide +kernel
theorem q136_143 : xcR (xmk 136) 143 = some (xmk 136, 143, 123, 7, (728, 729, 0)) := yqr_ok (by decide +kernel)
theorem mcs_123 : xmc 123 = 3 ∧ xms 123 = 18 := by decide +kernel
theorem q136_21 : xcL (xmk 136) 21 = some (-9000000000000000003) := by decide +kernel
theorem q136_146 : xcR (xmk 136) 146 = some (xmk 136, 146, 122, 7, (736, 737, 0)) := yqr_ok (by decide +kernel)
theorem mcs_122 : xmc 122 = 3 ∧ xms 122 = 18 := by decide +kernel
theorem ks_1501 : (Int16.ofInt 1501).toInt32 = 1501 := by decide +kernel
theorem q136_150 : xcR (xmk 136) 150 = some (xmk 136, 150, 116, 7, (750, 751, 0)) := yqr_ok (by decide +kernel)
theorem mcs_116 : xmc 116 = 1 ∧ xms 116 = 6 := by decide +kernel
theorem q136_152 : xcR (xmk 136) 152 = some (xmk 136, 152, 117, 7, (766, 767, 0)) := yqr_ok (by decide +kernel)
theorem mcs_117 : xmc 117 = 3 ∧ xms 117 = 18 := by decide +kernel
theorem kb_25 : (Int8.ofInt 25).toInt32 = 25 := by decide +kernel
theorem q136_154 : xcR (xmk 136) 154 = some (xmk 136, 154, 119, 7, (773, 774, 0)) := yqr_ok (by decide +kernel)
theorem mcs_119 : xmc 119 = 3 ∧ xms 119 = 18 := by decide +kernel
theorem q136_156 : xcR (xmk 136) 156 = some (xmk 136, 156, 120, 7, (780, 781, 0)) := yqr_ok (by decide +kernel)
theorem mcs_120 : xmc 120 = 3 ∧ xms 120 = 18 := by decide +kernel
theorem kb_m2 : (Int8.ofInt (-2)).toInt32 = (-2) := by decide +kernel
theorem q136_158 : xcR (xmk 136) 158 = some (xmk 136, 158, 124, 7, (787, 788, 0)) := yqr_ok (by decide +kernel)
theorem mcs_124 : xmc 124 = 3 ∧ xms 124 = 18 := by decide +kernel
theorem q136_160 : xcR (xmk 136) 160 = some (xmk 136, 160, 125, 7, (794, 795, 0)) := yqr_ok (by decide +kernel)
theorem mcs_125 : xmc 125 = 3 ∧ xms 125 = 18 := by decide +kernel
theorem kb_21 : (Int8.ofInt 21).toInt32 = 21 := by decide +kernel
theorem q136_162 : xcR (xmk 136) 162 = some (xmk 136, 162, 127, 7, (801, 802, 0)) := yqr_ok (by decide +kernel)
theorem mcs_127 : xmc 127 = 2 ∧ xms 127 = 12 := by decide +kernel
theorem q136_164 : xcR (xmk 136) 164 = some (xmk 136, 164, 128, 7, (808, 809, 0)) := yqr_ok (by decide +kernel)
theorem mcs_128 : xmc 128 = 1 ∧ xms 128 = 6 := by decide +kernel
theorem q136_166 : xcR (xmk 136) 166 = some (xmk 136, 166, 129, 7, (822, 823, 0)) := yqr_ok (by decide +kernel)
theorem mcs_129 : xmc 129 = 1 ∧ xms 129 = 6 := by decide +kernel
theorem q136_168 : xcR (xmk 136) 168 = some (xmk 136, 168, 130, 7, (829, 830, 0)) := yqr_ok (by decide +kernel)
theorem mcs_130 : xmc 130 = 1 ∧ xms 130 = 6 := by decide +kernel
theorem q136_170 : xcR (xmk 136) 170 = some (xmk 136, 170, 131, 7, (836, 837, 0)) := yqr_ok (by decide +kernel)
theorem mcs_131 : xmc 131 = 2 ∧ xms 131 = 12 := by decide +kernel
theorem q136_174 : xcL (xmk 136) 174 = some 1000000000000000000 := by decide +kernel
theorem q136_176 : xcR (xmk 136) 176 = some (xmk 136, 176, 132, 7, (859, 860, 0)) := yqr_ok (by decide +kernel)
theorem mcs_132 : xmc 132 = 1 ∧ xms 132 = 6 := by decide +kernel
theorem q136_179 : xcR (xmk 136) 179 = some (xmk 136, 179, 133, 7, (468, 469, 0)) := yqr_ok (by decide +kernel)
theorem mcs_133 : xmc 133 = 1 ∧ xms 133 = 6 := by decide +kernel
theorem q136_181 : xcR (xmk 136) 181 = some (xmk 136, 181, 134, 7, (499, 500, 0)) := yqr_ok (by decide +kernel)
theorem mcs_134 : xmc 134 = 2 ∧ xms 134 = 12 := by decide +kernel
theorem q136_183 : xcR (xmk 136) 183 = some (xmk 136, 183, 107, 7, (872, 873, 0)) := yqr_ok (by decide +kernel)
theorem mcs_107 : xmc 107 = 2 ∧ xms 107 = 12 := by decide +kernel
theorem q137_117 : xcR (xmk 137) 117 = some (xmk 137, 117, 109, 7, (514, 515, 0)) := yqr_ok (by decide +kernel)
theorem mcs_137 : xmc 137 = 6000 ∧ xms 137 = 36000 := by decide +kernel
theorem q137_185 : xcL (xmk 137) 185 = some 6 := by decide +kernel
theorem q137_137 : xcR (xmk 137) 137 = some (xmk 137, 137, 111, 7, (690, 691, 0)) := yqr_ok (by decide +kernel)
theorem q137_187 : xcL (xmk 137) 187 = some 48 := by decide +kernel
theorem q137_189 : xcL (xmk 137) 189 = some 144 := by decide +kernel
theorem q137_191 : xcL (xmk 137) 191 = some 2304 := by decide +kernel
theorem q137_128 : xcR (xmk 137) 128 = some (xmk 137, 128, 110, 7, (662, 663, 0)) := yqr_ok (by decide +kernel)
theorem q137_193 : xcL (xmk 137) 193 = some (-2303) := by decide +kernel
theorem q137_195 : xcR (xmk 137) 195 = some (xmk 137, 195, 106, 1, (891, 892, 0)) := yqr_ok (by decide +kernel)
theorem mcs_106 : xmc 106 = 0 ∧ xms 106 = 0 := by decide +kernel
theorem q137_122 : xcR (xmk 137) 122 = some (xmk 137, 122, 115, 7, (645, 646, 0)) := yqr_ok (by decide +kernel)
theorem q137_199 : xcL (xmk 137) 199 = some 2 := by decide +kernel
theorem q137_201 : xcL (xmk 137) 201 = some (-1) := by decide +kernel
theorem q137_131 : xcR (xmk 137) 131 = some (xmk 137, 131, 112, 7, (678, 679, 0)) := yqr_ok (by decide +kernel)
theorem q137_148 : xcR (xmk 137) 148 = some (xmk 137, 148, 113, 7, (743, 744, 0)) := yqr_ok (by decide +kernel)
theorem q137_203 : xcL (xmk 137) 203 = some 1260 := by decide +kernel
theorem mr_137 : xmr 137 = some .boolean := by decide +kernel
theorem q137_36 : xcL (xmk 137) 36 = some (-9000000000000000001) := by decide +kernel
theorem q137_150 : xcR (xmk 137) 150 = some (xmk 137, 150, 116, 7, (750, 751, 0)) := yqr_ok (by decide +kernel)
theorem q137_126 : xcR (xmk 137) 126 = some (xmk 137, 126, 114, 7, (654, 655, 0)) := yqr_ok (by decide +kernel)
theorem q138_133 : xcR (xmk 138) 133 = some (xmk 138, 133, 135, 1, (509, 510, 0)) := yqr_ok (by decide +kernel)
theorem mcs_138 : xmc 138 = 5000 ∧ xms 138 = 30000 := by decide +kernel
theorem q138_179 : xcR (xmk 138) 179 = some (xmk 138, 179, 133, 7, (468, 469, 0)) := yqr_ok (by decide +kernel)
theorem q138_117 : xcR (xmk 138) 117 = some (xmk 138, 117, 109, 7, (514, 515, 0)) := yqr_ok (by decide +kernel)
theorem q138_176 : xcR (xmk 138) 176 = some (xmk 138, 176, 132, 7, (859, 860, 0)) := yqr_ok (by decide +kernel)
theorem q138_126 : xcR (xmk 138) 126 = some (xmk 138, 126, 114, 7, (654, 655, 0)) := yqr_ok (by decide +kernel)
theorem q138_162 : xcR (xmk 138) 162 = some (xmk 138, 162, 127, 7, (801, 802, 0)) := yqr_ok (by decide +kernel)
theorem q138_158 : xcR (xmk 138) 158 = some (xmk 138, 158, 124, 7, (787, 788, 0)) := yqr_ok (by decide +kernel)
theorem q138_205 : xcR (xmk 138) 205 = some (xmk 138, 205, 126, 7, (900, 901, 0)) := yqr_ok (by decide +kernel)
theorem mcs_126 : xmc 126 = 1 ∧ xms 126 = 6 := by decide +kernel
theorem q138_164 : xcR (xmk 138) 164 = some (xmk 138, 164, 128, 7, (808, 809, 0)) := yqr_ok (by decide +kernel)
theorem q138_168 : xcR (xmk 138) 168 = some (xmk 138, 168, 130, 7, (829, 830, 0)) := yqr_ok (by decide +kernel)
theorem q138_195 : xcR (xmk 138) 195 = some (xmk 138, 195, 106, 1, (891, 892, 0)) := yqr_ok (by decide +kernel)
theorem q138_154 : xcR (xmk 138) 154 = some (xmk 138, 154, 119, 7, (773, 774, 0)) := yqr_ok (by decide +kernel)
theorem q138_207 : xcR (xmk 138) 207 = some (xmk 138, 207, 83, 0, (911, 912, 913)) := yqr_ok (by decide +kernel)
theorem mcs_83 : xmc 83 = 0 ∧ xms 83 = 0 := by decide +kernel
theorem mk_83 : xmk 83 = 4 := by decide +kernel
theorem q138_122 : xcR (xmk 138) 122 = some (xmk 138, 122, 115, 7, (645, 646, 0)) := yqr_ok (by decide +kernel)
theorem q138_166 : xcR (xmk 138) 166 = some (xmk 138, 166, 129, 7, (822, 823, 0)) := yqr_ok (by decide +kernel)
theorem q138_131 : xcR (xmk 138) 131 = some (xmk 138, 131, 112, 7, (678, 679, 0)) := yqr_ok (by decide +kernel)
theorem q138_141 : xcR (xmk 138) 141 = some (xmk 138, 141, 121, 7, (721, 722, 0)) := yqr_ok (by decide +kernel)
theorem q138_210 : xcL (xmk 138) 210 = some 3 := by decide +kernel
theorem q138_160 : xcR (xmk 138) 160 = some (xmk 138, 160, 125, 7, (794, 795, 0)) := yqr_ok (by decide +kernel)
theorem mr_138 : xmr 138 = some .boolean := by decide +kernel
theorem q138_181 : xcR (xmk 138) 181 = some (xmk 138, 181, 134, 7, (499, 500, 0)) := yqr_ok (by decide +kernel)
theorem q138_21 : xcL (xmk 138) 21 = some (-9000000000000000003) := by decide +kernel
theorem q139_133 : xcR (xmk 139) 133 = some (xmk 139, 133, 135, 1, (509, 510, 0)) := yqr_ok (by decide +kernel)
theorem mcs_139 : xmc 139 = 1000 ∧ xms 139 = 6000 := by decide +kernel
theorem q139_212 : xcR (xmk 139) 212 = some (xmk 139, 212, 60, 0, (919, 920, 921)) := yqr_ok (by decide +kernel)
theorem mcs_60 : xmc 60 = 0 ∧ xms 60 = 0 := by decide +kernel
theorem mk_60 : xmk 60 = 4 := by decide +kernel
theorem s_t_190 : (ysh 190).1 = 100 + 4 := by decide +kernel
theorem mr_139 : xmr 139 = some .boolean := by decide +kernel
theorem q139_207 : xcR (xmk 139) 207 = some (xmk 139, 207, 83, 0, (911, 912, 913)) := yqr_ok (by decide +kernel)
theorem q139_164 : xcR (xmk 139) 164 = some (xmk 139, 164, 128, 7, (808, 809, 0)) := yqr_ok (by decide +kernel)
theorem ks_200 : (Int16.ofInt 200).toInt32 = 200 := by decide +kernel
theorem nzI_200 : (200 : Int32) ≠ 0 := by decide +kernel
theorem q139_150 : xcR (xmk 139) 150 = some (xmk 139, 150, 116, 7, (750, 751, 0)) := yqr_ok (by decide +kernel)
theorem q139_176 : xcR (xmk 139) 176 = some (xmk 139, 176, 132, 7, (859, 860, 0)) := yqr_ok (by decide +kernel)
theorem q139_215 : xcL (xmk 139) 215 = some 102030700000 := by decide +kernel
theorem ks_900 : (Int16.ofInt 900).toInt32 = 900 := by decide +kernel
theorem nzI_900 : (900 : Int32) ≠ 0 := by decide +kernel
theorem q139_170 : xcR (xmk 139) 170 = some (xmk 139, 170, 131, 7, (836, 837, 0)) := yqr_ok (by decide +kernel)
theorem q141_217 : xcR (xmk 141) 217 = some (xmk 141, 217, 59, 0, (927, 928, 929)) := yqr_ok (by decide +kernel)
theorem mcs_59 : xmc 59 = 0 ∧ xms 59 = 0 := by decide +kernel
theorem mcs_141 : xmc 141 = 300 ∧ xms 141 = 1800 := by decide +kernel
theorem mk_59 : xmk 59 = 4 := by decide +kernel
theorem q141_183 : xcR (xmk 141) 183 = some (xmk 141, 183, 107, 7, (872, 873, 0)) := yqr_ok (by decide +kernel)
theorem kb_105 : (Int8.ofInt 105).toInt32 = 105 := by decide +kernel
theorem nzI_3 : (3 : Int32) ≠ 0 := by decide +kernel
theorem kb_116 : (Int8.ofInt 116).toInt32 = 116 := by decide +kernel
theorem q141_220 : xcR (xmk 141) 220 = some (xmk 141, 220, 140, 1, (931, 932, 0)) := yqr_ok (by decide +kernel)
theorem mcs_140 : xmc 140 = 8 ∧ xms 140 = 48 := by decide +kernel
theorem kb_115 : (Int8.ofInt 115).toInt32 = 115 := by decide +kernel
theorem nzI_9 : (9 : Int32) ≠ 0 := by decide +kernel
theorem kb_49 : (Int8.ofInt 49).toInt32 = 49 := by decide +kernel
theorem kb_117 : (Int8.ofInt 117).toInt32 = 117 := by decide +kernel
theorem kb_110 : (Int8.ofInt 110).toInt32 = 110 := by decide +kernel
theorem kb_107 : (Int8.ofInt 107).toInt32 = 107 := by decide +kernel
theorem nzI_7 : (7 : Int32) ≠ 0 := by decide +kernel
theorem mr_141 : xmr 141 = some .boolean := by decide +kernel
theorem kb_118 : (Int8.ofInt 118).toInt32 = 118 := by decide +kernel
theorem kb_114 : (Int8.ofInt 114).toInt32 = 114 := by decide +kernel
theorem q141_212 : xcR (xmk 141) 212 = some (xmk 141, 212, 60, 0, (919, 920, 921)) := yqr_ok (by decide +kernel)
theorem q143_225 : xcR (xmk 143) 225 = some (xmk 143, 225, 105, 1, (262, 263, 0)) := yqr_ok (by decide +kernel)
theorem mcs_105 : xmc 105 = 0 ∧ xms 105 = 0 := by decide +kernel
theorem mcs_143 : xmc 143 = 600130 ∧ xms 143 = 7301079 := by decide +kernel
theorem q143_229 : xcR (xmk 143) 229 = some (xmk 143, 229, 139, 1, (916, 917, 0)) := yqr_ok (by decide +kernel)
theorem q143_233 : xcR (xmk 143) 233 = some (xmk 143, 233, 136, 1, (506, 507, 0)) := yqr_ok (by decide +kernel)
theorem q143_237 : xcR (xmk 143) 237 = some (xmk 143, 237, 137, 1, (883, 884, 0)) := yqr_ok (by decide +kernel)
theorem mr_143 : xmr 143 = some .boolean := by decide +kernel
theorem q143_240 : xcR (xmk 143) 240 = some (xmk 143, 240, 141, 1, (924, 925, 0)) := yqr_ok (by decide +kernel)
theorem q143_244 : xcR (xmk 143) 244 = some (xmk 143, 244, 108, 7, (267, 268, 0)) := yqr_ok (by decide +kernel)
theorem mcs_108 : xmc 108 = 1 ∧ xms 108 = 6 := by decide +kernel
theorem q143_246 : xcR (xmk 143) 246 = some (xmk 143, 246, 142, 1, (934, 935, 0)) := yqr_ok (by decide +kernel)
theorem mcs_142 : xmc 142 = 31 ∧ xms 142 = 186 := by decide +kernel
theorem q143_249 : xcR (xmk 143) 249 = some (xmk 143, 249, 138, 1, (897, 898, 0)) := yqr_ok (by decide +kernel)
theorem q143_179 : xcR (xmk 143) 179 = some (xmk 143, 179, 133, 7, (468, 469, 0)) := yqr_ok (by decide +kernel)
theorem q143_181 : xcR (xmk 143) 181 = some (xmk 143, 181, 134, 7, (499, 500, 0)) := yqr_ok (by decide +kernel)
