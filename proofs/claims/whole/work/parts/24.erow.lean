/-! E: what Y does between the heads of each method, by program -/
section YR2
variable {k pc nc ns : Nat} {ls : xLs} {st : List Value} {h : yM} {f : yM → Option yRes}
def yqr (o : Option (Nat × Nat × Nat × Nat × Nat × Nat × Nat)) (r : Nat × Nat × Nat × Nat × Nat × Nat × Nat) : Bool := match o with
  | some q => q.1 == r.1 && (q.2.1 == r.2.1 && (q.2.2.1 == r.2.2.1 && (q.2.2.2.1 == r.2.2.2.1 && (q.2.2.2.2.1 == r.2.2.2.2.1 && (q.2.2.2.2.2.1 == r.2.2.2.2.2.1 && q.2.2.2.2.2.2 == r.2.2.2.2.2.2)))))
  | none => false
theorem yqr_ok {o : Option (Nat × Nat × Nat × Nat × Nat × Nat × Nat)} {r : Nat × Nat × Nat × Nat × Nat × Nat × Nat} (h : yqr o r = true) : o = some r := by
  unfold yqr at h
  split at h
  · next q =>
    simp only [Bool.and_eq_true, beq_iff_eq] at h
    obtain ⟨a, b, c, d, e, f, g⟩ := q
    obtain ⟨h1, h2, h3, h4, h5, h6, h7⟩ := h
    simp only at h1 h2 h3 h4 h5 h6 h7
    rw [h1, h2, h3, h4, h5, h6, h7]
  · cases h
theorem y_putiL {ix a t i : Nat} {x : Int32} (hd : decode (xmb k) pc = .ok (.putfield ix, 3)) (hf : xfR (xmk k) ix = some (t, i)) (hs : ySi a t i) (hok : (xfit (xty t i) (.int x) && !((xcT t).2.1 i).2.2.2) = true) (hg : ∀ M, yL (f M) (yX k (pc + 3) ls st M nc ns)) : yL (yLet (yU h a i x) f) (yX k pc ls (.int x :: .ref a :: st) h nc ns) := by
  rw [y_puti hd hf hs hok]
  exact hg _
theorem y_putzL {ix a t i : Nat} {x : Int32} (hd : decode (xmb k) pc = .ok (.putfield ix, 3)) (hf : xfR (xmk k) ix = some (t, i)) (hs : ySi a t i) (hty : xty t i = .boolean) (hok : ((xcT t).2.1 i).2.2.2 = false) (hg : x = 0 ∨ x = 1 → ∀ M, yL (f M) (yX k (pc + 3) ls st M nc ns)) : yL (if x = 0 ∨ x = 1 then yLet (yU h a i x) f else none) (yX k pc ls (.int x :: .ref a :: st) h nc ns) := by
  rw [y_putz hd hf hs hty hok]
  exact yL.gd (fun c => hg c _)
theorem y_iastL {a n : Nat} {i x : Int32} (hd : decode (xmb k) pc = .ok (.iastore, 1)) (hs : ySa a 0 n) (hg : yinB i n = true → ∀ M, yL (f M) (yX k (pc + 1) ls st M nc ns)) : yL (if yinB i n = true then yLet (yU h a (yx i) x) f else none) (yX k pc ls (.int x :: .int i :: .ref a :: st) h nc ns) := by
  rw [y_iast hd hs]
  exact yL.gd (fun c => hg c _)
theorem y_castL {a n : Nat} {i x : Int32} (hd : decode (xmb k) pc = .ok (.castore, 1)) (hs : ySa a 1 n) (hg : yinB i n = true → ∀ M, yL (f M) (yX k (pc + 1) ls st M nc ns)) : yL (if yinB i n = true then yLet (yU h a (yx i) (vp_nar .char x)) f else none) (yX k pc ls (.int x :: .int i :: .ref a :: st) h nc ns) := by
  rw [y_cast hd hs]
  exact yL.gd (fun c => hg c _)
theorem y_bastL {a n : Nat} {i x : Int32} (hd : decode (xmb k) pc = .ok (.bastore, 1)) (hs : ySa a 2 n) (hg : yinB i n = true → ∀ M, yL (f M) (yX k (pc + 1) ls st M nc ns)) : yL (if yinB i n = true then yLet (yU h a (yx i) (vp_nar .boolean x)) f else none) (yX k pc ls (.int x :: .int i :: .ref a :: st) h nc ns) := by
  rw [y_bast hd hs]
  exact yL.gd (fun c => hg c _)
theorem y_lastL {a : Nat} {x : Int32} (hd : decode (xmb k) pc = .ok (.lastore, 1)) (hs : (ysh a).1 = 21) (hg : ∀ M, yL (f M) (yX k (pc + 1) ls st M nc ns)) : yL (yLet (yU h a 0 x) f) (yX k pc ls (.long x.toInt64 :: .int 0 :: .ref a :: st) h nc ns) := by
  rw [y_last hd hs]
  exact hg _
theorem y_copyL {ix a b n1 n2 N : Nat} {w : Nat × Nat × Nat} {n : Int32} {g : Nat → Int32} (hd : decode (xmb k) pc = .ok (.invokestatic ix, 3)) (hr : xcR (xmk k) ix = some (xmk k, ix, 0, 6, w)) (hl : st.length ≤ 4) (hck : decide (1 ≤ xmf k ∧ 60 ≤ xmo k) = true) (hb : ((ysh b).1 = 0 ∨ (ysh b).1 = 10) ∧ yn h b (ysh b) = n1 ∧ yrd h b = g) (ha : ySa a 0 n2) (hn : decide (¬ n < 0 ∧ n.toNatClampNeg = N ∧ N ≤ n1 ∧ N ≤ n2) = true) (hg : ∀ M, yL (f M) (yX k (pc + 3) ls st M nc ns)) : yL (yLet (yUa h a (ycp g (h a) N)) f) (yX k pc ls (.int n :: .int 0 :: .ref a :: .int 0 :: .ref b :: st) h nc ns) := by
  rw [y_copyq hd hr hl hck hb ha hn]
  exact hg _
theorem yL.il {p : Prop} [Decidable p] {a c b : Option yRes} (h1 : p → yL a b) (h2 : ¬ p → yL c b) : yL (if p then a else c) b := by
  by_cases hp : p
  · rw [if_pos hp]; exact h1 hp
  · rw [if_neg hp]; exact h2 hp
theorem y_hd {E tpc i : Nat} {n : Int} {v : Int32} {nc' ns' : Nat} (hx : xHd k pc E = some (tpc, i)) (hi : decide (i < ls.length) = true) (d1 : decode (xmb k) tpc = .ok (.iconst n, 1)) (hv : Int32.ofInt n = v) (d2 : decode (xmb k) (tpc + 1) = .ok (.ireturn, 1)) (hr : xmr k = some .int) : (match xHd k pc E with
        | some (pc', i) => if i < ls.length then yX k pc' (xS0 ls i) [] h nc' ns' else none
        | none => none) = yI v h := by
  rw [hx]
  show (if i < ls.length then yX k tpc (xS0 ls i) [] h nc' ns' else none) = _
  rw [if_pos (of_decide_eq_true hi), y_iconst d1 hv, y_ireti d2 hr]
  rfl
theorem y_rm0 {k' : Nat} (h1 : xmc k' = 0 ∧ xms k' = 0) (hn : nc + 4 ≤ 601024 ∧ ns + 24 ≤ 7293034) : nc + xmc k' = nc ∧ ns + xms k' = ns ∧ nc ≤ xmc 240 ∧ ns ≤ xms 240 := by
  have e : xmc 240 = 601024 ∧ xms 240 = 7293034 := by decide +kernel
  omega
theorem y_rmc {k' c s : Nat} (h1 : xmc k' = c ∧ xms k' = s) (hn : nc + 4 ≤ 601024 ∧ ns + 24 ≤ 7293034) (hc : decide (c ≤ 4 ∧ s ≤ 24) = true) : nc + xmc k' = nc + c ∧ ns + xms k' = ns + s ∧ nc + c ≤ xmc 240 ∧ ns + s ≤ xms 240 := by
  have e : xmc 240 = 601024 ∧ xms 240 = 7293034 := by decide +kernel
  have e2 := of_decide_eq_true hc
  omega
theorem y_rmd {k' c s : Nat} (h1 : xmc k' = 0 ∧ xms k' = 0) (hn : nc + 4 ≤ 601024 ∧ ns + 24 ≤ 7293034) (hc : decide (c ≤ 4 ∧ s ≤ 24) = true) : nc + c + xmc k' = nc + c ∧ ns + s + xms k' = ns + s ∧ nc + c ≤ xmc 240 ∧ ns + s ≤ xms 240 := by
  have e : xmc 240 = 601024 ∧ xms 240 = 7293034 := by decide +kernel
  have e2 := of_decide_eq_true hc
  omega
theorem y_calls_i {ix k' n n' md : Nat} {w : Nat × Nat × Nat} (as rest : List Value) {ent : xLs} (z : Bool) {f : Int32 → yM → Option yRes} {nc' ns' : Nat} (hd : decode (xmb k) pc = .ok (.invokestatic ix, 3)) (hr : xcR (xmk k) ix = some (xmk k, ix, k', md, w)) (hmd : (md == 1 || md == 3 || md == 7) = true) (hst : st = as.reverse ++ rest) (hn : as.length = n) (hrl : rest.length ≤ 4) (hal : (xArg as).length ≤ n') (hent : xEnt n' as = ent) (hck : (decide (xna k' = n ∧ xml k' = n' ∧ xmf k' + 1 ≤ xmf k ∧ 8 + (n' + 11) + xmo k' ≤ xmo k ∧ xmh k = [] ∧ z = decide (xkd k' = 1 ∧ xkd k = 1))) = true) (hrm : nc + xmc k' = nc' ∧ ns + xms k' = ns' ∧ nc' ≤ xmc k ∧ ns' ≤ xms k) (hf : ∀ v M, yL (f v M) (yX k (pc + 3) ls (.int v :: rest) M nc' ns')) : yL (yCi z (yX k' 0 ent [] h 0 0) f) (yX k pc ls st h nc ns) := by
  rw [y_calls as rest z hd hr hmd hst hn hrl hal hent hck hrm]
  exact yL.ci (fun v M => hf v M)
theorem y_callv_i {ix k' n n' b t : Nat} {w : Nat × Nat × Nat} (as rest : List Value) {ent : xLs} (z : Bool) {f : Int32 → yM → Option yRes} {nc' ns' : Nat} (hd : decode (xmb k) pc = .ok (.invokevirtual ix, 3)) (hr : xcR (xmk k) ix = some (xmk k, ix, k', 0, w)) (ht : xmk k' = t) (hb : (ysh b).1 = 100 + t) (hst : st = (Value.ref b :: as).reverse ++ rest) (hn : (Value.ref b :: as).length = n) (hrl : rest.length ≤ 4) (hal : (xArg (Value.ref b :: as)).length ≤ n') (hent : xEnt n' (Value.ref b :: as) = ent) (hck : (decide (xna k' = n ∧ xml k' = n' ∧ xmf k' + 1 ≤ xmf k ∧ 8 + (n' + 11) + xmo k' ≤ xmo k ∧ xmh k = [] ∧ z = decide (xkd k' = 1 ∧ xkd k = 1))) = true) (hrm : nc + xmc k' = nc' ∧ ns + xms k' = ns' ∧ nc' ≤ xmc k ∧ ns' ≤ xms k) (hf : ∀ v M, yL (f v M) (yX k (pc + 3) ls (.int v :: rest) M nc' ns')) : yL (yCi z (yX k' 0 ent [] h 0 0) f) (yX k pc ls st h nc ns) := by
  rw [y_callv as rest z hd hr ht hb hst hn hrl hal hent hck hrm]
  exact yL.ci (fun v M => hf v M)
theorem y_calls_j {ix k' n n' md : Nat} {w : Nat × Nat × Nat} (as rest : List Value) {ent : xLs} (z : Bool) {f : Int64 → yM → Option yRes} {nc' ns' : Nat} (hd : decode (xmb k) pc = .ok (.invokestatic ix, 3)) (hr : xcR (xmk k) ix = some (xmk k, ix, k', md, w)) (hmd : (md == 1 || md == 3 || md == 7) = true) (hst : st = as.reverse ++ rest) (hn : as.length = n) (hrl : rest.length ≤ 4) (hal : (xArg as).length ≤ n') (hent : xEnt n' as = ent) (hck : (decide (xna k' = n ∧ xml k' = n' ∧ xmf k' + 1 ≤ xmf k ∧ 8 + (n' + 11) + xmo k' ≤ xmo k ∧ xmh k = [] ∧ z = decide (xkd k' = 1 ∧ xkd k = 1))) = true) (hrm : nc + xmc k' = nc' ∧ ns + xms k' = ns' ∧ nc' ≤ xmc k ∧ ns' ≤ xms k) (hf : ∀ v M, yL (f v M) (yX k (pc + 3) ls (.long v :: rest) M nc' ns')) : yL (yCj z (yX k' 0 ent [] h 0 0) f) (yX k pc ls st h nc ns) := by
  rw [y_calls as rest z hd hr hmd hst hn hrl hal hent hck hrm]
  exact yL.cj (fun v M => hf v M)
theorem y_callv_j {ix k' n n' b t : Nat} {w : Nat × Nat × Nat} (as rest : List Value) {ent : xLs} (z : Bool) {f : Int64 → yM → Option yRes} {nc' ns' : Nat} (hd : decode (xmb k) pc = .ok (.invokevirtual ix, 3)) (hr : xcR (xmk k) ix = some (xmk k, ix, k', 0, w)) (ht : xmk k' = t) (hb : (ysh b).1 = 100 + t) (hst : st = (Value.ref b :: as).reverse ++ rest) (hn : (Value.ref b :: as).length = n) (hrl : rest.length ≤ 4) (hal : (xArg (Value.ref b :: as)).length ≤ n') (hent : xEnt n' (Value.ref b :: as) = ent) (hck : (decide (xna k' = n ∧ xml k' = n' ∧ xmf k' + 1 ≤ xmf k ∧ 8 + (n' + 11) + xmo k' ≤ xmo k ∧ xmh k = [] ∧ z = decide (xkd k' = 1 ∧ xkd k = 1))) = true) (hrm : nc + xmc k' = nc' ∧ ns + xms k' = ns' ∧ nc' ≤ xmc k ∧ ns' ≤ xms k) (hf : ∀ v M, yL (f v M) (yX k (pc + 3) ls (.long v :: rest) M nc' ns')) : yL (yCj z (yX k' 0 ent [] h 0 0) f) (yX k pc ls st h nc ns) := by
  rw [y_callv as rest z hd hr ht hb hst hn hrl hal hent hck hrm]
  exact yL.cj (fun v M => hf v M)
theorem y_calls_v {ix k' n n' md : Nat} {w : Nat × Nat × Nat} (as rest : List Value) {ent : xLs} (z : Bool) {f : yM → Option yRes} {nc' ns' : Nat} (hd : decode (xmb k) pc = .ok (.invokestatic ix, 3)) (hr : xcR (xmk k) ix = some (xmk k, ix, k', md, w)) (hmd : (md == 1 || md == 3 || md == 7) = true) (hst : st = as.reverse ++ rest) (hn : as.length = n) (hrl : rest.length ≤ 4) (hal : (xArg as).length ≤ n') (hent : xEnt n' as = ent) (hck : (decide (xna k' = n ∧ xml k' = n' ∧ xmf k' + 1 ≤ xmf k ∧ 8 + (n' + 11) + xmo k' ≤ xmo k ∧ xmh k = [] ∧ z = decide (xkd k' = 1 ∧ xkd k = 1))) = true) (hrm : nc + xmc k' = nc' ∧ ns + xms k' = ns' ∧ nc' ≤ xmc k ∧ ns' ≤ xms k) (hf : ∀ M, yL (f M) (yX k (pc + 3) ls rest M nc' ns')) : yL (yCv z (yX k' 0 ent [] h 0 0) f) (yX k pc ls st h nc ns) := by
  rw [y_calls as rest z hd hr hmd hst hn hrl hal hent hck hrm]
  exact yL.cv (fun M => hf M)
theorem y_callv_v {ix k' n n' b t : Nat} {w : Nat × Nat × Nat} (as rest : List Value) {ent : xLs} (z : Bool) {f : yM → Option yRes} {nc' ns' : Nat} (hd : decode (xmb k) pc = .ok (.invokevirtual ix, 3)) (hr : xcR (xmk k) ix = some (xmk k, ix, k', 0, w)) (ht : xmk k' = t) (hb : (ysh b).1 = 100 + t) (hst : st = (Value.ref b :: as).reverse ++ rest) (hn : (Value.ref b :: as).length = n) (hrl : rest.length ≤ 4) (hal : (xArg (Value.ref b :: as)).length ≤ n') (hent : xEnt n' (Value.ref b :: as) = ent) (hck : (decide (xna k' = n ∧ xml k' = n' ∧ xmf k' + 1 ≤ xmf k ∧ 8 + (n' + 11) + xmo k' ≤ xmo k ∧ xmh k = [] ∧ z = decide (xkd k' = 1 ∧ xkd k = 1))) = true) (hrm : nc + xmc k' = nc' ∧ ns + xms k' = ns' ∧ nc' ≤ xmc k ∧ ns' ≤ xms k) (hf : ∀ M, yL (f M) (yX k (pc + 3) ls rest M nc' ns')) : yL (yCv z (yX k' 0 ent [] h 0 0) f) (yX k pc ls st h nc ns) := by
  rw [y_callv as rest z hd hr ht hb hst hn hrl hal hent hck hrm]
  exact yL.cv (fun M => hf M)
end YR2
theorem lsw_nil {pc d : Nat} {o : Int} {x : Int32} (h : (pc : Int) + o = (d : Int)) : (pc : Int) + Op.lookupswitch.offset [] o x.toInt = (xLs2 [] d x : Int) := h
theorem lsw_cons {pc d t : Nat} {a o df : Int} {c x : Int32} {r : List (Int × Int)} {ps : List (Int32 × Nat)} (ha : c.toInt = a) (ho : (pc : Int) + o = (t : Int)) (h : (pc : Int) + Op.lookupswitch.offset r df x.toInt = (xLs2 ps d x : Int)) : (pc : Int) + Op.lookupswitch.offset ((a, o) :: r) df x.toInt = (xLs2 ((c, t) :: ps) d x : Int) := by
  rw [Op.lookupswitch.offset_cons]
  show _ = ((if x = c then t else xLs2 ps d x : Nat) : Int)
  by_cases e : x = c
  · rw [if_pos (by rw [e, ha]), if_pos e]
    exact ho
  · have e2 : ¬ a = x.toInt := fun z => e (Int32.toInt_inj.mp (by rw [← z, ha]))
    rw [if_neg e2, if_neg e]
    exact h
theorem kc_0 : Int32.ofInt 0 = 0 := by decide +kernel
theorem q1_39 : xfR (xmk 1) 39 = some (0, 0) := by decide +kernel
theorem q1_43 : xfR (xmk 1) 43 = some (0, 1) := by decide +kernel
theorem kc_4 : Int32.ofInt 4 = 4 := by decide +kernel
theorem q1_46 : xfR (xmk 1) 46 = some (0, 2) := by decide +kernel
theorem q1_49 : xfR (xmk 1) 49 = some (0, 3) := by decide +kernel
theorem q1_30 : xfR (xmk 1) 30 = some (0, 10) := by decide +kernel
theorem kc_1 : Int32.ofInt 1 = 1 := by decide +kernel
theorem q1_52 : xsR (xmk 1) 52 = some 1 := by decide +kernel
theorem s_g_1 : ySg 1 10 5 := by unfold ySg; decide +kernel
theorem q1_33 : xfR (xmk 1) 33 = some (0, 11) := by decide +kernel
theorem kc_5 : Int32.ofInt 5 = 5 := by decide +kernel
theorem q1_55 : xcR (xmk 1) 55 = some (xmk 1, 55, 0, 6, (149, 150, 151)) := yqr_ok (by decide +kernel)
theorem mr_1 : xmr 1 = none := by decide +kernel
theorem q2_39 : xfR (xmk 2) 39 = some (0, 0) := by decide +kernel
theorem q2_43 : xfR (xmk 2) 43 = some (0, 1) := by decide +kernel
theorem q2_46 : xfR (xmk 2) 46 = some (0, 2) := by decide +kernel
theorem q2_49 : xfR (xmk 2) 49 = some (0, 3) := by decide +kernel
theorem q2_9 : xfR (xmk 2) 9 = some (0, 4) := by decide +kernel
theorem kb_12 : (Int8.ofInt 12).toInt32 = 12 := by decide +kernel
theorem q2_55 : xcR (xmk 2) 55 = some (xmk 2, 55, 0, 6, (149, 150, 151)) := yqr_ok (by decide +kernel)
theorem q2_15 : xfR (xmk 2) 15 = some (0, 5) := by decide +kernel
theorem kb_14 : (Int8.ofInt 14).toInt32 = 14 := by decide +kernel
theorem q2_18 : xfR (xmk 2) 18 = some (0, 6) := by decide +kernel
theorem q2_21 : xfR (xmk 2) 21 = some (0, 7) := by decide +kernel
theorem q2_24 : xfR (xmk 2) 24 = some (0, 8) := by decide +kernel
theorem q2_27 : xfR (xmk 2) 27 = some (0, 9) := by decide +kernel
theorem q2_30 : xfR (xmk 2) 30 = some (0, 10) := by decide +kernel
theorem q2_33 : xfR (xmk 2) 33 = some (0, 11) := by decide +kernel
theorem mr_2 : xmr 2 = none := by decide +kernel
theorem q3_39 : xfR (xmk 3) 39 = some (0, 0) := by decide +kernel
theorem q3_61 : xcR (xmk 3) 61 = some (xmk 3, 61, 94, 3, (378, 363, 0)) := yqr_ok (by decide +kernel)
theorem mr_3 : xmr 3 = some .boolean := by decide +kernel
theorem q4_43 : xfR (xmk 4) 43 = some (0, 1) := by decide +kernel
theorem q4_61 : xcR (xmk 4) 61 = some (xmk 4, 61, 94, 3, (378, 363, 0)) := yqr_ok (by decide +kernel)
theorem mr_4 : xmr 4 = some .boolean := by decide +kernel
theorem q5_65 : xcR (xmk 5) 65 = some (xmk 5, 65, 6, 0, (373, 374, 375)) := yqr_ok (by decide +kernel)
theorem mk_6 : xmk 6 = 0 := by decide +kernel
theorem q5_69 : xcR (xmk 5) 69 = some (xmk 5, 69, 8, 0, (405, 406, 407)) := yqr_ok (by decide +kernel)
theorem mk_8 : xmk 8 = 0 := by decide +kernel
theorem mr_5 : xmr 5 = some .boolean := by decide +kernel
theorem q6_72 : xcI (xmk 6) 72 = some 50000 := by decide +kernel
theorem q6_61 : xcR (xmk 6) 61 = some (xmk 6, 61, 94, 3, (378, 363, 0)) := yqr_ok (by decide +kernel)
theorem q6_39 : xfR (xmk 6) 39 = some (0, 0) := by decide +kernel
theorem q6_73 : xcR (xmk 6) 73 = some (xmk 6, 73, 7, 1, (379, 380, 0)) := yqr_ok (by decide +kernel)
theorem mr_6 : xmr 6 = some .int := by decide +kernel
theorem kb_90 : (Int8.ofInt 90).toInt32 = 90 := by decide +kernel
theorem q6_43 : xfR (xmk 6) 43 = some (0, 1) := by decide +kernel
theorem kc_m1 : Int32.ofInt (-1) = (-1) := by decide +kernel
theorem kc_3 : Int32.ofInt 3 = 3 := by decide +kernel
theorem kc_2 : Int32.ofInt 2 = 2 := by decide +kernel
theorem q6_77 : xcR (xmk 6) 77 = some (xmk 6, 77, 4, 0, (382, 383, 384)) := yqr_ok (by decide +kernel)
theorem mk_4 : xmk 4 = 0 := by decide +kernel
theorem q6_81 : xcR (xmk 6) 81 = some (xmk 6, 81, 3, 0, (386, 387, 388)) := yqr_ok (by decide +kernel)
theorem mk_3 : xmk 3 = 0 := by decide +kernel
theorem q6_84 : xcR (xmk 6) 84 = some (xmk 6, 84, 21, 0, (390, 391, 392)) := yqr_ok (by decide +kernel)
theorem mk_21 : xmk 21 = 0 := by decide +kernel
theorem q6_88 : xcR (xmk 6) 88 = some (xmk 6, 88, 99, 3, (394, 395, 0)) := yqr_ok (by decide +kernel)
theorem q6_92 : xcR (xmk 6) 92 = some (xmk 6, 92, 95, 3, (397, 360, 0)) := yqr_ok (by decide +kernel)
theorem kb_24 : (Int8.ofInt 24).toInt32 = 24 := by decide +kernel
theorem kc_6 : Int32.ofInt 6 = 6 := by decide +kernel
theorem q6_95 : xcR (xmk 6) 95 = some (xmk 6, 95, 96, 3, (398, 399, 0)) := yqr_ok (by decide +kernel)
theorem q6_98 : xsR (xmk 6) 98 = some 2 := by decide +kernel
theorem s_g_2 : ySg 2 10 5 := by unfold ySg; decide +kernel
theorem q6_101 : xsR (xmk 6) 101 = some 3 := by decide +kernel
theorem s_g_3 : ySg 3 10 5 := by unfold ySg; decide +kernel
theorem kc_7 : Int32.ofInt 7 = 7 := by decide +kernel
theorem mr_7 : xmr 7 = some .int := by decide +kernel
theorem q8_9 : xfR (xmk 8) 9 = some (0, 4) := by decide +kernel
theorem q8_39 : xfR (xmk 8) 39 = some (0, 0) := by decide +kernel
theorem mr_8 : xmr 8 = some .int := by decide +kernel
theorem q8_104 : xcR (xmk 8) 104 = some (xmk 8, 104, 9, 0, (409, 411, 10)) := yqr_ok (by decide +kernel)
theorem mk_9 : xmk 9 = 0 := by decide +kernel
theorem q8_24 : xfR (xmk 8) 24 = some (0, 8) := by decide +kernel
theorem q8_108 : xcR (xmk 8) 108 = some (xmk 8, 108, 100, 3, (413, 414, 0)) := yqr_ok (by decide +kernel)
theorem q8_112 : xcR (xmk 8) 112 = some (xmk 8, 112, 241, 1, (416, 417, 0)) := yqr_ok (by decide +kernel)
theorem q8_27 : xfR (xmk 8) 27 = some (0, 9) := by decide +kernel
theorem q8_30 : xfR (xmk 8) 30 = some (0, 10) := by decide +kernel
theorem q8_117 : xcR (xmk 8) 117 = some (xmk 8, 117, 10, 1, (422, 423, 0)) := yqr_ok (by decide +kernel)
theorem q8_46 : xfR (xmk 8) 46 = some (0, 2) := by decide +kernel
theorem q8_49 : xfR (xmk 8) 49 = some (0, 3) := by decide +kernel
theorem q8_33 : xfR (xmk 8) 33 = some (0, 11) := by decide +kernel
theorem q8_15 : xfR (xmk 8) 15 = some (0, 5) := by decide +kernel
theorem q9_15 : xfR (xmk 9) 15 = some (0, 5) := by decide +kernel
theorem q9_43 : xfR (xmk 9) 43 = some (0, 1) := by decide +kernel
theorem q9_18 : xfR (xmk 9) 18 = some (0, 6) := by decide +kernel
theorem q9_21 : xfR (xmk 9) 21 = some (0, 7) := by decide +kernel
theorem q9_24 : xfR (xmk 9) 24 = some (0, 8) := by decide +kernel
theorem q9_27 : xfR (xmk 9) 27 = some (0, 9) := by decide +kernel
theorem mr_9 : xmr 9 = some .int := by decide +kernel
theorem mr_10 : xmr 10 = some .int := by decide +kernel
theorem q11_46 : xfR (xmk 11) 46 = some (0, 2) := by decide +kernel
theorem cp_Int32_0_lt_1 : (0 : Int32) < 1 := by decide +kernel
theorem mr_11 : xmr 11 = some .int := by decide +kernel
theorem q11_9 : xfR (xmk 11) 9 = some (0, 4) := by decide +kernel
theorem q12_121 : xsR (xmk 12) 121 = some 4 := by decide +kernel
theorem s_g_4 : ySg 4 10 4 := by unfold ySg; decide +kernel
theorem q12_124 : xcR (xmk 12) 124 = some (xmk 12, 124, 13, 0, (630, 632, 22)) := yqr_ok (by decide +kernel)
theorem mk_13 : xmk 13 = 0 := by decide +kernel
theorem q12_128 : xcR (xmk 12) 128 = some (xmk 12, 128, 11, 0, (634, 635, 636)) := yqr_ok (by decide +kernel)
theorem mk_11 : xmk 11 = 0 := by decide +kernel
theorem q12_33 : xfR (xmk 12) 33 = some (0, 11) := by decide +kernel
theorem in_1_5 : yinB 1 5 = true := by decide +kernel
theorem mr_12 : xmr 12 = some .int := by decide +kernel
theorem q13_33 : xfR (xmk 13) 33 = some (0, 11) := by decide +kernel
theorem in_0_5 : yinB 0 5 = true := by decide +kernel
theorem q13_88 : xcR (xmk 13) 88 = some (xmk 13, 88, 99, 3, (394, 395, 0)) := yqr_ok (by decide +kernel)
theorem mr_13 : xmr 13 = some .int := by decide +kernel
theorem q14_132 : xcR (xmk 14) 132 = some (xmk 14, 132, 12, 0, (625, 626, 627)) := yqr_ok (by decide +kernel)
theorem mk_12 : xmk 12 = 0 := by decide +kernel
theorem mr_14 : xmr 14 = some .int := by decide +kernel
theorem q14_33 : xfR (xmk 14) 33 = some (0, 11) := by decide +kernel
theorem q14_88 : xcR (xmk 14) 88 = some (xmk 14, 88, 99, 3, (394, 395, 0)) := yqr_ok (by decide +kernel)
theorem q14_121 : xsR (xmk 14) 121 = some 4 := by decide +kernel
theorem q15_39 : xfR (xmk 15) 39 = some (0, 0) := by decide +kernel
theorem kb_15 : (Int8.ofInt 15).toInt32 = 15 := by decide +kernel
theorem q15_135 : xcR (xmk 15) 135 = some (xmk 15, 135, 14, 0, (621, 622, 623)) := yqr_ok (by decide +kernel)
theorem mk_14 : xmk 14 = 0 := by decide +kernel
theorem mr_15 : xmr 15 = some .int := by decide +kernel
theorem q16_39 : xfR (xmk 16) 39 = some (0, 0) := by decide +kernel
theorem q16_132 : xcR (xmk 16) 132 = some (xmk 16, 132, 12, 0, (625, 626, 627)) := yqr_ok (by decide +kernel)
theorem q16_128 : xcR (xmk 16) 128 = some (xmk 16, 128, 11, 0, (634, 635, 636)) := yqr_ok (by decide +kernel)
theorem q16_138 : xcR (xmk 16) 138 = some (xmk 16, 138, 0, 10, (861, 862, 863)) := yqr_ok (by decide +kernel)
theorem mr_16 : xmr 16 = some .int := by decide +kernel
theorem q17_43 : xfR (xmk 17) 43 = some (0, 1) := by decide +kernel
theorem q17_24 : xfR (xmk 17) 24 = some (0, 8) := by decide +kernel
theorem q17_88 : xcR (xmk 17) 88 = some (xmk 17, 88, 99, 3, (394, 395, 0)) := yqr_ok (by decide +kernel)
theorem q17_143 : xcR (xmk 17) 143 = some (xmk 17, 143, 98, 3, (654, 655, 0)) := yqr_ok (by decide +kernel)
theorem mr_17 : xmr 17 = some .int := by decide +kernel
theorem q18_39 : xfR (xmk 18) 39 = some (0, 0) := by decide +kernel
theorem q18_147 : xcR (xmk 18) 147 = some (xmk 18, 147, 17, 0, (650, 651, 652)) := yqr_ok (by decide +kernel)
theorem mk_17 : xmk 17 = 0 := by decide +kernel
theorem q18_143 : xcR (xmk 18) 143 = some (xmk 18, 143, 98, 3, (654, 655, 0)) := yqr_ok (by decide +kernel)
theorem mr_18 : xmr 18 = some .int := by decide +kernel
theorem q19_43 : xfR (xmk 19) 43 = some (0, 1) := by decide +kernel
theorem q19_15 : xfR (xmk 19) 15 = some (0, 5) := by decide +kernel
theorem mr_19 : xmr 19 = some .int := by decide +kernel
theorem q20_43 : xfR (xmk 20) 43 = some (0, 1) := by decide +kernel
theorem q20_27 : xfR (xmk 20) 27 = some (0, 9) := by decide +kernel
theorem q20_88 : xcR (xmk 20) 88 = some (xmk 20, 88, 99, 3, (394, 395, 0)) := yqr_ok (by decide +kernel)
theorem q20_108 : xcR (xmk 20) 108 = some (xmk 20, 108, 100, 3, (413, 414, 0)) := yqr_ok (by decide +kernel)
theorem mr_20 : xmr 20 = some .int := by decide +kernel
theorem q21_27 : xfR (xmk 21) 27 = some (0, 9) := by decide +kernel
theorem q21_43 : xfR (xmk 21) 43 = some (0, 1) := by decide +kernel
theorem mr_21 : xmr 21 = some .int := by decide +kernel
theorem q21_88 : xcR (xmk 21) 88 = some (xmk 21, 88, 99, 3, (394, 395, 0)) := yqr_ok (by decide +kernel)
theorem q23_15 : xfR (xmk 23) 15 = some (1, 1) := by decide +kernel
theorem s_i_8_1 : ySi 8 1 1 := by unfold ySi; decide +kernel
theorem kb_120 : (Int8.ofInt 120).toInt32 = 120 := by decide +kernel
theorem q23_9 : xfR (xmk 23) 9 = some (1, 0) := by decide +kernel
theorem s_a_9 : ySa 9 1 120 := by unfold ySa; decide +kernel
theorem s_r_8_0 : ySr 8 1 0 9 := by unfold ySr; decide +kernel
theorem mr_23 : xmr 23 = some .int := by decide +kernel
theorem q24_19 : xcR (xmk 24) 19 = some (xmk 24, 19, 1, 0, (316, 144, 145)) := yqr_ok (by decide +kernel)
theorem mk_1 : xmk 1 = 0 := by decide +kernel
theorem q24_24 : xfR (xmk 24) 24 = some (1, 2) := by decide +kernel
theorem s_i_8_2 : ySi 8 1 2 := by unfold ySi; decide +kernel
theorem q24_27 : xfR (xmk 24) 27 = some (1, 3) := by decide +kernel
theorem s_i_8_3 : ySi 8 1 3 := by unfold ySi; decide +kernel
theorem q24_30 : xfR (xmk 24) 30 = some (1, 4) := by decide +kernel
theorem s_i_8_4 : ySi 8 1 4 := by unfold ySi; decide +kernel
theorem kb_67 : (Int8.ofInt 67).toInt32 = 67 := by decide +kernel
theorem q24_34 : xcR (xmk 24) 34 = some (xmk 24, 34, 33, 0, (317, 319, 0)) := yqr_ok (by decide +kernel)
theorem s_t_8 : (ysh 8).1 = 100 + 1 := by decide +kernel
theorem mk_33 : xmk 33 = 1 := by decide +kernel
theorem q24_15 : xfR (xmk 24) 15 = some (1, 1) := by decide +kernel
theorem q24_38 : xcR (xmk 24) 38 = some (xmk 24, 38, 25, 0, (325, 327, 2)) := yqr_ok (by decide +kernel)
theorem mk_25 : xmk 25 = 1 := by decide +kernel
theorem q24_42 : xfR (xmk 24) 42 = some (1, 5) := by decide +kernel
theorem s_i_8_5 : ySi 8 1 5 := by unfold ySi; decide +kernel
theorem q24_45 : xfR (xmk 24) 45 = some (1, 6) := by decide +kernel
theorem s_i_8_6 : ySi 8 1 6 := by unfold ySi; decide +kernel
theorem q24_48 : xfR (xmk 24) 48 = some (1, 7) := by decide +kernel
theorem s_i_8_7 : ySi 8 1 7 := by unfold ySi; decide +kernel
theorem q24_51 : xfR (xmk 24) 51 = some (1, 8) := by decide +kernel
theorem s_i_8_8 : ySi 8 1 8 := by unfold ySi; decide +kernel
theorem q24_54 : xcR (xmk 24) 54 = some (xmk 24, 54, 5, 0, (369, 370, 371)) := yqr_ok (by decide +kernel)
theorem mk_5 : xmk 5 = 0 := by decide +kernel
theorem mr_24 : xmr 24 = some .int := by decide +kernel
theorem q25_58 : xsR (xmk 25) 58 = some 5 := by decide +kernel
theorem s_g_5 : ySg 5 11 7 := by unfold ySg; decide +kernel
theorem q25_61 : xcR (xmk 25) 61 = some (xmk 25, 61, 32, 0, (331, 333, 3)) := yqr_ok (by decide +kernel)
theorem mk_32 : xmk 32 = 1 := by decide +kernel
theorem q25_65 : xcR (xmk 25) 65 = some (xmk 25, 65, 29, 0, (335, 337, 4)) := yqr_ok (by decide +kernel)
theorem mk_29 : xmk 29 = 1 := by decide +kernel
theorem q25_69 : xcR (xmk 25) 69 = some (xmk 25, 69, 26, 0, (351, 353, 7)) := yqr_ok (by decide +kernel)
theorem mk_26 : xmk 26 = 1 := by decide +kernel
theorem mr_25 : xmr 25 = none := by decide +kernel
theorem q25_73 : xcR (xmk 25) 73 = some (xmk 25, 73, 30, 0, (339, 341, 5)) := yqr_ok (by decide +kernel)
theorem mk_30 : xmk 30 = 1 := by decide +kernel
theorem q25_77 : xcR (xmk 25) 77 = some (xmk 25, 77, 28, 0, (355, 357, 8)) := yqr_ok (by decide +kernel)
theorem mk_28 : xmk 28 = 1 := by decide +kernel
theorem q25_80 : xcR (xmk 25) 80 = some (xmk 25, 80, 31, 0, (343, 345, 6)) := yqr_ok (by decide +kernel)
theorem mk_31 : xmk 31 = 1 := by decide +kernel
theorem q25_83 : xcR (xmk 25) 83 = some (xmk 25, 83, 27, 0, (365, 367, 9)) := yqr_ok (by decide +kernel)
theorem mk_27 : xmk 27 = 1 := by decide +kernel
theorem kb_11 : (Int8.ofInt 11).toInt32 = 11 := by decide +kernel
theorem q25_86 : xfR (xmk 25) 86 = some (0, 2) := by decide +kernel
theorem kb_6 : (Int8.ofInt 6).toInt32 = 6 := by decide +kernel
theorem q26_42 : xfR (xmk 26) 42 = some (1, 5) := by decide +kernel
theorem q26_45 : xfR (xmk 26) 45 = some (1, 6) := by decide +kernel
theorem q26_48 : xfR (xmk 26) 48 = some (1, 7) := by decide +kernel
theorem q26_51 : xfR (xmk 26) 51 = some (1, 8) := by decide +kernel
theorem mr_26 : xmr 26 = none := by decide +kernel
theorem kb_13 : (Int8.ofInt 13).toInt32 = 13 := by decide +kernel
theorem q27_73 : xcR (xmk 27) 73 = some (xmk 27, 73, 30, 0, (339, 341, 5)) := yqr_ok (by decide +kernel)
theorem mr_27 : xmr 27 = some .int := by decide +kernel
theorem q28_80 : xcR (xmk 28) 80 = some (xmk 28, 80, 31, 0, (343, 345, 6)) := yqr_ok (by decide +kernel)
theorem q28_89 : xcR (xmk 28) 89 = some (xmk 28, 89, 95, 3, (359, 360, 0)) := yqr_ok (by decide +kernel)
theorem mr_28 : xmr 28 = some .int := by decide +kernel
theorem kb_99 : (Int8.ofInt 99).toInt32 = 99 := by decide +kernel
theorem q29_73 : xcR (xmk 29) 73 = some (xmk 29, 73, 30, 0, (339, 341, 5)) := yqr_ok (by decide +kernel)
theorem kb_43 : (Int8.ofInt 43).toInt32 = 43 := by decide +kernel
theorem q29_93 : xcR (xmk 29) 93 = some (xmk 29, 93, 34, 0, (321, 323, 1)) := yqr_ok (by decide +kernel)
theorem mk_34 : xmk 34 = 1 := by decide +kernel
theorem q29_27 : xfR (xmk 29) 27 = some (1, 3) := by decide +kernel
theorem kb_7 : (Int8.ofInt 7).toInt32 = 7 := by decide +kernel
theorem q29_80 : xcR (xmk 29) 80 = some (xmk 29, 80, 31, 0, (343, 345, 6)) := yqr_ok (by decide +kernel)
theorem kb_47 : (Int8.ofInt 47).toInt32 = 47 := by decide +kernel
theorem q29_34 : xcR (xmk 29) 34 = some (xmk 29, 34, 33, 0, (317, 319, 0)) := yqr_ok (by decide +kernel)
theorem kb_8 : (Int8.ofInt 8).toInt32 = 8 := by decide +kernel
theorem q29_97 : xsR (xmk 29) 97 = some 6 := by decide +kernel
theorem s_g_6 : ySg 6 11 4 := by unfold ySg; decide +kernel
theorem q29_61 : xcR (xmk 29) 61 = some (xmk 29, 61, 32, 0, (331, 333, 3)) := yqr_ok (by decide +kernel)
theorem q29_30 : xfR (xmk 29) 30 = some (1, 4) := by decide +kernel
theorem mr_29 : xmr 29 = some .int := by decide +kernel
theorem q29_100 : xsR (xmk 29) 100 = some 4 := by decide +kernel
theorem kb_10 : (Int8.ofInt 10).toInt32 = 10 := by decide +kernel
theorem nzI_10 : (10 : Int32) ≠ 0 := by decide +kernel
theorem q30_80 : xcR (xmk 30) 80 = some (xmk 30, 80, 31, 0, (343, 345, 6)) := yqr_ok (by decide +kernel)
theorem mr_30 : xmr 30 = some .int := by decide +kernel
theorem kb_9 : (Int8.ofInt 9).toInt32 = 9 := by decide +kernel
theorem kb_48 : (Int8.ofInt 48).toInt32 = 48 := by decide +kernel
theorem q31_93 : xcR (xmk 31) 93 = some (xmk 31, 93, 34, 0, (321, 323, 1)) := yqr_ok (by decide +kernel)
theorem q31_27 : xfR (xmk 31) 27 = some (1, 3) := by decide +kernel
theorem mr_31 : xmr 31 = some .int := by decide +kernel
theorem q31_30 : xfR (xmk 31) 30 = some (1, 4) := by decide +kernel
theorem q32_93 : xcR (xmk 32) 93 = some (xmk 32, 93, 34, 0, (321, 323, 1)) := yqr_ok (by decide +kernel)
theorem q32_27 : xfR (xmk 32) 27 = some (1, 3) := by decide +kernel
theorem mr_32 : xmr 32 = some .int := by decide +kernel
theorem q32_30 : xfR (xmk 32) 30 = some (1, 4) := by decide +kernel
theorem q33_93 : xcR (xmk 33) 93 = some (xmk 33, 93, 34, 0, (321, 323, 1)) := yqr_ok (by decide +kernel)
theorem q33_30 : xfR (xmk 33) 30 = some (1, 4) := by decide +kernel
theorem mr_33 : xmr 33 = none := by decide +kernel
theorem q33_27 : xfR (xmk 33) 27 = some (1, 3) := by decide +kernel
theorem q34_30 : xfR (xmk 34) 30 = some (1, 4) := by decide +kernel
theorem q34_27 : xfR (xmk 34) 27 = some (1, 3) := by decide +kernel
theorem q34_15 : xfR (xmk 34) 15 = some (1, 1) := by decide +kernel
theorem q34_9 : xfR (xmk 34) 9 = some (1, 0) := by decide +kernel
theorem mr_34 : xmr 34 = some .boolean := by decide +kernel
theorem q36_11 : xfR (xmk 36) 11 = some (2, 0) := by decide +kernel
theorem s_r_42_0 : ySr 42 2 0 43 := by unfold ySr; decide +kernel
theorem q36_18 : xfR (xmk 36) 18 = some (2, 1) := by decide +kernel
theorem s_i_42_1 : ySi 42 2 1 := by unfold ySi; decide +kernel
theorem q36_22 : xcR (xmk 36) 22 = some (xmk 36, 22, 2, 0, (770, 430, 431)) := yqr_ok (by decide +kernel)
theorem mk_2 : xmk 2 = 0 := by decide +kernel
theorem q36_26 : xfR (xmk 36) 26 = some (2, 2) := by decide +kernel
theorem s_i_42_2 : ySi 42 2 2 := by unfold ySi; decide +kernel
theorem q36_29 : xcR (xmk 36) 29 = some (xmk 36, 29, 0, 9, (771, 772, 773)) := yqr_ok (by decide +kernel)
theorem mr_36 : xmr 36 = none := by decide +kernel
theorem q37_18 : xfR (xmk 37) 18 = some (2, 1) := by decide +kernel
theorem q37_11 : xfR (xmk 37) 11 = some (2, 0) := by decide +kernel
theorem q37_22 : xcR (xmk 37) 22 = some (xmk 37, 22, 2, 0, (770, 430, 431)) := yqr_ok (by decide +kernel)
theorem q37_26 : xfR (xmk 37) 26 = some (2, 2) := by decide +kernel
theorem mr_37 : xmr 37 = some .int := by decide +kernel
theorem q38_26 : xfR (xmk 38) 26 = some (2, 2) := by decide +kernel
theorem mr_38 : xmr 38 = none := by decide +kernel
theorem q40_37 : xcR (xmk 40) 37 = some (xmk 40, 37, 48, 0, (441, 442, 443)) := yqr_ok (by decide +kernel)
theorem mk_48 : xmk 48 = 3 := by decide +kernel
theorem q40_12 : xfR (xmk 40) 12 = some (3, 0) := by decide +kernel
theorem q40_40 : xfR (xmk 40) 40 = some (0, 1) := by decide +kernel
theorem q40_25 : xfR (xmk 40) 25 = some (3, 3) := by decide +kernel
theorem q40_44 : xcR (xmk 40) 44 = some (xmk 40, 44, 0, 8, (451, 452, 453)) := yqr_ok (by decide +kernel)
theorem mr_40 : xmr 40 = some .int := by decide +kernel
theorem q41_50 : xfR (xmk 41) 50 = some (3, 6) := by decide +kernel
theorem q41_12 : xfR (xmk 41) 12 = some (3, 0) := by decide +kernel
theorem q41_53 : xfR (xmk 41) 53 = some (0, 8) := by decide +kernel
theorem q41_31 : xfR (xmk 41) 31 = some (3, 5) := by decide +kernel
theorem q41_56 : xcR (xmk 41) 56 = some (xmk 41, 56, 99, 3, (450, 395, 0)) := yqr_ok (by decide +kernel)
theorem q41_18 : xfR (xmk 41) 18 = some (3, 1) := by decide +kernel
theorem mr_41 : xmr 41 = some .int := by decide +kernel
theorem q42_50 : xfR (xmk 42) 50 = some (3, 6) := by decide +kernel
theorem q42_31 : xfR (xmk 42) 31 = some (3, 5) := by decide +kernel
theorem q42_60 : xcR (xmk 42) 60 = some (xmk 42, 60, 43, 0, (746, 748, 23)) := yqr_ok (by decide +kernel)
theorem mk_43 : xmk 43 = 3 := by decide +kernel
theorem q42_64 : xcR (xmk 42) 64 = some (xmk 42, 64, 98, 3, (750, 655, 0)) := yqr_ok (by decide +kernel)
theorem mr_42 : xmr 42 = some .int := by decide +kernel
theorem q43_18 : xfR (xmk 43) 18 = some (3, 1) := by decide +kernel
theorem q43_22 : xfR (xmk 43) 22 = some (3, 2) := by decide +kernel
theorem cn_Int32_1_eq_0 : ¬ ((1 : Int32) = 0) := by decide +kernel
theorem q43_12 : xfR (xmk 43) 12 = some (3, 0) := by decide +kernel
theorem q43_68 : xfR (xmk 43) 68 = some (0, 7) := by decide +kernel
theorem mr_43 : xmr 43 = some .boolean := by decide +kernel
theorem q43_71 : xfR (xmk 43) 71 = some (0, 6) := by decide +kernel
theorem q43_74 : xcR (xmk 43) 74 = some (xmk 43, 74, 44, 0, (468, 470, 15)) := yqr_ok (by decide +kernel)
theorem mk_44 : xmk 44 = 3 := by decide +kernel
theorem cp_Int32_0_eq_0 : (0 : Int32) = 0 := by decide +kernel
theorem q44_22 : xfR (xmk 44) 22 = some (3, 2) := by decide +kernel
theorem q44_12 : xfR (xmk 44) 12 = some (3, 0) := by decide +kernel
theorem q44_78 : xfR (xmk 44) 78 = some (0, 11) := by decide +kernel
theorem in_2_5 : yinB 2 5 = true := by decide +kernel
theorem mr_44 : xmr 44 = some .int := by decide +kernel
theorem q45_81 : xcR (xmk 45) 81 = some (xmk 45, 81, 46, 0, (437, 439, 11)) := yqr_ok (by decide +kernel)
theorem mk_46 : xmk 46 = 3 := by decide +kernel
theorem q45_50 : xfR (xmk 45) 50 = some (3, 6) := by decide +kernel
theorem q45_84 : xfR (xmk 45) 84 = some (3, 8) := by decide +kernel
theorem q45_12 : xfR (xmk 45) 12 = some (3, 0) := by decide +kernel
theorem q45_40 : xfR (xmk 45) 40 = some (0, 1) := by decide +kernel
theorem q45_18 : xfR (xmk 45) 18 = some (3, 1) := by decide +kernel
theorem q45_22 : xfR (xmk 45) 22 = some (3, 2) := by decide +kernel
theorem kb_28 : (Int8.ofInt 28).toInt32 = 28 := by decide +kernel
theorem q45_97 : xfR (xmk 45) 97 = some (3, 7) := by decide +kernel
theorem mr_45 : xmr 45 = none := by decide +kernel
theorem q45_87 : xcR (xmk 45) 87 = some (xmk 45, 87, 50, 0, (463, 465, 14)) := yqr_ok (by decide +kernel)
theorem mk_50 : xmk 50 = 3 := by decide +kernel
theorem q45_91 : xcR (xmk 45) 91 = some (xmk 45, 91, 52, 0, (477, 479, 17)) := yqr_ok (by decide +kernel)
theorem mk_52 : xmk 52 = 3 := by decide +kernel
theorem q45_94 : xcR (xmk 45) 94 = some (xmk 45, 94, 55, 0, (489, 491, 20)) := yqr_ok (by decide +kernel)
theorem mk_55 : xmk 55 = 3 := by decide +kernel
theorem q46_12 : xfR (xmk 46) 12 = some (3, 0) := by decide +kernel
theorem q46_78 : xfR (xmk 46) 78 = some (0, 11) := by decide +kernel
theorem in_4_5 : yinB 4 5 = true := by decide +kernel
theorem q46_37 : xcR (xmk 46) 37 = some (xmk 46, 37, 48, 0, (441, 442, 443)) := yqr_ok (by decide +kernel)
theorem q46_40 : xfR (xmk 46) 40 = some (0, 1) := by decide +kernel
theorem q46_28 : xfR (xmk 46) 28 = some (3, 4) := by decide +kernel
theorem q46_100 : xcR (xmk 46) 100 = some (xmk 46, 100, 47, 0, (454, 456, 13)) := yqr_ok (by decide +kernel)
theorem mk_47 : xmk 47 = 3 := by decide +kernel
theorem mr_46 : xmr 46 = none := by decide +kernel
theorem q47_12 : xfR (xmk 47) 12 = some (3, 0) := by decide +kernel
theorem q47_103 : xfR (xmk 47) 103 = some (0, 5) := by decide +kernel
theorem mr_47 : xmr 47 = some .int := by decide +kernel
theorem q47_25 : xfR (xmk 47) 25 = some (3, 3) := by decide +kernel
theorem q47_106 : xcR (xmk 47) 106 = some (xmk 47, 106, 20, 0, (458, 459, 460)) := yqr_ok (by decide +kernel)
theorem mk_20 : xmk 20 = 0 := by decide +kernel
theorem q47_109 : xcR (xmk 47) 109 = some (xmk 47, 109, 241, 1, (462, 417, 0)) := yqr_ok (by decide +kernel)
theorem q48_12 : xfR (xmk 48) 12 = some (3, 0) := by decide +kernel
theorem q48_103 : xfR (xmk 48) 103 = some (0, 5) := by decide +kernel
theorem q48_25 : xfR (xmk 48) 25 = some (3, 3) := by decide +kernel
theorem q48_114 : xcR (xmk 48) 114 = some (xmk 48, 114, 0, 6, (445, 150, 151)) := yqr_ok (by decide +kernel)
theorem q48_40 : xfR (xmk 48) 40 = some (0, 1) := by decide +kernel
theorem mr_48 : xmr 48 = none := by decide +kernel
theorem q48_120 : xcR (xmk 48) 120 = some (xmk 48, 120, 49, 0, (446, 448, 12)) := yqr_ok (by decide +kernel)
theorem mk_49 : xmk 49 = 3 := by decide +kernel
theorem q49_12 : xfR (xmk 49) 12 = some (3, 0) := by decide +kernel
theorem q49_40 : xfR (xmk 49) 40 = some (0, 1) := by decide +kernel
theorem q49_123 : xfR (xmk 49) 123 = some (0, 9) := by decide +kernel
theorem q49_56 : xcR (xmk 49) 56 = some (xmk 49, 56, 99, 3, (450, 395, 0)) := yqr_ok (by decide +kernel)
theorem q49_25 : xfR (xmk 49) 25 = some (3, 3) := by decide +kernel
theorem q49_103 : xfR (xmk 49) 103 = some (0, 5) := by decide +kernel
theorem q49_44 : xcR (xmk 49) 44 = some (xmk 49, 44, 0, 8, (451, 452, 453)) := yqr_ok (by decide +kernel)
theorem mr_49 : xmr 49 = none := by decide +kernel
theorem q50_126 : xfR (xmk 50) 126 = some (3, 9) := by decide +kernel
theorem q50_12 : xfR (xmk 50) 12 = some (3, 0) := by decide +kernel
theorem q50_78 : xfR (xmk 50) 78 = some (0, 11) := by decide +kernel
theorem in_3_5 : yinB 3 5 = true := by decide +kernel
theorem q50_129 : xfR (xmk 50) 129 = some (3, 10) := by decide +kernel
theorem q50_132 : xfR (xmk 50) 132 = some (0, 10) := by decide +kernel
theorem q50_34 : xfR (xmk 50) 34 = some (3, 11) := by decide +kernel
theorem q50_114 : xcR (xmk 50) 114 = some (xmk 50, 114, 0, 6, (445, 150, 151)) := yqr_ok (by decide +kernel)
theorem q50_50 : xfR (xmk 50) 50 = some (3, 6) := by decide +kernel
theorem q50_31 : xfR (xmk 50) 31 = some (3, 5) := by decide +kernel
theorem q50_22 : xfR (xmk 50) 22 = some (3, 2) := by decide +kernel
theorem q50_135 : xcR (xmk 50) 135 = some (xmk 50, 135, 100, 3, (467, 414, 0)) := yqr_ok (by decide +kernel)
theorem q50_74 : xcR (xmk 50) 74 = some (xmk 50, 74, 44, 0, (468, 470, 15)) := yqr_ok (by decide +kernel)
theorem q50_139 : xcR (xmk 50) 139 = some (xmk 50, 139, 51, 0, (472, 474, 16)) := yqr_ok (by decide +kernel)
theorem mk_51 : xmk 51 = 3 := by decide +kernel
theorem q50_68 : xfR (xmk 50) 68 = some (0, 7) := by decide +kernel
theorem mr_50 : xmr 50 = none := by decide +kernel
theorem q51_12 : xfR (xmk 51) 12 = some (3, 0) := by decide +kernel
theorem q51_71 : xfR (xmk 51) 71 = some (0, 6) := by decide +kernel
theorem q51_142 : xcR (xmk 51) 142 = some (xmk 51, 142, 95, 3, (476, 360, 0)) := yqr_ok (by decide +kernel)
theorem mr_51 : xmr 51 = none := by decide +kernel
theorem q51_34 : xfR (xmk 51) 34 = some (3, 11) := by decide +kernel
theorem q52_12 : xfR (xmk 52) 12 = some (3, 0) := by decide +kernel
theorem q52_40 : xfR (xmk 52) 40 = some (0, 1) := by decide +kernel
theorem q52_146 : xcR (xmk 52) 146 = some (xmk 52, 146, 53, 0, (481, 483, 18)) := yqr_ok (by decide +kernel)
theorem mk_53 : xmk 53 = 3 := by decide +kernel
theorem mr_52 : xmr 52 = none := by decide +kernel
theorem q52_18 : xfR (xmk 52) 18 = some (3, 1) := by decide +kernel
theorem q52_22 : xfR (xmk 52) 22 = some (3, 2) := by decide +kernel
theorem q52_103 : xfR (xmk 52) 103 = some (0, 5) := by decide +kernel
theorem q52_31 : xfR (xmk 52) 31 = some (3, 5) := by decide +kernel
theorem q52_50 : xfR (xmk 52) 50 = some (3, 6) := by decide +kernel
theorem q52_84 : xfR (xmk 52) 84 = some (3, 8) := by decide +kernel
theorem q52_44 : xcR (xmk 52) 44 = some (xmk 52, 44, 0, 8, (451, 452, 453)) := yqr_ok (by decide +kernel)
theorem q52_129 : xfR (xmk 52) 129 = some (3, 10) := by decide +kernel
theorem q52_68 : xfR (xmk 52) 68 = some (0, 7) := by decide +kernel
theorem q52_139 : xcR (xmk 52) 139 = some (xmk 52, 139, 51, 0, (472, 474, 16)) := yqr_ok (by decide +kernel)
theorem q53_12 : xfR (xmk 53) 12 = some (3, 0) := by decide +kernel
theorem q53_40 : xfR (xmk 53) 40 = some (0, 1) := by decide +kernel
theorem q53_150 : xcR (xmk 53) 150 = some (xmk 53, 150, 54, 0, (485, 487, 19)) := yqr_ok (by decide +kernel)
theorem mk_54 : xmk 54 = 3 := by decide +kernel
theorem q53_28 : xfR (xmk 53) 28 = some (3, 4) := by decide +kernel
theorem mr_53 : xmr 53 = some .int := by decide +kernel
theorem q54_12 : xfR (xmk 54) 12 = some (3, 0) := by decide +kernel
theorem q54_71 : xfR (xmk 54) 71 = some (0, 6) := by decide +kernel
theorem q54_18 : xfR (xmk 54) 18 = some (3, 1) := by decide +kernel
theorem q54_123 : xfR (xmk 54) 123 = some (0, 9) := by decide +kernel
theorem q54_126 : xfR (xmk 54) 126 = some (3, 9) := by decide +kernel
theorem q54_129 : xfR (xmk 54) 129 = some (3, 10) := by decide +kernel
theorem q54_68 : xfR (xmk 54) 68 = some (0, 7) := by decide +kernel
theorem mr_54 : xmr 54 = some .boolean := by decide +kernel
theorem q54_142 : xcR (xmk 54) 142 = some (xmk 54, 142, 95, 3, (476, 360, 0)) := yqr_ok (by decide +kernel)
theorem q54_34 : xfR (xmk 54) 34 = some (3, 11) := by decide +kernel
theorem q55_50 : xfR (xmk 55) 50 = some (3, 6) := by decide +kernel
theorem q55_31 : xfR (xmk 55) 31 = some (3, 5) := by decide +kernel
theorem q55_22 : xfR (xmk 55) 22 = some (3, 2) := by decide +kernel
theorem q55_153 : xcR (xmk 55) 153 = some (xmk 55, 153, 56, 1, (493, 494, 0)) := yqr_ok (by decide +kernel)
theorem q55_74 : xcR (xmk 55) 74 = some (xmk 55, 74, 44, 0, (468, 470, 15)) := yqr_ok (by decide +kernel)
theorem mr_55 : xmr 55 = some .int := by decide +kernel
theorem mr_56 : xmr 56 = some .int := by decide +kernel
theorem ks_255 : (Int16.ofInt 255).toInt32 = 255 := by decide +kernel
theorem q58_54 : xcR (xmk 58) 54 = some (xmk 58, 54, 94, 1, (362, 363, 0)) := yqr_ok (by decide +kernel)
theorem q58_58 : xcR (xmk 58) 58 = some (xmk 58, 58, 92, 1, (505, 506, 0)) := yqr_ok (by decide +kernel)
theorem q58_10 : xfR (xmk 58) 10 = some (4, 0) := by decide +kernel
theorem s_r_7_0 : ySr 7 4 0 8 := by unfold ySr; decide +kernel
theorem q58_62 : xfR (xmk 58) 62 = some (1, 1) := by decide +kernel
theorem q58_66 : xcR (xmk 58) 66 = some (xmk 58, 66, 93, 1, (576, 577, 0)) := yqr_ok (by decide +kernel)
theorem q58_69 : xcR (xmk 58) 69 = some (xmk 58, 69, 23, 0, (595, 596, 597)) := yqr_ok (by decide +kernel)
theorem mk_23 : xmk 23 = 1 := by decide +kernel
theorem mr_58 : xmr 58 = some .int := by decide +kernel
theorem q59_10 : xfR (xmk 59) 10 = some (4, 0) := by decide +kernel
theorem q59_62 : xfR (xmk 59) 62 = some (1, 1) := by decide +kernel
theorem mr_59 : xmr 59 = some .int := by decide +kernel
theorem q60_10 : xfR (xmk 60) 10 = some (4, 0) := by decide +kernel
theorem q60_33 : xfR (xmk 60) 33 = some (4, 4) := by decide +kernel
theorem yC27 : yC 27 := by show 27 ∈ yCs; decide +kernel
theorem s_r_7_4 : ySr 7 4 4 27 := by unfold ySr; decide +kernel
theorem q60_73 : xcR (xmk 60) 73 = some (xmk 60, 73, 24, 0, (312, 313, 314)) := yqr_ok (by decide +kernel)
theorem mk_24 : xmk 24 = 1 := by decide +kernel
theorem mr_60 : xmr 60 = some .int := by decide +kernel
theorem q61_10 : xfR (xmk 61) 10 = some (4, 0) := by decide +kernel
theorem q61_33 : xfR (xmk 61) 33 = some (4, 4) := by decide +kernel
theorem q61_73 : xcR (xmk 61) 73 = some (xmk 61, 73, 24, 0, (312, 313, 314)) := yqr_ok (by decide +kernel)
theorem q61_66 : xcR (xmk 61) 66 = some (xmk 61, 66, 93, 1, (576, 577, 0)) := yqr_ok (by decide +kernel)
theorem q61_27 : xfR (xmk 61) 27 = some (4, 2) := by decide +kernel
theorem yC11 : yC 11 := by show 11 ∈ yCs; decide +kernel
theorem s_r_7_2 : ySr 7 4 2 11 := by unfold ySr; decide +kernel
theorem q61_77 : xcR (xmk 61) 77 = some (xmk 61, 77, 2, 0, (429, 430, 431)) := yqr_ok (by decide +kernel)
theorem q61_39 : xfR (xmk 61) 39 = some (4, 5) := by decide +kernel
theorem s_r_7_5 : ySr 7 4 5 42 := by unfold ySr; decide +kernel
theorem q61_81 : xcR (xmk 61) 81 = some (xmk 61, 81, 38, 0, (606, 607, 608)) := yqr_ok (by decide +kernel)
theorem s_t_42 : (ysh 42).1 = 100 + 2 := by decide +kernel
theorem mk_38 : xmk 38 = 2 := by decide +kernel
theorem q61_50 : xfR (xmk 61) 50 = some (4, 7) := by decide +kernel
theorem s_a_189 : ySa 189 2 2 := by unfold ySa; decide +kernel
theorem s_r_7_7 : ySr 7 4 7 189 := by unfold ySr; decide +kernel
theorem q61_84 : xfR (xmk 61) 84 = some (1, 2) := by decide +kernel
theorem mr_61 : xmr 61 = some .int := by decide +kernel
theorem q62_54 : xcR (xmk 62) 54 = some (xmk 62, 54, 94, 1, (362, 363, 0)) := yqr_ok (by decide +kernel)
theorem q62_58 : xcR (xmk 62) 58 = some (xmk 62, 58, 92, 1, (505, 506, 0)) := yqr_ok (by decide +kernel)
theorem q62_27 : xfR (xmk 62) 27 = some (4, 2) := by decide +kernel
theorem q62_87 : xfR (xmk 62) 87 = some (0, 0) := by decide +kernel
theorem mr_62 : xmr 62 = some .int := by decide +kernel
theorem q62_90 : xfR (xmk 62) 90 = some (0, 1) := by decide +kernel
theorem q62_93 : xfR (xmk 62) 93 = some (0, 2) := by decide +kernel
theorem q62_96 : xfR (xmk 62) 96 = some (0, 3) := by decide +kernel
theorem q62_99 : xcR (xmk 62) 99 = some (xmk 62, 99, 15, 0, (617, 618, 619)) := yqr_ok (by decide +kernel)
theorem mk_15 : xmk 15 = 0 := by decide +kernel
theorem q62_19 : xfR (xmk 62) 19 = some (4, 1) := by decide +kernel
theorem yP10 : yP 10 := by show 10 ∈ ([10, 26] : List Nat); decide +kernel
theorem s_r_7_1 : ySr 7 4 1 10 := by unfold ySr; decide +kernel
theorem q62_103 : xcR (xmk 62) 103 = some (xmk 62, 103, 45, 0, (433, 434, 435)) := yqr_ok (by decide +kernel)
theorem mk_45 : xmk 45 = 3 := by decide +kernel
theorem q62_106 : xfR (xmk 62) 106 = some (3, 8) := by decide +kernel
theorem q62_109 : xfR (xmk 62) 109 = some (3, 7) := by decide +kernel
theorem q62_112 : xcR (xmk 62) 112 = some (xmk 62, 112, 40, 0, (638, 639, 640)) := yqr_ok (by decide +kernel)
theorem mk_40 : xmk 40 = 3 := by decide +kernel
theorem kc_8 : Int32.ofInt 8 = 8 := by decide +kernel
theorem q62_116 : xcR (xmk 62) 116 = some (xmk 62, 116, 19, 0, (642, 643, 644)) := yqr_ok (by decide +kernel)
theorem mk_19 : xmk 19 = 0 := by decide +kernel
theorem q62_119 : xcR (xmk 62) 119 = some (xmk 62, 119, 18, 0, (646, 647, 648)) := yqr_ok (by decide +kernel)
theorem mk_18 : xmk 18 = 0 := by decide +kernel
theorem q63_27 : xfR (xmk 63) 27 = some (4, 2) := by decide +kernel
theorem q63_122 : xcR (xmk 63) 122 = some (xmk 63, 122, 3, 0, (665, 387, 388)) := yqr_ok (by decide +kernel)
theorem q63_126 : xcR (xmk 63) 126 = some (xmk 63, 126, 91, 1, (666, 667, 0)) := yqr_ok (by decide +kernel)
theorem q63_54 : xcR (xmk 63) 54 = some (xmk 63, 54, 94, 1, (362, 363, 0)) := yqr_ok (by decide +kernel)
theorem q63_58 : xcR (xmk 63) 58 = some (xmk 63, 58, 92, 1, (505, 506, 0)) := yqr_ok (by decide +kernel)
theorem q63_96 : xfR (xmk 63) 96 = some (0, 3) := by decide +kernel
theorem q63_129 : xfR (xmk 63) 129 = some (0, 4) := by decide +kernel
theorem mr_63 : xmr 63 = some .int := by decide +kernel
theorem q63_133 : xcR (xmk 63) 133 = some (xmk 63, 133, 11, 0, (685, 635, 636)) := yqr_ok (by decide +kernel)
theorem q63_137 : xcR (xmk 63) 137 = some (xmk 63, 137, 12, 0, (686, 626, 627)) := yqr_ok (by decide +kernel)
theorem q63_140 : xcR (xmk 63) 140 = some (xmk 63, 140, 14, 0, (687, 622, 623)) := yqr_ok (by decide +kernel)
theorem q63_144 : xcR (xmk 63) 144 = some (xmk 63, 144, 17, 0, (688, 651, 652)) := yqr_ok (by decide +kernel)
theorem q63_19 : xfR (xmk 63) 19 = some (4, 1) := by decide +kernel
theorem q63_103 : xcR (xmk 63) 103 = some (xmk 63, 103, 45, 0, (433, 434, 435)) := yqr_ok (by decide +kernel)
theorem q63_147 : xcR (xmk 63) 147 = some (xmk 63, 147, 41, 0, (689, 690, 691)) := yqr_ok (by decide +kernel)
theorem mk_41 : xmk 41 = 3 := by decide +kernel
theorem q64_27 : xfR (xmk 64) 27 = some (4, 2) := by decide +kernel
theorem q64_122 : xcR (xmk 64) 122 = some (xmk 64, 122, 3, 0, (665, 387, 388)) := yqr_ok (by decide +kernel)
theorem q64_126 : xcR (xmk 64) 126 = some (xmk 64, 126, 91, 1, (666, 667, 0)) := yqr_ok (by decide +kernel)
theorem q64_54 : xcR (xmk 64) 54 = some (xmk 64, 54, 94, 1, (362, 363, 0)) := yqr_ok (by decide +kernel)
theorem q64_58 : xcR (xmk 64) 58 = some (xmk 64, 58, 92, 1, (505, 506, 0)) := yqr_ok (by decide +kernel)
theorem q64_96 : xfR (xmk 64) 96 = some (0, 3) := by decide +kernel
theorem q64_140 : xcR (xmk 64) 140 = some (xmk 64, 140, 14, 0, (687, 622, 623)) := yqr_ok (by decide +kernel)
theorem mr_64 : xmr 64 = some .int := by decide +kernel
theorem q65_27 : xfR (xmk 65) 27 = some (4, 2) := by decide +kernel
theorem q65_150 : xcR (xmk 65) 150 = some (xmk 65, 150, 4, 0, (707, 383, 384)) := yqr_ok (by decide +kernel)
theorem q65_126 : xcR (xmk 65) 126 = some (xmk 65, 126, 91, 1, (666, 667, 0)) := yqr_ok (by decide +kernel)
theorem q65_54 : xcR (xmk 65) 54 = some (xmk 65, 54, 94, 1, (362, 363, 0)) := yqr_ok (by decide +kernel)
theorem q65_58 : xcR (xmk 65) 58 = some (xmk 65, 58, 92, 1, (505, 506, 0)) := yqr_ok (by decide +kernel)
theorem q65_153 : xfR (xmk 65) 153 = some (0, 5) := by decide +kernel
theorem mr_65 : xmr 65 = some .int := by decide +kernel
theorem q65_156 : xfR (xmk 65) 156 = some (0, 6) := by decide +kernel
theorem q65_159 : xfR (xmk 65) 159 = some (0, 7) := by decide +kernel
theorem q65_162 : xfR (xmk 65) 162 = some (0, 8) := by decide +kernel
theorem q65_165 : xfR (xmk 65) 165 = some (0, 9) := by decide +kernel
theorem q65_168 : xcR (xmk 65) 168 = some (xmk 65, 168, 20, 0, (708, 459, 460)) := yqr_ok (by decide +kernel)
theorem q65_19 : xfR (xmk 65) 19 = some (4, 1) := by decide +kernel
theorem q65_171 : xcR (xmk 65) 171 = some (xmk 65, 171, 48, 0, (709, 442, 443)) := yqr_ok (by decide +kernel)
theorem q65_174 : xfR (xmk 65) 174 = some (3, 3) := by decide +kernel
theorem q65_103 : xcR (xmk 65) 103 = some (xmk 65, 103, 45, 0, (433, 434, 435)) := yqr_ok (by decide +kernel)
theorem q65_177 : xfR (xmk 65) 177 = some (3, 1) := by decide +kernel
theorem q65_180 : xfR (xmk 65) 180 = some (3, 2) := by decide +kernel
theorem q65_183 : xcR (xmk 65) 183 = some (xmk 65, 183, 21, 0, (710, 391, 392)) := yqr_ok (by decide +kernel)
theorem q65_186 : xcR (xmk 65) 186 = some (xmk 65, 186, 241, 1, (711, 417, 0)) := yqr_ok (by decide +kernel)
theorem q66_19 : xfR (xmk 66) 19 = some (4, 1) := by decide +kernel
theorem q66_103 : xcR (xmk 66) 103 = some (xmk 66, 103, 45, 0, (433, 434, 435)) := yqr_ok (by decide +kernel)
theorem q66_191 : xfR (xmk 66) 191 = some (3, 6) := by decide +kernel
theorem q66_54 : xcR (xmk 66) 54 = some (xmk 66, 54, 94, 1, (362, 363, 0)) := yqr_ok (by decide +kernel)
theorem q66_126 : xcR (xmk 66) 126 = some (xmk 66, 126, 91, 1, (666, 667, 0)) := yqr_ok (by decide +kernel)
theorem q66_194 : xfR (xmk 66) 194 = some (3, 5) := by decide +kernel
theorem mr_66 : xmr 66 = some .int := by decide +kernel
theorem q67_197 : xcR (xmk 67) 197 = some (xmk 67, 197, 95, 1, (726, 360, 0)) := yqr_ok (by decide +kernel)
theorem q67_126 : xcR (xmk 67) 126 = some (xmk 67, 126, 91, 1, (666, 667, 0)) := yqr_ok (by decide +kernel)
theorem q67_27 : xfR (xmk 67) 27 = some (4, 2) := by decide +kernel
theorem q67_200 : xfR (xmk 67) 200 = some (0, 10) := by decide +kernel
theorem mr_67 : xmr 67 = some .int := by decide +kernel
theorem q68_203 : xcR (xmk 68) 203 = some (xmk 68, 203, 96, 1, (734, 399, 0)) := yqr_ok (by decide +kernel)
theorem q68_58 : xcR (xmk 68) 58 = some (xmk 68, 58, 92, 1, (505, 506, 0)) := yqr_ok (by decide +kernel)
theorem q68_27 : xfR (xmk 68) 27 = some (4, 2) := by decide +kernel
theorem q68_206 : xfR (xmk 68) 206 = some (0, 11) := by decide +kernel
theorem mr_68 : xmr 68 = some .int := by decide +kernel
theorem ks_1500 : (Int16.ofInt 1500).toInt32 = 1500 := by decide +kernel
theorem q69_54 : xcR (xmk 69) 54 = some (xmk 69, 54, 94, 1, (362, 363, 0)) := yqr_ok (by decide +kernel)
theorem q69_58 : xcR (xmk 69) 58 = some (xmk 69, 58, 92, 1, (505, 506, 0)) := yqr_ok (by decide +kernel)
theorem q69_19 : xfR (xmk 69) 19 = some (4, 1) := by decide +kernel
theorem q69_103 : xcR (xmk 69) 103 = some (xmk 69, 103, 45, 0, (433, 434, 435)) := yqr_ok (by decide +kernel)
theorem q69_209 : xcR (xmk 69) 209 = some (xmk 69, 209, 42, 0, (742, 743, 744)) := yqr_ok (by decide +kernel)
theorem mk_42 : xmk 42 = 3 := by decide +kernel
theorem mr_69 : xmr 69 = some .int := by decide +kernel
theorem q70_212 : xcR (xmk 70) 212 = some (xmk 70, 212, 89, 0, (758, 760, 24)) := yqr_ok (by decide +kernel)
theorem s_t_7 : (ysh 7).1 = 100 + 4 := by decide +kernel
theorem mk_89 : xmk 89 = 4 := by decide +kernel
theorem mr_70 : xmr 70 = some .int := by decide +kernel
theorem q71_212 : xcR (xmk 71) 212 = some (xmk 71, 212, 89, 0, (758, 760, 24)) := yqr_ok (by decide +kernel)
theorem mr_71 : xmr 71 = some .int := by decide +kernel
theorem q72_27 : xfR (xmk 72) 27 = some (4, 2) := by decide +kernel
theorem q72_212 : xcR (xmk 72) 212 = some (xmk 72, 212, 89, 0, (758, 760, 24)) := yqr_ok (by decide +kernel)
theorem q72_99 : xcR (xmk 72) 99 = some (xmk 72, 99, 15, 0, (617, 618, 619)) := yqr_ok (by decide +kernel)
theorem mr_72 : xmr 72 = some .int := by decide +kernel
theorem q73_216 : xcR (xmk 73) 216 = some (xmk 73, 216, 98, 1, (796, 655, 0)) := yqr_ok (by decide +kernel)
theorem q73_212 : xcR (xmk 73) 212 = some (xmk 73, 212, 89, 0, (758, 760, 24)) := yqr_ok (by decide +kernel)
theorem mr_73 : xmr 73 = some .int := by decide +kernel
theorem q74_212 : xcR (xmk 74) 212 = some (xmk 74, 212, 89, 0, (758, 760, 24)) := yqr_ok (by decide +kernel)
theorem mr_74 : xmr 74 = some .int := by decide +kernel
theorem q75_216 : xcR (xmk 75) 216 = some (xmk 75, 216, 98, 1, (796, 655, 0)) := yqr_ok (by decide +kernel)
theorem q75_212 : xcR (xmk 75) 212 = some (xmk 75, 212, 89, 0, (758, 760, 24)) := yqr_ok (by decide +kernel)
theorem mr_75 : xmr 75 = some .int := by decide +kernel
theorem q76_216 : xcR (xmk 76) 216 = some (xmk 76, 216, 98, 1, (796, 655, 0)) := yqr_ok (by decide +kernel)
theorem q76_212 : xcR (xmk 76) 212 = some (xmk 76, 212, 89, 0, (758, 760, 24)) := yqr_ok (by decide +kernel)
theorem mr_76 : xmr 76 = some .int := by decide +kernel
theorem q77_212 : xcR (xmk 77) 212 = some (xmk 77, 212, 89, 0, (758, 760, 24)) := yqr_ok (by decide +kernel)
theorem mr_77 : xmr 77 = some .int := by decide +kernel
theorem q78_212 : xcR (xmk 78) 212 = some (xmk 78, 212, 89, 0, (758, 760, 24)) := yqr_ok (by decide +kernel)
theorem mr_78 : xmr 78 = some .int := by decide +kernel
theorem q79_39 : xfR (xmk 79) 39 = some (4, 5) := by decide +kernel
theorem q79_220 : xfR (xmk 79) 220 = some (2, 2) := by decide +kernel
theorem q79_66 : xcR (xmk 79) 66 = some (xmk 79, 66, 93, 1, (576, 577, 0)) := yqr_ok (by decide +kernel)
theorem q79_27 : xfR (xmk 79) 27 = some (4, 2) := by decide +kernel
theorem q79_223 : xcR (xmk 79) 223 = some (xmk 79, 223, 37, 0, (839, 840, 841)) := yqr_ok (by decide +kernel)
theorem mk_37 : xmk 37 = 2 := by decide +kernel
theorem mr_79 : xmr 79 = some .int := by decide +kernel
theorem q80_197 : xcR (xmk 80) 197 = some (xmk 80, 197, 95, 1, (726, 360, 0)) := yqr_ok (by decide +kernel)
theorem q80_126 : xcR (xmk 80) 126 = some (xmk 80, 126, 91, 1, (666, 667, 0)) := yqr_ok (by decide +kernel)
theorem q80_54 : xcR (xmk 80) 54 = some (xmk 80, 54, 94, 1, (362, 363, 0)) := yqr_ok (by decide +kernel)
theorem q80_58 : xcR (xmk 80) 58 = some (xmk 80, 58, 92, 1, (505, 506, 0)) := yqr_ok (by decide +kernel)
theorem q80_33 : xfR (xmk 80) 33 = some (4, 4) := by decide +kernel
theorem q80_27 : xfR (xmk 80) 27 = some (4, 2) := by decide +kernel
theorem q80_77 : xcR (xmk 80) 77 = some (xmk 80, 77, 2, 0, (429, 430, 431)) := yqr_ok (by decide +kernel)
theorem q80_200 : xfR (xmk 80) 200 = some (0, 10) := by decide +kernel
theorem q80_30 : xfR (xmk 80) 30 = some (4, 3) := by decide +kernel
theorem yP26 : yP 26 := by show 26 ∈ ([10, 26] : List Nat); decide +kernel
theorem s_r_7_3 : ySr 7 4 3 26 := by unfold ySr; decide +kernel
theorem q80_103 : xcR (xmk 80) 103 = some (xmk 80, 103, 45, 0, (433, 434, 435)) := yqr_ok (by decide +kernel)
theorem q80_106 : xfR (xmk 80) 106 = some (3, 8) := by decide +kernel
theorem mr_80 : xmr 80 = some .int := by decide +kernel
theorem q80_109 : xfR (xmk 80) 109 = some (3, 7) := by decide +kernel
theorem q81_54 : xcR (xmk 81) 54 = some (xmk 81, 54, 94, 1, (362, 363, 0)) := yqr_ok (by decide +kernel)
theorem q81_58 : xcR (xmk 81) 58 = some (xmk 81, 58, 92, 1, (505, 506, 0)) := yqr_ok (by decide +kernel)
theorem q81_27 : xfR (xmk 81) 27 = some (4, 2) := by decide +kernel
theorem q81_99 : xcR (xmk 81) 99 = some (xmk 81, 99, 15, 0, (617, 618, 619)) := yqr_ok (by decide +kernel)
theorem mr_81 : xmr 81 = some .int := by decide +kernel
theorem q81_226 : xcR (xmk 81) 226 = some (xmk 81, 226, 16, 0, (857, 858, 859)) := yqr_ok (by decide +kernel)
theorem mk_16 : xmk 16 = 0 := by decide +kernel
theorem q82_27 : xfR (xmk 82) 27 = some (4, 2) := by decide +kernel
theorem q82_150 : xcR (xmk 82) 150 = some (xmk 82, 150, 4, 0, (707, 383, 384)) := yqr_ok (by decide +kernel)
theorem q82_126 : xcR (xmk 82) 126 = some (xmk 82, 126, 91, 1, (666, 667, 0)) := yqr_ok (by decide +kernel)
theorem q82_19 : xfR (xmk 82) 19 = some (4, 1) := by decide +kernel
theorem q82_103 : xcR (xmk 82) 103 = some (xmk 82, 103, 45, 0, (433, 434, 435)) := yqr_ok (by decide +kernel)
theorem q82_177 : xfR (xmk 82) 177 = some (3, 1) := by decide +kernel
theorem mr_82 : xmr 82 = some .int := by decide +kernel
theorem q82_33 : xfR (xmk 82) 33 = some (4, 4) := by decide +kernel
theorem q82_77 : xcR (xmk 82) 77 = some (xmk 82, 77, 2, 0, (429, 430, 431)) := yqr_ok (by decide +kernel)
theorem kb_60 : (Int8.ofInt 60).toInt32 = 60 := by decide +kernel
theorem q82_153 : xfR (xmk 82) 153 = some (0, 5) := by decide +kernel
theorem q82_30 : xfR (xmk 82) 30 = some (4, 3) := by decide +kernel
theorem q82_106 : xfR (xmk 82) 106 = some (3, 8) := by decide +kernel
theorem q83_33 : xfR (xmk 83) 33 = some (4, 4) := by decide +kernel
theorem q83_27 : xfR (xmk 83) 27 = some (4, 2) := by decide +kernel
theorem q83_77 : xcR (xmk 83) 77 = some (xmk 83, 77, 2, 0, (429, 430, 431)) := yqr_ok (by decide +kernel)
theorem q83_206 : xfR (xmk 83) 206 = some (0, 11) := by decide +kernel
theorem q83_30 : xfR (xmk 83) 30 = some (4, 3) := by decide +kernel
theorem q83_103 : xcR (xmk 83) 103 = some (xmk 83, 103, 45, 0, (433, 434, 435)) := yqr_ok (by decide +kernel)
theorem q83_109 : xfR (xmk 83) 109 = some (3, 7) := by decide +kernel
theorem q83_106 : xfR (xmk 83) 106 = some (3, 8) := by decide +kernel
theorem mr_83 : xmr 83 = some .int := by decide +kernel
theorem q84_54 : xcR (xmk 84) 54 = some (xmk 84, 54, 94, 1, (362, 363, 0)) := yqr_ok (by decide +kernel)
theorem q84_58 : xcR (xmk 84) 58 = some (xmk 84, 58, 92, 1, (505, 506, 0)) := yqr_ok (by decide +kernel)
theorem q84_27 : xfR (xmk 84) 27 = some (4, 2) := by decide +kernel
theorem q84_226 : xcR (xmk 84) 226 = some (xmk 84, 226, 16, 0, (857, 858, 859)) := yqr_ok (by decide +kernel)
theorem mr_84 : xmr 84 = some .int := by decide +kernel
theorem q85_54 : xcR (xmk 85) 54 = some (xmk 85, 54, 94, 1, (362, 363, 0)) := yqr_ok (by decide +kernel)
theorem q85_58 : xcR (xmk 85) 58 = some (xmk 85, 58, 92, 1, (505, 506, 0)) := yqr_ok (by decide +kernel)
theorem kl_1 : Int64.ofNat ((1 : Fin 2) : Nat) = 1 := by decide +kernel
theorem q85_229 : xcL (xmk 85) 229 = some 1000000 := by decide +kernel
theorem kl_0 : Int64.ofNat ((0 : Fin 2) : Nat) = 0 := by decide +kernel
theorem q85_33 : xfR (xmk 85) 33 = some (4, 4) := by decide +kernel
theorem q85_27 : xfR (xmk 85) 27 = some (4, 2) := by decide +kernel
theorem q85_77 : xcR (xmk 85) 77 = some (xmk 85, 77, 2, 0, (429, 430, 431)) := yqr_ok (by decide +kernel)
theorem nzJ_1000000 : (1000000 : Int64) ≠ 0 := by decide +kernel
theorem q85_30 : xfR (xmk 85) 30 = some (4, 3) := by decide +kernel
theorem q85_103 : xcR (xmk 85) 103 = some (xmk 85, 103, 45, 0, (433, 434, 435)) := yqr_ok (by decide +kernel)
theorem q85_231 : xcR (xmk 85) 231 = some (xmk 85, 231, 101, 0, (886, 888, 25)) := yqr_ok (by decide +kernel)
theorem mk_101 : xmk 101 = 4 := by decide +kernel
theorem mr_85 : xmr 85 = some .int := by decide +kernel
theorem q86_54 : xcR (xmk 86) 54 = some (xmk 86, 54, 94, 1, (362, 363, 0)) := yqr_ok (by decide +kernel)
theorem q86_58 : xcR (xmk 86) 58 = some (xmk 86, 58, 92, 1, (505, 506, 0)) := yqr_ok (by decide +kernel)
theorem q86_33 : xfR (xmk 86) 33 = some (4, 4) := by decide +kernel
theorem q86_27 : xfR (xmk 86) 27 = some (4, 2) := by decide +kernel
theorem q86_77 : xcR (xmk 86) 77 = some (xmk 86, 77, 2, 0, (429, 430, 431)) := yqr_ok (by decide +kernel)
theorem q86_234 : xcL (xmk 86) 234 = some 6364136223846793005 := by decide +kernel
theorem q86_236 : xcL (xmk 86) 236 = some 1442695040888963407 := by decide +kernel
theorem kb_33 : (Int8.ofInt 33).toInt32 = 33 := by decide +kernel
theorem nzI_8 : (8 : Int32) ≠ 0 := by decide +kernel
theorem q86_238 : xcR (xmk 86) 238 = some (xmk 86, 238, 104, 0, (909, 911, 28)) := yqr_ok (by decide +kernel)
theorem mk_104 : xmk 104 = 4 := by decide +kernel
theorem q86_30 : xfR (xmk 86) 30 = some (4, 3) := by decide +kernel
theorem q86_103 : xcR (xmk 86) 103 = some (xmk 86, 103, 45, 0, (433, 434, 435)) := yqr_ok (by decide +kernel)
theorem q86_96 : xfR (xmk 86) 96 = some (0, 3) := by decide +kernel
theorem q86_99 : xcR (xmk 86) 99 = some (xmk 86, 99, 15, 0, (617, 618, 619)) := yqr_ok (by decide +kernel)
theorem ks_1000 : (Int16.ofInt 1000).toInt32 = 1000 := by decide +kernel
theorem q86_106 : xfR (xmk 86) 106 = some (3, 8) := by decide +kernel
theorem q86_109 : xfR (xmk 86) 109 = some (3, 7) := by decide +kernel
theorem mr_86 : xmr 86 = some .int := by decide +kernel
theorem q87_242 : xcR (xmk 87) 242 = some (xmk 87, 242, 97, 1, (920, 921, 0)) := yqr_ok (by decide +kernel)
theorem q87_126 : xcR (xmk 87) 126 = some (xmk 87, 126, 91, 1, (666, 667, 0)) := yqr_ok (by decide +kernel)
theorem q87_46 : xfR (xmk 87) 46 = some (4, 6) := by decide +kernel
theorem s_r_7_6 : ySr 7 4 6 170 := by unfold ySr; decide +kernel
theorem q87_27 : xfR (xmk 87) 27 = some (4, 2) := by decide +kernel
theorem q87_77 : xcR (xmk 87) 77 = some (xmk 87, 77, 2, 0, (429, 430, 431)) := yqr_ok (by decide +kernel)
theorem q87_50 : xfR (xmk 87) 50 = some (4, 7) := by decide +kernel
theorem q87_90 : xfR (xmk 87) 90 = some (0, 1) := by decide +kernel
theorem mr_87 : xmr 87 = some .int := by decide +kernel
theorem q88_242 : xcR (xmk 88) 242 = some (xmk 88, 242, 97, 1, (920, 921, 0)) := yqr_ok (by decide +kernel)
theorem q88_126 : xcR (xmk 88) 126 = some (xmk 88, 126, 91, 1, (666, 667, 0)) := yqr_ok (by decide +kernel)
theorem q88_50 : xfR (xmk 88) 50 = some (4, 7) := by decide +kernel
theorem q88_66 : xcR (xmk 88) 66 = some (xmk 88, 66, 93, 1, (576, 577, 0)) := yqr_ok (by decide +kernel)
theorem q88_27 : xfR (xmk 88) 27 = some (4, 2) := by decide +kernel
theorem q88_46 : xfR (xmk 88) 46 = some (4, 6) := by decide +kernel
theorem q88_77 : xcR (xmk 88) 77 = some (xmk 88, 77, 2, 0, (429, 430, 431)) := yqr_ok (by decide +kernel)
theorem q88_39 : xfR (xmk 88) 39 = some (4, 5) := by decide +kernel
theorem q88_81 : xcR (xmk 88) 81 = some (xmk 88, 81, 38, 0, (606, 607, 608)) := yqr_ok (by decide +kernel)
theorem q88_90 : xfR (xmk 88) 90 = some (0, 1) := by decide +kernel
theorem mr_88 : xmr 88 = some .int := by decide +kernel
theorem q89_27 : xfR (xmk 89) 27 = some (4, 2) := by decide +kernel
theorem q89_245 : xcR (xmk 89) 245 = some (xmk 89, 245, 6, 0, (762, 374, 375)) := yqr_ok (by decide +kernel)
theorem q89_248 : xcR (xmk 89) 248 = some (xmk 89, 248, 90, 1, (763, 764, 0)) := yqr_ok (by decide +kernel)
theorem q89_39 : xfR (xmk 89) 39 = some (4, 5) := by decide +kernel
theorem q89_252 : xcR (xmk 89) 252 = some (xmk 89, 252, 36, 0, (766, 767, 768)) := yqr_ok (by decide +kernel)
theorem mk_36 : xmk 36 = 2 := by decide +kernel
theorem q89_255 : xcR (xmk 89) 255 = some (xmk 89, 255, 8, 0, (774, 406, 407)) := yqr_ok (by decide +kernel)
theorem mr_89 : xmr 89 = some .int := by decide +kernel
theorem q90_126 : xcR (xmk 90) 126 = some (xmk 90, 126, 91, 1, (666, 667, 0)) := yqr_ok (by decide +kernel)
theorem q90_58 : xcR (xmk 90) 58 = some (xmk 90, 58, 92, 1, (505, 506, 0)) := yqr_ok (by decide +kernel)
theorem q90_66 : xcR (xmk 90) 66 = some (xmk 90, 66, 93, 1, (576, 577, 0)) := yqr_ok (by decide +kernel)
theorem mr_90 : xmr 90 = none := by decide +kernel
theorem mr_91 : xmr 91 = none := by decide +kernel
theorem mr_92 : xmr 92 = none := by decide +kernel
theorem mr_93 : xmr 93 = none := by decide +kernel
theorem mr_94 : xmr 94 = some .boolean := by decide +kernel
theorem q95_54 : xcR (xmk 95) 54 = some (xmk 95, 54, 94, 1, (362, 363, 0)) := yqr_ok (by decide +kernel)
theorem mr_95 : xmr 95 = some .boolean := by decide +kernel
theorem q96_54 : xcR (xmk 96) 54 = some (xmk 96, 54, 94, 1, (362, 363, 0)) := yqr_ok (by decide +kernel)
theorem mr_96 : xmr 96 = some .boolean := by decide +kernel
theorem q97_54 : xcR (xmk 97) 54 = some (xmk 97, 54, 94, 1, (362, 363, 0)) := yqr_ok (by decide +kernel)
theorem mr_97 : xmr 97 = some .boolean := by decide +kernel
theorem mr_98 : xmr 98 = some .int := by decide +kernel
theorem mr_99 : xmr 99 = some .boolean := by decide +kernel
theorem mr_100 : xmr 100 = some .int := by decide +kernel
theorem nzI_1000 : (1000 : Int32) ≠ 0 := by decide +kernel
theorem kb_100 : (Int8.ofInt 100).toInt32 = 100 := by decide +kernel
theorem nzI_100 : (100 : Int32) ≠ 0 := by decide +kernel
theorem q101_275 : xcI (xmk 101) 275 = some 100000 := by decide +kernel
theorem nzI_100000 : (100000 : Int32) ≠ 0 := by decide +kernel
theorem q101_33 : xfR (xmk 101) 33 = some (4, 4) := by decide +kernel
theorem q101_276 : xcR (xmk 101) 276 = some (xmk 101, 276, 5, 0, (891, 370, 371)) := yqr_ok (by decide +kernel)
theorem mr_101 : xmr 101 = some .boolean := by decide +kernel
theorem q101_280 : xcR (xmk 101) 280 = some (xmk 101, 280, 102, 0, (892, 894, 26)) := yqr_ok (by decide +kernel)
theorem mk_102 : xmk 102 = 4 := by decide +kernel
theorem q101_30 : xfR (xmk 101) 30 = some (4, 3) := by decide +kernel
theorem q101_106 : xfR (xmk 101) 106 = some (3, 8) := by decide +kernel
theorem q101_284 : xcR (xmk 101) 284 = some (xmk 101, 284, 103, 0, (896, 898, 27)) := yqr_ok (by decide +kernel)
theorem mk_103 : xmk 103 = 4 := by decide +kernel
theorem kc_9 : Int32.ofInt 9 = 9 := by decide +kernel
theorem q101_109 : xfR (xmk 101) 109 = some (3, 7) := by decide +kernel
theorem q102_33 : xfR (xmk 102) 33 = some (4, 4) := by decide +kernel
theorem q102_150 : xcR (xmk 102) 150 = some (xmk 102, 150, 4, 0, (707, 383, 384)) := yqr_ok (by decide +kernel)
theorem mr_102 : xmr 102 = some .boolean := by decide +kernel
theorem q102_30 : xfR (xmk 102) 30 = some (4, 3) := by decide +kernel
theorem q102_177 : xfR (xmk 102) 177 = some (3, 1) := by decide +kernel
theorem q103_33 : xfR (xmk 103) 33 = some (4, 4) := by decide +kernel
theorem q103_122 : xcR (xmk 103) 122 = some (xmk 103, 122, 3, 0, (665, 387, 388)) := yqr_ok (by decide +kernel)
theorem mr_103 : xmr 103 = some .boolean := by decide +kernel
theorem q103_96 : xfR (xmk 103) 96 = some (0, 3) := by decide +kernel
theorem q103_140 : xcR (xmk 103) 140 = some (xmk 103, 140, 14, 0, (687, 622, 623)) := yqr_ok (by decide +kernel)
theorem q104_33 : xfR (xmk 104) 33 = some (4, 4) := by decide +kernel
theorem ks_5000 : (Int16.ofInt 5000).toInt32 = 5000 := by decide +kernel
theorem nzI_5000 : (5000 : Int32) ≠ 0 := by decide +kernel
theorem q104_276 : xcR (xmk 104) 276 = some (xmk 104, 276, 5, 0, (891, 370, 371)) := yqr_ok (by decide +kernel)
theorem mr_104 : xmr 104 = none := by decide +kernel
theorem kb_40 : (Int8.ofInt 40).toInt32 = 40 := by decide +kernel
theorem nzI_40 : (40 : Int32) ≠ 0 := by decide +kernel
theorem kb_64 : (Int8.ofInt 64).toInt32 = 64 := by decide +kernel
theorem nzI_64 : (64 : Int32) ≠ 0 := by decide +kernel
theorem nzI_5 : (5 : Int32) ≠ 0 := by decide +kernel
theorem ks_512 : (Int16.ofInt 512).toInt32 = 512 := by decide +kernel
theorem nzI_512 : (512 : Int32) ≠ 0 := by decide +kernel
theorem nzI_2 : (2 : Int32) ≠ 0 := by decide +kernel
theorem nzI_14 : (14 : Int32) ≠ 0 := by decide +kernel
theorem kb_16 : (Int8.ofInt 16).toInt32 = 16 := by decide +kernel
theorem nzI_16 : (16 : Int32) ≠ 0 := by decide +kernel
theorem nzI_12 : (12 : Int32) ≠ 0 := by decide +kernel
theorem ks_256 : (Int16.ofInt 256).toInt32 = 256 := by decide +kernel
theorem nzI_256 : (256 : Int32) ≠ 0 := by decide +kernel
theorem nzI_4 : (4 : Int32) ≠ 0 := by decide +kernel
theorem q104_216 : xcR (xmk 104) 216 = some (xmk 104, 216, 98, 1, (796, 655, 0)) := yqr_ok (by decide +kernel)
theorem nzI_24 : (24 : Int32) ≠ 0 := by decide +kernel
theorem ks_128 : (Int16.ofInt 128).toInt32 = 128 := by decide +kernel
theorem nzI_128 : (128 : Int32) ≠ 0 := by decide +kernel
theorem q106_48 : xfR (xmk 106) 48 = some (5, 0) := by decide +kernel
theorem s_i_190_0 : ySi 190 5 0 := by unfold ySi; decide +kernel
theorem mr_106 : xmr 106 = some .int := by decide +kernel
theorem q107_48 : xfR (xmk 107) 48 = some (5, 0) := by decide +kernel
theorem mr_107 : xmr 107 = some .boolean := by decide +kernel
theorem mr_108 : xmr 108 = some .boolean := by decide +kernel
theorem q109_52 : xcL (xmk 109) 52 = some 10 := by decide +kernel
theorem mr_109 : xmr 109 = some .long := by decide +kernel
theorem mr_110 : xmr 110 = some .boolean := by decide +kernel
theorem q111_54 : xcR (xmk 111) 54 = some (xmk 111, 54, 110, 1, (1086, 1087, 0)) := yqr_ok (by decide +kernel)
theorem mr_111 : xmr 111 = some .int := by decide +kernel
theorem kb_95 : (Int8.ofInt 95).toInt32 = 95 := by decide +kernel
theorem kb_86 : (Int8.ofInt 86).toInt32 = 86 := by decide +kernel
theorem kb_91 : (Int8.ofInt 91).toInt32 = 91 := by decide +kernel
theorem kb_92 : (Int8.ofInt 92).toInt32 = 92 := by decide +kernel
theorem kb_93 : (Int8.ofInt 93).toInt32 = 93 := by decide +kernel
theorem mr_112 : xmr 112 = none := by decide +kernel
theorem mr_113 : xmr 113 = none := by decide +kernel
theorem in_0_95 : yinB 0 95 = true := by decide +kernel
theorem q114_58 : xcR (xmk 114) 58 = some (xmk 114, 58, 108, 1, (1003, 1004, 0)) := yqr_ok (by decide +kernel)
theorem mr_114 : xmr 114 = some .boolean := by decide +kernel
theorem in_15_95 : yinB 15 95 = true := by decide +kernel
theorem q115_58 : xcR (xmk 115) 58 = some (xmk 115, 58, 108, 1, (1003, 1004, 0)) := yqr_ok (by decide +kernel)
theorem mr_115 : xmr 115 = some .boolean := by decide +kernel
theorem q116_62 : xcL (xmk 116) 62 = some 3 := by decide +kernel
theorem q116_58 : xcR (xmk 116) 58 = some (xmk 116, 58, 108, 1, (1003, 1004, 0)) := yqr_ok (by decide +kernel)
theorem mr_116 : xmr 116 = some .boolean := by decide +kernel
theorem q117_64 : xcL (xmk 117) 64 = some 50000 := by decide +kernel
theorem q117_58 : xcR (xmk 117) 58 = some (xmk 117, 58, 108, 1, (1003, 1004, 0)) := yqr_ok (by decide +kernel)
theorem mr_117 : xmr 117 = some .boolean := by decide +kernel
theorem q118_66 : xcL (xmk 118) 66 = some 90 := by decide +kernel
theorem q118_58 : xcR (xmk 118) 58 = some (xmk 118, 58, 108, 1, (1003, 1004, 0)) := yqr_ok (by decide +kernel)
theorem mr_118 : xmr 118 = some .boolean := by decide +kernel
theorem q119_68 : xcL (xmk 119) 68 = some 24 := by decide +kernel
theorem q119_58 : xcR (xmk 119) 58 = some (xmk 119, 58, 108, 1, (1003, 1004, 0)) := yqr_ok (by decide +kernel)
theorem mr_119 : xmr 119 = some .boolean := by decide +kernel
theorem q120_62 : xcL (xmk 120) 62 = some 3 := by decide +kernel
theorem q120_58 : xcR (xmk 120) 58 = some (xmk 120, 58, 108, 1, (1003, 1004, 0)) := yqr_ok (by decide +kernel)
theorem mr_120 : xmr 120 = some .boolean := by decide +kernel
theorem q121_70 : xcL (xmk 121) 70 = some 15 := by decide +kernel
theorem q121_58 : xcR (xmk 121) 58 = some (xmk 121, 58, 108, 1, (1003, 1004, 0)) := yqr_ok (by decide +kernel)
theorem mr_121 : xmr 121 = some .boolean := by decide +kernel
theorem q121_72 : xcL (xmk 121) 72 = some 2 := by decide +kernel
theorem q121_74 : xcL (xmk 121) 74 = some 20 := by decide +kernel
theorem q121_62 : xcL (xmk 121) 62 = some 3 := by decide +kernel
theorem mr_122 : xmr 122 = some .int := by decide +kernel
theorem ks_144 : (Int16.ofInt 144).toInt32 = 144 := by decide +kernel
theorem ks_2304 : (Int16.ofInt 2304).toInt32 = 2304 := by decide +kernel
theorem in_14_95 : yinB 14 95 = true := by decide +kernel
theorem in_13_95 : yinB 13 95 = true := by decide +kernel
theorem mr_123 : xmr 123 = some .int := by decide +kernel
theorem in_90_95 : yinB 90 95 = true := by decide +kernel
theorem q124_54 : xcR (xmk 124) 54 = some (xmk 124, 54, 110, 1, (1086, 1087, 0)) := yqr_ok (by decide +kernel)
theorem q124_76 : xcR (xmk 124) 76 = some (xmk 124, 76, 122, 1, (1049, 1050, 0)) := yqr_ok (by decide +kernel)
theorem mr_124 : xmr 124 = some .int := by decide +kernel
theorem q125_80 : xcR (xmk 125) 80 = some (xmk 125, 80, 124, 1, (1130, 1131, 0)) := yqr_ok (by decide +kernel)
theorem q125_84 : xcR (xmk 125) 84 = some (xmk 125, 84, 123, 1, (1133, 1134, 0)) := yqr_ok (by decide +kernel)
theorem in_91_95 : yinB 91 95 = true := by decide +kernel
theorem mr_125 : xmr 125 = some .int := by decide +kernel
theorem q126_88 : xcR (xmk 126) 88 = some (xmk 126, 88, 125, 1, (1127, 1128, 0)) := yqr_ok (by decide +kernel)
theorem q126_54 : xcR (xmk 126) 54 = some (xmk 126, 54, 110, 1, (1086, 1087, 0)) := yqr_ok (by decide +kernel)
theorem mr_126 : xmr 126 = some .int := by decide +kernel
theorem q126_76 : xcR (xmk 126) 76 = some (xmk 126, 76, 122, 1, (1049, 1050, 0)) := yqr_ok (by decide +kernel)
theorem q127_91 : xcR (xmk 127) 91 = some (xmk 127, 91, 126, 1, (1124, 1125, 0)) := yqr_ok (by decide +kernel)
theorem mr_127 : xmr 127 = some .int := by decide +kernel
theorem q128_95 : xcR (xmk 128) 95 = some (xmk 128, 95, 127, 1, (1121, 1122, 0)) := yqr_ok (by decide +kernel)
theorem mr_128 : xmr 128 = some .int := by decide +kernel
theorem q129_88 : xcR (xmk 129) 88 = some (xmk 129, 88, 125, 1, (1127, 1128, 0)) := yqr_ok (by decide +kernel)
theorem q129_84 : xcR (xmk 129) 84 = some (xmk 129, 84, 123, 1, (1133, 1134, 0)) := yqr_ok (by decide +kernel)
theorem mr_129 : xmr 129 = some .int := by decide +kernel
theorem kb_72 : (Int8.ofInt 72).toInt32 = 72 := by decide +kernel
theorem q130_54 : xcR (xmk 130) 54 = some (xmk 130, 54, 110, 1, (1086, 1087, 0)) := yqr_ok (by decide +kernel)
theorem mr_130 : xmr 130 = some .int := by decide +kernel
theorem mr_131 : xmr 131 = some .int := by decide +kernel
theorem q131_54 : xcR (xmk 131) 54 = some (xmk 131, 54, 110, 1, (1086, 1087, 0)) := yqr_ok (by decide +kernel)
theorem q132_38 : xfR (xmk 132) 38 = some (5, 12) := by decide +kernel
theorem s_a_200 : ySa 200 0 14 := by unfold ySa; decide +kernel
theorem s_r_190_12 : ySr 190 5 12 200 := by unfold ySr; decide +kernel
theorem mr_132 : xmr 132 = none := by decide +kernel
theorem q132_54 : xcR (xmk 132) 54 = some (xmk 132, 54, 110, 1, (1086, 1087, 0)) := yqr_ok (by decide +kernel)
theorem q133_98 : xcR (xmk 133) 98 = some (xmk 133, 98, 132, 0, (1144, 1146, 44)) := yqr_ok (by decide +kernel)
theorem s_t_190 : (ysh 190).1 = 100 + 5 := by decide +kernel
theorem mk_132 : xmk 132 = 5 := by decide +kernel
theorem q133_38 : xfR (xmk 133) 38 = some (5, 12) := by decide +kernel
theorem mr_133 : xmr 133 = some .int := by decide +kernel
theorem q134_29 : xfR (xmk 134) 29 = some (5, 8) := by decide +kernel
theorem s_a_197 : ySa 197 0 14 := by unfold ySa; decide +kernel
theorem s_r_190_8 : ySr 190 5 8 197 := by unfold ySr; decide +kernel
theorem mr_134 : xmr 134 = some .boolean := by decide +kernel
theorem q134_32 : xfR (xmk 134) 32 = some (5, 9) := by decide +kernel
theorem s_a_198 : ySa 198 0 14 := by unfold ySa; decide +kernel
theorem s_r_190_9 : ySr 190 5 9 198 := by unfold ySr; decide +kernel
theorem kb_44 : (Int8.ofInt 44).toInt32 = 44 := by decide +kernel
theorem q135_101 : xcR (xmk 135) 101 = some (xmk 135, 101, 134, 0, (1160, 1162, 48)) := yqr_ok (by decide +kernel)
theorem mk_134 : xmk 134 = 5 := by decide +kernel
theorem mr_135 : xmr 135 = some .int := by decide +kernel
theorem kb_30 : (Int8.ofInt 30).toInt32 = 30 := by decide +kernel
theorem q136_101 : xcR (xmk 136) 101 = some (xmk 136, 101, 134, 0, (1160, 1162, 48)) := yqr_ok (by decide +kernel)
theorem mr_136 : xmr 136 = some .int := by decide +kernel
theorem q137_29 : xfR (xmk 137) 29 = some (5, 8) := by decide +kernel
theorem q137_32 : xfR (xmk 137) 32 = some (5, 9) := by decide +kernel
theorem in_92_95 : yinB 92 95 = true := by decide +kernel
theorem mr_137 : xmr 137 = some .int := by decide +kernel
theorem q138_29 : xfR (xmk 138) 29 = some (5, 8) := by decide +kernel
theorem q138_32 : xfR (xmk 138) 32 = some (5, 9) := by decide +kernel
theorem mr_138 : xmr 138 = some .int := by decide +kernel
theorem q139_29 : xfR (xmk 139) 29 = some (5, 8) := by decide +kernel
theorem q139_54 : xcR (xmk 139) 54 = some (xmk 139, 54, 110, 1, (1086, 1087, 0)) := yqr_ok (by decide +kernel)
theorem q139_32 : xfR (xmk 139) 32 = some (5, 9) := by decide +kernel
theorem q139_104 : xcR (xmk 139) 104 = some (xmk 139, 104, 135, 0, (1156, 1158, 47)) := yqr_ok (by decide +kernel)
theorem mk_135 : xmk 135 = 5 := by decide +kernel
theorem in_93_95 : yinB 93 95 = true := by decide +kernel
theorem mr_139 : xmr 139 = some .boolean := by decide +kernel
theorem q139_107 : xcR (xmk 139) 107 = some (xmk 139, 107, 136, 0, (1164, 1166, 49)) := yqr_ok (by decide +kernel)
theorem mk_136 : xmk 136 = 5 := by decide +kernel
theorem q139_110 : xcR (xmk 139) 110 = some (xmk 139, 110, 137, 0, (1168, 1170, 50)) := yqr_ok (by decide +kernel)
theorem mk_137 : xmk 137 = 5 := by decide +kernel
theorem kb_94 : (Int8.ofInt 94).toInt32 = 94 := by decide +kernel
theorem in_94_95 : yinB 94 95 = true := by decide +kernel
theorem mr_140 : xmr 140 = some .int := by decide +kernel
theorem q140_38 : xfR (xmk 140) 38 = some (5, 12) := by decide +kernel
theorem q140_113 : xcR (xmk 140) 113 = some (xmk 140, 113, 130, 1, (1176, 1177, 0)) := yqr_ok (by decide +kernel)
theorem q140_116 : xcR (xmk 140) 116 = some (xmk 140, 116, 111, 1, (1083, 1084, 0)) := yqr_ok (by decide +kernel)
theorem q141_120 : xcR (xmk 141) 120 = some (xmk 141, 120, 139, 0, (1152, 1154, 46)) := yqr_ok (by decide +kernel)
theorem mk_139 : xmk 139 = 5 := by decide +kernel
theorem q141_124 : xcR (xmk 141) 124 = some (xmk 141, 124, 140, 0, (1172, 1174, 51)) := yqr_ok (by decide +kernel)
theorem mk_140 : xmk 140 = 5 := by decide +kernel
theorem mr_141 : xmr 141 = some .int := by decide +kernel
theorem q142_29 : xfR (xmk 142) 29 = some (5, 8) := by decide +kernel
theorem q142_32 : xfR (xmk 142) 32 = some (5, 9) := by decide +kernel
theorem cp_Int32_m1_eq_m1 : ((-1) : Int32) = (-1) := by decide +kernel
theorem mr_142 : xmr 142 = some .int := by decide +kernel
theorem q143_127 : xfR (xmk 143) 127 = some (5, 11) := by decide +kernel
theorem s_i_190_11 : ySi 190 5 11 := by unfold ySi; decide +kernel
theorem q143_29 : xfR (xmk 143) 29 = some (5, 8) := by decide +kernel
theorem q143_32 : xfR (xmk 143) 32 = some (5, 9) := by decide +kernel
theorem q143_98 : xcR (xmk 143) 98 = some (xmk 143, 98, 132, 0, (1144, 1146, 44)) := yqr_ok (by decide +kernel)
theorem mr_143 : xmr 143 = none := by decide +kernel
theorem q143_130 : xcR (xmk 143) 130 = some (xmk 143, 130, 141, 0, (1148, 1150, 45)) := yqr_ok (by decide +kernel)
theorem mk_141 : xmk 141 = 5 := by decide +kernel
theorem q143_133 : xcR (xmk 143) 133 = some (xmk 143, 133, 142, 0, (1179, 1181, 52)) := yqr_ok (by decide +kernel)
theorem mk_142 : xmk 142 = 5 := by decide +kernel
theorem q143_35 : xfR (xmk 143) 35 = some (5, 10) := by decide +kernel
theorem s_a_199 : ySa 199 0 14 := by unfold ySa; decide +kernel
theorem s_r_190_10 : ySr 190 5 10 199 := by unfold ySr; decide +kernel
theorem q144_136 : xcR (xmk 144) 136 = some (xmk 144, 136, 143, 0, (1140, 1142, 43)) := yqr_ok (by decide +kernel)
theorem mk_143 : xmk 143 = 5 := by decide +kernel
theorem q144_32 : xfR (xmk 144) 32 = some (5, 9) := by decide +kernel
theorem mr_144 : xmr 144 = some .int := by decide +kernel
theorem q145_136 : xcR (xmk 145) 136 = some (xmk 145, 136, 143, 0, (1140, 1142, 43)) := yqr_ok (by decide +kernel)
theorem q145_127 : xfR (xmk 145) 127 = some (5, 11) := by decide +kernel
theorem mr_145 : xmr 145 = some .int := by decide +kernel
theorem mr_146 : xmr 146 = some .int := by decide +kernel
theorem mr_147 : xmr 147 = some .int := by decide +kernel
theorem q148_139 : xcR (xmk 148) 139 = some (xmk 148, 139, 128, 1, (1118, 1119, 0)) := yqr_ok (by decide +kernel)
theorem mr_148 : xmr 148 = some .int := by decide +kernel
theorem q149_142 : xcR (xmk 149) 142 = some (xmk 149, 142, 118, 1, (1279, 1280, 0)) := yqr_ok (by decide +kernel)
theorem mr_149 : xmr 149 = some .boolean := by decide +kernel
theorem q149_146 : xcL (xmk 149) 146 = some (-1) := by decide +kernel
theorem q149_62 : xcL (xmk 149) 62 = some 3 := by decide +kernel
theorem q149_58 : xcR (xmk 149) 58 = some (xmk 149, 58, 108, 1, (1003, 1004, 0)) := yqr_ok (by decide +kernel)
theorem kb_58 : (Int8.ofInt 58).toInt32 = 58 := by decide +kernel
theorem mr_150 : xmr 150 = some .int := by decide +kernel
theorem q151_116 : xcR (xmk 151) 116 = some (xmk 151, 116, 111, 1, (1083, 1084, 0)) := yqr_ok (by decide +kernel)
theorem mr_151 : xmr 151 = some .int := by decide +kernel
theorem mr_152 : xmr 152 = some .boolean := by decide +kernel
theorem q152_148 : xcR (xmk 152) 148 = some (xmk 152, 148, 131, 1, (1096, 1097, 0)) := yqr_ok (by decide +kernel)
theorem q152_54 : xcR (xmk 152) 54 = some (xmk 152, 54, 110, 1, (1086, 1087, 0)) := yqr_ok (by decide +kernel)
theorem q153_116 : xcR (xmk 153) 116 = some (xmk 153, 116, 111, 1, (1083, 1084, 0)) := yqr_ok (by decide +kernel)
theorem mr_153 : xmr 153 = some .int := by decide +kernel
theorem q154_151 : xfR (xmk 154) 151 = some (5, 5) := by decide +kernel
theorem s_i_190_5 : ySi 190 5 5 := by unfold ySi; decide +kernel
theorem ks_1235 : (Int16.ofInt 1235).toInt32 = 1235 := by decide +kernel
theorem q154_19 : xfR (xmk 154) 19 = some (5, 4) := by decide +kernel
theorem s_a_194 : ySa 194 0 1330 := by unfold ySa; decide +kernel
theorem s_r_190_4 : ySr 190 5 4 194 := by unfold ySr; decide +kernel
theorem q154_7 : xfR (xmk 154) 7 = some (5, 1) := by decide +kernel
theorem yR191 : yR 191 := by show 191 ∈ ([191, 192, 193] : List Nat); decide +kernel
theorem s_r_190_1 : ySr 190 5 1 191 := by unfold ySr; decide +kernel
theorem mr_154 : xmr 154 = none := by decide +kernel
theorem q155_154 : xcL (xmk 155) 154 = some 255 := by decide +kernel
theorem q155_58 : xcR (xmk 155) 58 = some (xmk 155, 58, 108, 1, (1003, 1004, 0)) := yqr_ok (by decide +kernel)
theorem q155_159 : xcR (xmk 155) 159 = some (xmk 155, 159, 107, 0, (1006, 1008, 29)) := yqr_ok (by decide +kernel)
theorem mk_107 : xmk 107 = 5 := by decide +kernel
theorem q155_41 : xfR (xmk 155) 41 = some (5, 13) := by decide +kernel
theorem s_a_201 : ySa 201 0 120 := by unfold ySa; decide +kernel
theorem s_r_190_13 : ySr 190 5 13 201 := by unfold ySr; decide +kernel
theorem q155_156 : xfR (xmk 155) 156 = some (5, 14) := by decide +kernel
theorem s_i_190_14 : ySi 190 5 14 := by unfold ySi; decide +kernel
theorem mr_155 : xmr 155 = some .int := by decide +kernel
theorem q156_48 : xfR (xmk 156) 48 = some (5, 0) := by decide +kernel
theorem q156_156 : xfR (xmk 156) 156 = some (5, 14) := by decide +kernel
theorem mr_156 : xmr 156 = some .int := by decide +kernel
theorem q157_162 : xfR (xmk 157) 162 = some (5, 15) := by decide +kernel
theorem s_i_190_15 : ySi 190 5 15 := by unfold ySi; decide +kernel
theorem q157_156 : xfR (xmk 157) 156 = some (5, 14) := by decide +kernel
theorem q157_41 : xfR (xmk 157) 41 = some (5, 13) := by decide +kernel
theorem mr_157 : xmr 157 = some .int := by decide +kernel
theorem q158_165 : xfR (xmk 158) 165 = some (5, 16) := by decide +kernel
theorem s_i_190_16 : ySi 190 5 16 := by unfold ySi; decide +kernel
theorem q158_162 : xfR (xmk 158) 162 = some (5, 15) := by decide +kernel
theorem mr_158 : xmr 158 = none := by decide +kernel
theorem q159_169 : xcR (xmk 159) 169 = some (xmk 159, 169, 157, 0, (1022, 1024, 31)) := yqr_ok (by decide +kernel)
theorem mk_157 : xmk 157 = 5 := by decide +kernel
theorem q159_58 : xcR (xmk 159) 58 = some (xmk 159, 58, 108, 1, (1003, 1004, 0)) := yqr_ok (by decide +kernel)
theorem q159_173 : xcR (xmk 159) 173 = some (xmk 159, 173, 158, 0, (1026, 1028, 32)) := yqr_ok (by decide +kernel)
theorem mk_158 : xmk 158 = 5 := by decide +kernel
theorem q159_165 : xfR (xmk 159) 165 = some (5, 16) := by decide +kernel
theorem mr_159 : xmr 159 = some .int := by decide +kernel
theorem q160_177 : xcR (xmk 160) 177 = some (xmk 160, 177, 159, 0, (1042, 1044, 36)) := yqr_ok (by decide +kernel)
theorem mk_159 : xmk 159 = 5 := by decide +kernel
theorem mr_160 : xmr 160 = some .int := by decide +kernel
theorem q161_180 : xfR (xmk 161) 180 = some (5, 17) := by decide +kernel
theorem s_i_190_17 : ySi 190 5 17 := by unfold ySi; decide +kernel
theorem q161_165 : xfR (xmk 161) 165 = some (5, 16) := by decide +kernel
theorem mr_161 : xmr 161 = some .boolean := by decide +kernel
theorem kb_112 : (Int8.ofInt 112).toInt32 = 112 := by decide +kernel
theorem mr_162 : xmr 162 = some .int := by decide +kernel
theorem kb_116 : (Int8.ofInt 116).toInt32 = 116 := by decide +kernel
theorem kb_84 : (Int8.ofInt 84).toInt32 = 84 := by decide +kernel
theorem q163_183 : xcR (xmk 163) 183 = some (xmk 163, 183, 160, 0, (1038, 1040, 35)) := yqr_ok (by decide +kernel)
theorem mk_160 : xmk 160 = 5 := by decide +kernel
theorem q163_165 : xfR (xmk 163) 165 = some (5, 16) := by decide +kernel
theorem q163_169 : xcR (xmk 163) 169 = some (xmk 163, 169, 157, 0, (1022, 1024, 31)) := yqr_ok (by decide +kernel)
theorem q163_162 : xfR (xmk 163) 162 = some (5, 15) := by decide +kernel
theorem q163_177 : xcR (xmk 163) 177 = some (xmk 163, 177, 159, 0, (1042, 1044, 36)) := yqr_ok (by decide +kernel)
theorem q163_173 : xcR (xmk 163) 173 = some (xmk 163, 173, 158, 0, (1026, 1028, 32)) := yqr_ok (by decide +kernel)
theorem q163_186 : xcR (xmk 163) 186 = some (xmk 163, 186, 162, 1, (1046, 1047, 0)) := yqr_ok (by decide +kernel)
theorem mr_163 : xmr 163 = none := by decide +kernel
theorem q163_76 : xcR (xmk 163) 76 = some (xmk 163, 76, 122, 1, (1049, 1050, 0)) := yqr_ok (by decide +kernel)
theorem q163_189 : xcR (xmk 163) 189 = some (xmk 163, 189, 117, 1, (1052, 1053, 0)) := yqr_ok (by decide +kernel)
theorem q163_192 : xcR (xmk 163) 192 = some (xmk 163, 192, 161, 0, (1056, 1058, 37)) := yqr_ok (by decide +kernel)
theorem mk_161 : xmk 161 = 5 := by decide +kernel
theorem q163_16 : xfR (xmk 163) 16 = some (5, 3) := by decide +kernel
theorem yR193 : yR 193 := by show 193 ∈ ([191, 192, 193] : List Nat); decide +kernel
theorem s_r_190_3 : ySr 190 5 3 193 := by unfold ySr; decide +kernel
theorem q163_196 : xcR (xmk 163) 196 = some (xmk 163, 196, 147, 1, (1060, 1061, 0)) := yqr_ok (by decide +kernel)
theorem q164_183 : xcR (xmk 164) 183 = some (xmk 164, 183, 160, 0, (1038, 1040, 35)) := yqr_ok (by decide +kernel)
theorem q164_177 : xcR (xmk 164) 177 = some (xmk 164, 177, 159, 0, (1042, 1044, 36)) := yqr_ok (by decide +kernel)
theorem q164_16 : xfR (xmk 164) 16 = some (5, 3) := by decide +kernel
theorem q164_192 : xcR (xmk 164) 192 = some (xmk 164, 192, 161, 0, (1056, 1058, 37)) := yqr_ok (by decide +kernel)
theorem mr_164 : xmr 164 = none := by decide +kernel
theorem q164_199 : xcR (xmk 164) 199 = some (xmk 164, 199, 150, 1, (1067, 1068, 0)) := yqr_ok (by decide +kernel)
theorem q165_183 : xcR (xmk 165) 183 = some (xmk 165, 183, 160, 0, (1038, 1040, 35)) := yqr_ok (by decide +kernel)
theorem q165_16 : xfR (xmk 165) 16 = some (5, 3) := by decide +kernel
theorem q165_203 : xcR (xmk 165) 203 = some (xmk 165, 203, 115, 1, (1074, 1075, 0)) := yqr_ok (by decide +kernel)
theorem q165_192 : xcR (xmk 165) 192 = some (xmk 165, 192, 161, 0, (1056, 1058, 37)) := yqr_ok (by decide +kernel)
theorem mr_165 : xmr 165 = none := by decide +kernel
theorem q165_210 : xcR (xmk 165) 210 = some (xmk 165, 210, 151, 1, (1080, 1081, 0)) := yqr_ok (by decide +kernel)
theorem q165_207 : xcR (xmk 165) 207 = some (xmk 165, 207, 114, 1, (1077, 1078, 0)) := yqr_ok (by decide +kernel)
theorem q166_183 : xcR (xmk 166) 183 = some (xmk 166, 183, 160, 0, (1038, 1040, 35)) := yqr_ok (by decide +kernel)
theorem q166_16 : xfR (xmk 166) 16 = some (5, 3) := by decide +kernel
theorem q166_203 : xcR (xmk 166) 203 = some (xmk 166, 203, 115, 1, (1074, 1075, 0)) := yqr_ok (by decide +kernel)
theorem q166_213 : xcR (xmk 166) 213 = some (xmk 166, 213, 152, 1, (1093, 1094, 0)) := yqr_ok (by decide +kernel)
theorem q166_192 : xcR (xmk 166) 192 = some (xmk 166, 192, 161, 0, (1056, 1058, 37)) := yqr_ok (by decide +kernel)
theorem mr_166 : xmr 166 = none := by decide +kernel
theorem q166_217 : xcR (xmk 166) 217 = some (xmk 166, 217, 153, 1, (1099, 1100, 0)) := yqr_ok (by decide +kernel)
theorem lsw167_1 : ∀ x : Int32, (1 : Int) + Op.lookupswitch.offset [(107, 27), (118, 61)] 87 x.toInt = (xLs2 [(107, 28), (118, 62)] 88 x : Int) := fun x => lsw_cons (by decide +kernel) (by decide) (lsw_cons (by decide +kernel) (by decide) (lsw_nil (by decide)))
theorem q167_177 : xcR (xmk 167) 177 = some (xmk 167, 177, 159, 0, (1042, 1044, 36)) := yqr_ok (by decide +kernel)
theorem q167_165 : xfR (xmk 167) 165 = some (5, 16) := by decide +kernel
theorem mr_167 : xmr 167 = none := by decide +kernel
theorem q167_16 : xfR (xmk 167) 16 = some (5, 3) := by decide +kernel
theorem q167_183 : xcR (xmk 167) 183 = some (xmk 167, 183, 160, 0, (1038, 1040, 35)) := yqr_ok (by decide +kernel)
theorem q168_169 : xcR (xmk 168) 169 = some (xmk 168, 169, 157, 0, (1022, 1024, 31)) := yqr_ok (by decide +kernel)
theorem kb_105 : (Int8.ofInt 105).toInt32 = 105 := by decide +kernel
theorem q168_173 : xcR (xmk 168) 173 = some (xmk 168, 173, 158, 0, (1026, 1028, 32)) := yqr_ok (by decide +kernel)
theorem q168_165 : xfR (xmk 168) 165 = some (5, 16) := by decide +kernel
theorem mr_168 : xmr 168 = none := by decide +kernel
theorem lsw168_65 : ∀ x : Int32, (65 : Int) + Op.lookupswitch.offset [(105, 43), (110, 64), (115, 50), (117, 57)] 71 x.toInt = (xLs2 [(105, 108), (110, 129), (115, 115), (117, 122)] 136 x : Int) := fun x => lsw_cons (by decide +kernel) (by decide) (lsw_cons (by decide +kernel) (by decide) (lsw_cons (by decide +kernel) (by decide) (lsw_cons (by decide +kernel) (by decide) (lsw_nil (by decide)))))
theorem q168_220 : xcR (xmk 168) 220 = some (xmk 168, 220, 163, 0, (1034, 1036, 34)) := yqr_ok (by decide +kernel)
theorem mk_163 : xmk 163 = 5 := by decide +kernel
theorem q168_229 : xcR (xmk 168) 229 = some (xmk 168, 229, 166, 0, (1089, 1091, 40)) := yqr_ok (by decide +kernel)
theorem mk_166 : xmk 166 = 5 := by decide +kernel
theorem q168_223 : xcR (xmk 168) 223 = some (xmk 168, 223, 164, 0, (1063, 1065, 38)) := yqr_ok (by decide +kernel)
theorem mk_164 : xmk 164 = 5 := by decide +kernel
theorem q168_226 : xcR (xmk 168) 226 = some (xmk 168, 226, 165, 0, (1070, 1072, 39)) := yqr_ok (by decide +kernel)
theorem mk_165 : xmk 165 = 5 := by decide +kernel
theorem q168_232 : xcR (xmk 168) 232 = some (xmk 168, 232, 167, 0, (1102, 1104, 41)) := yqr_ok (by decide +kernel)
theorem mk_167 : xmk 167 = 5 := by decide +kernel
theorem kb_115 : (Int8.ofInt 115).toInt32 = 115 := by decide +kernel
theorem kb_117 : (Int8.ofInt 117).toInt32 = 117 := by decide +kernel
theorem kb_110 : (Int8.ofInt 110).toInt32 = 110 := by decide +kernel
theorem kb_107 : (Int8.ofInt 107).toInt32 = 107 := by decide +kernel
theorem kb_118 : (Int8.ofInt 118).toInt32 = 118 := by decide +kernel
theorem kb_114 : (Int8.ofInt 114).toInt32 = 114 := by decide +kernel
theorem q169_162 : xfR (xmk 169) 162 = some (5, 15) := by decide +kernel
theorem q169_165 : xfR (xmk 169) 165 = some (5, 16) := by decide +kernel
theorem q169_180 : xfR (xmk 169) 180 = some (5, 17) := by decide +kernel
theorem q169_16 : xfR (xmk 169) 16 = some (5, 3) := by decide +kernel
theorem q169_44 : xcR (xmk 169) 44 = some (xmk 169, 44, 112, 1, (936, 937, 0)) := yqr_ok (by decide +kernel)
theorem q169_169 : xcR (xmk 169) 169 = some (xmk 169, 169, 157, 0, (1022, 1024, 31)) := yqr_ok (by decide +kernel)
theorem q169_173 : xcR (xmk 169) 173 = some (xmk 169, 173, 158, 0, (1026, 1028, 32)) := yqr_ok (by decide +kernel)
theorem mr_169 : xmr 169 = some .int := by decide +kernel
theorem q169_156 : xfR (xmk 169) 156 = some (5, 14) := by decide +kernel
theorem q169_236 : xcR (xmk 169) 236 = some (xmk 169, 236, 168, 0, (1030, 1032, 33)) := yqr_ok (by decide +kernel)
theorem mk_168 : xmk 168 = 5 := by decide +kernel
theorem q170_48 : xfR (xmk 170) 48 = some (5, 0) := by decide +kernel
theorem q170_239 : xcR (xmk 170) 239 = some (xmk 170, 239, 169, 0, (1018, 1020, 30)) := yqr_ok (by decide +kernel)
theorem mk_169 : xmk 169 = 5 := by decide +kernel
theorem mr_170 : xmr 170 = some .int := by decide +kernel
theorem q171_239 : xcR (xmk 171) 239 = some (xmk 171, 239, 169, 0, (1018, 1020, 30)) := yqr_ok (by decide +kernel)
theorem q171_159 : xcR (xmk 171) 159 = some (xmk 171, 159, 107, 0, (1006, 1008, 29)) := yqr_ok (by decide +kernel)
theorem q171_16 : xfR (xmk 171) 16 = some (5, 3) := by decide +kernel
theorem q171_7 : xfR (xmk 171) 7 = some (5, 1) := by decide +kernel
theorem q171_242 : xcR (xmk 171) 242 = some (xmk 171, 242, 113, 1, (1110, 1111, 0)) := yqr_ok (by decide +kernel)
theorem q171_151 : xfR (xmk 171) 151 = some (5, 5) := by decide +kernel
theorem q171_25 : xfR (xmk 171) 25 = some (5, 7) := by decide +kernel
theorem s_a_196 : ySa 196 2 2 := by unfold ySa; decide +kernel
theorem s_r_190_7 : ySr 190 5 7 196 := by unfold ySr; decide +kernel
theorem q171_180 : xfR (xmk 171) 180 = some (5, 17) := by decide +kernel
theorem mr_171 : xmr 171 = some .int := by decide +kernel
theorem q172_7 : xfR (xmk 172) 7 = some (5, 1) := by decide +kernel
theorem q172_116 : xcR (xmk 172) 116 = some (xmk 172, 116, 111, 1, (1083, 1084, 0)) := yqr_ok (by decide +kernel)
theorem mr_172 : xmr 172 = some .int := by decide +kernel
theorem q173_7 : xfR (xmk 173) 7 = some (5, 1) := by decide +kernel
theorem mr_173 : xmr 173 = some .int := by decide +kernel
theorem q174_246 : xcL (xmk 174) 246 = some 9 := by decide +kernel
theorem q174_58 : xcR (xmk 174) 58 = some (xmk 174, 58, 108, 1, (1003, 1004, 0)) := yqr_ok (by decide +kernel)
theorem q174_159 : xcR (xmk 174) 159 = some (xmk 174, 159, 107, 0, (1006, 1008, 29)) := yqr_ok (by decide +kernel)
theorem q174_7 : xfR (xmk 174) 7 = some (5, 1) := by decide +kernel
theorem mr_174 : xmr 174 = some .int := by decide +kernel
theorem q174_139 : xcR (xmk 174) 139 = some (xmk 174, 139, 128, 1, (1118, 1119, 0)) := yqr_ok (by decide +kernel)
theorem q174_248 : xcR (xmk 174) 248 = some (xmk 174, 248, 144, 0, (1136, 1138, 42)) := yqr_ok (by decide +kernel)
theorem mk_144 : xmk 144 = 5 := by decide +kernel
theorem q174_251 : xcR (xmk 174) 251 = some (xmk 174, 251, 145, 0, (1183, 1185, 53)) := yqr_ok (by decide +kernel)
theorem mk_145 : xmk 145 = 5 := by decide +kernel
theorem q174_254 : xcR (xmk 174) 254 = some (xmk 174, 254, 133, 0, (1187, 1189, 54)) := yqr_ok (by decide +kernel)
theorem mk_133 : xmk 133 = 5 := by decide +kernel
theorem q174_257 : xcR (xmk 174) 257 = some (xmk 174, 257, 173, 0, (1191, 1193, 55)) := yqr_ok (by decide +kernel)
theorem mk_173 : xmk 173 = 5 := by decide +kernel
theorem q174_260 : xcR (xmk 174) 260 = some (xmk 174, 260, 172, 0, (1195, 1197, 56)) := yqr_ok (by decide +kernel)
theorem mk_172 : xmk 172 = 5 := by decide +kernel
theorem q175_7 : xfR (xmk 175) 7 = some (5, 1) := by decide +kernel
theorem q175_54 : xcR (xmk 175) 54 = some (xmk 175, 54, 110, 1, (1086, 1087, 0)) := yqr_ok (by decide +kernel)
theorem mr_175 : xmr 175 = some .int := by decide +kernel
theorem q176_7 : xfR (xmk 176) 7 = some (5, 1) := by decide +kernel
theorem q176_136 : xcR (xmk 176) 136 = some (xmk 176, 136, 143, 0, (1140, 1142, 43)) := yqr_ok (by decide +kernel)
theorem q176_54 : xcR (xmk 176) 54 = some (xmk 176, 54, 110, 1, (1086, 1087, 0)) := yqr_ok (by decide +kernel)
theorem q176_29 : xfR (xmk 176) 29 = some (5, 8) := by decide +kernel
theorem mr_176 : xmr 176 = some .int := by decide +kernel
theorem q177_7 : xfR (xmk 177) 7 = some (5, 1) := by decide +kernel
theorem q177_207 : xcR (xmk 177) 207 = some (xmk 177, 207, 114, 1, (1077, 1078, 0)) := yqr_ok (by decide +kernel)
theorem q177_159 : xcR (xmk 177) 159 = some (xmk 177, 159, 107, 0, (1006, 1008, 29)) := yqr_ok (by decide +kernel)
theorem mr_177 : xmr 177 = some .int := by decide +kernel
theorem q177_84 : xcR (xmk 177) 84 = some (xmk 177, 84, 123, 1, (1133, 1134, 0)) := yqr_ok (by decide +kernel)
theorem q177_88 : xcR (xmk 177) 88 = some (xmk 177, 88, 125, 1, (1127, 1128, 0)) := yqr_ok (by decide +kernel)
theorem q177_95 : xcR (xmk 177) 95 = some (xmk 177, 95, 127, 1, (1121, 1122, 0)) := yqr_ok (by decide +kernel)
theorem q177_265 : xcR (xmk 177) 265 = some (xmk 177, 265, 175, 0, (1204, 1206, 57)) := yqr_ok (by decide +kernel)
theorem mk_175 : xmk 175 = 5 := by decide +kernel
theorem q177_268 : xcR (xmk 177) 268 = some (xmk 177, 268, 176, 0, (1208, 1210, 58)) := yqr_ok (by decide +kernel)
theorem mk_176 : xmk 176 = 5 := by decide +kernel
theorem q177_263 : xcL (xmk 177) 263 = some 6 := by decide +kernel
theorem q177_58 : xcR (xmk 177) 58 = some (xmk 177, 58, 108, 1, (1003, 1004, 0)) := yqr_ok (by decide +kernel)
theorem q178_7 : xfR (xmk 178) 7 = some (5, 1) := by decide +kernel
theorem q178_207 : xcR (xmk 178) 207 = some (xmk 178, 207, 114, 1, (1077, 1078, 0)) := yqr_ok (by decide +kernel)
theorem q178_159 : xcR (xmk 178) 159 = some (xmk 178, 159, 107, 0, (1006, 1008, 29)) := yqr_ok (by decide +kernel)
theorem q178_91 : xcR (xmk 178) 91 = some (xmk 178, 91, 126, 1, (1124, 1125, 0)) := yqr_ok (by decide +kernel)
theorem mr_178 : xmr 178 = some .int := by decide +kernel
theorem q178_62 : xcL (xmk 178) 62 = some 3 := by decide +kernel
theorem q178_58 : xcR (xmk 178) 58 = some (xmk 178, 58, 108, 1, (1003, 1004, 0)) := yqr_ok (by decide +kernel)
theorem q179_7 : xfR (xmk 179) 7 = some (5, 1) := by decide +kernel
theorem q179_203 : xcR (xmk 179) 203 = some (xmk 179, 203, 115, 1, (1074, 1075, 0)) := yqr_ok (by decide +kernel)
theorem q179_159 : xcR (xmk 179) 159 = some (xmk 179, 159, 107, 0, (1006, 1008, 29)) := yqr_ok (by decide +kernel)
theorem mr_179 : xmr 179 = some .int := by decide +kernel
theorem q179_113 : xcR (xmk 179) 113 = some (xmk 179, 113, 130, 1, (1176, 1177, 0)) := yqr_ok (by decide +kernel)
theorem q179_98 : xcR (xmk 179) 98 = some (xmk 179, 98, 132, 0, (1144, 1146, 44)) := yqr_ok (by decide +kernel)
theorem q179_38 : xfR (xmk 179) 38 = some (5, 12) := by decide +kernel
theorem q179_136 : xcR (xmk 179) 136 = some (xmk 179, 136, 143, 0, (1140, 1142, 43)) := yqr_ok (by decide +kernel)
theorem q179_29 : xfR (xmk 179) 29 = some (5, 8) := by decide +kernel
theorem q179_32 : xfR (xmk 179) 32 = some (5, 9) := by decide +kernel
theorem q179_148 : xcR (xmk 179) 148 = some (xmk 179, 148, 131, 1, (1096, 1097, 0)) := yqr_ok (by decide +kernel)
theorem q179_116 : xcR (xmk 179) 116 = some (xmk 179, 116, 111, 1, (1083, 1084, 0)) := yqr_ok (by decide +kernel)
theorem q179_246 : xcL (xmk 179) 246 = some 9 := by decide +kernel
theorem q179_58 : xcR (xmk 179) 58 = some (xmk 179, 58, 108, 1, (1003, 1004, 0)) := yqr_ok (by decide +kernel)
theorem q180_7 : xfR (xmk 180) 7 = some (5, 1) := by decide +kernel
theorem q180_136 : xcR (xmk 180) 136 = some (xmk 180, 136, 143, 0, (1140, 1142, 43)) := yqr_ok (by decide +kernel)
theorem q180_127 : xfR (xmk 180) 127 = some (5, 11) := by decide +kernel
theorem q180_58 : xcR (xmk 180) 58 = some (xmk 180, 58, 108, 1, (1003, 1004, 0)) := yqr_ok (by decide +kernel)
theorem q180_159 : xcR (xmk 180) 159 = some (xmk 180, 159, 107, 0, (1006, 1008, 29)) := yqr_ok (by decide +kernel)
theorem q180_35 : xfR (xmk 180) 35 = some (5, 10) := by decide +kernel
theorem mr_180 : xmr 180 = some .int := by decide +kernel
theorem q181_271 : xcR (xmk 181) 271 = some (xmk 181, 271, 116, 1, (1229, 1230, 0)) := yqr_ok (by decide +kernel)
theorem q181_159 : xcR (xmk 181) 159 = some (xmk 181, 159, 107, 0, (1006, 1008, 29)) := yqr_ok (by decide +kernel)
theorem q181_7 : xfR (xmk 181) 7 = some (5, 1) := by decide +kernel
theorem mr_181 : xmr 181 = some .int := by decide +kernel
theorem q182_274 : xcL (xmk 182) 274 = some 4 := by decide +kernel
theorem q182_58 : xcR (xmk 182) 58 = some (xmk 182, 58, 108, 1, (1003, 1004, 0)) := yqr_ok (by decide +kernel)
theorem q182_159 : xcR (xmk 182) 159 = some (xmk 182, 159, 107, 0, (1006, 1008, 29)) := yqr_ok (by decide +kernel)
theorem q182_7 : xfR (xmk 182) 7 = some (5, 1) := by decide +kernel
theorem mr_182 : xmr 182 = some .int := by decide +kernel
theorem q183_276 : xcL (xmk 183) 276 = some 1500 := by decide +kernel
theorem q183_58 : xcR (xmk 183) 58 = some (xmk 183, 58, 108, 1, (1003, 1004, 0)) := yqr_ok (by decide +kernel)
theorem q183_159 : xcR (xmk 183) 159 = some (xmk 183, 159, 107, 0, (1006, 1008, 29)) := yqr_ok (by decide +kernel)
theorem q183_7 : xfR (xmk 183) 7 = some (5, 1) := by decide +kernel
theorem q183_136 : xcR (xmk 183) 136 = some (xmk 183, 136, 143, 0, (1140, 1142, 43)) := yqr_ok (by decide +kernel)
theorem q183_104 : xcR (xmk 183) 104 = some (xmk 183, 104, 135, 0, (1156, 1158, 47)) := yqr_ok (by decide +kernel)
theorem mr_183 : xmr 183 = some .int := by decide +kernel
theorem q183_278 : xcR (xmk 183) 278 = some (xmk 183, 278, 138, 0, (1242, 1244, 59)) := yqr_ok (by decide +kernel)
theorem mk_138 : xmk 138 = 5 := by decide +kernel
theorem q183_107 : xcR (xmk 183) 107 = some (xmk 183, 107, 136, 0, (1164, 1166, 49)) := yqr_ok (by decide +kernel)
theorem q183_110 : xcR (xmk 183) 110 = some (xmk 183, 110, 137, 0, (1168, 1170, 50)) := yqr_ok (by decide +kernel)
theorem q183_246 : xcL (xmk 183) 246 = some 9 := by decide +kernel
theorem q184_189 : xcR (xmk 184) 189 = some (xmk 184, 189, 117, 1, (1052, 1053, 0)) := yqr_ok (by decide +kernel)
theorem q184_159 : xcR (xmk 184) 159 = some (xmk 184, 159, 107, 0, (1006, 1008, 29)) := yqr_ok (by decide +kernel)
theorem q184_281 : xcR (xmk 184) 281 = some (xmk 184, 281, 154, 0, (1250, 1252, 60)) := yqr_ok (by decide +kernel)
theorem mk_154 : xmk 154 = 5 := by decide +kernel
theorem q184_7 : xfR (xmk 184) 7 = some (5, 1) := by decide +kernel
theorem q184_196 : xcR (xmk 184) 196 = some (xmk 184, 196, 147, 1, (1060, 1061, 0)) := yqr_ok (by decide +kernel)
theorem mr_184 : xmr 184 = some .int := by decide +kernel
theorem q185_7 : xfR (xmk 185) 7 = some (5, 1) := by decide +kernel
theorem q185_207 : xcR (xmk 185) 207 = some (xmk 185, 207, 114, 1, (1077, 1078, 0)) := yqr_ok (by decide +kernel)
theorem q185_159 : xcR (xmk 185) 159 = some (xmk 185, 159, 107, 0, (1006, 1008, 29)) := yqr_ok (by decide +kernel)
theorem q185_281 : xcR (xmk 185) 281 = some (xmk 185, 281, 154, 0, (1250, 1252, 60)) := yqr_ok (by decide +kernel)
theorem q185_284 : xcR (xmk 185) 284 = some (xmk 185, 284, 146, 1, (1258, 1259, 0)) := yqr_ok (by decide +kernel)
theorem mr_185 : xmr 185 = some .int := by decide +kernel
theorem q185_189 : xcR (xmk 185) 189 = some (xmk 185, 189, 117, 1, (1052, 1053, 0)) := yqr_ok (by decide +kernel)
theorem q186_287 : xcR (xmk 186) 287 = some (xmk 186, 287, 119, 1, (1265, 1266, 0)) := yqr_ok (by decide +kernel)
theorem q186_159 : xcR (xmk 186) 159 = some (xmk 186, 159, 107, 0, (1006, 1008, 29)) := yqr_ok (by decide +kernel)
theorem q186_281 : xcR (xmk 186) 281 = some (xmk 186, 281, 154, 0, (1250, 1252, 60)) := yqr_ok (by decide +kernel)
theorem q186_7 : xfR (xmk 186) 7 = some (5, 1) := by decide +kernel
theorem q186_290 : xcR (xmk 186) 290 = some (xmk 186, 290, 148, 1, (1269, 1270, 0)) := yqr_ok (by decide +kernel)
theorem mr_186 : xmr 186 = some .int := by decide +kernel
theorem q187_293 : xcR (xmk 187) 293 = some (xmk 187, 293, 149, 1, (1276, 1277, 0)) := yqr_ok (by decide +kernel)
theorem q187_159 : xcR (xmk 187) 159 = some (xmk 187, 159, 107, 0, (1006, 1008, 29)) := yqr_ok (by decide +kernel)
theorem q187_281 : xcR (xmk 187) 281 = some (xmk 187, 281, 154, 0, (1250, 1252, 60)) := yqr_ok (by decide +kernel)
theorem q187_7 : xfR (xmk 187) 7 = some (5, 1) := by decide +kernel
theorem q187_199 : xcR (xmk 187) 199 = some (xmk 187, 199, 150, 1, (1067, 1068, 0)) := yqr_ok (by decide +kernel)
theorem mr_187 : xmr 187 = some .int := by decide +kernel
theorem q188_7 : xfR (xmk 188) 7 = some (5, 1) := by decide +kernel
theorem q188_203 : xcR (xmk 188) 203 = some (xmk 188, 203, 115, 1, (1074, 1075, 0)) := yqr_ok (by decide +kernel)
theorem q188_159 : xcR (xmk 188) 159 = some (xmk 188, 159, 107, 0, (1006, 1008, 29)) := yqr_ok (by decide +kernel)
theorem q188_281 : xcR (xmk 188) 281 = some (xmk 188, 281, 154, 0, (1250, 1252, 60)) := yqr_ok (by decide +kernel)
theorem q188_284 : xcR (xmk 188) 284 = some (xmk 188, 284, 146, 1, (1258, 1259, 0)) := yqr_ok (by decide +kernel)
theorem mr_188 : xmr 188 = some .int := by decide +kernel
theorem q188_142 : xcR (xmk 188) 142 = some (xmk 188, 142, 118, 1, (1279, 1280, 0)) := yqr_ok (by decide +kernel)
theorem q189_7 : xfR (xmk 189) 7 = some (5, 1) := by decide +kernel
theorem q189_203 : xcR (xmk 189) 203 = some (xmk 189, 203, 115, 1, (1074, 1075, 0)) := yqr_ok (by decide +kernel)
theorem q189_159 : xcR (xmk 189) 159 = some (xmk 189, 159, 107, 0, (1006, 1008, 29)) := yqr_ok (by decide +kernel)
theorem q189_281 : xcR (xmk 189) 281 = some (xmk 189, 281, 154, 0, (1250, 1252, 60)) := yqr_ok (by decide +kernel)
theorem q189_210 : xcR (xmk 189) 210 = some (xmk 189, 210, 151, 1, (1080, 1081, 0)) := yqr_ok (by decide +kernel)
theorem mr_189 : xmr 189 = some .int := by decide +kernel
theorem q189_207 : xcR (xmk 189) 207 = some (xmk 189, 207, 114, 1, (1077, 1078, 0)) := yqr_ok (by decide +kernel)
theorem q190_7 : xfR (xmk 190) 7 = some (5, 1) := by decide +kernel
theorem q190_203 : xcR (xmk 190) 203 = some (xmk 190, 203, 115, 1, (1074, 1075, 0)) := yqr_ok (by decide +kernel)
theorem q190_213 : xcR (xmk 190) 213 = some (xmk 190, 213, 152, 1, (1093, 1094, 0)) := yqr_ok (by decide +kernel)
theorem q190_159 : xcR (xmk 190) 159 = some (xmk 190, 159, 107, 0, (1006, 1008, 29)) := yqr_ok (by decide +kernel)
theorem q190_281 : xcR (xmk 190) 281 = some (xmk 190, 281, 154, 0, (1250, 1252, 60)) := yqr_ok (by decide +kernel)
theorem q190_217 : xcR (xmk 190) 217 = some (xmk 190, 217, 153, 1, (1099, 1100, 0)) := yqr_ok (by decide +kernel)
theorem mr_190 : xmr 190 = some .int := by decide +kernel
theorem q191_271 : xcR (xmk 191) 271 = some (xmk 191, 271, 116, 1, (1229, 1230, 0)) := yqr_ok (by decide +kernel)
theorem q191_159 : xcR (xmk 191) 159 = some (xmk 191, 159, 107, 0, (1006, 1008, 29)) := yqr_ok (by decide +kernel)
theorem q191_281 : xcR (xmk 191) 281 = some (xmk 191, 281, 154, 0, (1250, 1252, 60)) := yqr_ok (by decide +kernel)
theorem q191_7 : xfR (xmk 191) 7 = some (5, 1) := by decide +kernel
theorem q191_284 : xcR (xmk 191) 284 = some (xmk 191, 284, 146, 1, (1258, 1259, 0)) := yqr_ok (by decide +kernel)
theorem mr_191 : xmr 191 = some .int := by decide +kernel
theorem q191_296 : xcR (xmk 191) 296 = some (xmk 191, 296, 120, 1, (1300, 1301, 0)) := yqr_ok (by decide +kernel)
theorem q192_299 : xcR (xmk 192) 299 = some (xmk 192, 299, 121, 1, (1307, 1308, 0)) := yqr_ok (by decide +kernel)
theorem q192_159 : xcR (xmk 192) 159 = some (xmk 192, 159, 107, 0, (1006, 1008, 29)) := yqr_ok (by decide +kernel)
theorem q192_281 : xcR (xmk 192) 281 = some (xmk 192, 281, 154, 0, (1250, 1252, 60)) := yqr_ok (by decide +kernel)
theorem q192_7 : xfR (xmk 192) 7 = some (5, 1) := by decide +kernel
theorem q192_284 : xcR (xmk 192) 284 = some (xmk 192, 284, 146, 1, (1258, 1259, 0)) := yqr_ok (by decide +kernel)
theorem mr_192 : xmr 192 = some .int := by decide +kernel
theorem q193_151 : xfR (xmk 193) 151 = some (5, 5) := by decide +kernel
theorem q193_159 : xcR (xmk 193) 159 = some (xmk 193, 159, 107, 0, (1006, 1008, 29)) := yqr_ok (by decide +kernel)
theorem mr_193 : xmr 193 = some .int := by decide +kernel
theorem q193_7 : xfR (xmk 193) 7 = some (5, 1) := by decide +kernel
theorem q193_19 : xfR (xmk 193) 19 = some (5, 4) := by decide +kernel
theorem q194_271 : xcR (xmk 194) 271 = some (xmk 194, 271, 116, 1, (1229, 1230, 0)) := yqr_ok (by decide +kernel)
theorem q194_159 : xcR (xmk 194) 159 = some (xmk 194, 159, 107, 0, (1006, 1008, 29)) := yqr_ok (by decide +kernel)
theorem q194_7 : xfR (xmk 194) 7 = some (5, 1) := by decide +kernel
theorem q194_13 : xfR (xmk 194) 13 = some (5, 2) := by decide +kernel
theorem yR192 : yR 192 := by show 192 ∈ ([191, 192, 193] : List Nat); decide +kernel
theorem s_r_190_2 : ySr 190 5 2 192 := by unfold ySr; decide +kernel
theorem q194_242 : xcR (xmk 194) 242 = some (xmk 194, 242, 113, 1, (1110, 1111, 0)) := yqr_ok (by decide +kernel)
theorem q194_248 : xcR (xmk 194) 248 = some (xmk 194, 248, 144, 0, (1136, 1138, 42)) := yqr_ok (by decide +kernel)
theorem mr_194 : xmr 194 = some .int := by decide +kernel
theorem q194_251 : xcR (xmk 194) 251 = some (xmk 194, 251, 145, 0, (1183, 1185, 53)) := yqr_ok (by decide +kernel)
theorem q194_58 : xcR (xmk 194) 58 = some (xmk 194, 58, 108, 1, (1003, 1004, 0)) := yqr_ok (by decide +kernel)
theorem q195_7 : xfR (xmk 195) 7 = some (5, 1) := by decide +kernel
theorem q195_13 : xfR (xmk 195) 13 = some (5, 2) := by decide +kernel
theorem q195_242 : xcR (xmk 195) 242 = some (xmk 195, 242, 113, 1, (1110, 1111, 0)) := yqr_ok (by decide +kernel)
theorem q195_139 : xcR (xmk 195) 139 = some (xmk 195, 139, 128, 1, (1118, 1119, 0)) := yqr_ok (by decide +kernel)
theorem mr_195 : xmr 195 = some .int := by decide +kernel
theorem q195_302 : xcR (xmk 195) 302 = some (xmk 195, 302, 129, 1, (1329, 1330, 0)) := yqr_ok (by decide +kernel)
theorem q196_287 : xcR (xmk 196) 287 = some (xmk 196, 287, 119, 1, (1265, 1266, 0)) := yqr_ok (by decide +kernel)
theorem q196_159 : xcR (xmk 196) 159 = some (xmk 196, 159, 107, 0, (1006, 1008, 29)) := yqr_ok (by decide +kernel)
theorem q196_305 : xcR (xmk 196) 305 = some (xmk 196, 305, 195, 0, (1325, 1327, 61)) := yqr_ok (by decide +kernel)
theorem mk_195 : xmk 195 = 5 := by decide +kernel
theorem mr_196 : xmr 196 = some .int := by decide +kernel
theorem q196_58 : xcR (xmk 196) 58 = some (xmk 196, 58, 108, 1, (1003, 1004, 0)) := yqr_ok (by decide +kernel)
theorem q197_7 : xfR (xmk 197) 7 = some (5, 1) := by decide +kernel
theorem q197_203 : xcR (xmk 197) 203 = some (xmk 197, 203, 115, 1, (1074, 1075, 0)) := yqr_ok (by decide +kernel)
theorem q197_159 : xcR (xmk 197) 159 = some (xmk 197, 159, 107, 0, (1006, 1008, 29)) := yqr_ok (by decide +kernel)
theorem q197_248 : xcR (xmk 197) 248 = some (xmk 197, 248, 144, 0, (1136, 1138, 42)) := yqr_ok (by decide +kernel)
theorem q197_29 : xfR (xmk 197) 29 = some (5, 8) := by decide +kernel
theorem mr_197 : xmr 197 = some .int := by decide +kernel
theorem q197_13 : xfR (xmk 197) 13 = some (5, 2) := by decide +kernel
theorem q197_242 : xcR (xmk 197) 242 = some (xmk 197, 242, 113, 1, (1110, 1111, 0)) := yqr_ok (by decide +kernel)
theorem q198_48 : xfR (xmk 198) 48 = some (5, 0) := by decide +kernel
theorem q198_7 : xfR (xmk 198) 7 = some (5, 1) := by decide +kernel
theorem q198_13 : xfR (xmk 198) 13 = some (5, 2) := by decide +kernel
theorem q198_242 : xcR (xmk 198) 242 = some (xmk 198, 242, 113, 1, (1110, 1111, 0)) := yqr_ok (by decide +kernel)
theorem q198_248 : xcR (xmk 198) 248 = some (xmk 198, 248, 144, 0, (1136, 1138, 42)) := yqr_ok (by decide +kernel)
theorem q198_127 : xfR (xmk 198) 127 = some (5, 11) := by decide +kernel
theorem mr_198 : xmr 198 = some .int := by decide +kernel
theorem q199_287 : xcR (xmk 199) 287 = some (xmk 199, 287, 119, 1, (1265, 1266, 0)) := yqr_ok (by decide +kernel)
theorem q199_159 : xcR (xmk 199) 159 = some (xmk 199, 159, 107, 0, (1006, 1008, 29)) := yqr_ok (by decide +kernel)
theorem mr_199 : xmr 199 = some .int := by decide +kernel
theorem q199_305 : xcR (xmk 199) 305 = some (xmk 199, 305, 195, 0, (1325, 1327, 61)) := yqr_ok (by decide +kernel)
theorem q200_287 : xcR (xmk 200) 287 = some (xmk 200, 287, 119, 1, (1265, 1266, 0)) := yqr_ok (by decide +kernel)
theorem mr_200 : xmr 200 = some .boolean := by decide +kernel
theorem q200_13 : xfR (xmk 200) 13 = some (5, 2) := by decide +kernel
theorem q200_290 : xcR (xmk 200) 290 = some (xmk 200, 290, 148, 1, (1269, 1270, 0)) := yqr_ok (by decide +kernel)
theorem q201_13 : xfR (xmk 201) 13 = some (5, 2) := by decide +kernel
theorem q201_203 : xcR (xmk 201) 203 = some (xmk 201, 203, 115, 1, (1074, 1075, 0)) := yqr_ok (by decide +kernel)
theorem mr_201 : xmr 201 = some .boolean := by decide +kernel
theorem q201_142 : xcR (xmk 201) 142 = some (xmk 201, 142, 118, 1, (1279, 1280, 0)) := yqr_ok (by decide +kernel)
theorem q201_284 : xcR (xmk 201) 284 = some (xmk 201, 284, 146, 1, (1258, 1259, 0)) := yqr_ok (by decide +kernel)
theorem q202_13 : xfR (xmk 202) 13 = some (5, 2) := by decide +kernel
theorem q202_203 : xcR (xmk 202) 203 = some (xmk 202, 203, 115, 1, (1074, 1075, 0)) := yqr_ok (by decide +kernel)
theorem q202_213 : xcR (xmk 202) 213 = some (xmk 202, 213, 152, 1, (1093, 1094, 0)) := yqr_ok (by decide +kernel)
theorem mr_202 : xmr 202 = some .boolean := by decide +kernel
theorem q202_217 : xcR (xmk 202) 217 = some (xmk 202, 217, 153, 1, (1099, 1100, 0)) := yqr_ok (by decide +kernel)
theorem q203_271 : xcR (xmk 203) 271 = some (xmk 203, 271, 116, 1, (1229, 1230, 0)) := yqr_ok (by decide +kernel)
theorem mr_203 : xmr 203 = some .boolean := by decide +kernel
theorem q203_296 : xcR (xmk 203) 296 = some (xmk 203, 296, 120, 1, (1300, 1301, 0)) := yqr_ok (by decide +kernel)
theorem q203_13 : xfR (xmk 203) 13 = some (5, 2) := by decide +kernel
theorem q203_284 : xcR (xmk 203) 284 = some (xmk 203, 284, 146, 1, (1258, 1259, 0)) := yqr_ok (by decide +kernel)
theorem q204_299 : xcR (xmk 204) 299 = some (xmk 204, 299, 121, 1, (1307, 1308, 0)) := yqr_ok (by decide +kernel)
theorem mr_204 : xmr 204 = some .boolean := by decide +kernel
theorem q204_13 : xfR (xmk 204) 13 = some (5, 2) := by decide +kernel
theorem q204_284 : xcR (xmk 204) 284 = some (xmk 204, 284, 146, 1, (1258, 1259, 0)) := yqr_ok (by decide +kernel)
theorem q205_13 : xfR (xmk 205) 13 = some (5, 2) := by decide +kernel
theorem q205_136 : xcR (xmk 205) 136 = some (xmk 205, 136, 143, 0, (1140, 1142, 43)) := yqr_ok (by decide +kernel)
theorem q205_203 : xcR (xmk 205) 203 = some (xmk 205, 203, 115, 1, (1074, 1075, 0)) := yqr_ok (by decide +kernel)
theorem mr_205 : xmr 205 = some .boolean := by decide +kernel
theorem q205_29 : xfR (xmk 205) 29 = some (5, 8) := by decide +kernel
theorem ks_10000 : (Int16.ofInt 10000).toInt32 = 10000 := by decide +kernel
theorem nzI_10000 : (10000 : Int32) ≠ 0 := by decide +kernel
theorem q206_308 : xcI (xmk 206) 308 = some 100000 := by decide +kernel
theorem q206_309 : xcR (xmk 206) 309 = some (xmk 206, 309, 200, 0, (1358, 1360, 63)) := yqr_ok (by decide +kernel)
theorem mk_200 : xmk 200 = 5 := by decide +kernel
theorem mr_206 : xmr 206 = some .boolean := by decide +kernel
theorem q206_312 : xcR (xmk 206) 312 = some (xmk 206, 312, 201, 0, (1362, 1364, 64)) := yqr_ok (by decide +kernel)
theorem mk_201 : xmk 201 = 5 := by decide +kernel
theorem q206_315 : xcR (xmk 206) 315 = some (xmk 206, 315, 202, 0, (1366, 1368, 65)) := yqr_ok (by decide +kernel)
theorem mk_202 : xmk 202 = 5 := by decide +kernel
theorem q206_319 : xcR (xmk 206) 319 = some (xmk 206, 319, 203, 0, (1370, 1372, 66)) := yqr_ok (by decide +kernel)
theorem mk_203 : xmk 203 = 5 := by decide +kernel
theorem q206_322 : xcR (xmk 206) 322 = some (xmk 206, 322, 204, 0, (1374, 1376, 67)) := yqr_ok (by decide +kernel)
theorem mk_204 : xmk 204 = 5 := by decide +kernel
theorem q206_325 : xcR (xmk 206) 325 = some (xmk 206, 325, 205, 0, (1378, 1380, 68)) := yqr_ok (by decide +kernel)
theorem mk_205 : xmk 205 = 5 := by decide +kernel
theorem q206_13 : xfR (xmk 206) 13 = some (5, 2) := by decide +kernel
theorem q206_248 : xcR (xmk 206) 248 = some (xmk 206, 248, 144, 0, (1136, 1138, 42)) := yqr_ok (by decide +kernel)
theorem q206_207 : xcR (xmk 206) 207 = some (xmk 206, 207, 114, 1, (1077, 1078, 0)) := yqr_ok (by decide +kernel)
theorem q206_95 : xcR (xmk 206) 95 = some (xmk 206, 95, 127, 1, (1121, 1122, 0)) := yqr_ok (by decide +kernel)
theorem q206_251 : xcR (xmk 206) 251 = some (xmk 206, 251, 145, 0, (1183, 1185, 53)) := yqr_ok (by decide +kernel)
theorem q207_62 : xcL (xmk 207) 62 = some 3 := by decide +kernel
theorem q207_58 : xcR (xmk 207) 58 = some (xmk 207, 58, 108, 1, (1003, 1004, 0)) := yqr_ok (by decide +kernel)
theorem q207_159 : xcR (xmk 207) 159 = some (xmk 207, 159, 107, 0, (1006, 1008, 29)) := yqr_ok (by decide +kernel)
theorem q207_7 : xfR (xmk 207) 7 = some (5, 1) := by decide +kernel
theorem q207_13 : xfR (xmk 207) 13 = some (5, 2) := by decide +kernel
theorem q207_242 : xcR (xmk 207) 242 = some (xmk 207, 242, 113, 1, (1110, 1111, 0)) := yqr_ok (by decide +kernel)
theorem mr_207 : xmr 207 = some .int := by decide +kernel
theorem q207_328 : xcR (xmk 207) 328 = some (xmk 207, 328, 109, 1, (1348, 1349, 0)) := yqr_ok (by decide +kernel)
theorem q207_332 : xcL (xmk 207) 332 = some 1000000 := by decide +kernel
theorem q207_334 : xcR (xmk 207) 334 = some (xmk 207, 334, 206, 0, (1353, 1355, 62)) := yqr_ok (by decide +kernel)
theorem mk_206 : xmk 206 = 5 := by decide +kernel
theorem q208_13 : xfR (xmk 208) 13 = some (5, 2) := by decide +kernel
theorem q208_196 : xcR (xmk 208) 196 = some (xmk 208, 196, 147, 1, (1060, 1061, 0)) := yqr_ok (by decide +kernel)
theorem mr_208 : xmr 208 = none := by decide +kernel
theorem q208_199 : xcR (xmk 208) 199 = some (xmk 208, 199, 150, 1, (1067, 1068, 0)) := yqr_ok (by decide +kernel)
theorem q208_203 : xcR (xmk 208) 203 = some (xmk 208, 203, 115, 1, (1074, 1075, 0)) := yqr_ok (by decide +kernel)
theorem q208_207 : xcR (xmk 208) 207 = some (xmk 208, 207, 114, 1, (1077, 1078, 0)) := yqr_ok (by decide +kernel)
theorem q208_210 : xcR (xmk 208) 210 = some (xmk 208, 210, 151, 1, (1080, 1081, 0)) := yqr_ok (by decide +kernel)
theorem q208_315 : xcR (xmk 208) 315 = some (xmk 208, 315, 202, 0, (1366, 1368, 65)) := yqr_ok (by decide +kernel)
theorem q208_319 : xcR (xmk 208) 319 = some (xmk 208, 319, 203, 0, (1370, 1372, 66)) := yqr_ok (by decide +kernel)
theorem q208_309 : xcR (xmk 208) 309 = some (xmk 208, 309, 200, 0, (1358, 1360, 63)) := yqr_ok (by decide +kernel)
theorem q208_322 : xcR (xmk 208) 322 = some (xmk 208, 322, 204, 0, (1374, 1376, 67)) := yqr_ok (by decide +kernel)
theorem q209_337 : xcL (xmk 209) 337 = some 60 := by decide +kernel
theorem q209_58 : xcR (xmk 209) 58 = some (xmk 209, 58, 108, 1, (1003, 1004, 0)) := yqr_ok (by decide +kernel)
theorem q209_159 : xcR (xmk 209) 159 = some (xmk 209, 159, 107, 0, (1006, 1008, 29)) := yqr_ok (by decide +kernel)
theorem q209_7 : xfR (xmk 209) 7 = some (5, 1) := by decide +kernel
theorem q209_13 : xfR (xmk 209) 13 = some (5, 2) := by decide +kernel
theorem q209_242 : xcR (xmk 209) 242 = some (xmk 209, 242, 113, 1, (1110, 1111, 0)) := yqr_ok (by decide +kernel)
theorem mr_209 : xmr 209 = some .int := by decide +kernel
theorem q209_339 : xcL (xmk 209) 339 = some 6364136223846793005 := by decide +kernel
theorem q209_341 : xcL (xmk 209) 341 = some 1442695040888963407 := by decide +kernel
theorem q209_343 : xcR (xmk 209) 343 = some (xmk 209, 343, 208, 0, (1389, 1391, 69)) := yqr_ok (by decide +kernel)
theorem mk_208 : xmk 208 = 5 := by decide +kernel
theorem q209_248 : xcR (xmk 209) 248 = some (xmk 209, 248, 144, 0, (1136, 1138, 42)) := yqr_ok (by decide +kernel)
theorem q209_127 : xfR (xmk 209) 127 = some (5, 11) := by decide +kernel
theorem q209_139 : xcR (xmk 209) 139 = some (xmk 209, 139, 128, 1, (1118, 1119, 0)) := yqr_ok (by decide +kernel)
theorem q210_58 : xcR (xmk 210) 58 = some (xmk 210, 58, 108, 1, (1003, 1004, 0)) := yqr_ok (by decide +kernel)
theorem q210_159 : xcR (xmk 210) 159 = some (xmk 210, 159, 107, 0, (1006, 1008, 29)) := yqr_ok (by decide +kernel)
theorem mr_210 : xmr 210 = some .int := by decide +kernel
theorem q210_22 : xfR (xmk 210) 22 = some (5, 6) := by decide +kernel
theorem s_a_195 : ySa 195 0 190 := by unfold ySa; decide +kernel
theorem s_r_190_6 : ySr 190 5 6 195 := by unfold ySr; decide +kernel
theorem q210_7 : xfR (xmk 210) 7 = some (5, 1) := by decide +kernel
theorem q210_25 : xfR (xmk 210) 25 = some (5, 7) := by decide +kernel
theorem q211_58 : xcR (xmk 211) 58 = some (xmk 211, 58, 108, 1, (1003, 1004, 0)) := yqr_ok (by decide +kernel)
theorem q211_159 : xcR (xmk 211) 159 = some (xmk 211, 159, 107, 0, (1006, 1008, 29)) := yqr_ok (by decide +kernel)
theorem mr_211 : xmr 211 = some .int := by decide +kernel
theorem q211_25 : xfR (xmk 211) 25 = some (5, 7) := by decide +kernel
theorem q211_7 : xfR (xmk 211) 7 = some (5, 1) := by decide +kernel
theorem q211_22 : xfR (xmk 211) 22 = some (5, 6) := by decide +kernel
theorem q211_151 : xfR (xmk 211) 151 = some (5, 5) := by decide +kernel
theorem q241_265 : xcI (xmk 241) 265 = some 1431655765 := by decide +kernel
theorem q241_266 : xcI (xmk 241) 266 = some 858993459 := by decide +kernel
theorem q241_267 : xcI (xmk 241) 267 = some 252645135 := by decide +kernel
theorem kb_63 : (Int8.ofInt 63).toInt32 = 63 := by decide +kernel
theorem mr_241 : xmr 241 = some .int := by decide +kernel
theorem q212_7 : xcR (xmk 212) 7 = some (xmk 212, 7, 58, 0, (501, 502, 503)) := yqr_ok (by decide +kernel)
theorem mk_58 : xmk 58 = 4 := by decide +kernel
theorem s_21 : (ysh 202).1 = 21 := by decide +kernel
theorem mr_212 : xmr 212 = some .int := by decide +kernel
theorem hx212_1 : xHd 212 4 1 = some (13, 3) := by decide +kernel
theorem hx212_2 : xHd 212 4 2 = some (16, 3) := by decide +kernel
theorem q213_17 : xcR (xmk 213) 17 = some (xmk 213, 17, 61, 0, (602, 603, 604)) := yqr_ok (by decide +kernel)
theorem mk_61 : xmk 61 = 4 := by decide +kernel
theorem mr_213 : xmr 213 = some .int := by decide +kernel
theorem hx213_2 : xHd 213 3 2 = some (12, 2) := by decide +kernel
theorem q214_21 : xcR (xmk 214) 21 = some (xmk 214, 21, 62, 0, (613, 614, 615)) := yqr_ok (by decide +kernel)
theorem mk_62 : xmk 62 = 4 := by decide +kernel
theorem mr_214 : xmr 214 = some .int := by decide +kernel
theorem hx214_1 : xHd 214 4 1 = some (13, 3) := by decide +kernel
theorem q215_24 : xcR (xmk 215) 24 = some (xmk 215, 24, 63, 0, (661, 662, 663)) := yqr_ok (by decide +kernel)
theorem mk_63 : xmk 63 = 4 := by decide +kernel
theorem mr_215 : xmr 215 = some .int := by decide +kernel
theorem hx215_0 : xHd 215 5 0 = some (15, 4) := by decide +kernel
theorem hx215_1 : xHd 215 5 1 = some (19, 4) := by decide +kernel
theorem q216_30 : xcR (xmk 216) 30 = some (xmk 216, 30, 64, 0, (696, 697, 698)) := yqr_ok (by decide +kernel)
theorem mk_64 : xmk 64 = 4 := by decide +kernel
theorem mr_216 : xmr 216 = some .int := by decide +kernel
theorem hx216_0 : xHd 216 5 0 = some (15, 4) := by decide +kernel
theorem hx216_1 : xHd 216 5 1 = some (19, 4) := by decide +kernel
theorem q217_33 : xcR (xmk 217) 33 = some (xmk 217, 33, 65, 0, (703, 704, 705)) := yqr_ok (by decide +kernel)
theorem mk_65 : xmk 65 = 4 := by decide +kernel
theorem mr_217 : xmr 217 = some .int := by decide +kernel
theorem hx217_0 : xHd 217 5 0 = some (15, 4) := by decide +kernel
theorem hx217_1 : xHd 217 5 1 = some (19, 4) := by decide +kernel
theorem q218_36 : xcR (xmk 218) 36 = some (xmk 218, 36, 66, 0, (715, 716, 717)) := yqr_ok (by decide +kernel)
theorem mk_66 : xmk 66 = 4 := by decide +kernel
theorem mr_218 : xmr 218 = some .int := by decide +kernel
theorem hx218_0 : xHd 218 4 0 = some (13, 3) := by decide +kernel
theorem q219_39 : xcR (xmk 219) 39 = some (xmk 219, 39, 67, 0, (722, 723, 724)) := yqr_ok (by decide +kernel)
theorem mk_67 : xmk 67 = 4 := by decide +kernel
theorem mr_219 : xmr 219 = some .int := by decide +kernel
theorem hx219_0 : xHd 219 4 0 = some (13, 3) := by decide +kernel
theorem q220_42 : xcR (xmk 220) 42 = some (xmk 220, 42, 68, 0, (730, 731, 732)) := yqr_ok (by decide +kernel)
theorem mk_68 : xmk 68 = 4 := by decide +kernel
theorem mr_220 : xmr 220 = some .int := by decide +kernel
theorem hx220_1 : xHd 220 4 1 = some (13, 3) := by decide +kernel
theorem q221_45 : xcR (xmk 221) 45 = some (xmk 221, 45, 69, 0, (738, 739, 740)) := yqr_ok (by decide +kernel)
theorem mk_69 : xmk 69 = 4 := by decide +kernel
theorem mr_221 : xmr 221 = some .int := by decide +kernel
theorem hx221_1 : xHd 221 5 1 = some (15, 4) := by decide +kernel
theorem q222_48 : xcR (xmk 222) 48 = some (xmk 222, 48, 70, 0, (754, 755, 756)) := yqr_ok (by decide +kernel)
theorem mk_70 : xmk 70 = 4 := by decide +kernel
theorem mr_222 : xmr 222 = some .int := by decide +kernel
theorem hx222_1 : xHd 222 4 1 = some (13, 3) := by decide +kernel
theorem hx222_2 : xHd 222 4 2 = some (16, 3) := by decide +kernel
theorem q223_51 : xcR (xmk 223) 51 = some (xmk 223, 51, 71, 0, (778, 779, 780)) := yqr_ok (by decide +kernel)
theorem mk_71 : xmk 71 = 4 := by decide +kernel
theorem mr_223 : xmr 223 = some .int := by decide +kernel
theorem hx223_0 : xHd 223 5 0 = some (15, 4) := by decide +kernel
theorem hx223_1 : xHd 223 5 1 = some (19, 4) := by decide +kernel
theorem q224_54 : xcR (xmk 224) 54 = some (xmk 224, 54, 72, 0, (785, 786, 787)) := yqr_ok (by decide +kernel)
theorem mk_72 : xmk 72 = 4 := by decide +kernel
theorem mr_224 : xmr 224 = some .int := by decide +kernel
theorem hx224_1 : xHd 224 5 1 = some (15, 4) := by decide +kernel
theorem q225_57 : xcR (xmk 225) 57 = some (xmk 225, 57, 73, 0, (792, 793, 794)) := yqr_ok (by decide +kernel)
theorem mk_73 : xmk 73 = 4 := by decide +kernel
theorem mr_225 : xmr 225 = some .int := by decide +kernel
theorem hx225_1 : xHd 225 7 1 = some (17, 5) := by decide +kernel
theorem hx225_2 : xHd 225 7 2 = some (21, 5) := by decide +kernel
theorem q226_61 : xcR (xmk 226) 61 = some (xmk 226, 61, 74, 0, (800, 801, 802)) := yqr_ok (by decide +kernel)
theorem mk_74 : xmk 74 = 4 := by decide +kernel
theorem mr_226 : xmr 226 = some .int := by decide +kernel
theorem hx226_0 : xHd 226 5 0 = some (15, 4) := by decide +kernel
theorem hx226_1 : xHd 226 5 1 = some (19, 4) := by decide +kernel
theorem q227_64 : xcR (xmk 227) 64 = some (xmk 227, 64, 75, 0, (807, 808, 809)) := yqr_ok (by decide +kernel)
theorem mk_75 : xmk 75 = 4 := by decide +kernel
theorem mr_227 : xmr 227 = some .int := by decide +kernel
theorem hx227_0 : xHd 227 7 0 = some (17, 5) := by decide +kernel
theorem q228_67 : xcR (xmk 228) 67 = some (xmk 228, 67, 76, 0, (814, 815, 816)) := yqr_ok (by decide +kernel)
theorem mk_76 : xmk 76 = 4 := by decide +kernel
theorem mr_228 : xmr 228 = some .int := by decide +kernel
theorem hx228_0 : xHd 228 7 0 = some (17, 5) := by decide +kernel
theorem hx228_2 : xHd 228 7 2 = some (21, 5) := by decide +kernel
theorem q229_70 : xcR (xmk 229) 70 = some (xmk 229, 70, 77, 0, (821, 822, 823)) := yqr_ok (by decide +kernel)
theorem mk_77 : xmk 77 = 4 := by decide +kernel
theorem mr_229 : xmr 229 = some .int := by decide +kernel
theorem hx229_0 : xHd 229 5 0 = some (15, 4) := by decide +kernel
theorem hx229_1 : xHd 229 5 1 = some (19, 4) := by decide +kernel
theorem q230_73 : xcR (xmk 230) 73 = some (xmk 230, 73, 78, 0, (828, 829, 830)) := yqr_ok (by decide +kernel)
theorem mk_78 : xmk 78 = 4 := by decide +kernel
theorem mr_230 : xmr 230 = some .int := by decide +kernel
theorem hx230_1 : xHd 230 5 1 = some (15, 4) := by decide +kernel
theorem q231_76 : xcR (xmk 231) 76 = some (xmk 231, 76, 79, 0, (835, 836, 837)) := yqr_ok (by decide +kernel)
theorem mk_79 : xmk 79 = 4 := by decide +kernel
theorem mr_231 : xmr 231 = some .int := by decide +kernel
theorem hx231_2 : xHd 231 3 2 = some (12, 2) := by decide +kernel
theorem q232_79 : xcR (xmk 232) 79 = some (xmk 232, 79, 80, 0, (846, 847, 848)) := yqr_ok (by decide +kernel)
theorem mk_80 : xmk 80 = 4 := by decide +kernel
theorem mr_232 : xmr 232 = some .int := by decide +kernel
theorem hx232_0 : xHd 232 5 0 = some (15, 4) := by decide +kernel
theorem hx232_1 : xHd 232 5 1 = some (19, 4) := by decide +kernel
theorem q233_82 : xcR (xmk 233) 82 = some (xmk 233, 82, 81, 0, (853, 854, 855)) := yqr_ok (by decide +kernel)
theorem mk_81 : xmk 81 = 4 := by decide +kernel
theorem mr_233 : xmr 233 = some .int := by decide +kernel
theorem hx233_1 : xHd 233 5 1 = some (15, 4) := by decide +kernel
theorem q234_85 : xcR (xmk 234) 85 = some (xmk 234, 85, 82, 0, (867, 868, 869)) := yqr_ok (by decide +kernel)
theorem mk_82 : xmk 82 = 4 := by decide +kernel
theorem mr_234 : xmr 234 = some .int := by decide +kernel
theorem hx234_0 : xHd 234 4 0 = some (13, 3) := by decide +kernel
theorem q235_88 : xcR (xmk 235) 88 = some (xmk 235, 88, 84, 0, (874, 875, 876)) := yqr_ok (by decide +kernel)
theorem mk_84 : xmk 84 = 4 := by decide +kernel
theorem mr_235 : xmr 235 = some .int := by decide +kernel
theorem hx235_1 : xHd 235 5 1 = some (15, 4) := by decide +kernel
theorem q236_91 : xcR (xmk 236) 91 = some (xmk 236, 91, 85, 0, (881, 882, 883)) := yqr_ok (by decide +kernel)
theorem mk_85 : xmk 85 = 4 := by decide +kernel
theorem mr_236 : xmr 236 = some .int := by decide +kernel
theorem hx236_1 : xHd 236 6 1 = some (16, 5) := by decide +kernel
theorem q237_95 : xcR (xmk 237) 95 = some (xmk 237, 95, 86, 0, (903, 904, 905)) := yqr_ok (by decide +kernel)
theorem mk_86 : xmk 86 = 4 := by decide +kernel
theorem mr_237 : xmr 237 = some .int := by decide +kernel
theorem hx237_1 : xHd 237 6 1 = some (16, 5) := by decide +kernel
theorem q238_99 : xcR (xmk 238) 99 = some (xmk 238, 99, 87, 0, (916, 917, 918)) := yqr_ok (by decide +kernel)
theorem mk_87 : xmk 87 = 4 := by decide +kernel
theorem mr_238 : xmr 238 = some .int := by decide +kernel
theorem hx238_0 : xHd 238 4 0 = some (13, 3) := by decide +kernel
theorem q239_102 : xcR (xmk 239) 102 = some (xmk 239, 102, 88, 0, (926, 927, 928)) := yqr_ok (by decide +kernel)
theorem mk_88 : xmk 88 = 4 := by decide +kernel
theorem mr_239 : xmr 239 = some .int := by decide +kernel
theorem hx239_0 : xHd 239 4 0 = some (13, 3) := by decide +kernel
theorem hx239_2 : xHd 239 4 2 = some (16, 3) := by decide +kernel
theorem kb_31 : (Int8.ofInt 31).toInt32 = 31 := by decide +kernel
theorem kc_10 : Int32.ofInt 10 = 10 := by decide +kernel
theorem kc_11 : Int32.ofInt 11 = 11 := by decide +kernel
theorem kc_12 : Int32.ofInt 12 = 12 := by decide +kernel
theorem kc_13 : Int32.ofInt 13 = 13 := by decide +kernel
theorem kc_14 : Int32.ofInt 14 = 14 := by decide +kernel
theorem kc_15 : Int32.ofInt 15 = 15 := by decide +kernel
theorem kc_16 : Int32.ofInt 16 = 16 := by decide +kernel
theorem kc_17 : Int32.ofInt 17 = 17 := by decide +kernel
theorem kc_18 : Int32.ofInt 18 = 18 := by decide +kernel
theorem kc_19 : Int32.ofInt 19 = 19 := by decide +kernel
theorem kc_20 : Int32.ofInt 20 = 20 := by decide +kernel
theorem kc_21 : Int32.ofInt 21 = 21 := by decide +kernel
theorem kc_22 : Int32.ofInt 22 = 22 := by decide +kernel
theorem kc_23 : Int32.ofInt 23 = 23 := by decide +kernel
theorem kc_24 : Int32.ofInt 24 = 24 := by decide +kernel
theorem kc_25 : Int32.ofInt 25 = 25 := by decide +kernel
theorem kc_26 : Int32.ofInt 26 = 26 := by decide +kernel
theorem kc_27 : Int32.ofInt 27 = 27 := by decide +kernel
theorem kc_28 : Int32.ofInt 28 = 28 := by decide +kernel
theorem kc_29 : Int32.ofInt 29 = 29 := by decide +kernel
theorem kc_30 : Int32.ofInt 30 = 30 := by decide +kernel
theorem mr_240 : xmr 240 = some .boolean := by decide +kernel
theorem q240_109 : xcR (xmk 240) 109 = some (xmk 240, 109, 212, 7, (496, 497, 0)) := yqr_ok (by decide +kernel)
theorem mcs_212 : xmc 212 = 2 ∧ xms 212 = 12 := by decide +kernel
theorem q240_114 : xcR (xmk 240) 114 = some (xmk 240, 114, 155, 0, (998, 999, 1000)) := yqr_ok (by decide +kernel)
theorem mcs_155 : xmc 155 = 0 ∧ xms 155 = 0 := by decide +kernel
theorem mk_155 : xmk 155 = 5 := by decide +kernel
theorem q240_115 : xcR (xmk 240) 115 = some (xmk 240, 115, 106, 0, (994, 995, 996)) := yqr_ok (by decide +kernel)
theorem mcs_106 : xmc 106 = 0 ∧ xms 106 = 0 := by decide +kernel
theorem mk_106 : xmk 106 = 5 := by decide +kernel
theorem q240_118 : xcR (xmk 240) 118 = some (xmk 240, 118, 59, 0, (304, 305, 306)) := yqr_ok (by decide +kernel)
theorem mcs_59 : xmc 59 = 0 ∧ xms 59 = 0 := by decide +kernel
theorem mk_59 : xmk 59 = 4 := by decide +kernel
theorem q240_121 : xcR (xmk 240) 121 = some (xmk 240, 121, 156, 0, (1010, 1011, 1012)) := yqr_ok (by decide +kernel)
theorem mcs_156 : xmc 156 = 0 ∧ xms 156 = 0 := by decide +kernel
theorem mk_156 : xmk 156 = 5 := by decide +kernel
theorem q240_122 : xcR (xmk 240) 122 = some (xmk 240, 122, 60, 0, (308, 309, 310)) := yqr_ok (by decide +kernel)
theorem mcs_60 : xmc 60 = 0 ∧ xms 60 = 0 := by decide +kernel
theorem mk_60 : xmk 60 = 4 := by decide +kernel
theorem q240_125 : xcR (xmk 240) 125 = some (xmk 240, 125, 170, 0, (1014, 1015, 1016)) := yqr_ok (by decide +kernel)
theorem mcs_170 : xmc 170 = 0 ∧ xms 170 = 0 := by decide +kernel
theorem mk_170 : xmk 170 = 5 := by decide +kernel
theorem q240_126 : xcR (xmk 240) 126 = some (xmk 240, 126, 213, 7, (599, 600, 0)) := yqr_ok (by decide +kernel)
theorem mcs_213 : xmc 213 = 1 ∧ xms 213 = 6 := by decide +kernel
theorem q240_129 : xcR (xmk 240) 129 = some (xmk 240, 129, 171, 0, (1106, 1107, 1108)) := yqr_ok (by decide +kernel)
theorem mcs_171 : xmc 171 = 0 ∧ xms 171 = 0 := by decide +kernel
theorem mk_171 : xmk 171 = 5 := by decide +kernel
theorem q240_130 : xcR (xmk 240) 130 = some (xmk 240, 130, 214, 7, (610, 611, 0)) := yqr_ok (by decide +kernel)
theorem mcs_214 : xmc 214 = 1 ∧ xms 214 = 6 := by decide +kernel
theorem q240_132 : xcR (xmk 240) 132 = some (xmk 240, 132, 174, 0, (1113, 1114, 1115)) := yqr_ok (by decide +kernel)
theorem mcs_174 : xmc 174 = 0 ∧ xms 174 = 0 := by decide +kernel
theorem mk_174 : xmk 174 = 5 := by decide +kernel
theorem q240_133 : xcR (xmk 240) 133 = some (xmk 240, 133, 215, 7, (657, 658, 0)) := yqr_ok (by decide +kernel)
theorem mcs_215 : xmc 215 = 2 ∧ xms 215 = 12 := by decide +kernel
theorem q240_136 : xcR (xmk 240) 136 = some (xmk 240, 136, 177, 0, (1199, 1200, 1201)) := yqr_ok (by decide +kernel)
theorem mcs_177 : xmc 177 = 0 ∧ xms 177 = 0 := by decide +kernel
theorem mk_177 : xmk 177 = 5 := by decide +kernel
theorem q240_137 : xcR (xmk 240) 137 = some (xmk 240, 137, 216, 7, (693, 694, 0)) := yqr_ok (by decide +kernel)
theorem mcs_216 : xmc 216 = 2 ∧ xms 216 = 12 := by decide +kernel
theorem q240_139 : xcR (xmk 240) 139 = some (xmk 240, 139, 178, 0, (1212, 1213, 1214)) := yqr_ok (by decide +kernel)
theorem mcs_178 : xmc 178 = 0 ∧ xms 178 = 0 := by decide +kernel
theorem mk_178 : xmk 178 = 5 := by decide +kernel
theorem q240_140 : xcR (xmk 240) 140 = some (xmk 240, 140, 217, 7, (700, 701, 0)) := yqr_ok (by decide +kernel)
theorem mcs_217 : xmc 217 = 2 ∧ xms 217 = 12 := by decide +kernel
theorem q240_142 : xcR (xmk 240) 142 = some (xmk 240, 142, 179, 0, (1217, 1218, 1219)) := yqr_ok (by decide +kernel)
theorem mcs_179 : xmc 179 = 0 ∧ xms 179 = 0 := by decide +kernel
theorem mk_179 : xmk 179 = 5 := by decide +kernel
theorem q240_143 : xcR (xmk 240) 143 = some (xmk 240, 143, 218, 7, (712, 713, 0)) := yqr_ok (by decide +kernel)
theorem mcs_218 : xmc 218 = 1 ∧ xms 218 = 6 := by decide +kernel
theorem q240_145 : xcR (xmk 240) 145 = some (xmk 240, 145, 180, 0, (1221, 1222, 1223)) := yqr_ok (by decide +kernel)
theorem mcs_180 : xmc 180 = 0 ∧ xms 180 = 0 := by decide +kernel
theorem mk_180 : xmk 180 = 5 := by decide +kernel
theorem q240_146 : xcR (xmk 240) 146 = some (xmk 240, 146, 219, 7, (719, 720, 0)) := yqr_ok (by decide +kernel)
theorem mcs_219 : xmc 219 = 1 ∧ xms 219 = 6 := by decide +kernel
theorem q240_148 : xcR (xmk 240) 148 = some (xmk 240, 148, 181, 0, (1225, 1226, 1227)) := yqr_ok (by decide +kernel)
theorem mcs_181 : xmc 181 = 0 ∧ xms 181 = 0 := by decide +kernel
theorem mk_181 : xmk 181 = 5 := by decide +kernel
theorem q240_149 : xcR (xmk 240) 149 = some (xmk 240, 149, 220, 7, (727, 728, 0)) := yqr_ok (by decide +kernel)
theorem mcs_220 : xmc 220 = 1 ∧ xms 220 = 6 := by decide +kernel
theorem q240_151 : xcR (xmk 240) 151 = some (xmk 240, 151, 182, 0, (1232, 1233, 1234)) := yqr_ok (by decide +kernel)
theorem mcs_182 : xmc 182 = 0 ∧ xms 182 = 0 := by decide +kernel
theorem mk_182 : xmk 182 = 5 := by decide +kernel
theorem q240_152 : xcR (xmk 240) 152 = some (xmk 240, 152, 221, 7, (735, 736, 0)) := yqr_ok (by decide +kernel)
theorem mcs_221 : xmc 221 = 1 ∧ xms 221 = 6 := by decide +kernel
theorem q240_154 : xcR (xmk 240) 154 = some (xmk 240, 154, 183, 0, (1237, 1238, 1239)) := yqr_ok (by decide +kernel)
theorem mcs_183 : xmc 183 = 0 ∧ xms 183 = 0 := by decide +kernel
theorem mk_183 : xmk 183 = 5 := by decide +kernel
theorem q240_155 : xcR (xmk 240) 155 = some (xmk 240, 155, 222, 7, (751, 752, 0)) := yqr_ok (by decide +kernel)
theorem mcs_222 : xmc 222 = 3 ∧ xms 222 = 18 := by decide +kernel
theorem q240_157 : xcR (xmk 240) 157 = some (xmk 240, 157, 184, 0, (1246, 1247, 1248)) := yqr_ok (by decide +kernel)
theorem mcs_184 : xmc 184 = 0 ∧ xms 184 = 0 := by decide +kernel
theorem mk_184 : xmk 184 = 5 := by decide +kernel
theorem q240_158 : xcR (xmk 240) 158 = some (xmk 240, 158, 223, 7, (775, 776, 0)) := yqr_ok (by decide +kernel)
theorem mcs_223 : xmc 223 = 3 ∧ xms 223 = 18 := by decide +kernel
theorem q240_160 : xcR (xmk 240) 160 = some (xmk 240, 160, 185, 0, (1254, 1255, 1256)) := yqr_ok (by decide +kernel)
theorem mcs_185 : xmc 185 = 0 ∧ xms 185 = 0 := by decide +kernel
theorem mk_185 : xmk 185 = 5 := by decide +kernel
theorem q240_161 : xcR (xmk 240) 161 = some (xmk 240, 161, 224, 7, (782, 783, 0)) := yqr_ok (by decide +kernel)
theorem mcs_224 : xmc 224 = 3 ∧ xms 224 = 18 := by decide +kernel
theorem q240_163 : xcR (xmk 240) 163 = some (xmk 240, 163, 186, 0, (1261, 1262, 1263)) := yqr_ok (by decide +kernel)
theorem mcs_186 : xmc 186 = 0 ∧ xms 186 = 0 := by decide +kernel
theorem mk_186 : xmk 186 = 5 := by decide +kernel
theorem q240_164 : xcR (xmk 240) 164 = some (xmk 240, 164, 225, 7, (789, 790, 0)) := yqr_ok (by decide +kernel)
theorem mcs_225 : xmc 225 = 3 ∧ xms 225 = 18 := by decide +kernel
theorem q240_167 : xcR (xmk 240) 167 = some (xmk 240, 167, 187, 0, (1272, 1273, 1274)) := yqr_ok (by decide +kernel)
theorem mcs_187 : xmc 187 = 0 ∧ xms 187 = 0 := by decide +kernel
theorem mk_187 : xmk 187 = 5 := by decide +kernel
theorem q240_168 : xcR (xmk 240) 168 = some (xmk 240, 168, 226, 7, (797, 798, 0)) := yqr_ok (by decide +kernel)
theorem mcs_226 : xmc 226 = 3 ∧ xms 226 = 18 := by decide +kernel
theorem q240_170 : xcR (xmk 240) 170 = some (xmk 240, 170, 188, 0, (1284, 1285, 1286)) := yqr_ok (by decide +kernel)
theorem mcs_188 : xmc 188 = 0 ∧ xms 188 = 0 := by decide +kernel
theorem mk_188 : xmk 188 = 5 := by decide +kernel
theorem q240_171 : xcR (xmk 240) 171 = some (xmk 240, 171, 227, 7, (804, 805, 0)) := yqr_ok (by decide +kernel)
theorem mcs_227 : xmc 227 = 3 ∧ xms 227 = 18 := by decide +kernel
theorem q240_173 : xcR (xmk 240) 173 = some (xmk 240, 173, 189, 0, (1288, 1289, 1290)) := yqr_ok (by decide +kernel)
theorem mcs_189 : xmc 189 = 0 ∧ xms 189 = 0 := by decide +kernel
theorem mk_189 : xmk 189 = 5 := by decide +kernel
theorem q240_174 : xcR (xmk 240) 174 = some (xmk 240, 174, 228, 7, (811, 812, 0)) := yqr_ok (by decide +kernel)
theorem mcs_228 : xmc 228 = 3 ∧ xms 228 = 18 := by decide +kernel
theorem q240_176 : xcR (xmk 240) 176 = some (xmk 240, 176, 190, 0, (1292, 1293, 1294)) := yqr_ok (by decide +kernel)
theorem mcs_190 : xmc 190 = 0 ∧ xms 190 = 0 := by decide +kernel
theorem mk_190 : xmk 190 = 5 := by decide +kernel
theorem q240_177 : xcR (xmk 240) 177 = some (xmk 240, 177, 229, 7, (818, 819, 0)) := yqr_ok (by decide +kernel)
theorem mcs_229 : xmc 229 = 3 ∧ xms 229 = 18 := by decide +kernel
theorem q240_179 : xcR (xmk 240) 179 = some (xmk 240, 179, 191, 0, (1296, 1297, 1298)) := yqr_ok (by decide +kernel)
theorem mcs_191 : xmc 191 = 0 ∧ xms 191 = 0 := by decide +kernel
theorem mk_191 : xmk 191 = 5 := by decide +kernel
theorem q240_180 : xcR (xmk 240) 180 = some (xmk 240, 180, 230, 7, (825, 826, 0)) := yqr_ok (by decide +kernel)
theorem mcs_230 : xmc 230 = 3 ∧ xms 230 = 18 := by decide +kernel
theorem q240_182 : xcR (xmk 240) 182 = some (xmk 240, 182, 192, 0, (1303, 1304, 1305)) := yqr_ok (by decide +kernel)
theorem mcs_192 : xmc 192 = 0 ∧ xms 192 = 0 := by decide +kernel
theorem mk_192 : xmk 192 = 5 := by decide +kernel
theorem q240_183 : xcR (xmk 240) 183 = some (xmk 240, 183, 231, 7, (832, 833, 0)) := yqr_ok (by decide +kernel)
theorem mcs_231 : xmc 231 = 1 ∧ xms 231 = 6 := by decide +kernel
theorem q240_185 : xcR (xmk 240) 185 = some (xmk 240, 185, 193, 0, (1313, 1314, 1315)) := yqr_ok (by decide +kernel)
theorem mcs_193 : xmc 193 = 0 ∧ xms 193 = 0 := by decide +kernel
theorem mk_193 : xmk 193 = 5 := by decide +kernel
theorem q240_186 : xcR (xmk 240) 186 = some (xmk 240, 186, 232, 7, (843, 844, 0)) := yqr_ok (by decide +kernel)
theorem mcs_232 : xmc 232 = 2 ∧ xms 232 = 12 := by decide +kernel
theorem q240_188 : xcR (xmk 240) 188 = some (xmk 240, 188, 194, 0, (1317, 1318, 1319)) := yqr_ok (by decide +kernel)
theorem mcs_194 : xmc 194 = 0 ∧ xms 194 = 0 := by decide +kernel
theorem mk_194 : xmk 194 = 5 := by decide +kernel
theorem q240_189 : xcR (xmk 240) 189 = some (xmk 240, 189, 233, 7, (850, 851, 0)) := yqr_ok (by decide +kernel)
theorem mcs_233 : xmc 233 = 1 ∧ xms 233 = 6 := by decide +kernel
theorem q240_191 : xcR (xmk 240) 191 = some (xmk 240, 191, 196, 0, (1321, 1322, 1323)) := yqr_ok (by decide +kernel)
theorem mcs_196 : xmc 196 = 0 ∧ xms 196 = 0 := by decide +kernel
theorem mk_196 : xmk 196 = 5 := by decide +kernel
theorem q240_192 : xcR (xmk 240) 192 = some (xmk 240, 192, 234, 7, (864, 865, 0)) := yqr_ok (by decide +kernel)
theorem mcs_234 : xmc 234 = 1 ∧ xms 234 = 6 := by decide +kernel
theorem q240_194 : xcR (xmk 240) 194 = some (xmk 240, 194, 197, 0, (1332, 1333, 1334)) := yqr_ok (by decide +kernel)
theorem mcs_197 : xmc 197 = 0 ∧ xms 197 = 0 := by decide +kernel
theorem mk_197 : xmk 197 = 5 := by decide +kernel
theorem q240_195 : xcR (xmk 240) 195 = some (xmk 240, 195, 83, 0, (425, 426, 427)) := yqr_ok (by decide +kernel)
theorem mcs_83 : xmc 83 = 0 ∧ xms 83 = 0 := by decide +kernel
theorem mk_83 : xmk 83 = 4 := by decide +kernel
theorem q240_198 : xcR (xmk 240) 198 = some (xmk 240, 198, 198, 0, (1336, 1337, 1338)) := yqr_ok (by decide +kernel)
theorem mcs_198 : xmc 198 = 0 ∧ xms 198 = 0 := by decide +kernel
theorem mk_198 : xmk 198 = 5 := by decide +kernel
theorem q240_199 : xcR (xmk 240) 199 = some (xmk 240, 199, 235, 7, (871, 872, 0)) := yqr_ok (by decide +kernel)
theorem mcs_235 : xmc 235 = 1 ∧ xms 235 = 6 := by decide +kernel
theorem q240_201 : xcR (xmk 240) 201 = some (xmk 240, 201, 199, 0, (1340, 1341, 1342)) := yqr_ok (by decide +kernel)
theorem mcs_199 : xmc 199 = 0 ∧ xms 199 = 0 := by decide +kernel
theorem mk_199 : xmk 199 = 5 := by decide +kernel
theorem kb_32 : (Int8.ofInt 32).toInt32 = 32 := by decide +kernel
theorem q240_202 : xcL (xmk 240) 202 = some 4294967295 := by decide +kernel
theorem q240_204 : xcR (xmk 240) 204 = some (xmk 240, 204, 236, 7, (878, 879, 0)) := yqr_ok (by decide +kernel)
theorem mcs_236 : xmc 236 = 2 ∧ xms 236 = 12 := by decide +kernel
theorem q240_207 : xcR (xmk 240) 207 = some (xmk 240, 207, 207, 0, (1344, 1345, 1346)) := yqr_ok (by decide +kernel)
theorem mcs_207 : xmc 207 = 0 ∧ xms 207 = 0 := by decide +kernel
theorem mk_207 : xmk 207 = 5 := by decide +kernel
theorem q240_208 : xcR (xmk 240) 208 = some (xmk 240, 208, 237, 7, (900, 901, 0)) := yqr_ok (by decide +kernel)
theorem mcs_237 : xmc 237 = 1 ∧ xms 237 = 6 := by decide +kernel
theorem q240_211 : xcR (xmk 240) 211 = some (xmk 240, 211, 209, 0, (1382, 1383, 1384)) := yqr_ok (by decide +kernel)
theorem mcs_209 : xmc 209 = 0 ∧ xms 209 = 0 := by decide +kernel
theorem mk_209 : xmk 209 = 5 := by decide +kernel
theorem q240_212 : xcR (xmk 240) 212 = some (xmk 240, 212, 238, 7, (913, 914, 0)) := yqr_ok (by decide +kernel)
theorem mcs_238 : xmc 238 = 1 ∧ xms 238 = 6 := by decide +kernel
theorem q240_214 : xcR (xmk 240) 214 = some (xmk 240, 214, 210, 0, (1393, 1394, 1395)) := yqr_ok (by decide +kernel)
theorem mcs_210 : xmc 210 = 0 ∧ xms 210 = 0 := by decide +kernel
theorem mk_210 : xmk 210 = 5 := by decide +kernel
theorem q240_215 : xcR (xmk 240) 215 = some (xmk 240, 215, 239, 7, (923, 924, 0)) := yqr_ok (by decide +kernel)
theorem mcs_239 : xmc 239 = 2 ∧ xms 239 = 12 := by decide +kernel
theorem q240_217 : xcR (xmk 240) 217 = some (xmk 240, 217, 211, 0, (1397, 1398, 1399)) := yqr_ok (by decide +kernel)
theorem mcs_211 : xmc 211 = 0 ∧ xms 211 = 0 := by decide +kernel
theorem mk_211 : xmk 211 = 5 := by decide +kernel
