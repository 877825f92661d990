/-! Y: X over a heap of a fixed shape: its numbers alone, by place and index (500: the script's length) -/
abbrev yM : Type := Nat → Nat → Int32
abbrev ySh : Type := Nat × Nat × List (Option Nat)
def yT : List ySh := [(10, 0, []),
  (10, 5, []),
  (10, 5, []),
  (10, 5, []),
  (10, 4, []),
  (11, 7, []),
  (11, 4, []),
  (104, 0, [some 8, some 10, some 11, some 26, some 27, some 42, some 170, some 189]),
  (101, 0, [some 9, none, none, none, none, none, none, none, none]),
  (1, 120, []),
  (103, 0, [some 11, some 20, some 21, some 22, some 23, some 24, none, none, none, none, none, some 25]),
  (100, 0, [none, none, none, none, some 12, some 13, some 14, some 15, some 16, some 17, some 18, some 19]),
  (0, 12, []),
  (0, 14, []),
  (0, 14, []),
  (0, 14, []),
  (0, 14, []),
  (0, 14, []),
  (0, 4, []),
  (0, 5, []),
  (0, 14, []),
  (0, 14, []),
  (0, 14, []),
  (0, 14, []),
  (0, 14, []),
  (0, 4, []),
  (103, 0, [some 27, some 36, some 37, some 38, some 39, some 40, none, none, none, none, none, some 41]),
  (100, 0, [none, none, none, none, some 28, some 29, some 30, some 31, some 32, some 33, some 34, some 35]),
  (0, 12, []),
  (0, 14, []),
  (0, 14, []),
  (0, 14, []),
  (0, 14, []),
  (0, 14, []),
  (0, 4, []),
  (0, 5, []),
  (0, 14, []),
  (0, 14, []),
  (0, 14, []),
  (0, 14, [])] ++ ([(0, 14, []),
  (0, 4, []),
  (102, 0, [some 43, none, none]),
  (22, 14, [some 44, some 53, some 62, some 71, some 80, some 89, some 98, some 107, some 116, some 125, some 134, some 143, some 152, some 161]),
  (100, 0, [none, none, none, none, some 45, some 46, some 47, some 48, some 49, some 50, some 51, some 52]),
  (0, 12, []),
  (0, 14, []),
  (0, 14, []),
  (0, 14, []),
  (0, 14, []),
  (0, 14, []),
  (0, 4, []),
  (0, 5, []),
  (100, 0, [none, none, none, none, some 54, some 55, some 56, some 57, some 58, some 59, some 60, some 61]),
  (0, 12, []),
  (0, 14, []),
  (0, 14, []),
  (0, 14, []),
  (0, 14, []),
  (0, 14, []),
  (0, 4, []),
  (0, 5, []),
  (100, 0, [none, none, none, none, some 63, some 64, some 65, some 66, some 67, some 68, some 69, some 70]),
  (0, 12, []),
  (0, 14, []),
  (0, 14, []),
  (0, 14, []),
  (0, 14, []),
  (0, 14, []),
  (0, 4, []),
  (0, 5, []),
  (100, 0, [none, none, none, none, some 72, some 73, some 74, some 75, some 76, some 77, some 78, some 79]),
  (0, 12, []),
  (0, 14, []),
  (0, 14, []),
  (0, 14, []),
  (0, 14, []),
  (0, 14, []),
  (0, 4, []),
  (0, 5, [])] ++ ([(100, 0, [none, none, none, none, some 81, some 82, some 83, some 84, some 85, some 86, some 87, some 88]),
  (0, 12, []),
  (0, 14, []),
  (0, 14, []),
  (0, 14, []),
  (0, 14, []),
  (0, 14, []),
  (0, 4, []),
  (0, 5, []),
  (100, 0, [none, none, none, none, some 90, some 91, some 92, some 93, some 94, some 95, some 96, some 97]),
  (0, 12, []),
  (0, 14, []),
  (0, 14, []),
  (0, 14, []),
  (0, 14, []),
  (0, 14, []),
  (0, 4, []),
  (0, 5, []),
  (100, 0, [none, none, none, none, some 99, some 100, some 101, some 102, some 103, some 104, some 105, some 106]),
  (0, 12, []),
  (0, 14, []),
  (0, 14, []),
  (0, 14, []),
  (0, 14, []),
  (0, 14, []),
  (0, 4, []),
  (0, 5, []),
  (100, 0, [none, none, none, none, some 108, some 109, some 110, some 111, some 112, some 113, some 114, some 115]),
  (0, 12, []),
  (0, 14, []),
  (0, 14, []),
  (0, 14, []),
  (0, 14, []),
  (0, 14, []),
  (0, 4, []),
  (0, 5, []),
  (100, 0, [none, none, none, none, some 117, some 118, some 119, some 120, some 121, some 122, some 123, some 124]),
  (0, 12, []),
  (0, 14, []),
  (0, 14, [])] ++ ([(0, 14, []),
  (0, 14, []),
  (0, 14, []),
  (0, 4, []),
  (0, 5, []),
  (100, 0, [none, none, none, none, some 126, some 127, some 128, some 129, some 130, some 131, some 132, some 133]),
  (0, 12, []),
  (0, 14, []),
  (0, 14, []),
  (0, 14, []),
  (0, 14, []),
  (0, 14, []),
  (0, 4, []),
  (0, 5, []),
  (100, 0, [none, none, none, none, some 135, some 136, some 137, some 138, some 139, some 140, some 141, some 142]),
  (0, 12, []),
  (0, 14, []),
  (0, 14, []),
  (0, 14, []),
  (0, 14, []),
  (0, 14, []),
  (0, 4, []),
  (0, 5, []),
  (100, 0, [none, none, none, none, some 144, some 145, some 146, some 147, some 148, some 149, some 150, some 151]),
  (0, 12, []),
  (0, 14, []),
  (0, 14, []),
  (0, 14, []),
  (0, 14, []),
  (0, 14, []),
  (0, 4, []),
  (0, 5, []),
  (100, 0, [none, none, none, none, some 153, some 154, some 155, some 156, some 157, some 158, some 159, some 160]),
  (0, 12, []),
  (0, 14, []),
  (0, 14, []),
  (0, 14, []),
  (0, 14, []),
  (0, 14, []),
  (0, 4, [])] ++ ([(0, 5, []),
  (100, 0, [none, none, none, none, some 162, some 163, some 164, some 165, some 166, some 167, some 168, some 169]),
  (0, 12, []),
  (0, 14, []),
  (0, 14, []),
  (0, 14, []),
  (0, 14, []),
  (0, 14, []),
  (0, 4, []),
  (0, 5, []),
  (22, 2, [some 171, some 180]),
  (100, 0, [none, none, none, none, some 172, some 173, some 174, some 175, some 176, some 177, some 178, some 179]),
  (0, 12, []),
  (0, 14, []),
  (0, 14, []),
  (0, 14, []),
  (0, 14, []),
  (0, 14, []),
  (0, 4, []),
  (0, 5, []),
  (100, 0, [none, none, none, none, some 181, some 182, some 183, some 184, some 185, some 186, some 187, some 188]),
  (0, 12, []),
  (0, 14, []),
  (0, 14, []),
  (0, 14, []),
  (0, 14, []),
  (0, 14, []),
  (0, 4, []),
  (0, 5, []),
  (2, 2, []),
  (104, 0, [some 191, some 193, some 194, some 209, some 210, some 225, some 353, some 372]),
  (101, 0, [some 192, none, none, none, none, none, none, none, none]),
  (1, 120, []),
  (103, 0, [some 194, some 203, some 204, some 205, some 206, some 207, none, none, none, none, none, some 208]),
  (100, 0, [none, none, none, none, some 195, some 196, some 197, some 198, some 199, some 200, some 201, some 202]),
  (0, 12, []),
  (0, 14, []),
  (0, 14, []),
  (0, 14, []),
  (0, 14, [])] ++ ([(0, 14, []),
  (0, 4, []),
  (0, 5, []),
  (0, 14, []),
  (0, 14, []),
  (0, 14, []),
  (0, 14, []),
  (0, 14, []),
  (0, 4, []),
  (103, 0, [some 210, some 219, some 220, some 221, some 222, some 223, none, none, none, none, none, some 224]),
  (100, 0, [none, none, none, none, some 211, some 212, some 213, some 214, some 215, some 216, some 217, some 218]),
  (0, 12, []),
  (0, 14, []),
  (0, 14, []),
  (0, 14, []),
  (0, 14, []),
  (0, 14, []),
  (0, 4, []),
  (0, 5, []),
  (0, 14, []),
  (0, 14, []),
  (0, 14, []),
  (0, 14, []),
  (0, 14, []),
  (0, 4, []),
  (102, 0, [some 226, none, none]),
  (22, 14, [some 227, some 236, some 245, some 254, some 263, some 272, some 281, some 290, some 299, some 308, some 317, some 326, some 335, some 344]),
  (100, 0, [none, none, none, none, some 228, some 229, some 230, some 231, some 232, some 233, some 234, some 235]),
  (0, 12, []),
  (0, 14, []),
  (0, 14, []),
  (0, 14, []),
  (0, 14, []),
  (0, 14, []),
  (0, 4, []),
  (0, 5, []),
  (100, 0, [none, none, none, none, some 237, some 238, some 239, some 240, some 241, some 242, some 243, some 244]),
  (0, 12, []),
  (0, 14, []),
  (0, 14, [])] ++ ([(0, 14, []),
  (0, 14, []),
  (0, 14, []),
  (0, 4, []),
  (0, 5, []),
  (100, 0, [none, none, none, none, some 246, some 247, some 248, some 249, some 250, some 251, some 252, some 253]),
  (0, 12, []),
  (0, 14, []),
  (0, 14, []),
  (0, 14, []),
  (0, 14, []),
  (0, 14, []),
  (0, 4, []),
  (0, 5, []),
  (100, 0, [none, none, none, none, some 255, some 256, some 257, some 258, some 259, some 260, some 261, some 262]),
  (0, 12, []),
  (0, 14, []),
  (0, 14, []),
  (0, 14, []),
  (0, 14, []),
  (0, 14, []),
  (0, 4, []),
  (0, 5, []),
  (100, 0, [none, none, none, none, some 264, some 265, some 266, some 267, some 268, some 269, some 270, some 271]),
  (0, 12, []),
  (0, 14, []),
  (0, 14, []),
  (0, 14, []),
  (0, 14, []),
  (0, 14, []),
  (0, 4, []),
  (0, 5, []),
  (100, 0, [none, none, none, none, some 273, some 274, some 275, some 276, some 277, some 278, some 279, some 280]),
  (0, 12, []),
  (0, 14, []),
  (0, 14, []),
  (0, 14, []),
  (0, 14, []),
  (0, 14, []),
  (0, 4, [])] ++ ([(0, 5, []),
  (100, 0, [none, none, none, none, some 282, some 283, some 284, some 285, some 286, some 287, some 288, some 289]),
  (0, 12, []),
  (0, 14, []),
  (0, 14, []),
  (0, 14, []),
  (0, 14, []),
  (0, 14, []),
  (0, 4, []),
  (0, 5, []),
  (100, 0, [none, none, none, none, some 291, some 292, some 293, some 294, some 295, some 296, some 297, some 298]),
  (0, 12, []),
  (0, 14, []),
  (0, 14, []),
  (0, 14, []),
  (0, 14, []),
  (0, 14, []),
  (0, 4, []),
  (0, 5, []),
  (100, 0, [none, none, none, none, some 300, some 301, some 302, some 303, some 304, some 305, some 306, some 307]),
  (0, 12, []),
  (0, 14, []),
  (0, 14, []),
  (0, 14, []),
  (0, 14, []),
  (0, 14, []),
  (0, 4, []),
  (0, 5, []),
  (100, 0, [none, none, none, none, some 309, some 310, some 311, some 312, some 313, some 314, some 315, some 316]),
  (0, 12, []),
  (0, 14, []),
  (0, 14, []),
  (0, 14, []),
  (0, 14, []),
  (0, 14, []),
  (0, 4, []),
  (0, 5, []),
  (100, 0, [none, none, none, none, some 318, some 319, some 320, some 321, some 322, some 323, some 324, some 325]),
  (0, 12, []),
  (0, 14, [])] ++ ([(0, 14, []),
  (0, 14, []),
  (0, 14, []),
  (0, 14, []),
  (0, 4, []),
  (0, 5, []),
  (100, 0, [none, none, none, none, some 327, some 328, some 329, some 330, some 331, some 332, some 333, some 334]),
  (0, 12, []),
  (0, 14, []),
  (0, 14, []),
  (0, 14, []),
  (0, 14, []),
  (0, 14, []),
  (0, 4, []),
  (0, 5, []),
  (100, 0, [none, none, none, none, some 336, some 337, some 338, some 339, some 340, some 341, some 342, some 343]),
  (0, 12, []),
  (0, 14, []),
  (0, 14, []),
  (0, 14, []),
  (0, 14, []),
  (0, 14, []),
  (0, 4, []),
  (0, 5, []),
  (100, 0, [none, none, none, none, some 345, some 346, some 347, some 348, some 349, some 350, some 351, some 352]),
  (0, 12, []),
  (0, 14, []),
  (0, 14, []),
  (0, 14, []),
  (0, 14, []),
  (0, 14, []),
  (0, 4, []),
  (0, 5, []),
  (22, 2, [some 354, some 363]),
  (100, 0, [none, none, none, none, some 355, some 356, some 357, some 358, some 359, some 360, some 361, some 362]),
  (0, 12, []),
  (0, 14, []),
  (0, 14, []),
  (0, 14, []),
  (0, 14, [])] ++ ([(0, 14, []),
  (0, 4, []),
  (0, 5, []),
  (100, 0, [none, none, none, none, some 364, some 365, some 366, some 367, some 368, some 369, some 370, some 371]),
  (0, 12, []),
  (0, 14, []),
  (0, 14, []),
  (0, 14, []),
  (0, 14, []),
  (0, 14, []),
  (0, 4, []),
  (0, 5, []),
  (2, 2, [])])))))))))
def ysh (a : Nat) : ySh := (yT[a]?).getD (99, 0, [])
def ylen (M : yM) : Nat := (M 500 0).toNatClampNeg
def yrd (M : yM) (a : Nat) : Nat → Int32 := if 1 ≤ a ∧ a ≤ 6 then xsR0 a else M a
def yn (M : yM) (a : Nat) (s : ySh) : Nat := if a = 0 then ylen M else s.2.1
def yfs (f : Nat → Int32) (l : List (Option Nat)) : List Value := l.mapIdx fun j o => match o with
  | none => .int (f j)
  | some r => .ref r
def ycel (M : yM) (a : Nat) (s : ySh) : xCel := if s.1 = 21 then .inl (21, [.long (M a 0).toInt64]) else if s.1 = 22 then .inl (22, yfs (M a) s.2.2) else if 100 ≤ s.1 then .inl (s.1 - 100, yfs (M a) s.2.2) else .inr (s.1, yn M a s, yrd M a)
def yhpT (T : List ySh) (fl : Bool) (M : yM) : xHp := (fl, T.mapIdx fun a s => ycel M a s)
def yhp (fl : Bool) (M : yM) : xHp := yhpT yT fl M
def yU (M : yM) (a j : Nat) (x : Int32) : yM := fun b => if b = a then upd (M a) j x else M b
def yUa (M : yM) (a : Nat) (f : Nat → Int32) : yM := fun b => if b = a then f else M b
abbrev yRes : Type := (Option Value ⊕ Nat) × yM
abbrev yJ : Type := Nat × xLs × List Value × yM × Nat × Nat
abbrev yCa : Type := Nat × List Value × Nat × xLs × List Value × yM × Nat × Nat
abbrev yA : Type := Option (yJ ⊕ (yRes ⊕ yCa))
def yGo (pc : Nat) (ls : xLs) (st : List Value) (h : yM) (nc ns : Nat) : yA := some (.inl (pc, ls, st, h, nc, ns))
def yq (a b : Nat) (x : yA) : yA := if a = b then x else none
def yXB (fl : Bool) : yJ ⊕ (yRes ⊕ yCa) → xJ ⊕ (xRes ⊕ xCa)
  | .inl (pc, ls, st, M, nc, ns) => .inl (pc, ls, st, yhp fl M, nc, ns)
  | .inr (.inl (.inl v, M)) => .inr (.inl (.inl v, yhp fl M))
  | .inr (.inl (.inr E, M)) => .inr (.inl (.inr E, yhp false M))
  | .inr (.inr (k', as, pc, ls, st, M, nc, ns)) => .inr (.inr (k', as, pc, ls, st, yhp fl M, nc, ns))
def yle (fl : Bool) (a : yA) (b : xA) : Prop := ∀ o, a = some o → b = some (yXB fl o)
section YL
variable {fl : Bool}
theorem yle_go {pc : Nat} {ls : xLs} {st : List Value} {M : yM} {nc ns : Nat} : yle fl (yGo pc ls st M nc ns) (xGo pc ls st (yhp fl M) nc ns) := by
  intro o h
  cases h
  rfl
theorem yle_none {b : xA} : yle fl none b := by
  intro o h
  cases h
theorem yle_q {n m : Nat} {a : yA} {b : xA} (h : yle fl a b) : yle fl (yq n m a) (xq n m b) := by
  unfold yq xq
  split
  · exact h
  · exact yle_none
theorem yle_bind {α : Type} {o : Option α} {f : α → yA} {g : α → xA} (h : ∀ v, yle fl (f v) (g v)) : yle fl (o.bind f) (o.bind g) := by
  cases o with
  | none => exact yle_none
  | some v => exact h v
theorem yle_ite {p : Prop} [Decidable p] {a c : yA} {b d : xA} (h1 : p → yle fl a b) (h2 : ¬ p → yle fl c d) : yle fl (if p then a else c) (if p then b else d) := by
  by_cases hp : p
  · rw [if_pos hp, if_pos hp]; exact h1 hp
  · rw [if_neg hp, if_neg hp]; exact h2 hp
theorem yle_if {p q : Prop} [Decidable p] [Decidable q] {a : yA} {b d : xA} (hpq : p → q) (h1 : p → yle fl a b) : yle fl (if p then a else none) (if q then b else d) := by
  by_cases hp : p
  · rw [if_pos hp, if_pos (hpq hp)]; exact h1 hp
  · rw [if_neg hp]; exact yle_none
theorem yle_eq {a : yA} {b c : xA} (h : c = b) (h2 : yle fl a b) : yle fl a c := h ▸ h2
end YL
/-! the heap that stands for the numbers -/
theorem yhpT_get (T : List ySh) (fl : Bool) (M : yM) (a : Nat) : (yhpT T fl M).2[a]? = (T[a]?).map (fun s => ycel M a s) := by
  simp only [yhpT, List.getElem?_mapIdx]
theorem yhp_get (fl : Bool) (M : yM) (a : Nat) : (yhp fl M).2[a]? = (yT[a]?).map (fun s => ycel M a s) := yhpT_get yT fl M a
theorem ysh_get {a : Nat} (h : (ysh a).1 ≠ 99) : yT[a]? = some (ysh a) := by
  unfold ysh at h ⊢
  cases hg : yT[a]? with
  | none => rw [hg] at h; exact absurd rfl h
  | some s => rfl
theorem yhp_A {fl : Bool} {M : yM} {a : Nat} (h : (ysh a).1 < 21) : xgA (yhp fl M) a = some ((ysh a).1, yn M a (ysh a), yrd M a) := by
  unfold xgA
  rw [yhp_get, ysh_get (by omega)]
  show (match some (ycel M a (ysh a)) with | some (.inr o) => some o | _ => none) = _
  unfold ycel
  rw [if_neg (by omega), if_neg (by omega), if_neg (by omega)]
theorem yhp_O {fl : Bool} {M : yM} {a t : Nat} (h : (ysh a).1 = 100 + t) : xgO (yhp fl M) a = some (t, yfs (M a) (ysh a).2.2) := by
  unfold xgO
  rw [yhp_get, ysh_get (by omega)]
  show (match some (ycel M a (ysh a)) with | some (.inl o) => some o | _ => none) = _
  unfold ycel
  rw [if_neg (by omega), if_neg (by omega), if_pos (by omega), h]
  show some (100 + t - 100, _) = some (t, _)
  rw [Nat.add_sub_cancel_left]
theorem yhp_22 {fl : Bool} {M : yM} {a : Nat} (h : (ysh a).1 = 22) : xgO (yhp fl M) a = some (22, yfs (M a) (ysh a).2.2) := by
  unfold xgO
  rw [yhp_get, ysh_get (by omega)]
  show (match some (ycel M a (ysh a)) with | some (.inl o) => some o | _ => none) = _
  unfold ycel
  rw [if_neg (by omega), if_pos h]
theorem yhp_21 {fl : Bool} {M : yM} {a : Nat} (h : (ysh a).1 = 21) : xgO (yhp fl M) a = some (21, [.long (M a 0).toInt64]) := by
  unfold xgO
  rw [yhp_get, ysh_get (by omega)]
  show (match some (ycel M a (ysh a)) with | some (.inl o) => some o | _ => none) = _
  unfold ycel
  rw [if_pos h]
theorem yfs_get (f : Nat → Int32) (l : List (Option Nat)) (j : Nat) : (yfs f l)[j]? = (l[j]?).map (fun o => match o with | none => .int (f j) | some r => .ref r) := by
  unfold yfs
  rw [List.getElem?_mapIdx]
theorem yfs_len (f : Nat → Int32) (l : List (Option Nat)) : (yfs f l).length = l.length := by simp [yfs]
theorem yfs_set {f : Nat → Int32} {l : List (Option Nat)} {j : Nat} {x : Int32} (h : l[j]? = some none) : (yfs f l).set j (.int x) = yfs (upd f j x) l := by
  apply List.ext_getElem?
  intro i
  rw [List.getElem?_set, yfs_get, yfs_get, yfs_len]
  have hl : j < l.length := (List.getElem?_eq_some_iff.mp h).1
  by_cases hi : j = i
  · subst hi
    rw [if_pos rfl, if_pos hl, h]
    show some (Value.int x) = some (Value.int (upd f j x j))
    rw [pk_us]
  · rw [if_neg hi]
    cases l[i]? with
    | none => rfl
    | some o =>
      cases o with
      | none =>
        show some (Value.int (f i)) = some (Value.int (upd f j x i))
        rw [pk_un (fun e => hi e.symm)]
      | some r => rfl
theorem yT_lo : ∀ a, a < 7 → 10 ≤ (ysh a).1 ∧ (ysh a).1 ≤ 11 := by decide +kernel
theorem ycel_ne {M M' : yM} {i : Nat} {s : ySh} (e1 : M' i = M i) (e2 : M' 500 = M 500) : ycel M i s = ycel M' i s := by
  unfold ycel yn yrd ylen
  rw [e1, e2]
theorem yset_at {T : List ySh} {M M' : yM} {a i : Nat} {c : xCel} {s : ySh} (hg : T[a]? = some s) (hc : c = ycel M' a s) (hM : ∀ b, b ≠ a → M' b = M b) (h500 : M' 500 = M 500) : ((T.mapIdx fun a s => ycel M a s).set a c)[i]? = (T.mapIdx fun a s => ycel M' a s)[i]? := by
  have hl : a < T.length := (List.getElem?_eq_some_iff.mp hg).1
  rw [List.getElem?_set, List.getElem?_mapIdx, List.getElem?_mapIdx, List.length_mapIdx]
  by_cases hi : a = i
  · rw [← hi, if_pos rfl, if_pos hl, hc, hg, Option.map_some]
  · rw [if_neg hi]
    cases T[i]? with
    | none => rw [Option.map_none, Option.map_none]
    | some s => rw [Option.map_some, Option.map_some, ycel_ne (hM i (fun e => hi e.symm)) h500]
theorem yhpT_set (T : List ySh) {fl : Bool} {M M' : yM} {a : Nat} {c : xCel} {s : ySh} (h500 : M' 500 = M 500) (hg : T[a]? = some s) (hc : c = ycel M' a s) (hM : ∀ b, b ≠ a → M' b = M b) : xSt (yhpT T fl M) a c = yhpT T fl M' := by
  have key : (T.mapIdx fun a s => ycel M a s).set a c = T.mapIdx fun a s => ycel M' a s := List.ext_getElem? fun i => yset_at hg hc hM h500
  unfold xSt yhpT
  rw [← key]
theorem yhp_set {fl : Bool} {M M' : yM} {a : Nat} {c : xCel} (h7 : 7 ≤ a ∧ a < 500) (hs : (ysh a).1 ≠ 99) (hc : c = ycel M' a (ysh a)) (hM : ∀ b, b ≠ a → M' b = M b) : xSt (yhp fl M) a c = yhp fl M' := yhpT_set yT (hM 500 (Nat.ne_of_gt h7.2)) (ysh_get hs) hc hM
theorem yhpT_gb (T : List ySh) (fl : Bool) (M : yM) : xGb (yhpT T fl M) = yhpT T false M := rfl
theorem yhp_gb (fl : Bool) (M : yM) : xGb (yhp fl M) = yhp false M := yhpT_gb yT fl M
theorem ysh_lt {a : Nat} (h : (ysh a).1 ≠ 99) : a < 500 := by
  have h1 : a < yT.length := (List.getElem?_eq_some_iff.mp (ysh_get h)).1
  have h2 : yT.length < 500 := by decide +kernel
  omega
theorem yU_at (M : yM) (a j : Nat) (x : Int32) : yU M a j x a = upd (M a) j x := if_pos rfl
theorem yU_ne {M : yM} {a j b : Nat} {x : Int32} (h : b ≠ a) : yU M a j x b = M b := if_neg h
theorem yUa_at (M : yM) (a : Nat) (f : Nat → Int32) : yUa M a f a = f := if_pos rfl
theorem yUa_ne {M : yM} {a b : Nat} {f : Nat → Int32} (h : b ≠ a) : yUa M a f b = M b := if_neg h
theorem yrd_7 {M : yM} {a : Nat} (h : 7 ≤ a) : yrd M a = M a := if_neg (by omega)
theorem yhp_arr {fl : Bool} {M : yM} {a : Nat} {f : Nat → Int32} (h : (ysh a).1 < 10) : xSt (yhp fl M) a (.inr ((ysh a).1, yn M a (ysh a), f)) = yhp fl (yUa M a f) := by
  have h7 : 7 ≤ a := by
    have := yT_lo a
    omega
  have h5 : a < 500 := ysh_lt (by omega)
  refine yhp_set ⟨h7, h5⟩ (by omega) ?_ (fun b hb => yUa_ne hb)
  unfold ycel
  rw [if_neg (by omega), if_neg (by omega), if_neg (by omega), yrd_7 h7, yUa_at]
  unfold yn
  rw [if_neg (by omega), if_neg (by omega)]
theorem yUa_upd (M : yM) (a j : Nat) (x : Int32) : yUa M a (upd (M a) j x) = yU M a j x := rfl
theorem yhp_obj {fl : Bool} {M : yM} {a t j : Nat} {x : Int32} (h : (ysh a).1 = 100 + t) (hj : (ysh a).2.2[j]? = some none) : xSt (yhp fl M) a (.inl (t, (yfs (M a) (ysh a).2.2).set j (.int x))) = yhp fl (yU M a j x) := by
  have h7 : 7 ≤ a := by
    have := yT_lo a
    omega
  refine yhp_set ⟨h7, ysh_lt (by omega)⟩ (by omega) ?_ (fun b hb => yU_ne hb)
  unfold ycel
  rw [if_neg (by omega), if_neg (by omega), if_pos (by omega), yfs_set hj, yU_at, h, Nat.add_sub_cancel_left]
theorem yhp_lst {fl : Bool} {M : yM} {a : Nat} {x : Int64} (h : (ysh a).1 = 21) (hx : x.toInt32.toInt64 = x) : xSt (yhp fl M) a (.inl (21, ([.long (M a 0).toInt64] : List Value).set 0 (.long x))) = yhp fl (yU M a 0 x.toInt32) := by
  have h7 : 7 ≤ a := by
    have := yT_lo a
    omega
  refine yhp_set ⟨h7, ysh_lt (by omega)⟩ (by omega) ?_ (fun b hb => yU_ne hb)
  unfold ycel
  rw [if_pos h, yU_at, pk_us, hx]
  rfl

-- jumps
def yJm (pc : Nat) (off : Int) (ls : xLs) (st : List Value) (h : yM) (nc ns : Nat) : yA :=
  if 0 ≤ (pc : Int) + off then yGo ((pc : Int) + off).toNat ls st h nc ns else none
def yBr (pc : Nat) (off : Int) (b : Bool) (ls : xLs) (st : List Value) (h : yM) (nc ns : Nat) : yA :=
  if 0 ≤ (pc : Int) + off then (if b = true then yGo ((pc : Int) + off).toNat ls st h nc ns else yGo (pc + 3) ls st h nc ns) else none

def yCall (k pc k' : Nat) (ls : xLs) (st : List Value) (h : yM) (nc ns : Nat) : yA :=
  if decide ((xna k' ≤ st.length ∧ (st.drop (xna k')).length ≤ 4 ∧ xmf k' + 1 ≤ xmf k ∧ 8 + (xml k' + 11) + xmo k' ≤ xmo k) ∧ (xArg ((st.take (xna k')).reverse)).length ≤ xml k') && xroom k nc ns (xmc k') (xms k')
  then some (.inr (.inr (k', (st.take (xna k')).reverse, pc, ls, st.drop (xna k'), h, nc, ns))) else none

def yrecv (k' : Nat) (as : List Value) : Bool := match as with
  | .ref b :: _ => decide ((ysh b).1 = 100 + xmk k')
  | _ => false
def ypC (st : List Value) : Option (Nat × Int32 × Nat × Int32 × Int32 × List Value) := match st with
  | .int n :: .int dp :: .ref a :: .int sp :: .ref b :: st => some (b, sp, a, dp, n, st)
  | _ => none
def yCopy (k pc : Nat) (ls : xLs) (st : List Value) (M : yM) (nc ns : Nat) : yA := (ypC st).bind fun q =>
  if ((ysh q.1).1 = 0 ∨ (ysh q.1).1 = 10) ∧ (ysh q.2.2.1).1 = 0 ∧ ¬ q.2.1 < 0 ∧ ¬ q.2.2.2.1 < 0 ∧ ¬ q.2.2.2.2.1 < 0 ∧ q.2.1.toNatClampNeg + q.2.2.2.2.1.toNatClampNeg ≤ yn M q.1 (ysh q.1) ∧ q.2.2.2.1.toNatClampNeg + q.2.2.2.2.1.toNatClampNeg ≤ yn M q.2.2.1 (ysh q.2.2.1) ∧ q.2.2.2.2.2.length ≤ 4 ∧ 1 ≤ xmf k ∧ 60 ≤ xmo k
  then yGo (pc + 3) ls q.2.2.2.2.2 (yUa M q.2.2.1 (va_cpy (yrd M q.1) (M q.2.2.1) q.2.1.toNatClampNeg q.2.2.2.1.toNatClampNeg q.2.2.2.2.1.toNatClampNeg)) nc ns else none

def yInv (k pc : Nat) (r : Nat × Nat × Nat × Nat × Nat × Nat × Nat) (vm : Nat) (ls : xLs) (st : List Value) (h : yM) (nc ns : Nat) : yA := match vm, r.2.2.2.1 with
  | 0, 0 => if yrecv r.2.2.1 (st.take (xna r.2.2.1)).reverse = true then yCall k pc r.2.2.1 ls st h nc ns else none
  | 1, 1 => yCall k pc r.2.2.1 ls st h nc ns
  | 1, 3 => yCall k pc r.2.2.1 ls st h nc ns
  | 1, 6 => yCopy k pc ls st h nc ns
  | 1, 7 => yCall k pc r.2.2.1 ls st h nc ns
  | 1, 8 => (xpII st).bind fun q => if q.2.2.length ≤ 4 ∧ 1 ≤ xmf k ∧ 21 ≤ xmo k then yGo (pc + 3) ls (.int (if q.1 < q.2.1 then q.2.1 else q.1) :: q.2.2) h nc ns else none
  | 1, 9 => (xpII st).bind fun q => if q.2.2.length ≤ 4 ∧ 1 ≤ xmf k ∧ 21 ≤ xmo k then yGo (pc + 3) ls (.int (if q.2.1 < q.1 then q.2.1 else q.1) :: q.2.2) h nc ns else none
  | 1, 10 => (xpI st).bind fun q => if q.2.length ≤ 4 ∧ 1 ≤ xmf k ∧ 21 ≤ xmo k then yGo (pc + 3) ls (.int (if 0 ≤ q.1 then q.1 else 0 - q.1) :: q.2) h nc ns else none
  | 2, 2 => if xisR (st.take (xna r.2.2.1)).reverse = true then yCall k pc r.2.2.1 ls st h nc ns else none
  | 2, 4 => if xisR (st.take (xna r.2.2.1)).reverse = true then yCall k pc r.2.2.1 ls st h nc ns else none
  | 2, 5 => (xpR st).bind fun q => if q.2.length ≤ 4 ∧ 1 ≤ xmf k ∧ 20 ≤ xmo k then yGo (pc + 3) ls q.2 h nc ns else none
  | _, _ => none
def yRt (h : yM) (v : Option Value) (b : Bool) : yA := if b = true then some (.inr (.inl (.inl v, h))) else none

def xvI : Value → Option Int32
  | .int x => some x
  | _ => none
def yAct (k pc : Nat) (i : Instr) (len : Nat) (ls : xLs) (st : List Value) (h : yM) (nc ns : Nat) : yA := match i with
  | .iconst n => yq len 1 (yGo (pc + 1) ls (.int (Int32.ofInt n) :: st) h nc ns)
  | .bipush n => yq len 2 (yGo (pc + 2) ls (.int (Int8.ofInt n).toInt32 :: st) h nc ns)
  | .sipush n => yq len 3 (yGo (pc + 3) ls (.int (Int16.ofInt n).toInt32 :: st) h nc ns)
  | .lconst n => yq len 1 (yGo (pc + 1) ls (.long (Int64.ofNat (n : Nat)) :: st) h nc ns)
  | .ldc ix => yq len 2 ((xcI (xmk k) ix).bind fun v => yGo (pc + 2) ls (.int v :: st) h nc ns)
  | .ldc_w ix => yq len 3 ((xcI (xmk k) ix).bind fun v => yGo (pc + 3) ls (.int v :: st) h nc ns)
  | .ldc2_w ix => yq len 3 ((xcL (xmk k) ix).bind fun v => yGo (pc + 3) ls (.long v :: st) h nc ns)
  | .iload_n n => yq len 1 ((xlI ls n).bind fun x => yGo (pc + 1) ls (.int x :: st) h nc ns)
  | .iload n => yq len 2 ((xlI ls n).bind fun x => yGo (pc + 2) ls (.int x :: st) h nc ns)
  | .lload_n n => yq len 1 ((xlL ls n).bind fun x => yGo (pc + 1) ls (.long x :: st) h nc ns)
  | .lload n => yq len 2 ((xlL ls n).bind fun x => yGo (pc + 2) ls (.long x :: st) h nc ns)
  | .aload_n n => yq len 1 ((xlR ls n).bind fun x => yGo (pc + 1) ls (.ref x :: st) h nc ns)
  | .aload n => yq len 2 ((xlR ls n).bind fun x => yGo (pc + 2) ls (.ref x :: st) h nc ns)
  | .istore_n n => yq len 1 ((xpI st).bind fun q => if (n : Nat) < ls.length then yGo (pc + 1) (xS1 ls n (.int q.1)) q.2 h nc ns else none)
  | .istore n => yq len 2 ((xpI st).bind fun q => if n < ls.length then yGo (pc + 2) (xS1 ls n (.int q.1)) q.2 h nc ns else none)
  | .lstore_n n => yq len 1 ((xpL st).bind fun q => if (n : Nat) + 1 < ls.length then yGo (pc + 1) (xS2 ls n (.long q.1)) q.2 h nc ns else none)
  | .lstore n => yq len 2 ((xpL st).bind fun q => if n + 1 < ls.length then yGo (pc + 2) (xS2 ls n (.long q.1)) q.2 h nc ns else none)
  | .astore_n n => yq len 1 ((xpR st).bind fun q => if (n : Nat) < ls.length then yGo (pc + 1) (xS1 ls n (.ref q.1)) q.2 h nc ns else none)
  | .astore n => yq len 2 ((xpR st).bind fun q => if n < ls.length then yGo (pc + 2) (xS1 ls n (.ref q.1)) q.2 h nc ns else none)
  | .iinc i n => yq len 3 ((xlI ls i).bind fun x => if i < ls.length then yGo (pc + 3) (xS1 ls i (.int (x + Int32.ofInt n))) st h nc ns else none)
  | .iadd => yq len 1 ((xpII st).bind fun q => yGo (pc + 1) ls (.int (q.1 + q.2.1) :: q.2.2) h nc ns)
  | .isub => yq len 1 ((xpII st).bind fun q => yGo (pc + 1) ls (.int (q.1 - q.2.1) :: q.2.2) h nc ns)
  | .imul => yq len 1 ((xpII st).bind fun q => yGo (pc + 1) ls (.int (q.1 * q.2.1) :: q.2.2) h nc ns)
  | .idiv => yq len 1 ((xpII st).bind fun q => if q.2.1 = 0 then none else yGo (pc + 1) ls (.int (q.1 / q.2.1) :: q.2.2) h nc ns)
  | .irem => yq len 1 ((xpII st).bind fun q => if q.2.1 = 0 then none else yGo (pc + 1) ls (.int (q.1 - q.1 / q.2.1 * q.2.1) :: q.2.2) h nc ns)
  | .ineg => yq len 1 ((xpI st).bind fun q => yGo (pc + 1) ls (.int (-q.1) :: q.2) h nc ns)
  | .ishl => yq len 1 ((xpII st).bind fun q => yGo (pc + 1) ls (.int (q.1 <<< (q.2.1 &&& 31)) :: q.2.2) h nc ns)
  | .ishr => yq len 1 ((xpII st).bind fun q => yGo (pc + 1) ls (.int (q.1 >>> (q.2.1 &&& 31)) :: q.2.2) h nc ns)
  | .iushr => yq len 1 ((xpII st).bind fun q => yGo (pc + 1) ls (.int (q.1.toUInt32 >>> (q.2.1.toUInt32 &&& Int32.toUInt32 31)).toInt32 :: q.2.2) h nc ns)
  | .iand => yq len 1 ((xpII st).bind fun q => yGo (pc + 1) ls (.int (q.1 &&& q.2.1) :: q.2.2) h nc ns)
  | .ior => yq len 1 ((xpII st).bind fun q => yGo (pc + 1) ls (.int (q.1 ||| q.2.1) :: q.2.2) h nc ns)
  | .ixor => yq len 1 ((xpII st).bind fun q => yGo (pc + 1) ls (.int (q.1 ^^^ q.2.1) :: q.2.2) h nc ns)
  | .i2l => yq len 1 ((xpI st).bind fun q => yGo (pc + 1) ls (.long q.1.toInt64 :: q.2) h nc ns)
  | .l2i => yq len 1 ((xpL st).bind fun q => yGo (pc + 1) ls (.int q.1.toInt32 :: q.2) h nc ns)
  | .i2c => yq len 1 ((xpI st).bind fun q => yGo (pc + 1) ls (.int (q.1.toUInt32 % 65536).toInt32 :: q.2) h nc ns)
  | .ladd => yq len 1 ((xpLL st).bind fun q => yGo (pc + 1) ls (.long (q.1 + q.2.1) :: q.2.2) h nc ns)
  | .lsub => yq len 1 ((xpLL st).bind fun q => yGo (pc + 1) ls (.long (q.1 - q.2.1) :: q.2.2) h nc ns)
  | .lmul => yq len 1 ((xpLL st).bind fun q => yGo (pc + 1) ls (.long (q.1 * q.2.1) :: q.2.2) h nc ns)
  | .ldiv => yq len 1 ((xpLL st).bind fun q => if q.2.1 = 0 then none else yGo (pc + 1) ls (.long (q.1 / q.2.1) :: q.2.2) h nc ns)
  | .lrem => yq len 1 ((xpLL st).bind fun q => if q.2.1 = 0 then none else yGo (pc + 1) ls (.long (q.1 - q.1 / q.2.1 * q.2.1) :: q.2.2) h nc ns)
  | .land => yq len 1 ((xpLL st).bind fun q => yGo (pc + 1) ls (.long (q.1 &&& q.2.1) :: q.2.2) h nc ns)
  | .lor => yq len 1 ((xpLL st).bind fun q => yGo (pc + 1) ls (.long (q.1 ||| q.2.1) :: q.2.2) h nc ns)
  | .lshl => yq len 1 ((xpLI st).bind fun q => yGo (pc + 1) ls (.long (q.1 <<< (q.2.1.toInt64 &&& 63)) :: q.2.2) h nc ns)
  | .lshr => yq len 1 ((xpLI st).bind fun q => yGo (pc + 1) ls (.long (q.1 >>> (q.2.1.toInt64 &&& 63)) :: q.2.2) h nc ns)
  | .lushr => yq len 1 ((xpLI st).bind fun q => yGo (pc + 1) ls (.long (q.1.toUInt64 >>> (q.2.1.toInt64.toUInt64 &&& Int64.toUInt64 63)).toInt64 :: q.2.2) h nc ns)
  | .lcmp => yq len 1 ((xpLL st).bind fun q => yGo (pc + 1) ls (.int (lg_cmp q.1 q.2.1) :: q.2.2) h nc ns)
  | .dup => yq len 1 ((xpV st).bind fun q => yGo (pc + 1) ls (q.1 :: q.1 :: q.2) h nc ns)
  | .dup_x1 => yq len 1 ((xpVV st).bind fun q => yGo (pc + 1) ls (q.1 :: q.2.1 :: q.1 :: q.2.2) h nc ns)
  | .dup2 => yq len 1 ((xpVV st).bind fun q => yGo (pc + 1) ls (q.1 :: q.2.1 :: q.1 :: q.2.1 :: q.2.2) h nc ns)
  | .pop => yq len 1 ((xpV st).bind fun q => yGo (pc + 1) ls q.2 h nc ns)
  | .goto off => yq len 3 (yJm pc off ls st h nc ns)
  | .if_icmp cd off => yq len 3 ((xpII st).bind fun q => yBr pc off (xCm cd q.1 q.2.1) ls q.2.2 h nc ns)
  | .ifCond cd off => yq len 3 ((xpI st).bind fun q => yBr pc off (xCm cd q.1 0) ls q.2 h nc ns)
  | .tableswitch dflt lo hi offs => (xpI st).bind fun q => (xSw lo hi dflt offs q.1).bind fun off => yJm pc off ls q.2 h nc ns
  | .lookupswitch dflt ps => (xpI st).bind fun q => if (ps.toList.zip (ps.toList.drop 1)).all (fun (a, next) => a.1 < next.1) = true then yJm pc (Op.lookupswitch.offset ps.toList dflt q.1.toInt) ls q.2 h nc ns else none
  | .getfield ix => yq len 3 ((xpR st).bind fun q => (xfR (xmk k) ix).bind fun tf => if (ysh q.1).1 = 100 + tf.1 then ((ysh q.1).2.2[tf.2]?).bind fun o => yGo (pc + 3) ls ((match o with | none => .int (h q.1 tf.2) | some r => .ref r) :: q.2) h nc ns else none)
  | .putfield ix => yq len 3 ((xpRV st).bind fun q => (xfR (xmk k) ix).bind fun tf => (xvI q.2.1).bind fun x => if (ysh q.1).1 = 100 + tf.1 ∧ (ysh q.1).2.2[tf.2]? = some none ∧ (xfit (xty tf.1 tf.2) (.int x) && !((xcT tf.1).2.1 tf.2).2.2.2) = true then yGo (pc + 3) ls q.2.2 (yU h q.1 tf.2 x) nc ns else none)
  | .getstatic ix => yq len 3 ((xsR (xmk k) ix).bind fun g => yGo (pc + 3) ls (.ref g :: st) h nc ns)
  | .iaload => yq len 1 ((xpRI st).bind fun q => if ((ysh q.1).1 = 0 ∨ (ysh q.1).1 = 10) ∧ xin q.2.1 (yn h q.1 (ysh q.1)) = true then yGo (pc + 1) ls (.int (yrd h q.1 q.2.1.toNatClampNeg) :: q.2.2) h nc ns else none)
  | .caload => yq len 1 ((xpRI st).bind fun q => if ((ysh q.1).1 = 1 ∨ (ysh q.1).1 = 11) ∧ xin q.2.1 (yn h q.1 (ysh q.1)) = true then yGo (pc + 1) ls (.int (yrd h q.1 q.2.1.toNatClampNeg) :: q.2.2) h nc ns else none)
  | .baload => yq len 1 ((xpRI st).bind fun q => if (ysh q.1).1 = 2 ∧ xin q.2.1 (yn h q.1 (ysh q.1)) = true then yGo (pc + 1) ls (.int (yrd h q.1 q.2.1.toNatClampNeg) :: q.2.2) h nc ns else none)
  | .iastore => yq len 1 ((xpRII st).bind fun q => if (ysh q.1).1 = 0 ∧ xin q.2.1 (yn h q.1 (ysh q.1)) = true then yGo (pc + 1) ls q.2.2.2 (yU h q.1 q.2.1.toNatClampNeg q.2.2.1) nc ns else none)
  | .castore => yq len 1 ((xpRII st).bind fun q => if (ysh q.1).1 = 1 ∧ xin q.2.1 (yn h q.1 (ysh q.1)) = true then yGo (pc + 1) ls q.2.2.2 (yU h q.1 q.2.1.toNatClampNeg (vp_nar .char q.2.2.1)) nc ns else none)
  | .bastore => yq len 1 ((xpRII st).bind fun q => if (ysh q.1).1 = 2 ∧ xin q.2.1 (yn h q.1 (ysh q.1)) = true then yGo (pc + 1) ls q.2.2.2 (yU h q.1 q.2.1.toNatClampNeg (vp_nar .boolean q.2.2.1)) nc ns else none)
  | .aaload => yq len 1 ((xpRI st).bind fun q => if (ysh q.1).1 = 22 ∧ xin q.2.1 (ysh q.1).2.2.length = true then ((ysh q.1).2.2[q.2.1.toNatClampNeg]?).bind fun o => o.bind fun r => yGo (pc + 1) ls (.ref r :: q.2.2) h nc ns else none)
  | .arraylength => yq len 1 ((xpR st).bind fun q => if (ysh q.1).1 = 0 ∨ (ysh q.1).1 = 10 ∨ (ysh q.1).1 = 11 then yGo (pc + 1) ls (.int (Int32.ofNat (yn h q.1 (ysh q.1))) :: q.2) h nc ns else none)
  | .new ix => yq len 3 ((xTh k pc).bind fun E => if (xroom k nc ns 1 6 && st.isEmpty) = true then some (.inr (.inl (.inr E, h))) else none)
  | .invokevirtual ix => yq len 3 ((xcR (xmk k) ix).bind fun r => yInv k pc r 0 ls st h nc ns)
  | .invokestatic ix => yq len 3 ((xcR (xmk k) ix).bind fun r => yInv k pc r 1 ls st h nc ns)
  | .invokespecial ix => yq len 3 ((xcR (xmk k) ix).bind fun r => yInv k pc r 2 ls st h nc ns)
  | .ireturn => yq len 1 (match st with
      | [.int x] => yRt h (some (.int x)) (decide (xmr k = some .int ∨ (xmr k = some .boolean ∧ (x = 0 ∨ x = 1))))
      | _ => none)
  | .lreturn => yq len 1 (match st with
      | [.long x] => yRt h (some (.long x)) (decide (xmr k = some .long))
      | _ => none)
  | .return_ => yq len 1 (match st with
      | [] => yRt h none (decide (xmr k = none))
      | _ => none)
  | _ => none
section YS
variable {fl : Bool} {k pc len nc ns : Nat} {ls : xLs} {st : List Value} {M : yM}
theorem yle_jm {off : Int} : yle fl (yJm pc off ls st M nc ns) (xJm pc off ls st (yhp fl M) nc ns) := by
  unfold yJm xJm
  exact yle_ite (fun _ => yle_go) (fun _ => yle_none)
theorem yle_br {off : Int} {b : Bool} : yle fl (yBr pc off b ls st M nc ns) (xBr pc off b ls st (yhp fl M) nc ns) := by
  unfold yBr xBr
  exact yle_ite (fun _ => yle_ite (fun _ => yle_go) (fun _ => yle_go)) (fun _ => yle_none)
theorem yle_rt {v : Option Value} {b : Bool} : yle fl (yRt M v b) (xRt (yhp fl M) v b) := by
  unfold yRt xRt
  refine yle_ite (fun _ => ?_) (fun _ => yle_none)
  intro o h
  cases h
  rfl
theorem yle_call {k' : Nat} : yle fl (yCall k pc k' ls st M nc ns) (xCall k pc k' ls st (yhp fl M) nc ns) := by
  intro o h
  unfold yCall at h
  split at h
  · next c =>
    cases h
    simp only [Bool.and_eq_true, decide_eq_true_eq] at c
    obtain ⟨⟨⟨c1, c2, c3, c4⟩, c5⟩, c6⟩ := c
    unfold xCall
    rw [if_pos]
    · rfl
    · simp only [Bool.and_eq_true, decide_eq_true_eq]
      exact ⟨⟨⟨c1, xlow_4 c2, c3, c4⟩, c5⟩, c6⟩
  · cases h
theorem yrecv_x {k' : Nat} {as : List Value} (h : yrecv k' as = true) : xrecv (yhp fl M) k' as = true := by
  unfold yrecv at h
  unfold xrecv
  split at h
  · next b t =>
    have h := of_decide_eq_true h
    simp only [yhp_O h, decide_true]
  · cases h
theorem yle_copy : yle fl (yCopy k pc ls st M nc ns) (xCopy k pc ls st (yhp fl M) nc ns) := by
  unfold yCopy ypC
  split
  · next n dp a sp b st' =>
    by_cases c : ((ysh b).1 = 0 ∨ (ysh b).1 = 10) ∧ (ysh a).1 = 0 ∧ ¬ sp < 0 ∧ ¬ dp < 0 ∧ ¬ n < 0 ∧ sp.toNatClampNeg + n.toNatClampNeg ≤ yn M b (ysh b) ∧ dp.toNatClampNeg + n.toNatClampNeg ≤ yn M a (ysh a) ∧ st'.length ≤ 4 ∧ 1 ≤ xmf k ∧ 60 ≤ xmo k
    · intro o h
      have h : (if ((ysh b).1 = 0 ∨ (ysh b).1 = 10) ∧ (ysh a).1 = 0 ∧ ¬ sp < 0 ∧ ¬ dp < 0 ∧ ¬ n < 0 ∧ sp.toNatClampNeg + n.toNatClampNeg ≤ yn M b (ysh b) ∧ dp.toNatClampNeg + n.toNatClampNeg ≤ yn M a (ysh a) ∧ st'.length ≤ 4 ∧ 1 ≤ xmf k ∧ 60 ≤ xmo k then yGo (pc + 3) ls st' (yUa M a (va_cpy (yrd M b) (M a) sp.toNatClampNeg dp.toNatClampNeg n.toNatClampNeg)) nc ns else none) = some o := h
      rw [if_pos c] at h
      cases h
      have ha : (ysh a).1 < 10 := c.2.1 ▸ (by decide)
      have hb : (ysh b).1 < 21 := by rcases c.1 with h | h <;> rw [h] <;> decide
      have e1 := yhp_A (fl := fl) (M := M) (a := b) hb
      have e2 := yhp_A (fl := fl) (M := M) (a := a) (Nat.lt_trans ha (by decide))
      have h7 : 7 ≤ a := Nat.le_of_not_lt fun z => absurd (yT_lo a z).1 (Nat.not_le.mpr ha)
      unfold xCopy
      simp only [e1, e2]
      show (if ((ysh b).1 = 0 ∨ (ysh b).1 = 10) ∧ (ysh a).1 = 0 ∧ ¬ sp < 0 ∧ ¬ dp < 0 ∧ ¬ n < 0 ∧ sp.toNatClampNeg + n.toNatClampNeg ≤ yn M b (ysh b) ∧ dp.toNatClampNeg + n.toNatClampNeg ≤ yn M a (ysh a) ∧ st'.length ≤ 4 ∧ 1 ≤ xmf k ∧ 60 ≤ xmo k then xGo (pc + 3) ls st' (xSt (yhp fl M) a (.inr (0, yn M a (ysh a), va_cpy (yrd M b) (yrd M a) sp.toNatClampNeg dp.toNatClampNeg n.toNatClampNeg))) nc ns else none) = _
      rw [if_pos c]
      have e3 := yhp_arr (fl := fl) (M := M) (f := va_cpy (yrd M b) (M a) sp.toNatClampNeg dp.toNatClampNeg n.toNatClampNeg) ha
      rw [c.2.1] at e3
      rw [yrd_7 h7, e3]
      rfl
    · intro o h
      have h : (if ((ysh b).1 = 0 ∨ (ysh b).1 = 10) ∧ (ysh a).1 = 0 ∧ ¬ sp < 0 ∧ ¬ dp < 0 ∧ ¬ n < 0 ∧ sp.toNatClampNeg + n.toNatClampNeg ≤ yn M b (ysh b) ∧ dp.toNatClampNeg + n.toNatClampNeg ≤ yn M a (ysh a) ∧ st'.length ≤ 4 ∧ 1 ≤ xmf k ∧ 60 ≤ xmo k then yGo (pc + 3) ls st' (yUa M a (va_cpy (yrd M b) (M a) sp.toNatClampNeg dp.toNatClampNeg n.toNatClampNeg)) nc ns else none) = some o := h
      rw [if_neg c] at h
      cases h
  · exact yle_none
theorem yle_inv {r : Nat × Nat × Nat × Nat × Nat × Nat × Nat} {vm : Nat} : yle fl (yInv k pc r vm ls st M nc ns) (xInv k pc r vm ls st (yhp fl M) nc ns) := by
  obtain ⟨c0, i0, k', md, w⟩ := r
  unfold yInv xInv
  simp only
  split
  · exact yle_if (fun h => yrecv_x h) (fun _ => yle_call)
  · exact yle_call
  · exact yle_call
  · exact yle_copy
  · exact yle_call
  · exact yle_bind fun q => yle_ite (fun _ => yle_go) (fun _ => yle_none)
  · exact yle_bind fun q => yle_ite (fun _ => yle_go) (fun _ => yle_none)
  · exact yle_bind fun q => yle_ite (fun _ => yle_go) (fun _ => yle_none)
  · exact yle_ite (fun _ => yle_call) (fun _ => yle_none)
  · exact yle_ite (fun _ => yle_call) (fun _ => yle_none)
  · exact yle_bind fun q => yle_ite (fun _ => yle_go) (fun _ => yle_none)
  · exact yle_none
theorem yS_iconst {n} : yle fl (yAct k pc (.iconst n) len ls st M nc ns) (xAct k pc (.iconst n) len ls st (yhp fl M) nc ns) :=
  yle_q yle_go
theorem yS_bipush {n} : yle fl (yAct k pc (.bipush n) len ls st M nc ns) (xAct k pc (.bipush n) len ls st (yhp fl M) nc ns) :=
  yle_q yle_go
theorem yS_sipush {n} : yle fl (yAct k pc (.sipush n) len ls st M nc ns) (xAct k pc (.sipush n) len ls st (yhp fl M) nc ns) :=
  yle_q yle_go
theorem yS_lconst {n} : yle fl (yAct k pc (.lconst n) len ls st M nc ns) (xAct k pc (.lconst n) len ls st (yhp fl M) nc ns) :=
  yle_q yle_go
theorem yS_ldc {ix} : yle fl (yAct k pc (.ldc ix) len ls st M nc ns) (xAct k pc (.ldc ix) len ls st (yhp fl M) nc ns) :=
  yle_q (yle_bind fun _ => yle_go)
theorem yS_ldc_w {ix} : yle fl (yAct k pc (.ldc_w ix) len ls st M nc ns) (xAct k pc (.ldc_w ix) len ls st (yhp fl M) nc ns) :=
  yle_q (yle_bind fun _ => yle_go)
theorem yS_ldc2_w {ix} : yle fl (yAct k pc (.ldc2_w ix) len ls st M nc ns) (xAct k pc (.ldc2_w ix) len ls st (yhp fl M) nc ns) :=
  yle_q (yle_bind fun _ => yle_go)
theorem yS_iload_n {n} : yle fl (yAct k pc (.iload_n n) len ls st M nc ns) (xAct k pc (.iload_n n) len ls st (yhp fl M) nc ns) :=
  yle_q (yle_bind fun _ => yle_go)
theorem yS_iload {n} : yle fl (yAct k pc (.iload n) len ls st M nc ns) (xAct k pc (.iload n) len ls st (yhp fl M) nc ns) :=
  yle_q (yle_bind fun _ => yle_go)
theorem yS_lload_n {n} : yle fl (yAct k pc (.lload_n n) len ls st M nc ns) (xAct k pc (.lload_n n) len ls st (yhp fl M) nc ns) :=
  yle_q (yle_bind fun _ => yle_go)
theorem yS_lload {n} : yle fl (yAct k pc (.lload n) len ls st M nc ns) (xAct k pc (.lload n) len ls st (yhp fl M) nc ns) :=
  yle_q (yle_bind fun _ => yle_go)
theorem yS_aload_n {n} : yle fl (yAct k pc (.aload_n n) len ls st M nc ns) (xAct k pc (.aload_n n) len ls st (yhp fl M) nc ns) :=
  yle_q (yle_bind fun _ => yle_go)
theorem yS_aload {n} : yle fl (yAct k pc (.aload n) len ls st M nc ns) (xAct k pc (.aload n) len ls st (yhp fl M) nc ns) :=
  yle_q (yle_bind fun _ => yle_go)
theorem yS_istore_n {n} : yle fl (yAct k pc (.istore_n n) len ls st M nc ns) (xAct k pc (.istore_n n) len ls st (yhp fl M) nc ns) :=
  yle_q (yle_bind fun _ => (yle_ite (fun _ => yle_go) (fun _ => yle_none)))
theorem yS_istore {n} : yle fl (yAct k pc (.istore n) len ls st M nc ns) (xAct k pc (.istore n) len ls st (yhp fl M) nc ns) :=
  yle_q (yle_bind fun _ => (yle_ite (fun _ => yle_go) (fun _ => yle_none)))
theorem yS_lstore_n {n} : yle fl (yAct k pc (.lstore_n n) len ls st M nc ns) (xAct k pc (.lstore_n n) len ls st (yhp fl M) nc ns) :=
  yle_q (yle_bind fun _ => (yle_ite (fun _ => yle_go) (fun _ => yle_none)))
theorem yS_lstore {n} : yle fl (yAct k pc (.lstore n) len ls st M nc ns) (xAct k pc (.lstore n) len ls st (yhp fl M) nc ns) :=
  yle_q (yle_bind fun _ => (yle_ite (fun _ => yle_go) (fun _ => yle_none)))
theorem yS_astore_n {n} : yle fl (yAct k pc (.astore_n n) len ls st M nc ns) (xAct k pc (.astore_n n) len ls st (yhp fl M) nc ns) :=
  yle_q (yle_bind fun _ => (yle_ite (fun _ => yle_go) (fun _ => yle_none)))
theorem yS_astore {n} : yle fl (yAct k pc (.astore n) len ls st M nc ns) (xAct k pc (.astore n) len ls st (yhp fl M) nc ns) :=
  yle_q (yle_bind fun _ => (yle_ite (fun _ => yle_go) (fun _ => yle_none)))
theorem yS_iinc {i n} : yle fl (yAct k pc (.iinc i n) len ls st M nc ns) (xAct k pc (.iinc i n) len ls st (yhp fl M) nc ns) :=
  yle_q (yle_bind fun _ => (yle_ite (fun _ => yle_go) (fun _ => yle_none)))
theorem yS_iadd : yle fl (yAct k pc (.iadd) len ls st M nc ns) (xAct k pc (.iadd) len ls st (yhp fl M) nc ns) :=
  yle_q (yle_bind fun _ => yle_go)
theorem yS_isub : yle fl (yAct k pc (.isub) len ls st M nc ns) (xAct k pc (.isub) len ls st (yhp fl M) nc ns) :=
  yle_q (yle_bind fun _ => yle_go)
theorem yS_imul : yle fl (yAct k pc (.imul) len ls st M nc ns) (xAct k pc (.imul) len ls st (yhp fl M) nc ns) :=
  yle_q (yle_bind fun _ => yle_go)
theorem yS_idiv : yle fl (yAct k pc (.idiv) len ls st M nc ns) (xAct k pc (.idiv) len ls st (yhp fl M) nc ns) :=
  yle_q (yle_bind fun _ => (yle_ite (fun _ => yle_none) (fun _ => yle_go)))
theorem yS_irem : yle fl (yAct k pc (.irem) len ls st M nc ns) (xAct k pc (.irem) len ls st (yhp fl M) nc ns) :=
  yle_q (yle_bind fun _ => (yle_ite (fun _ => yle_none) (fun _ => yle_go)))
theorem yS_ineg : yle fl (yAct k pc (.ineg) len ls st M nc ns) (xAct k pc (.ineg) len ls st (yhp fl M) nc ns) :=
  yle_q (yle_bind fun _ => yle_go)
theorem yS_ishl : yle fl (yAct k pc (.ishl) len ls st M nc ns) (xAct k pc (.ishl) len ls st (yhp fl M) nc ns) :=
  yle_q (yle_bind fun _ => yle_go)
theorem yS_ishr : yle fl (yAct k pc (.ishr) len ls st M nc ns) (xAct k pc (.ishr) len ls st (yhp fl M) nc ns) :=
  yle_q (yle_bind fun _ => yle_go)
theorem yS_iushr : yle fl (yAct k pc (.iushr) len ls st M nc ns) (xAct k pc (.iushr) len ls st (yhp fl M) nc ns) :=
  yle_q (yle_bind fun _ => yle_go)
theorem yS_iand : yle fl (yAct k pc (.iand) len ls st M nc ns) (xAct k pc (.iand) len ls st (yhp fl M) nc ns) :=
  yle_q (yle_bind fun _ => yle_go)
theorem yS_ior : yle fl (yAct k pc (.ior) len ls st M nc ns) (xAct k pc (.ior) len ls st (yhp fl M) nc ns) :=
  yle_q (yle_bind fun _ => yle_go)
theorem yS_ixor : yle fl (yAct k pc (.ixor) len ls st M nc ns) (xAct k pc (.ixor) len ls st (yhp fl M) nc ns) :=
  yle_q (yle_bind fun _ => yle_go)
theorem yS_i2l : yle fl (yAct k pc (.i2l) len ls st M nc ns) (xAct k pc (.i2l) len ls st (yhp fl M) nc ns) :=
  yle_q (yle_bind fun _ => yle_go)
theorem yS_l2i : yle fl (yAct k pc (.l2i) len ls st M nc ns) (xAct k pc (.l2i) len ls st (yhp fl M) nc ns) :=
  yle_q (yle_bind fun _ => yle_go)
theorem yS_i2c : yle fl (yAct k pc (.i2c) len ls st M nc ns) (xAct k pc (.i2c) len ls st (yhp fl M) nc ns) :=
  yle_q (yle_bind fun _ => yle_go)
theorem yS_ladd : yle fl (yAct k pc (.ladd) len ls st M nc ns) (xAct k pc (.ladd) len ls st (yhp fl M) nc ns) :=
  yle_q (yle_bind fun _ => yle_go)
theorem yS_lsub : yle fl (yAct k pc (.lsub) len ls st M nc ns) (xAct k pc (.lsub) len ls st (yhp fl M) nc ns) :=
  yle_q (yle_bind fun _ => yle_go)
theorem yS_lmul : yle fl (yAct k pc (.lmul) len ls st M nc ns) (xAct k pc (.lmul) len ls st (yhp fl M) nc ns) :=
  yle_q (yle_bind fun _ => yle_go)
theorem yS_ldiv : yle fl (yAct k pc (.ldiv) len ls st M nc ns) (xAct k pc (.ldiv) len ls st (yhp fl M) nc ns) :=
  yle_q (yle_bind fun _ => (yle_ite (fun _ => yle_none) (fun _ => yle_go)))
theorem yS_lrem : yle fl (yAct k pc (.lrem) len ls st M nc ns) (xAct k pc (.lrem) len ls st (yhp fl M) nc ns) :=
  yle_q (yle_bind fun _ => (yle_ite (fun _ => yle_none) (fun _ => yle_go)))
theorem yS_land : yle fl (yAct k pc (.land) len ls st M nc ns) (xAct k pc (.land) len ls st (yhp fl M) nc ns) :=
  yle_q (yle_bind fun _ => yle_go)
theorem yS_lor : yle fl (yAct k pc (.lor) len ls st M nc ns) (xAct k pc (.lor) len ls st (yhp fl M) nc ns) :=
  yle_q (yle_bind fun _ => yle_go)
theorem yS_lshl : yle fl (yAct k pc (.lshl) len ls st M nc ns) (xAct k pc (.lshl) len ls st (yhp fl M) nc ns) :=
  yle_q (yle_bind fun _ => yle_go)
theorem yS_lshr : yle fl (yAct k pc (.lshr) len ls st M nc ns) (xAct k pc (.lshr) len ls st (yhp fl M) nc ns) :=
  yle_q (yle_bind fun _ => yle_go)
theorem yS_lushr : yle fl (yAct k pc (.lushr) len ls st M nc ns) (xAct k pc (.lushr) len ls st (yhp fl M) nc ns) :=
  yle_q (yle_bind fun _ => yle_go)
theorem yS_lcmp : yle fl (yAct k pc (.lcmp) len ls st M nc ns) (xAct k pc (.lcmp) len ls st (yhp fl M) nc ns) :=
  yle_q (yle_bind fun _ => yle_go)
theorem yS_dup : yle fl (yAct k pc (.dup) len ls st M nc ns) (xAct k pc (.dup) len ls st (yhp fl M) nc ns) :=
  yle_q (yle_bind fun _ => yle_go)
theorem yS_dup_x1 : yle fl (yAct k pc (.dup_x1) len ls st M nc ns) (xAct k pc (.dup_x1) len ls st (yhp fl M) nc ns) :=
  yle_q (yle_bind fun _ => yle_go)
theorem yS_dup2 : yle fl (yAct k pc (.dup2) len ls st M nc ns) (xAct k pc (.dup2) len ls st (yhp fl M) nc ns) :=
  yle_q (yle_bind fun _ => yle_go)
theorem yS_pop : yle fl (yAct k pc (.pop) len ls st M nc ns) (xAct k pc (.pop) len ls st (yhp fl M) nc ns) :=
  yle_q (yle_bind fun _ => yle_go)
theorem yS_goto {off} : yle fl (yAct k pc (.goto off) len ls st M nc ns) (xAct k pc (.goto off) len ls st (yhp fl M) nc ns) :=
  yle_q yle_jm
theorem yS_if_icmp {cd off} : yle fl (yAct k pc (.if_icmp cd off) len ls st M nc ns) (xAct k pc (.if_icmp cd off) len ls st (yhp fl M) nc ns) :=
  yle_q (yle_bind fun q => yle_br)
theorem yS_ifCond {cd off} : yle fl (yAct k pc (.ifCond cd off) len ls st M nc ns) (xAct k pc (.ifCond cd off) len ls st (yhp fl M) nc ns) :=
  yle_q (yle_bind fun q => yle_br)
theorem yS_tableswitch {dflt lo hi offs} : yle fl (yAct k pc (.tableswitch dflt lo hi offs) len ls st M nc ns) (xAct k pc (.tableswitch dflt lo hi offs) len ls st (yhp fl M) nc ns) :=
  yle_bind fun q => yle_bind fun off => yle_jm
theorem yS_lookupswitch {dflt ps} : yle fl (yAct k pc (.lookupswitch dflt ps) len ls st M nc ns) (xAct k pc (.lookupswitch dflt ps) len ls st (yhp fl M) nc ns) :=
  yle_bind fun q => yle_ite (fun _ => yle_jm) (fun _ => yle_none)
theorem yS_getfield {ix} : yle fl (yAct k pc (.getfield ix) len ls st M nc ns) (xAct k pc (.getfield ix) len ls st (yhp fl M) nc ns) :=
  yle_q (yle_bind fun q => yle_bind fun tf => by
    by_cases c : (ysh q.1).1 = 100 + tf.1
    · rw [if_pos c, yhp_O c]
      show yle fl _ (if tf.1 = tf.1 then ((yfs (M q.1) (ysh q.1).2.2)[tf.2]?).bind _ else none)
      rw [if_pos rfl, yfs_get]
      cases (ysh q.1).2.2[tf.2]? with
      | none => exact yle_none
      | some o => cases o <;> exact yle_go
    · rw [if_neg c]
      exact yle_none)
theorem yS_putfield {ix} : yle fl (yAct k pc (.putfield ix) len ls st M nc ns) (xAct k pc (.putfield ix) len ls st (yhp fl M) nc ns) :=
  yle_q (yle_bind fun q => yle_bind fun tf => by
    cases hv : xvI q.2.1 with
    | none => exact yle_none
    | some x =>
      have hv' : q.2.1 = .int x := by
        cases hq : q.2.1 <;> rw [hq] at hv <;> first | (cases hv; rfl) | cases hv
      show yle fl (if (ysh q.1).1 = 100 + tf.1 ∧ (ysh q.1).2.2[tf.2]? = some none ∧ (xfit (xty tf.1 tf.2) (.int x) && !((xcT tf.1).2.1 tf.2).2.2.2) = true then yGo (pc + 3) ls q.2.2 (yU M q.1 tf.2 x) nc ns else none) _
      by_cases c : (ysh q.1).1 = 100 + tf.1 ∧ (ysh q.1).2.2[tf.2]? = some none ∧ (xfit (xty tf.1 tf.2) (.int x) && !((xcT tf.1).2.1 tf.2).2.2.2) = true
      · rw [if_pos c, yhp_O c.1]
        show yle fl _ (if xput k (yhp fl M) tf (tf.1, yfs (M q.1) (ysh q.1).2.2) q.2.1 = true then xGo (pc + 3) ls q.2.2 (xSt (yhp fl M) q.1 (.inl (tf.1, (yfs (M q.1) (ysh q.1).2.2).set tf.2 q.2.1))) nc ns else none)
        rw [hv']
        have hl : tf.2 < (yfs (M q.1) (ysh q.1).2.2).length := by
          rw [yfs_len]
          exact (List.getElem?_eq_some_iff.mp c.2.1).1
        have hp : xput k (yhp fl M) tf (tf.1, yfs (M q.1) (ysh q.1).2.2) (.int x) = true := by
          have h3 := c.2.2
          unfold xput
          simp only [Bool.and_eq_true, decide_eq_true_eq, Bool.or_eq_true] at h3 ⊢
          exact ⟨⟨trivial, hl⟩, h3.1, Or.inl h3.2⟩
        rw [if_pos hp, yhp_obj c.1 c.2.1]
        exact yle_go
      · rw [if_neg c]
        exact yle_none)
theorem yS_getstatic {ix} : yle fl (yAct k pc (.getstatic ix) len ls st M nc ns) (xAct k pc (.getstatic ix) len ls st (yhp fl M) nc ns) :=
  yle_q (yle_bind fun _ => yle_go)
theorem yS_iaload : yle fl (yAct k pc (.iaload) len ls st M nc ns) (xAct k pc (.iaload) len ls st (yhp fl M) nc ns) :=
  yle_q (yle_bind fun q => by
    by_cases c : ((ysh q.1).1 = 0 ∨ (ysh q.1).1 = 10) ∧ xin q.2.1 (yn M q.1 (ysh q.1)) = true
    · rw [if_pos c, yhp_A (by omega)]
      show yle fl _ (if ((ysh q.1).1 = 0 ∨ (ysh q.1).1 = 10) ∧ xin q.2.1 (yn M q.1 (ysh q.1)) = true then _ else none)
      rw [if_pos c]
      exact yle_go
    · rw [if_neg c]
      exact yle_none)
theorem yS_caload : yle fl (yAct k pc (.caload) len ls st M nc ns) (xAct k pc (.caload) len ls st (yhp fl M) nc ns) :=
  yle_q (yle_bind fun q => by
    by_cases c : ((ysh q.1).1 = 1 ∨ (ysh q.1).1 = 11) ∧ xin q.2.1 (yn M q.1 (ysh q.1)) = true
    · rw [if_pos c, yhp_A (by omega)]
      show yle fl _ (if ((ysh q.1).1 = 1 ∨ (ysh q.1).1 = 11) ∧ xin q.2.1 (yn M q.1 (ysh q.1)) = true then _ else none)
      rw [if_pos c]
      exact yle_go
    · rw [if_neg c]
      exact yle_none)
theorem yS_baload : yle fl (yAct k pc (.baload) len ls st M nc ns) (xAct k pc (.baload) len ls st (yhp fl M) nc ns) :=
  yle_q (yle_bind fun q => by
    by_cases c : (ysh q.1).1 = 2 ∧ xin q.2.1 (yn M q.1 (ysh q.1)) = true
    · rw [if_pos c, yhp_A (by omega)]
      show yle fl _ (if ((ysh q.1).1 = 2) ∧ xin q.2.1 (yn M q.1 (ysh q.1)) = true then _ else none)
      rw [if_pos c]
      exact yle_go
    · rw [if_neg c]
      exact yle_none)
theorem yS_iastore : yle fl (yAct k pc (.iastore) len ls st M nc ns) (xAct k pc (.iastore) len ls st (yhp fl M) nc ns) :=
  yle_q (yle_bind fun q => by
    by_cases c : (ysh q.1).1 = 0 ∧ xin q.2.1 (yn M q.1 (ysh q.1)) = true
    · have h7 : 7 ≤ q.1 := by
        have := yT_lo q.1
        omega
      have e3 := yhp_arr (fl := fl) (M := M) (a := q.1) (f := upd (M q.1) q.2.1.toNatClampNeg q.2.2.1) (by omega)
      rw [c.1] at e3
      rw [if_pos c, yhp_A (by omega)]
      show yle fl _ (if (ysh q.1).1 = 0 ∧ xin q.2.1 (yn M q.1 (ysh q.1)) = true then xGo (pc + 1) ls q.2.2.2 (xSt (yhp fl M) q.1 (.inr (0, yn M q.1 (ysh q.1), upd (yrd M q.1) q.2.1.toNatClampNeg q.2.2.1))) nc ns else none)
      rw [if_pos c, yrd_7 h7, e3, yUa_upd]
      exact yle_go
    · rw [if_neg c]
      exact yle_none)
theorem yS_castore : yle fl (yAct k pc (.castore) len ls st M nc ns) (xAct k pc (.castore) len ls st (yhp fl M) nc ns) :=
  yle_q (yle_bind fun q => by
    by_cases c : (ysh q.1).1 = 1 ∧ xin q.2.1 (yn M q.1 (ysh q.1)) = true
    · have h7 : 7 ≤ q.1 := by
        have := yT_lo q.1
        omega
      have e3 := yhp_arr (fl := fl) (M := M) (a := q.1) (f := upd (M q.1) q.2.1.toNatClampNeg (vp_nar .char q.2.2.1)) (by omega)
      rw [c.1] at e3
      rw [if_pos c, yhp_A (by omega)]
      show yle fl _ (if (ysh q.1).1 = 1 ∧ xin q.2.1 (yn M q.1 (ysh q.1)) = true then xGo (pc + 1) ls q.2.2.2 (xSt (yhp fl M) q.1 (.inr (1, yn M q.1 (ysh q.1), upd (yrd M q.1) q.2.1.toNatClampNeg (vp_nar .char q.2.2.1)))) nc ns else none)
      rw [if_pos c, yrd_7 h7, e3, yUa_upd]
      exact yle_go
    · rw [if_neg c]
      exact yle_none)
theorem yS_bastore : yle fl (yAct k pc (.bastore) len ls st M nc ns) (xAct k pc (.bastore) len ls st (yhp fl M) nc ns) :=
  yle_q (yle_bind fun q => by
    by_cases c : (ysh q.1).1 = 2 ∧ xin q.2.1 (yn M q.1 (ysh q.1)) = true
    · have h7 : 7 ≤ q.1 := by
        have := yT_lo q.1
        omega
      have e3 := yhp_arr (fl := fl) (M := M) (a := q.1) (f := upd (M q.1) q.2.1.toNatClampNeg (vp_nar .boolean q.2.2.1)) (by omega)
      rw [c.1] at e3
      rw [if_pos c, yhp_A (by omega)]
      show yle fl _ (if (ysh q.1).1 = 2 ∧ xin q.2.1 (yn M q.1 (ysh q.1)) = true then xGo (pc + 1) ls q.2.2.2 (xSt (yhp fl M) q.1 (.inr (2, yn M q.1 (ysh q.1), upd (yrd M q.1) q.2.1.toNatClampNeg (vp_nar .boolean q.2.2.1)))) nc ns else none)
      rw [if_pos c, yrd_7 h7, e3, yUa_upd]
      exact yle_go
    · rw [if_neg c]
      exact yle_none)
theorem yS_aaload : yle fl (yAct k pc (.aaload) len ls st M nc ns) (xAct k pc (.aaload) len ls st (yhp fl M) nc ns) :=
  yle_q (yle_bind fun q => by
    by_cases c : (ysh q.1).1 = 22 ∧ xin q.2.1 (ysh q.1).2.2.length = true
    · rw [if_pos c, yhp_22 c.1]
      show yle fl _ (if 22 = 22 ∧ xin q.2.1 (yfs (M q.1) (ysh q.1).2.2).length = true then (match (yfs (M q.1) (ysh q.1).2.2)[q.2.1.toNatClampNeg]? with
      | some (.ref x) => xGo (pc + 1) ls (.ref x :: q.2.2) (yhp fl M) nc ns
      | _ => none) else none)
      rw [yfs_len, if_pos ⟨rfl, c.2⟩, yfs_get]
      cases (ysh q.1).2.2[q.2.1.toNatClampNeg]? with
      | none => exact yle_none
      | some o =>
        cases o with
        | none => exact yle_none
        | some r => exact yle_go
    · rw [if_neg c]
      exact yle_none)
theorem yS_arraylength : yle fl (yAct k pc (.arraylength) len ls st M nc ns) (xAct k pc (.arraylength) len ls st (yhp fl M) nc ns) :=
  yle_q (yle_bind fun q => by
    by_cases c : (ysh q.1).1 = 0 ∨ (ysh q.1).1 = 10 ∨ (ysh q.1).1 = 11
    · rw [if_pos c, yhp_A (by omega)]
      show yle fl _ (if (ysh q.1).1 = 0 ∨ (ysh q.1).1 = 10 ∨ (ysh q.1).1 = 11 then _ else none)
      rw [if_pos c]
      exact yle_go
    · rw [if_neg c]
      exact yle_none)
theorem yS_new {ix} : yle fl (yAct k pc (.new ix) len ls st M nc ns) (xAct k pc (.new ix) len ls st (yhp fl M) nc ns) :=
  yle_q (by
    cases hT : xTh k pc with
    | none => exact yle_none
    | some E =>
      refine yle_ite (fun _ => ?_) (fun _ => yle_none)
      intro o h
      cases h
      show some (Sum.inr (Sum.inl (Sum.inr E, xGb (yhp fl M)))) = some (Sum.inr (Sum.inl (Sum.inr E, yhp false M)))
      rw [yhp_gb])
theorem yS_invokevirtual {ix} : yle fl (yAct k pc (.invokevirtual ix) len ls st M nc ns) (xAct k pc (.invokevirtual ix) len ls st (yhp fl M) nc ns) :=
  yle_q (yle_bind fun r => yle_inv)
theorem yS_invokestatic {ix} : yle fl (yAct k pc (.invokestatic ix) len ls st M nc ns) (xAct k pc (.invokestatic ix) len ls st (yhp fl M) nc ns) :=
  yle_q (yle_bind fun r => yle_inv)
theorem yS_invokespecial {ix} : yle fl (yAct k pc (.invokespecial ix) len ls st M nc ns) (xAct k pc (.invokespecial ix) len ls st (yhp fl M) nc ns) :=
  yle_q (yle_bind fun r => yle_inv)
theorem yS_ireturn : yle fl (yAct k pc (.ireturn) len ls st M nc ns) (xAct k pc (.ireturn) len ls st (yhp fl M) nc ns) :=
  yle_q (by split <;> first | exact yle_rt | exact yle_none)
theorem yS_lreturn : yle fl (yAct k pc (.lreturn) len ls st M nc ns) (xAct k pc (.lreturn) len ls st (yhp fl M) nc ns) :=
  yle_q (by split <;> first | exact yle_rt | exact yle_none)
theorem yS_return_ : yle fl (yAct k pc (.return_) len ls st M nc ns) (xAct k pc (.return_) len ls st (yhp fl M) nc ns) :=
  yle_q (by split <;> first | exact yle_rt | exact yle_none)
theorem yS_all (i : Instr) : yle fl (yAct k pc i len ls st M nc ns) (xAct k pc i len ls st (yhp fl M) nc ns) := by
  cases i
  case iconst => exact yS_iconst
  case bipush => exact yS_bipush
  case sipush => exact yS_sipush
  case lconst => exact yS_lconst
  case ldc => exact yS_ldc
  case ldc_w => exact yS_ldc_w
  case ldc2_w => exact yS_ldc2_w
  case iload_n => exact yS_iload_n
  case iload => exact yS_iload
  case lload_n => exact yS_lload_n
  case lload => exact yS_lload
  case aload_n => exact yS_aload_n
  case aload => exact yS_aload
  case istore_n => exact yS_istore_n
  case istore => exact yS_istore
  case lstore_n => exact yS_lstore_n
  case lstore => exact yS_lstore
  case astore_n => exact yS_astore_n
  case astore => exact yS_astore
  case iinc => exact yS_iinc
  case iadd => exact yS_iadd
  case isub => exact yS_isub
  case imul => exact yS_imul
  case idiv => exact yS_idiv
  case irem => exact yS_irem
  case ineg => exact yS_ineg
  case ishl => exact yS_ishl
  case ishr => exact yS_ishr
  case iushr => exact yS_iushr
  case iand => exact yS_iand
  case ior => exact yS_ior
  case ixor => exact yS_ixor
  case i2l => exact yS_i2l
  case l2i => exact yS_l2i
  case i2c => exact yS_i2c
  case ladd => exact yS_ladd
  case lsub => exact yS_lsub
  case lmul => exact yS_lmul
  case ldiv => exact yS_ldiv
  case lrem => exact yS_lrem
  case land => exact yS_land
  case lor => exact yS_lor
  case lshl => exact yS_lshl
  case lshr => exact yS_lshr
  case lushr => exact yS_lushr
  case lcmp => exact yS_lcmp
  case dup => exact yS_dup
  case dup_x1 => exact yS_dup_x1
  case dup2 => exact yS_dup2
  case pop => exact yS_pop
  case goto => exact yS_goto
  case if_icmp => exact yS_if_icmp
  case ifCond => exact yS_ifCond
  case tableswitch => exact yS_tableswitch
  case lookupswitch => exact yS_lookupswitch
  case getfield => exact yS_getfield
  case putfield => exact yS_putfield
  case getstatic => exact yS_getstatic
  case iaload => exact yS_iaload
  case caload => exact yS_caload
  case baload => exact yS_baload
  case iastore => exact yS_iastore
  case castore => exact yS_castore
  case bastore => exact yS_bastore
  case aaload => exact yS_aaload
  case arraylength => exact yS_arraylength
  case new => exact yS_new
  case invokevirtual => exact yS_invokevirtual
  case invokestatic => exact yS_invokestatic
  case invokespecial => exact yS_invokespecial
  case ireturn => exact yS_ireturn
  case lreturn => exact yS_lreturn
  case return_ => exact yS_return_
  all_goals exact yle_none
end YS
