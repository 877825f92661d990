/-! the constructors, run once -/
def ihead : xCel := .inr (99, 0, fun _ => 0)
def ih0 : xHp := (true, [ihead, .inr (10, 5, xsR0 1), .inr (10, 5, xsR0 2), .inr (10, 5, xsR0 3), .inr (10, 4, xsR0 4), .inr (11, 7, xsR0 5), .inr (11, 4, xsR0 6)])
def iob (t : Nat) : xCel := .inl (t, (List.range (xcT t).2.2).map (fun j => defaultValue (xty t j)))
def ir1 : Option xRes := xr 1000 57 0 (xEnt (xml 57) [.ref 7]) [] (xNew ih0 (iob 4)) 0 0
def ihp (r : Option xRes) : xHp := match r with
  | some (_, h) => h
  | none => (false, [])
def iok (r : Option xRes) : Bool := match r with
  | some (.inl none, h) => h.1
  | _ => false
theorem i1_ok : iok ir1 = true := by decide +kernel
