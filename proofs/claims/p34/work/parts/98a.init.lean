/-! the given cells, with a script that nobody can look at -/
def ihead : xCel := .inr (99, 0, fun _ => 0)
def ih0 : xHp := (true, [ihead, .inr (10, 5, xsR0 1), .inr (10, 5, xsR0 2), .inr (10, 5, xsR0 3), .inr (10, 4, xsR0 4), .inr (11, 7, xsR0 5), .inr (11, 4, xsR0 6)])
