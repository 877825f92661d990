theorem xLaw : xLawOk := sorry
