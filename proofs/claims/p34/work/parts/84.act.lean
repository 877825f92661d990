/-! one call of the law's random ones: the answer and the state behind it hang on the state alone -/
def DJ (A : yAb) (F : yM → Option yRes) : Prop := ∃ v A', ∀ M, LW A M → LJ (F M) M v A'
section DJS
variable {A : yAb}
theorem DJ.E {F G : yM → Option yRes} (e : ∀ M, yL (F M) (G M)) (h : DJ A F) : DJ A G := by
  obtain ⟨v, A', h⟩ := h
  refine ⟨v, A', fun M L => ?_⟩
  obtain ⟨M', h1, h2⟩ := h M L
  exact ⟨M', yL.J (e M) h1, h2⟩
theorem DJ.ite {p : Prop} [Decidable p] {F G : yM → Option yRes} (h1 : DJ A F) (h2 : DJ A G) : DJ A (fun M => if p then F M else G M) := by
  by_cases hp : p
  · obtain ⟨v, A', h⟩ := h1
    exact ⟨v, A', fun M L => by show LJ (if p then F M else G M) M v A'; rw [if_pos hp]; exact h M L⟩
  · obtain ⟨v, A', h⟩ := h2
    exact ⟨v, A', fun M L => by show LJ (if p then F M else G M) M v A'; rw [if_neg hp]; exact h M L⟩
theorem DJ.c {F : yM → Option yRes} {v : Int64} {A' : yAb} (h : ∀ M, LW A M → LJ (F M) M v A') : DJ A (fun M => yCj false (F M) fun v M1 => yJr v M1) := by
  refine ⟨v, A', fun M L => ?_⟩
  obtain ⟨M', h1, h2⟩ := h M L
  exact ⟨M', by show yCj false (F M) _ = _; rw [h1]; rfl, h2⟩
variable {o1 o2 o3 : Option Value} {x2 x3 : Int32}
theorem d116 : DJ A (fun M => yX 142 116 [some (.ref 7), o1, some (.int x2), o3] [] M 0 0) := DJ.E (fun M => e142_116) (DJ.c (fun M L => w117 L))
theorem d128 : DJ A (fun M => yX 142 128 [some (.ref 7), o1, some (.int x2), some (.int x3)] [] M 0 0) := DJ.E (fun M => e142_128) (DJ.ite (DJ.c (fun M L => w120 L (Or.inr rfl))) (DJ.c (fun M L => w120 L (Or.inl rfl))))
theorem d157 : DJ A (fun M => yX 142 157 [some (.ref 7), o1, some (.int x2), some (.int x3)] [] M 0 0) := DJ.E (fun M => e142_157) (DJ.c (fun M L => w119 L))
theorem d174 : DJ A (fun M => yX 142 174 [some (.ref 7), o1, some (.int x2), some (.int x3)] [] M 0 0) := DJ.E (fun M => e142_174) (DJ.ite (DJ.c (fun M L => w122 L (Or.inl rfl))) (DJ.c (fun M L => w122 L (Or.inr rfl))))
theorem d201 : DJ A (fun M => yX 142 201 [some (.ref 7), o1, some (.int x2), some (.int x3)] [] M 0 0) := DJ.E (fun M => e142_201) (DJ.ite (DJ.c (fun M L => w123 L (Or.inl rfl))) (DJ.c (fun M L => w123 L (Or.inr rfl))))
theorem d228 : DJ A (fun M => yX 142 228 [some (.ref 7), o1, some (.int x2), some (.int x3)] [] M 0 0) := DJ.E (fun M => e142_228) (DJ.c (fun M L => w124 L))
theorem d239 : DJ A (fun M => yX 142 239 [some (.ref 7), o1, some (.int x2), some (.int x3)] [] M 0 0) := DJ.E (fun M => e142_239) (DJ.c (fun M L => w125 L))
theorem d251 : DJ A (fun M => yX 142 251 [some (.ref 7), o1, some (.int x2), some (.int x3)] [] M 0 0) := DJ.E (fun M => e142_251) (DJ.c (fun M L => w121 L))
theorem d266 : DJ A (fun M => yX 142 266 [some (.ref 7), o1, some (.int x2), some (.int x3)] [] M 0 0) := DJ.E (fun M => e142_266) (DJ.c (fun M L => w118 L))
theorem d282 : DJ A (fun M => yX 142 282 [some (.ref 7), o1, o2, o3] [] M 0 0) := DJ.E (fun M => e142_282) (DJ.c (fun M L => w126 L))
theorem d287 : DJ A (fun M => yX 142 287 [some (.ref 7), o1, o2, some (.int x3)] [] M 0 0) := DJ.E (fun M => e142_287) (DJ.ite (DJ.c (fun M L => w133 L)) (DJ.c (fun M L => w134 L)))
theorem w142 {x y : Int32} : DJ A (fun M => yX 142 0 [some (.ref 7), some (.int x), some (.int y), none] [] M 0 0) := by
  refine DJ.E (fun M => e142) ?_
  repeat' first | exact d116 | exact d128 | exact d157 | exact d174 | exact d201 | exact d228 | exact d239 | exact d251 | exact d266 | exact d282 | exact d287 | refine DJ.ite ?_ ?_
end DJS
