/-! what leaves all but the row z alone; carries, run -/
def OZ (m m2 : PM) : Prop := (∀ t k g i, ¬ (t = 8 ∧ k = 0 ∧ g = 0) → m2.1 t k g i = m.1 t k g i) ∧ m2.2 = m.2
