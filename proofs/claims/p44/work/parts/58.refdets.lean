/-- what the reference holds of a list of sets -/
def rsL (z : pvM) (L : List Int) : Prop := z.1 39 18 = L.length ∧ liF (z.1 49) L.length = L
