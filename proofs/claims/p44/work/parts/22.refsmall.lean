/-- the reference's count of transitions of an automaton -/
def rcF (z : pvM) (s : Int) : Int := z.1 40 (163 * s + 2).toNat
