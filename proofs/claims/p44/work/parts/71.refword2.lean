/-- what a search leaves of the reference's numbers -/
def seF2 (z z' : pvM) : Prop := (∀ j, j ≠ 7 → j ≠ 8 → j ≠ 26 → j ≠ 27 → j ≠ 28 → z'.1 39 j = z.1 39 j)
