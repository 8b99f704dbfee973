/-- how many constant cells there are -/
def ax_nC : Nat := 0
