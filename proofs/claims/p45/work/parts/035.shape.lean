def fz_shs : List (Nat × Nat × Nat) := [(0, 0, 6), (1, 0, 40)]
def fz_rfs : List (List Nat) := [[1, 0]]
def fz_sts : List (String × String × String × Nat) := [("FameAhead", "LEAST", "[I", 201), ("FameAhead", "MOST", "[I", 202), ("FameAhead$Words", "OWN", "[I", 203), ("FameAhead$Words", "ABOVE", "[I", 204)]
def fz_ms : List MethodName := [yX0_add]
