/-- the state of a value that is new -/
def SS0 : Nat → VS := fun _ => (0, 0, 0, 0, fun _ => 0, 0)
