abbrev adl (l : List Nat) (k : Nat) : Nat := l.getD k 0
