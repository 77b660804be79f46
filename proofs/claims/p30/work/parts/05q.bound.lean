/-! how large values are -/
def vB : Nat → Int
  | 0 => 1000000
  | n + 1 => 4 * vB n
