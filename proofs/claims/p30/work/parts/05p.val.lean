theorem vState_le (s : ZS) (r q : Nat) : vState s r q ≤ 4 := by
  unfold vState; repeat' split
  all_goals omega
