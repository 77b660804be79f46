def told (s : ZS) (f : Nat → Int64) : Prop := ∀ t z, t < oN s → z < 20 → f (20 * t + z) = oV s t z
