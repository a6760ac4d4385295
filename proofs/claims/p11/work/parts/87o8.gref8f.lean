/-! ===== the reference: at, cost, equal, value by roads ===== -/
def coR (N : Nat) (kpr kot : Nat → Int32) (k : Nat) : Int32 := itr (fun k acc => acc + rCost N (kpr k).toNatClampNeg (kot k) N) k 0
