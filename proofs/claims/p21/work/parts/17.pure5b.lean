theorem dgN_0 (f : Nat → Int32) (d : Int64) : dgN f 0 d = d := rfl
