def fX5_at (n1 : Nat) (f1 : Nat → Int32) (x2 : Int32) : Int32 := if x2 < 0 then (0) else (if (nI n1) ≤ x2 then (0) else (f1 x2.toNatClampNeg))
def fX5_bitOf (x1 : Int32) (x2 : Int32) : Int32 := if x2 < 0 then (0) else (if 24 ≤ x2 then (0) else ((x1 >>> (x2 &&& 31)) &&& 1))
def fX5_isWithin (x1 : Int32) (x2 : Int32) (x3 : Int32) : Int32 := if x1 < x2 then (0) else (if x3 < x1 then (0) else (1))
