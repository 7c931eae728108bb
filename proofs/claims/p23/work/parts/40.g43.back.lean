theorem z0c : (0 : Int32).toNatClampNeg = 0 := by decide
