theorem vc_i {x : Int32} : (Value.int x).category = 1 := rfl
theorem vc_l {x : Int64} : (Value.long x).category = 2 := rfl
theorem vc_r {x : Nat} : (Value.ref x).category = 1 := rfl
theorem vc_n : Value.null.category = 1 := rfl
