theorem zz_tst : (1:Nat) = 1 := rfl
