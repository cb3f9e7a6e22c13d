theorem tst_x : (1:Nat) = 1 := rfl
