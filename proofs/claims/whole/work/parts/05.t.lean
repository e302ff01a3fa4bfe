theorem zz_test : (1 : Nat) = 2 := by omega
