theorem zz_look : (1 : Nat) = 1 := rfl
