/-! ===== WHAT IS OWED ===== -/
theorem i_vc : Claimed_1_1 ∧ Claimed_1_2 := q_claim qOK qGoal_ok
