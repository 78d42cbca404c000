theorem fX5_over_43 : Cond.fieldLink RX5 43 "LotRules" (TX5 4).2.1 (TX5 4).2.2.1 ∈ wsX5_over := by decide +kernel
theorem fX5_set_26 : Cond.fieldLink RX5 26 "LotRules" (TX5 1).2.1 (TX5 1).2.2.1 ∈ wsX5_set := by decide +kernel
theorem fX5_set_71 : Cond.fieldLink RX5 71 "LotRules$Item" (TX2 0).2.1 (TX2 0).2.2.1 ∈ wsX5_set := by decide +kernel
theorem inX5_over_X5 : ∀ w ∈ u_ws RX5 TX5 8, w ∈ wsX5_over := by decide +kernel
theorem inX5_set_X2 : ∀ w ∈ u_ws RX2 TX2 5, w ∈ wsX5_set := by decide +kernel
theorem inX5_set_X5 : ∀ w ∈ u_ws RX5 TX5 8, w ∈ wsX5_set := by decide +kernel
theorem sX5_over_40 : Cond.fieldLink RX5 40 "LotRules" "MOST_OF_OVER" "[I" ∈ wsX5_over := by decide +kernel
theorem sX5_set_74 : Cond.fieldLink RX5 74 "LotRules" "MOST_OF_NUMBER" "[I" ∈ wsX5_set := by decide +kernel
