theorem fX5_isItem_33 : Cond.fieldLink RX5 33 "LotRules" (TX5 2).2.1 (TX5 2).2.2.1 ∈ wsX5_isItem := by decide +kernel
theorem fX5_isPeriod_20 : Cond.fieldLink RX5 20 "LotRules" (TX5 0).2.1 (TX5 0).2.2.1 ∈ wsX5_isPeriod := by decide +kernel
theorem fX5_item_33 : Cond.fieldLink RX5 33 "LotRules" (TX5 2).2.1 (TX5 2).2.2.1 ∈ wsX5_item := by decide +kernel
theorem inX5_isItem_X5 : ∀ w ∈ u_ws RX5 TX5 8, w ∈ wsX5_isItem := by decide +kernel
theorem inX5_isPeriod_X5 : ∀ w ∈ u_ws RX5 TX5 8, w ∈ wsX5_isPeriod := by decide +kernel
theorem inX5_item_X5 : ∀ w ∈ u_ws RX5 TX5 8, w ∈ wsX5_item := by decide +kernel
