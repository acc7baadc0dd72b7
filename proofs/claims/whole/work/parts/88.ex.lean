/-! ===== the throws of the class: their words ===== -/
abbrev exA : String := "java/lang/IllegalArgumentException"
abbrev exS : String := "java/lang/IllegalStateException"
abbrev exU : String := "java/lang/UnsupportedOperationException"
abbrev exN : List String := ["java/lang/RuntimeException", "java/lang/Exception"]
theorem ex_RX5_54 : ∀ w ∈ vx_atS RX5 54 exA exN, w ∈ lw_tbl ∧ vx_ot w = true := by decide +kernel
theorem ex_RX5_61 : ∀ w ∈ vx_atS RX5 61 exS exN, w ∈ lw_tbl ∧ vx_ot w = true := by decide +kernel
theorem ex_RX5_66 : ∀ w ∈ vx_atS RX5 66 exU exN, w ∈ lw_tbl ∧ vx_ot w = true := by decide +kernel
theorem ex_RX11_367 : ∀ w ∈ vx_atS RX11 367 exA exN, w ∈ lw_tbl ∧ vx_ot w = true := by decide +kernel
theorem ex_RX11_374 : ∀ w ∈ vx_atS RX11 374 exS exN, w ∈ lw_tbl ∧ vx_ot w = true := by decide +kernel
