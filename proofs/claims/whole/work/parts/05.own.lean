/-! the words of the three kinds of throws -/
abbrev thN : List String := ["java/lang/Exception"]
abbrev thY : String := "java/lang/RuntimeException"
abbrev bIA : ByteArray := prog_8_method_2_code
abbrev bIS : ByteArray := prog_9_method_2_code
abbrev bNS : ByteArray := prog_17_method_4_code
theorem own_IA : (txA "FusedEngine" 34 xIA thY 7 bIA thN).all (fun w => decide (w ∈ lw_ok) || (tx_4 w || tx_no w)) = true := by decide +kernel
theorem own_IS : (txA "FusedEngine" 45 xIS thY 7 bIS thN).all (fun w => decide (w ∈ lw_ok) || (tx_4 w || tx_no w)) = true := by decide +kernel
theorem own_NS : (txA "FusedEngine" 61 xNS thY 13 bNS thN).all (fun w => decide (w ∈ lw_ok) || (tx_4 w || tx_no w)) = true := by decide +kernel
theorem fit_N : ∀ n ∈ thN, Bundle.fit n = true := by decide +kernel
