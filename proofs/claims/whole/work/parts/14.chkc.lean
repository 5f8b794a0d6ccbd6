/-! THE TABLES HOLD, part c: every instruction is the machine's, every callee has its words. -/
theorem xc_4 : (List.range' 160 40).all xcf = true := by decide +kernel
theorem xc_5 : (List.range' 200 39).all xcf = true := by decide +kernel
