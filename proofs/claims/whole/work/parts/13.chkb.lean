/-! THE TABLES HOLD, part b: every instruction is the machine's, every callee has its words. -/
def xcf (y : Nat) : Bool := match xtab[y]? with
  | some me => xcok xtab 239 me
  | none => true
theorem xc_0 : (List.range' 0 40).all xcf = true := by decide +kernel
theorem xc_1 : (List.range' 40 40).all xcf = true := by decide +kernel
theorem xc_2 : (List.range' 80 40).all xcf = true := by decide +kernel
theorem xc_3 : (List.range' 120 40).all xcf = true := by decide +kernel
