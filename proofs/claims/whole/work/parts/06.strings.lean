/-! THE ABSTRACT INTERPRETER, 5: length() and charAt(k) of a String constant. -/
def k4_strlen : xK4 := fun sx a b i z h st => match st with
  | .ref r :: rest => match sx.2.1 r with
    | some k => some (h, .int (nI (xlen.getD k 0)) :: rest)
    | none => none
  | _ => none
def d4_strlen : xD2 := fun own yn a b i z pc => (.invokevirtual i, 3, xw b (.methodLink own i yJ0_length_8abf5))
theorem k4_strlen_ok : xOk4 k4_strlen d4_strlen := sorry
def k4_charAt : xK4 := fun sx a b i z h st => match st with
  | .int j :: .ref r :: rest => match sx.2.1 r with
    | some k => if ¬ j < 0 ∧ j.toNatClampNeg < xlen.getD k 0 then some (h, .int ((xbyt.getD k []).getD j.toNatClampNeg 0) :: rest) else none
    | none => none
  | _ => none
def d4_charAt : xD2 := fun own yn a b i z pc => (.invokevirtual i, 3, xw b (.methodLink own i yJ0_charAt_5068e))
theorem k4_charAt_ok : xOk4 k4_charAt d4_charAt := sorry
def x4ops : List (xK4 × xD2) := x4opsA ++ [(k4_strlen, d4_strlen), (k4_charAt, d4_charAt)]
theorem x4ops_ok : ∀ q ∈ x4ops, xOk4 q.1 q.2 := List.forall_mem_append.mpr ⟨x4opsA_ok, List.forall_mem_cons.mpr ⟨k4_strlen_ok, List.forall_mem_cons.mpr ⟨k4_charAt_ok, fun _ h => nomatch h⟩⟩⟩
