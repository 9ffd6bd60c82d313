theorem nz_bI {b : Bool} : narrow .boolean (.int (bI b)) = .int (bI b) := by cases b <;> rfl
theorem nz_0 : narrow .boolean (.int (nI 0)) = .int (nI 0) := rfl
theorem nz_1 : narrow .boolean (.int (nI 1)) = .int (nI 1) := rfl
theorem nar_bI {b : Bool} : vp_nar .boolean (bI b) = bI b := by cases b <;> rfl
