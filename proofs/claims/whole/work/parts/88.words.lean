/-! the words of a throw -/
theorem wt_b : goodWord (.native Bundle.tFill0) = true := by decide +kernel
theorem wt_c : goodWord (.superclass Bundle.tN "java/lang/Object") = true := by decide +kernel
theorem wt_d : goodWord (.castable "a" "a") = true := by decide +kernel
theorem wt_e : goodWord (.instantiable "a" 6) = true := by decide +kernel
theorem wt_f : goodWord (.declares Bundle.tFill0) = true := by decide +kernel
theorem wt_h : goodWord (.lays "a" "b" "c" "d") = true := by decide +kernel
theorem wt_i : goodWord (.fieldLink "a" 3 "b" "c" "d") = true := by decide +kernel
theorem wt_j : goodWord (.initialized "a") = true := by decide +kernel
theorem wt_k : goodWord (.selects "a" Bundle.tFill0 Bundle.tFill0) = true := by decide +kernel
theorem wt_l : goodWord (.stringRef "a" 3 "b") = true := by decide +kernel
theorem wt_m : goodWord (.classLink "a" 3 "b") = true := by decide +kernel
theorem wt_o : goodWord (.codeSync Bundle.tFill Bundle.six 1 none) = true := by decide +kernel
theorem wt_p : goodWord (.instanceMethod Bundle.tFill) = true := by decide +kernel
