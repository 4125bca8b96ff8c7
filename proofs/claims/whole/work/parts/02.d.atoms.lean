/-! ===== the atoms of the throws ===== -/
abbrev xN : List String := ["java/lang/RuntimeException", "java/lang/Exception"]
abbrev IAE : String := "java/lang/IllegalArgumentException"
abbrev ISE : String := "java/lang/IllegalStateException"
abbrev NSE : String := "java/util/NoSuchElementException"
abbrev ARE : String := "java/lang/ArithmeticException"
abbrev IOE : String := "java/lang/IndexOutOfBoundsException"
/-- words of the tables that a throw asks, beside the good ones -/
def xWords : List Cond := [.castable "java/lang/IllegalArgumentException" "java/lang/IllegalArgumentException", .castable "java/lang/IllegalStateException" "java/lang/IllegalStateException", .castable "java/util/NoSuchElementException" "java/util/NoSuchElementException", .castable "java/lang/ArithmeticException" "java/lang/ArithmeticException", .castable "java/lang/IndexOutOfBoundsException" "java/lang/IndexOutOfBoundsException",
  .declares ⟨"java/lang/RuntimeException", "<init>", "()V"⟩, .declares ⟨"java/lang/Exception", "<init>", "()V"⟩, .declares ⟨"java/lang/Throwable", "<init>", "()V"⟩]
def oaB (w : Cond) : Bool := (decide (w ∈ lw_tbl) && goodWord w) || decide (w ∈ xWords) || decide (w = .isRef (.static Bundle.tN "UNASSIGNED_STACK" Bundle.steD)) || decide (w = .isRef (.static Bundle.tN "SUPPRESSED_SENTINEL" Bundle.listD)) || decide (w = .laysStatic Bundle.tN "UNASSIGNED_STACK" Bundle.steD) || decide (w = .laysStatic Bundle.tN "SUPPRESSED_SENTINEL" Bundle.listD)
theorem oa_PM_41 : (Bundle.ownAtoms0 "PascalMachine" 41 "java/lang/IllegalArgumentException" xN).all oaB = true := by decide +kernel
theorem oa_PM_44 : (Bundle.ownAtoms0 "PascalMachine" 44 "java/lang/IllegalStateException" xN).all oaB = true := by decide +kernel
theorem oa_PM_65 : (Bundle.ownAtoms0 "PascalMachine" 65 "java/util/NoSuchElementException" xN).all oaB = true := by decide +kernel
theorem oa_Cp_83 : (Bundle.ownAtoms0 "PascalMachine$Compiler" 83 "java/lang/IllegalArgumentException" xN).all oaB = true := by decide +kernel
theorem oa_Mc_122 : (Bundle.ownAtoms0 "PascalMachine$Machine" 122 "java/lang/IllegalStateException" xN).all oaB = true := by decide +kernel
theorem oa_Mc_137 : (Bundle.ownAtoms0 "PascalMachine$Machine" 137 "java/lang/ArithmeticException" xN).all oaB = true := by decide +kernel
theorem oa_Mc_140 : (Bundle.ownAtoms0 "PascalMachine$Machine" 140 "java/lang/IndexOutOfBoundsException" xN).all oaB = true := by decide +kernel
