/-! the exceptions that the office throws -/
section EX
def xA : String := "java/lang/IllegalArgumentException"
def xS : String := "java/lang/IllegalStateException"
def xI : String := "java/lang/IndexOutOfBoundsException"
abbrev xN : List String := ["java/lang/RuntimeException", "java/lang/Exception"]
theorem wo_Of_68 : ∀ w ∈ Bundle.ownAtoms "BeatPathOffice" 68 "java/lang/IllegalArgumentException" xN, w ∈ bw_TB := by decide +kernel
theorem wo_Of_78 : ∀ w ∈ Bundle.ownAtoms "BeatPathOffice" 78 "java/lang/IllegalStateException" xN, w ∈ bw_TB := by decide +kernel
theorem wo_Of_85 : ∀ w ∈ Bundle.ownAtoms "BeatPathOffice" 85 "java/lang/IndexOutOfBoundsException" xN, w ∈ bw_TB := by decide +kernel
end EX
