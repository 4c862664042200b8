/-! the class's own methods: exceptions, and the state of all 19 offices -/
abbrev TSt : Type := (Nat → OF) × OF
def exN (k : Nat) : String := if k = 1 then "java/lang/IllegalArgumentException" else if k = 2 then "java/lang/IllegalStateException" else "java/lang/IndexOutOfBoundsException"
def xup : List String := ["java/lang/RuntimeException", "java/lang/Exception"]
def exW : List Cond := [.declares ⟨"java/lang/RuntimeException", "<init>", "(Ljava/lang/String;)V"⟩, .declares ⟨"java/lang/Exception", "<init>", "(Ljava/lang/String;)V"⟩, .declares ⟨"java/lang/Throwable", "<init>", "(Ljava/lang/String;)V"⟩, .castable "java/lang/IllegalArgumentException" "java/lang/IllegalArgumentException", .castable "java/lang/IllegalStateException" "java/lang/IllegalStateException", .castable "java/lang/IndexOutOfBoundsException" "java/lang/IndexOutOfBoundsException"]
theorem xb_1 : ∀ w ∈ (vx_atS RX7 44 "java/lang/IllegalArgumentException" xup).filter (fun w => !goodWord w), w ∈ exW := by decide +kernel
theorem xb_2 : ∀ w ∈ (vx_atS RX7 55 "java/lang/IllegalStateException" xup).filter (fun w => !goodWord w), w ∈ exW := by decide +kernel
theorem xb_3 : ∀ w ∈ (vx_atS RX7 104 "java/lang/IndexOutOfBoundsException" xup).filter (fun w => !goodWord w), w ∈ exW := by decide +kernel
theorem xg_1 : ∀ w ∈ (vx_atS RX7 44 "java/lang/IllegalArgumentException" xup).filter goodWord, w ∈ lw_tbl := by decide +kernel
theorem xg_2 : ∀ w ∈ (vx_atS RX7 55 "java/lang/IllegalStateException" xup).filter goodWord, w ∈ lw_tbl := by decide +kernel
theorem xg_3 : ∀ w ∈ (vx_atS RX7 104 "java/lang/IndexOutOfBoundsException" xup).filter goodWord, w ∈ lw_tbl := by decide +kernel
