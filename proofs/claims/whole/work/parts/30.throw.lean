/-! THROWS -/
def ZF (U : State) : Prop := vx_Zq Bundle.tN "UNASSIGNED_STACK" Bundle.steD (fun _ => False) U U.heap ∧ vx_Zq Bundle.tN "SUPPRESSED_SENTINEL" Bundle.listD (fun _ => False) U U.heap
abbrev exN : List String := ["java/lang/RuntimeException", "java/lang/Exception"]
def exB (X : String) : List Cond := gfD.map Cond.declares ++ [Cond.castable X X]
theorem ex1_IllegalArgumentException : ∀ w ∈ (vx_atS RX4 23 "java/lang/IllegalArgumentException" exN).filter goodWord, w ∈ lw_tbl := by decide +kernel
theorem ex2_IllegalArgumentException : ∀ w ∈ (vx_atS RX4 23 "java/lang/IllegalArgumentException" exN).filter (fun w => !goodWord w), w ∈ exB "java/lang/IllegalArgumentException" := by decide +kernel
theorem ex3_IllegalArgumentException : ∀ w ∈ vx_atS RX4 23 "java/lang/IllegalArgumentException" exN, vx_ot w = true := by decide +kernel
theorem ex1_IllegalStateException : ∀ w ∈ (vx_atS RX4 78 "java/lang/IllegalStateException" exN).filter goodWord, w ∈ lw_tbl := by decide +kernel
theorem ex2_IllegalStateException : ∀ w ∈ (vx_atS RX4 78 "java/lang/IllegalStateException" exN).filter (fun w => !goodWord w), w ∈ exB "java/lang/IllegalStateException" := by decide +kernel
theorem ex3_IllegalStateException : ∀ w ∈ vx_atS RX4 78 "java/lang/IllegalStateException" exN, vx_ot w = true := by decide +kernel
theorem ex1_IndexOutOfBoundsException : ∀ w ∈ (vx_atS RX4 179 "java/lang/IndexOutOfBoundsException" exN).filter goodWord, w ∈ lw_tbl := by decide +kernel
theorem ex2_IndexOutOfBoundsException : ∀ w ∈ (vx_atS RX4 179 "java/lang/IndexOutOfBoundsException" exN).filter (fun w => !goodWord w), w ∈ exB "java/lang/IndexOutOfBoundsException" := by decide +kernel
theorem ex3_IndexOutOfBoundsException : ∀ w ∈ vx_atS RX4 179 "java/lang/IndexOutOfBoundsException" exN, vx_ot w = true := by decide +kernel
theorem ex1_UnsupportedOperationException : ∀ w ∈ (vx_atS RX4 34 "java/lang/UnsupportedOperationException" exN).filter goodWord, w ∈ lw_tbl := by decide +kernel
theorem ex2_UnsupportedOperationException : ∀ w ∈ (vx_atS RX4 34 "java/lang/UnsupportedOperationException" exN).filter (fun w => !goodWord w), w ∈ exB "java/lang/UnsupportedOperationException" := by decide +kernel
theorem ex3_UnsupportedOperationException : ∀ w ∈ vx_atS RX4 34 "java/lang/UnsupportedOperationException" exN, vx_ot w = true := by decide +kernel
