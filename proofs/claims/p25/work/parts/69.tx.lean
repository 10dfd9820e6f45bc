/-! throws -/
def txN : List String := ["java/lang/RuntimeException", "java/lang/Exception"]
def txI : List Cond := vx_atS "FloodWardens" 203 "java/lang/IndexOutOfBoundsException" txN
def txA : List Cond := vx_atS "FloodWardens" 210 "java/lang/IllegalArgumentException" txN
def txS : List Cond := vx_atS "FloodWardens" 215 "java/lang/IllegalStateException" txN
theorem txI_ot : txI.all vx_ot = true := by decide +kernel
theorem txI_tb : txI.all (fun w => decide (w ∈ lw_tbl)) = true := by decide +kernel
theorem txA_ot : txA.all vx_ot = true := by decide +kernel
theorem txA_tb : txA.all (fun w => decide (w ∈ lw_tbl)) = true := by decide +kernel
theorem txS_ot : txS.all vx_ot = true := by decide +kernel
theorem txS_tb : txS.all (fun w => decide (w ∈ lw_tbl)) = true := by decide +kernel
