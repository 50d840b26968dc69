theorem th_2_54_58_a : ∀ w ∈ vx_atS "LeastBounds" 58 (exN 2) nmX, w ∈ tb ∨ w ∈ nwL := by decide +kernel
theorem th_2_54_58_b : ∀ w ∈ Cond.classLink "LeastBounds" 54 (exN 2) :: Cond.initialized (exN 2) :: vx_atS "LeastBounds" 58 (exN 2) nmX, vx_ot w = true := by decide +kernel
theorem th_1_176_180_a : ∀ w ∈ vx_atS "LeastBounds" 180 (exN 1) nmX, w ∈ tb ∨ w ∈ nwL := by decide +kernel
theorem th_1_176_180_b : ∀ w ∈ Cond.classLink "LeastBounds" 176 (exN 1) :: Cond.initialized (exN 1) :: vx_atS "LeastBounds" 180 (exN 1) nmX, vx_ot w = true := by decide +kernel
theorem th_3_87_91_a : ∀ w ∈ vx_atS "LeastBounds" 91 (exN 3) nmX, w ∈ tb ∨ w ∈ nwL := by decide +kernel
theorem th_3_87_91_b : ∀ w ∈ Cond.classLink "LeastBounds" 87 (exN 3) :: Cond.initialized (exN 3) :: vx_atS "LeastBounds" 91 (exN 3) nmX, vx_ot w = true := by decide +kernel
