set_option maxRecDepth 1000000 in
theorem w_co_L_isFair : Cond.code yL_isFair cL_isFair 18 (some .boolean) ∈ BIG := kB 644 rfl (by decide +kernel)
