/-! the words, by their places -/
set_option maxRecDepth 100000 in
set_option maxHeartbeats 4000000 in
theorem co_L_lines : Cond.code yL_lines cL_lines 23 (some .boolean) ∈ lw_all := lw_in 606 (show lw_tbl[606]? = some (Cond.code yL_lines cL_lines 23 (some .boolean)) from rfl) (by decide +kernel)
set_option maxRecDepth 100000 in
set_option maxHeartbeats 4000000 in
theorem co_L_combs : Cond.code yL_combs cL_combs 18 (some .boolean) ∈ lw_all := lw_in 631 (show lw_tbl[631]? = some (Cond.code yL_combs cL_combs 18 (some .boolean)) from rfl) (by decide +kernel)
