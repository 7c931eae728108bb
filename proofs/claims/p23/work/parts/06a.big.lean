set_option maxRecDepth 100000 in
set_option maxHeartbeats 4000000 in
theorem q_c_X5_pass : (Cond.code yX5_pass cX5_pass 9 (some FieldType.int)) ∈ TT := tt_r (List.mem_of_getElem? (i := 479) rfl) (by decide +kernel)
set_option maxRecDepth 100000 in
set_option maxHeartbeats 4000000 in
theorem q_c_L_build : (Cond.code yL_build cL_build 13 (some (FieldType.object "DewPondLaw$Sim"))) ∈ TT := tt_r (List.mem_of_getElem? (i := 505) rfl) (by decide +kernel)
