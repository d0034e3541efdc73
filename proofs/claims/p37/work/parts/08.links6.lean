set_option maxRecDepth 1000000 in
theorem cw_act6 : Cond.code yL_act cL_act 7 (some .int) ∈ tables_1_6 := List.mem_of_getElem? (i := 51) rfl
theorem cw_act : Cond.code yL_act cL_act 7 (some .int) ∈ tw_big := tw_in (List.mem_append_right _ (by unfold tables_1; exact List.mem_append_right _ (List.mem_append_right _ (List.mem_append_right _ (List.mem_append_right _ (List.mem_append_right _ cw_act6)))))) rfl
theorem ml_L_167 : ML RL 167 RL yL_act cL_act 7 (some .int) 4 := ⟨tw_i 1249 (by decide +kernel) rfl, tw_i 0 (by decide +kernel) rfl, cw_act, rfl, ⟨by decide +kernel, by decide +kernel⟩, by decide +kernel⟩
