set_option maxRecDepth 100000 in
theorem gr_X10_plan0 : GoodIn lwS [Cond.code yX10_plan cX10_plan 8 (some .int)] := goodIn_r _ [695] (by decide +kernel) (by decide +kernel)
theorem gr_X100 : GoodIn lwS wsX100 := goodIn_sub (fun w h => List.mem_append_left _ (List.mem_append_left _ (List.mem_append_left _ (List.mem_append_left _ (List.mem_append_left _ (List.mem_append_left _ (List.mem_append_left _ (List.mem_append_left _ (List.mem_append_left _ (List.mem_append_right _ h)))))))))) (by decide +kernel)
theorem ggL_law_X10_plan : GoodIn lwS wsX10_plan := goodIn_app (a := [_]) gr_X10_plan0 (goodIn_app (goodIn_app gr_wsX10_plan_r1 (goodIn_app gr_wsX10_plan_r2 (goodIn_app gr_wsX10_plan_r3 (goodIn_app gr_wsX10_plan_r4 (goodIn_app gr_wsX10_plan_r5 (goodIn_app gr_wsX10_plan_r6 gr_wsX10_plan_r7)))))) gr_X100)
set_option maxRecDepth 100000 in
theorem gL_law_X10_plan : GoodIn lwS (wsV RL 68 RX10 yX10_plan wsX10_plan) := goodIn_app (goodIn_of _ (by decide +kernel)) ggL_law_X10_plan
