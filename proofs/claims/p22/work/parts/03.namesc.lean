set_option maxRecDepth 100000 in
theorem co_L_cell : Cond.code yL_cell cL_cell 2 (some .int) ∈ WA := wa_mem 186 rfl rfl
set_option maxRecDepth 100000 in
theorem co_L_low : Cond.code yL_low cL_low 2 (some .int) ∈ WA := wa_mem 190 rfl rfl
set_option maxRecDepth 100000 in
theorem co_L_text : Cond.code yL_text cL_text 5 (some .int) ∈ WA := wa_mem 196 rfl rfl
set_option maxRecDepth 100000 in
theorem co_L_addPart : Cond.codeWith yL_addPart cL_addPart 6 (some .int) [(0, 9, 12, 14), (0, 9, 17, 16)] ∈ WA := wa_mem 200 rfl rfl
set_option maxRecDepth 100000 in
theorem co_L_addLink : Cond.codeWith yL_addLink cL_addLink 4 (some .int) [(0, 6, 9, 14), (0, 6, 13, 16)] ∈ WA := wa_mem 324 rfl rfl
set_option maxRecDepth 100000 in
theorem co_L_setFlags : Cond.codeWith yL_setFlags cL_setFlags 5 (some .int) [(0, 7, 10, 22), (0, 7, 15, 14)] ∈ WA := wa_mem 341 rfl rfl
set_option maxRecDepth 100000 in
theorem co_L_veto : Cond.codeWith yL_veto cL_veto 6 (some .int) [(0, 9, 12, 22)] ∈ WA := wa_mem 370 rfl rfl
set_option maxRecDepth 100000 in
theorem co_L_bar : Cond.codeWith yL_bar cL_bar 6 (some .int) [(0, 9, 12, 22)] ∈ WA := wa_mem 377 rfl rfl
set_option maxRecDepth 100000 in
theorem co_L_forget : Cond.codeWith yL_forget cL_forget 3 (some .int) [(0, 5, 8, 16)] ∈ WA := wa_mem 388 rfl rfl
set_option maxRecDepth 100000 in
theorem co_L_learn : Cond.codeWith yL_learn cL_learn 4 (some .int) [(0, 6, 9, 14), (0, 6, 13, 16)] ∈ WA := wa_mem 401 rfl rfl
set_option maxRecDepth 100000 in
theorem co_L_size : Cond.code yL_size cL_size 3 (some .int) ∈ WA := wa_mem 495 rfl rfl
set_option maxRecDepth 100000 in
theorem co_L_length : Cond.code yL_length cL_length 7 (some .int) ∈ WA := wa_mem 498 rfl rfl
set_option maxRecDepth 100000 in
theorem co_L_sub : Cond.code yL_sub cL_sub 4 (some .int) ∈ WA := wa_mem 503 rfl rfl
set_option maxRecDepth 100000 in
theorem co_L_power : Cond.code yL_power cL_power 1 (some .int) ∈ WA := wa_mem 506 rfl rfl
set_option maxRecDepth 100000 in
theorem co_L_costOf : Cond.code yL_costOf cL_costOf 6 (some .int) ∈ WA := wa_mem 513 rfl rfl
set_option maxRecDepth 100000 in
theorem co_L_costOfPart : Cond.code yL_costOfPart cL_costOfPart 3 (some .int) ∈ WA := wa_mem 516 rfl rfl
set_option maxRecDepth 100000 in
theorem co_L_parts : Cond.code yL_parts cL_parts 5 (some .int) ∈ WA := wa_mem 519 rfl rfl
set_option maxRecDepth 100000 in
theorem co_L_at : Cond.code yL_at cL_at 4 (some .int) ∈ WA := wa_mem 522 rfl rfl
set_option maxRecDepth 100000 in
theorem co_L_nodes : Cond.code yL_nodes cL_nodes 6 (some .int) ∈ WA := wa_mem 525 rfl rfl
set_option maxRecDepth 100000 in
theorem co_L_isIn : Cond.code yL_isIn cL_isIn 12 (some .boolean) ∈ WA := wa_mem 528 rfl rfl
set_option maxRecDepth 100000 in
theorem co_L_count : Cond.codeWith yL_count cL_count 4 (some .int) [(0, 6, 9, 22)] ∈ WA := wa_mem 534 rfl rfl
set_option maxRecDepth 100000 in
theorem co_L_find : Cond.codeWith yL_find cL_find 4 (some .int) [(0, 6, 9, 14)] ∈ WA := wa_mem 554 rfl rfl
set_option maxRecDepth 100000 in
theorem co_L_splits : Cond.codeWith yL_splits cL_splits 4 (some .int) [(0, 6, 9, 14)] ∈ WA := wa_mem 563 rfl rfl
set_option maxRecDepth 100000 in
theorem co_L_cost : Cond.codeWith yL_cost cL_cost 5 (some .int) [(0, 7, 10, 14)] ∈ WA := wa_mem 571 rfl rfl
set_option maxRecDepth 100000 in
theorem co_L_partAt : Cond.codeWith yL_partAt cL_partAt 6 (some .int) [(0, 9, 12, 14)] ∈ WA := wa_mem 583 rfl rfl
