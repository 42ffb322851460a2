set_option maxRecDepth 100000 in
theorem co_L_builds : Cond.code yL_builds cL_builds 16 (some .boolean) ∈ WA := wa_mem 193 rfl rfl
set_option maxRecDepth 100000 in
theorem co_L_learns : Cond.code yL_learns cL_learns 17 (some .boolean) ∈ WA := wa_mem 385 rfl rfl
set_option maxRecDepth 100000 in
theorem co_L_split : Cond.code yL_split cL_split 21 none ∈ WA := wa_mem 492 rfl rfl
set_option maxRecDepth 100000 in
theorem co_L_isAhead : Cond.code yL_isAhead cL_isAhead 11 (some .boolean) ∈ WA := wa_mem 510 rfl rfl
set_option maxRecDepth 100000 in
theorem co_L_isTold : Cond.code yL_isTold cL_isTold 13 (some .boolean) ∈ WA := wa_mem 531 rfl rfl
set_option maxRecDepth 100000 in
theorem co_L_isWord : Cond.code yL_isWord cL_isWord 16 (some .boolean) ∈ WA := wa_mem 592 rfl rfl
