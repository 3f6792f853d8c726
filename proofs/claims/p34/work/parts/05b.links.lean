/-! ===== what the tables say of fields, calls, constants, code ===== -/
theorem lk_L_9 : pm_LI RL 9 yX10_init 0 := ⟨Or.inl (by decide +kernel), by decide +kernel, by decide +kernel, rfl, by decide +kernel, by decide +kernel⟩
theorem lk_L_12 : pm_LI RL 12 yX11_init 0 := ⟨Or.inl (by decide +kernel), by decide +kernel, by decide +kernel, rfl, by decide +kernel, by decide +kernel⟩
theorem lk_L_13 : pm_LV RL 13 yX10_road 3 := ⟨by decide +kernel, by decide +kernel, by decide +kernel, by decide +kernel, by decide +kernel, by decide +kernel⟩
theorem lk_L_17 : pm_LV RL 17 yX11_road 3 := ⟨by decide +kernel, by decide +kernel, by decide +kernel, by decide +kernel, by decide +kernel, by decide +kernel⟩
theorem lk_L_18 : pm_LV RL 18 yX10_car 1 := ⟨by decide +kernel, by decide +kernel, by decide +kernel, by decide +kernel, by decide +kernel, by decide +kernel⟩
theorem lk_L_22 : pm_LV RL 22 yX11_car 1 := ⟨by decide +kernel, by decide +kernel, by decide +kernel, by decide +kernel, by decide +kernel, by decide +kernel⟩
theorem lk_L_23 : pm_LV RL 23 yX10_wish 2 := ⟨by decide +kernel, by decide +kernel, by decide +kernel, by decide +kernel, by decide +kernel, by decide +kernel⟩
theorem lk_L_27 : pm_LV RL 27 yX11_wish 2 := ⟨by decide +kernel, by decide +kernel, by decide +kernel, by decide +kernel, by decide +kernel, by decide +kernel⟩
theorem lk_L_28 : pm_LV RL 28 yX10_length 2 := ⟨by decide +kernel, by decide +kernel, by decide +kernel, by decide +kernel, by decide +kernel, by decide +kernel⟩
theorem lk_L_31 : pm_LV RL 31 yX11_length 2 := ⟨by decide +kernel, by decide +kernel, by decide +kernel, by decide +kernel, by decide +kernel, by decide +kernel⟩
theorem lk_L_32 : pm_LV RL 32 yX10_undo 0 := ⟨by decide +kernel, by decide +kernel, by decide +kernel, by decide +kernel, by decide +kernel, by decide +kernel⟩
theorem lk_L_36 : pm_LV RL 36 yX11_undo 0 := ⟨by decide +kernel, by decide +kernel, by decide +kernel, by decide +kernel, by decide +kernel, by decide +kernel⟩
theorem lk_L_37 : pm_LV RL 37 yX10_clear 0 := ⟨by decide +kernel, by decide +kernel, by decide +kernel, by decide +kernel, by decide +kernel, by decide +kernel⟩
theorem lk_L_40 : pm_LV RL 40 yX11_clear 0 := ⟨by decide +kernel, by decide +kernel, by decide +kernel, by decide +kernel, by decide +kernel, by decide +kernel⟩
theorem lk_L_41 : pm_LV RL 41 yX10_told 2 := ⟨by decide +kernel, by decide +kernel, by decide +kernel, by decide +kernel, by decide +kernel, by decide +kernel⟩
theorem lk_L_44 : pm_LV RL 44 yX11_told 2 := ⟨by decide +kernel, by decide +kernel, by decide +kernel, by decide +kernel, by decide +kernel, by decide +kernel⟩
theorem lk_L_45 : pm_LV RL 45 yX10_on 1 := ⟨by decide +kernel, by decide +kernel, by decide +kernel, by decide +kernel, by decide +kernel, by decide +kernel⟩
theorem lk_L_48 : pm_LV RL 48 yX11_on 1 := ⟨by decide +kernel, by decide +kernel, by decide +kernel, by decide +kernel, by decide +kernel, by decide +kernel⟩
theorem lk_L_49 : pm_LV RL 49 yX10_count 1 := ⟨by decide +kernel, by decide +kernel, by decide +kernel, by decide +kernel, by decide +kernel, by decide +kernel⟩
theorem lk_L_52 : pm_LV RL 52 yX11_count 1 := ⟨by decide +kernel, by decide +kernel, by decide +kernel, by decide +kernel, by decide +kernel, by decide +kernel⟩
theorem lk_L_53 : pm_LV RL 53 yX10_good 0 := ⟨by decide +kernel, by decide +kernel, by decide +kernel, by decide +kernel, by decide +kernel, by decide +kernel⟩
theorem lk_L_56 : pm_LV RL 56 yX11_good 0 := ⟨by decide +kernel, by decide +kernel, by decide +kernel, by decide +kernel, by decide +kernel, by decide +kernel⟩
theorem lk_L_57 : pm_LV RL 57 yX10_ways 0 := ⟨by decide +kernel, by decide +kernel, by decide +kernel, by decide +kernel, by decide +kernel, by decide +kernel⟩
theorem lk_L_60 : pm_LV RL 60 yX11_ways 0 := ⟨by decide +kernel, by decide +kernel, by decide +kernel, by decide +kernel, by decide +kernel, by decide +kernel⟩
theorem lk_L_61 : pm_LV RL 61 yX10_rows 1 := ⟨by decide +kernel, by decide +kernel, by decide +kernel, by decide +kernel, by decide +kernel, by decide +kernel⟩
theorem lk_L_65 : pm_LV RL 65 yX11_rows 1 := ⟨by decide +kernel, by decide +kernel, by decide +kernel, by decide +kernel, by decide +kernel, by decide +kernel⟩
theorem lk_L_66 : pm_LV RL 66 yX10_rank 0 := ⟨by decide +kernel, by decide +kernel, by decide +kernel, by decide +kernel, by decide +kernel, by decide +kernel⟩
theorem lk_L_70 : pm_LV RL 70 yX11_rank 0 := ⟨by decide +kernel, by decide +kernel, by decide +kernel, by decide +kernel, by decide +kernel, by decide +kernel⟩
theorem lk_L_73 : pm_LV RL 73 yX10_unrank 2 := ⟨by decide +kernel, by decide +kernel, by decide +kernel, by decide +kernel, by decide +kernel, by decide +kernel⟩
theorem lk_L_77 : pm_LV RL 77 yX11_unrank 2 := ⟨by decide +kernel, by decide +kernel, by decide +kernel, by decide +kernel, by decide +kernel, by decide +kernel⟩
theorem lk_L_78 : pm_LV RL 78 yX10_next 0 := ⟨by decide +kernel, by decide +kernel, by decide +kernel, by decide +kernel, by decide +kernel, by decide +kernel⟩
theorem lk_L_81 : pm_LV RL 81 yX11_next 0 := ⟨by decide +kernel, by decide +kernel, by decide +kernel, by decide +kernel, by decide +kernel, by decide +kernel⟩
theorem lk_L_82 : pm_LV RL 82 yX10_like 0 := ⟨by decide +kernel, by decide +kernel, by decide +kernel, by decide +kernel, by decide +kernel, by decide +kernel⟩
theorem lk_L_85 : pm_LV RL 85 yX11_like 0 := ⟨by decide +kernel, by decide +kernel, by decide +kernel, by decide +kernel, by decide +kernel, by decide +kernel⟩
theorem lk_L_86 : pm_LV RL 86 yX10_orders 0 := ⟨by decide +kernel, by decide +kernel, by decide +kernel, by decide +kernel, by decide +kernel, by decide +kernel⟩
theorem lk_L_89 : pm_LV RL 89 yX11_orders 0 := ⟨by decide +kernel, by decide +kernel, by decide +kernel, by decide +kernel, by decide +kernel, by decide +kernel⟩
theorem lk_L_90 : pm_LV RL 90 yX10_rise 0 := ⟨by decide +kernel, by decide +kernel, by decide +kernel, by decide +kernel, by decide +kernel, by decide +kernel⟩
theorem lk_L_93 : pm_LV RL 93 yX11_rise 0 := ⟨by decide +kernel, by decide +kernel, by decide +kernel, by decide +kernel, by decide +kernel, by decide +kernel⟩
theorem lk_L_94 : pm_LV RL 94 yX10_risings 1 := ⟨by decide +kernel, by decide +kernel, by decide +kernel, by decide +kernel, by decide +kernel, by decide +kernel⟩
theorem lk_L_97 : pm_LV RL 97 yX11_risings 1 := ⟨by decide +kernel, by decide +kernel, by decide +kernel, by decide +kernel, by decide +kernel, by decide +kernel⟩
theorem lk_L_98 : pm_LV RL 98 yX10_riseRank 0 := ⟨by decide +kernel, by decide +kernel, by decide +kernel, by decide +kernel, by decide +kernel, by decide +kernel⟩
theorem lk_L_101 : pm_LV RL 101 yX11_riseRank 0 := ⟨by decide +kernel, by decide +kernel, by decide +kernel, by decide +kernel, by decide +kernel, by decide +kernel⟩
theorem lk_L_102 : pm_LV RL 102 yX10_riseUnrank 2 := ⟨by decide +kernel, by decide +kernel, by decide +kernel, by decide +kernel, by decide +kernel, by decide +kernel⟩
theorem lk_L_105 : pm_LV RL 105 yX11_riseUnrank 2 := ⟨by decide +kernel, by decide +kernel, by decide +kernel, by decide +kernel, by decide +kernel, by decide +kernel⟩
theorem lk_L_106 : pm_LV RL 106 yX10_cuts 0 := ⟨by decide +kernel, by decide +kernel, by decide +kernel, by decide +kernel, by decide +kernel, by decide +kernel⟩
theorem lk_L_109 : pm_LV RL 109 yX11_cuts 0 := ⟨by decide +kernel, by decide +kernel, by decide +kernel, by decide +kernel, by decide +kernel, by decide +kernel⟩
theorem lk_L_110 : pm_LV RL 110 yX10_primes 0 := ⟨by decide +kernel, by decide +kernel, by decide +kernel, by decide +kernel, by decide +kernel, by decide +kernel⟩
theorem lk_L_113 : pm_LV RL 113 yX11_primes 0 := ⟨by decide +kernel, by decide +kernel, by decide +kernel, by decide +kernel, by decide +kernel, by decide +kernel⟩
theorem lk_L_114 : pm_LV RL 114 yX10_mend 0 := ⟨by decide +kernel, by decide +kernel, by decide +kernel, by decide +kernel, by decide +kernel, by decide +kernel⟩
theorem lk_L_117 : pm_LV RL 117 yX11_mend 0 := ⟨by decide +kernel, by decide +kernel, by decide +kernel, by decide +kernel, by decide +kernel, by decide +kernel⟩
theorem lk_L_118 : pm_LV RL 118 yX10_node 2 := ⟨by decide +kernel, by decide +kernel, by decide +kernel, by decide +kernel, by decide +kernel, by decide +kernel⟩
theorem lk_L_121 : pm_LV RL 121 yX11_node 2 := ⟨by decide +kernel, by decide +kernel, by decide +kernel, by decide +kernel, by decide +kernel, by decide +kernel⟩
theorem lk_L_122 : pm_LV RL 122 yX10_inv 0 := ⟨by decide +kernel, by decide +kernel, by decide +kernel, by decide +kernel, by decide +kernel, by decide +kernel⟩
theorem lk_L_125 : pm_LV RL 125 yX11_inv 0 := ⟨by decide +kernel, by decide +kernel, by decide +kernel, by decide +kernel, by decide +kernel, by decide +kernel⟩
theorem lk_L_126 : pm_LV RL 126 yX10_code 1 := ⟨by decide +kernel, by decide +kernel, by decide +kernel, by decide +kernel, by decide +kernel, by decide +kernel⟩
theorem lk_L_129 : pm_LV RL 129 yX11_code 1 := ⟨by decide +kernel, by decide +kernel, by decide +kernel, by decide +kernel, by decide +kernel, by decide +kernel⟩
theorem lk_L_130 : pm_LV RL 130 yX10_decode 3 := ⟨by decide +kernel, by decide +kernel, by decide +kernel, by decide +kernel, by decide +kernel, by decide +kernel⟩
theorem lk_L_133 : pm_LV RL 133 yX11_decode 3 := ⟨by decide +kernel, by decide +kernel, by decide +kernel, by decide +kernel, by decide +kernel, by decide +kernel⟩
theorem lk_L_134 : pm_LV RL 134 yX10_grow 3 := ⟨by decide +kernel, by decide +kernel, by decide +kernel, by decide +kernel, by decide +kernel, by decide +kernel⟩
theorem lk_L_137 : pm_LV RL 137 yX11_grow 3 := ⟨by decide +kernel, by decide +kernel, by decide +kernel, by decide +kernel, by decide +kernel, by decide +kernel⟩
theorem lk_L_138 : pm_LV RL 138 yX10_walk 2 := ⟨by decide +kernel, by decide +kernel, by decide +kernel, by decide +kernel, by decide +kernel, by decide +kernel⟩
theorem lk_L_141 : pm_LV RL 141 yX11_walk 2 := ⟨by decide +kernel, by decide +kernel, by decide +kernel, by decide +kernel, by decide +kernel, by decide +kernel⟩
theorem lk_L_142 : pm_LV RL 142 yX10_counts 1 := ⟨by decide +kernel, by decide +kernel, by decide +kernel, by decide +kernel, by decide +kernel, by decide +kernel⟩
theorem lk_L_145 : pm_LV RL 145 yX11_counts 1 := ⟨by decide +kernel, by decide +kernel, by decide +kernel, by decide +kernel, by decide +kernel, by decide +kernel⟩
theorem lk_L_146 : pm_LV RL 146 yX10_both 3 := ⟨by decide +kernel, by decide +kernel, by decide +kernel, by decide +kernel, by decide +kernel, by decide +kernel⟩
theorem lk_L_149 : pm_LV RL 149 yX11_both 3 := ⟨by decide +kernel, by decide +kernel, by decide +kernel, by decide +kernel, by decide +kernel, by decide +kernel⟩
theorem lk_L_150 : pm_LV RL 150 yX10_spread 3 := ⟨by decide +kernel, by decide +kernel, by decide +kernel, by decide +kernel, by decide +kernel, by decide +kernel⟩
theorem lk_L_154 : pm_LV RL 154 yX11_spread 3 := ⟨by decide +kernel, by decide +kernel, by decide +kernel, by decide +kernel, by decide +kernel, by decide +kernel⟩
theorem lk_L_155 : pm_LV RL 155 yX10_sheet 3 := ⟨by decide +kernel, by decide +kernel, by decide +kernel, by decide +kernel, by decide +kernel, by decide +kernel⟩
theorem lk_L_158 : pm_LV RL 158 yX11_sheet 3 := ⟨by decide +kernel, by decide +kernel, by decide +kernel, by decide +kernel, by decide +kernel, by decide +kernel⟩
theorem lk_L_159 : pm_LV RL 159 yX10_drop 1 := ⟨by decide +kernel, by decide +kernel, by decide +kernel, by decide +kernel, by decide +kernel, by decide +kernel⟩
theorem lk_L_162 : pm_LV RL 162 yX11_drop 1 := ⟨by decide +kernel, by decide +kernel, by decide +kernel, by decide +kernel, by decide +kernel, by decide +kernel⟩
theorem lk_L_163 : pm_LV RL 163 yX10_item 4 := ⟨by decide +kernel, by decide +kernel, by decide +kernel, by decide +kernel, by decide +kernel, by decide +kernel⟩
theorem lk_L_167 : pm_LV RL 167 yX11_item 4 := ⟨by decide +kernel, by decide +kernel, by decide +kernel, by decide +kernel, by decide +kernel, by decide +kernel⟩
theorem lk_L_168 : pm_LV RL 168 yX10_cars 4 := ⟨by decide +kernel, by decide +kernel, by decide +kernel, by decide +kernel, by decide +kernel, by decide +kernel⟩
theorem lk_L_171 : pm_LV RL 171 yX11_cars 4 := ⟨by decide +kernel, by decide +kernel, by decide +kernel, by decide +kernel, by decide +kernel, by decide +kernel⟩
theorem lk_L_172 : pm_LV RL 172 yX10_keep 3 := ⟨by decide +kernel, by decide +kernel, by decide +kernel, by decide +kernel, by decide +kernel, by decide +kernel⟩
theorem lk_L_175 : pm_LV RL 175 yX11_keep 3 := ⟨by decide +kernel, by decide +kernel, by decide +kernel, by decide +kernel, by decide +kernel, by decide +kernel⟩
theorem lo_X0_3 : Cond.methodLink RX0 3 objectInit ∈ lw_tbl := by decide +kernel
theorem fl_X0_9 : pm_FL RX0 9 0 1 = true := by decide +kernel
theorem fl_X0_15 : pm_FL RX0 15 0 2 = true := by decide +kernel
theorem fl_X0_19 : pm_FL RX0 19 0 0 = true := by decide +kernel
theorem lk_X0_23 : pm_LS RX0 23 yX10_power 2 := ⟨Or.inr (by decide +kernel), by decide +kernel, by decide +kernel, by decide +kernel, by decide +kernel⟩
theorem lk_X0_27 : pm_LV RX0 27 yX0_forgetWishers 0 := ⟨by decide +kernel, by decide +kernel, by decide +kernel, by decide +kernel, by decide +kernel, by decide +kernel⟩
theorem lk_X0_30 : pm_LV RX0 30 yX0_rowsWith 3 := ⟨by decide +kernel, by decide +kernel, by decide +kernel, by decide +kernel, by decide +kernel, by decide +kernel⟩
theorem lk_X0_34 : pm_LV RX0 34 yX0_canWishOneMore 3 := ⟨by decide +kernel, by decide +kernel, by decide +kernel, by decide +kernel, by decide +kernel, by decide +kernel⟩
theorem lk_X0_38 : pm_LV RX0 38 yX0_endings 2 := ⟨by decide +kernel, by decide +kernel, by decide +kernel, by decide +kernel, by decide +kernel, by decide +kernel⟩
theorem lk_X0_42 : pm_LV RX0 42 yX0_wishHere 2 := ⟨by decide +kernel, by decide +kernel, by decide +kernel, by decide +kernel, by decide +kernel, by decide +kernel⟩
theorem lk_X0_45 : pm_LV RX0 45 yX1_of 2 := ⟨by decide +kernel, by decide +kernel, by decide +kernel, by decide +kernel, by decide +kernel, by decide +kernel⟩
theorem lo_X1_3 : Cond.methodLink RX1 3 objectInit ∈ lw_tbl := by decide +kernel
theorem fl_X1_11 : pm_FL RX1 11 1 0 = true := by decide +kernel
theorem lo_X10_1 : Cond.methodLink RX10 1 objectInit ∈ lw_tbl := by decide +kernel
theorem lk_X10_9 : pm_LI RX10 9 yX1_init 0 := ⟨Or.inl (by decide +kernel), by decide +kernel, by decide +kernel, rfl, by decide +kernel, by decide +kernel⟩
theorem lk_X10_12 : pm_LI RX10 12 yX5_init 0 := ⟨Or.inr (by decide +kernel), by decide +kernel, by decide +kernel, rfl, by decide +kernel, by decide +kernel⟩
theorem fl_X10_13 : pm_FL RX10 13 10 0 = true := by decide +kernel
theorem lk_X10_21 : pm_LI RX10 21 yX2_init 0 := ⟨Or.inr (by decide +kernel), by decide +kernel, by decide +kernel, rfl, by decide +kernel, by decide +kernel⟩
theorem fl_X10_22 : pm_FL RX10 22 10 1 = true := by decide +kernel
theorem lk_X10_28 : pm_LI RX10 28 yX0_init 1 := ⟨Or.inl (by decide +kernel), by decide +kernel, by decide +kernel, rfl, by decide +kernel, by decide +kernel⟩
theorem fl_X10_31 : pm_FL RX10 31 10 2 = true := by decide +kernel
theorem lk_X10_37 : pm_LI RX10 37 yX4_init 0 := ⟨Or.inr (by decide +kernel), by decide +kernel, by decide +kernel, rfl, by decide +kernel, by decide +kernel⟩
theorem fl_X10_38 : pm_FL RX10 38 10 3 = true := by decide +kernel
theorem lk_X10_44 : pm_LI RX10 44 yX8_init 0 := ⟨Or.inr (by decide +kernel), by decide +kernel, by decide +kernel, rfl, by decide +kernel, by decide +kernel⟩
theorem fl_X10_45 : pm_FL RX10 45 10 4 = true := by decide +kernel
theorem lk_X10_51 : pm_LI RX10 51 yX9_init 0 := ⟨Or.inr (by decide +kernel), by decide +kernel, by decide +kernel, rfl, by decide +kernel, by decide +kernel⟩
theorem fl_X10_52 : pm_FL RX10 52 10 5 = true := by decide +kernel
theorem lk_X10_58 : pm_LI RX10 58 yX3_init 0 := ⟨Or.inr (by decide +kernel), by decide +kernel, by decide +kernel, rfl, by decide +kernel, by decide +kernel⟩
theorem fl_X10_59 : pm_FL RX10 59 10 6 = true := by decide +kernel
theorem lk_X10_65 : pm_LI RX10 65 yX7_init 1 := ⟨Or.inl (by decide +kernel), by decide +kernel, by decide +kernel, rfl, by decide +kernel, by decide +kernel⟩
theorem fl_X10_66 : pm_FL RX10 66 10 7 = true := by decide +kernel
theorem lk_X10_72 : pm_LI RX10 72 yX6_init 0 := ⟨Or.inl (by decide +kernel), by decide +kernel, by decide +kernel, rfl, by decide +kernel, by decide +kernel⟩
theorem fl_X10_73 : pm_FL RX10 73 10 8 = true := by decide +kernel
theorem fl_X10_77 : pm_FL RX10 77 10 9 = true := by decide +kernel
theorem lk_X10_81 : pm_LV RX10 81 yX5_lay 3 := ⟨by decide +kernel, by decide +kernel, by decide +kernel, by decide +kernel, by decide +kernel, by decide +kernel⟩
theorem lk_X10_85 : pm_LV RX10 85 yX5_hasPlace 1 := ⟨by decide +kernel, by decide +kernel, by decide +kernel, by decide +kernel, by decide +kernel, by decide +kernel⟩
theorem fl_X10_89 : pm_FL RX10 89 5 3 = true := by decide +kernel
theorem fl_X10_93 : pm_FL RX10 93 5 1 = true := by decide +kernel
theorem lk_X10_96 : pm_LV RX10 96 yX5_add 1 := ⟨by decide +kernel, by decide +kernel, by decide +kernel, by decide +kernel, by decide +kernel, by decide +kernel⟩
theorem lk_X10_100 : pm_LV RX10 100 yX5_settle 0 := ⟨by decide +kernel, by decide +kernel, by decide +kernel, by decide +kernel, by decide +kernel, by decide +kernel⟩
theorem lk_X10_103 : pm_LV RX10 103 yX5_hasCar 1 := ⟨by decide +kernel, by decide +kernel, by decide +kernel, by decide +kernel, by decide +kernel, by decide +kernel⟩
theorem fl_X10_106 : pm_FL RX10 106 5 5 = true := by decide +kernel
theorem fl_X10_109 : pm_FL RX10 109 5 6 = true := by decide +kernel
theorem lk_X10_112 : pm_LV RX10 112 yX5_leaveOnly 1 := ⟨by decide +kernel, by decide +kernel, by decide +kernel, by decide +kernel, by decide +kernel, by decide +kernel⟩
theorem lk_X10_115 : pm_LV RX10 115 yX5_comesIn 1 := ⟨by decide +kernel, by decide +kernel, by decide +kernel, by decide +kernel, by decide +kernel, by decide +kernel⟩
theorem fl_X10_118 : pm_FL RX10 118 5 7 = true := by decide +kernel
theorem lk_X10_121 : pm_LV RX10 121 yX5_far 1 := ⟨by decide +kernel, by decide +kernel, by decide +kernel, by decide +kernel, by decide +kernel, by decide +kernel⟩
theorem lk_X10_125 : pm_LV RX10 125 yX5_isLucky 1 := ⟨by decide +kernel, by decide +kernel, by decide +kernel, by decide +kernel, by decide +kernel, by decide +kernel⟩
theorem lk_X10_128 : pm_LV RX10 128 yX5_carOn 1 := ⟨by decide +kernel, by decide +kernel, by decide +kernel, by decide +kernel, by decide +kernel, by decide +kernel⟩
theorem lk_X10_131 : pm_LV RX10 131 yX5_howManyIn 0 := ⟨by decide +kernel, by decide +kernel, by decide +kernel, by decide +kernel, by decide +kernel, by decide +kernel⟩
theorem lk_X10_135 : pm_LV RX10 135 yX5_howManyLucky 0 := ⟨by decide +kernel, by decide +kernel, by decide +kernel, by decide +kernel, by decide +kernel, by decide +kernel⟩
theorem lk_X10_138 : pm_LV RX10 138 yX5_farOfAll 0 := ⟨by decide +kernel, by decide +kernel, by decide +kernel, by decide +kernel, by decide +kernel, by decide +kernel⟩
theorem lk_X10_141 : pm_LV RX10 141 yX5_farthest 0 := ⟨by decide +kernel, by decide +kernel, by decide +kernel, by decide +kernel, by decide +kernel, by decide +kernel⟩
theorem fl_X10_144 : pm_FL RX10 144 5 4 = true := by decide +kernel
theorem lk_X10_147 : pm_LS RX10 147 yJ6_bitCount_0f7a4 1 := ⟨Or.inl (by decide +kernel), by decide +kernel, by decide +kernel, by decide +kernel, by decide +kernel⟩
theorem lk_X10_152 : pm_LV RX10 152 yX5_allIn 0 := ⟨by decide +kernel, by decide +kernel, by decide +kernel, by decide +kernel, by decide +kernel, by decide +kernel⟩
theorem lk_X10_156 : pm_LV RX10 156 yX5_hasFewRows 0 := ⟨by decide +kernel, by decide +kernel, by decide +kernel, by decide +kernel, by decide +kernel, by decide +kernel⟩
theorem lk_X10_159 : pm_LV RX10 159 yX2_goodRows 1 := ⟨by decide +kernel, by decide +kernel, by decide +kernel, by decide +kernel, by decide +kernel, by decide +kernel⟩
theorem lk_X10_163 : pm_LV RX10 163 yX10_isRowSize 1 := ⟨by decide +kernel, by decide +kernel, by decide +kernel, by decide +kernel, by decide +kernel, by decide +kernel⟩
theorem lk_X10_166 : pm_LV RX10 166 yX0_howMany 2 := ⟨by decide +kernel, by decide +kernel, by decide +kernel, by decide +kernel, by decide +kernel, by decide +kernel⟩
theorem lk_X10_172 : pm_LV RX10 172 yX10_isPlainGood 0 := ⟨by decide +kernel, by decide +kernel, by decide +kernel, by decide +kernel, by decide +kernel, by decide +kernel⟩
theorem lk_X10_175 : pm_LV RX10 175 yX0_numberOf 3 := ⟨by decide +kernel, by decide +kernel, by decide +kernel, by decide +kernel, by decide +kernel, by decide +kernel⟩
theorem fl_X10_181 : pm_FL RX10 181 5 0 = true := by decide +kernel
theorem lk_X10_184 : pm_LV RX10 184 yX0_fillRow 4 := ⟨by decide +kernel, by decide +kernel, by decide +kernel, by decide +kernel, by decide +kernel, by decide +kernel⟩
theorem lk_X10_188 : pm_LV RX10 188 yX5_take 2 := ⟨by decide +kernel, by decide +kernel, by decide +kernel, by decide +kernel, by decide +kernel, by decide +kernel⟩
theorem lk_X10_192 : pm_LV RX10 192 yX0_stepOn 3 := ⟨by decide +kernel, by decide +kernel, by decide +kernel, by decide +kernel, by decide +kernel, by decide +kernel⟩
theorem lk_X10_196 : pm_LV RX10 196 yX5_rowsLikeIt 0 := ⟨by decide +kernel, by decide +kernel, by decide +kernel, by decide +kernel, by decide +kernel, by decide +kernel⟩
theorem lk_X10_200 : pm_LV RX10 200 yX5_ordersOfWishes 0 := ⟨by decide +kernel, by decide +kernel, by decide +kernel, by decide +kernel, by decide +kernel, by decide +kernel⟩
theorem lk_X10_203 : pm_LV RX10 203 yX5_sortWishes 0 := ⟨by decide +kernel, by decide +kernel, by decide +kernel, by decide +kernel, by decide +kernel, by decide +kernel⟩
theorem lk_X10_206 : pm_LV RX10 206 yX4_howMany 2 := ⟨by decide +kernel, by decide +kernel, by decide +kernel, by decide +kernel, by decide +kernel, by decide +kernel⟩
theorem lk_X10_207 : pm_LV RX10 207 yX5_isRising 0 := ⟨by decide +kernel, by decide +kernel, by decide +kernel, by decide +kernel, by decide +kernel, by decide +kernel⟩
theorem lk_X10_210 : pm_LV RX10 210 yX4_numberOf 3 := ⟨by decide +kernel, by decide +kernel, by decide +kernel, by decide +kernel, by decide +kernel, by decide +kernel⟩
theorem lk_X10_211 : pm_LV RX10 211 yX4_fillRow 4 := ⟨by decide +kernel, by decide +kernel, by decide +kernel, by decide +kernel, by decide +kernel, by decide +kernel⟩
theorem lk_X10_212 : pm_LV RX10 212 yX10_hasTree 0 := ⟨by decide +kernel, by decide +kernel, by decide +kernel, by decide +kernel, by decide +kernel, by decide +kernel⟩
theorem lk_X10_215 : pm_LV RX10 215 yX5_cutBits 0 := ⟨by decide +kernel, by decide +kernel, by decide +kernel, by decide +kernel, by decide +kernel, by decide +kernel⟩
theorem lk_X10_218 : pm_LV RX10 218 yX0_primeRows 1 := ⟨by decide +kernel, by decide +kernel, by decide +kernel, by decide +kernel, by decide +kernel, by decide +kernel⟩
theorem lk_X10_222 : pm_LV RX10 222 yX5_isPlain 0 := ⟨by decide +kernel, by decide +kernel, by decide +kernel, by decide +kernel, by decide +kernel, by decide +kernel⟩
theorem lk_X10_225 : pm_LV RX10 225 yX5_mendWishes 0 := ⟨by decide +kernel, by decide +kernel, by decide +kernel, by decide +kernel, by decide +kernel, by decide +kernel⟩
theorem lk_X10_228 : pm_LV RX10 228 yX8_build 2 := ⟨by decide +kernel, by decide +kernel, by decide +kernel, by decide +kernel, by decide +kernel, by decide +kernel⟩
theorem fl_X10_231 : pm_FL RX10 231 8 1 = true := by decide +kernel
theorem fl_X10_234 : pm_FL RX10 234 8 2 = true := by decide +kernel
theorem fl_X10_237 : pm_FL RX10 237 8 3 = true := by decide +kernel
theorem fl_X10_240 : pm_FL RX10 240 8 4 = true := by decide +kernel
theorem fl_X10_243 : pm_FL RX10 243 8 5 = true := by decide +kernel
theorem lk_X10_246 : pm_LV RX10 246 yX8_inversions 0 := ⟨by decide +kernel, by decide +kernel, by decide +kernel, by decide +kernel, by decide +kernel, by decide +kernel⟩
theorem lk_X10_249 : pm_LV RX10 249 yX8_codeNumber 1 := ⟨by decide +kernel, by decide +kernel, by decide +kernel, by decide +kernel, by decide +kernel, by decide +kernel⟩
theorem lk_X10_252 : pm_LV RX10 252 yX6_refusal 4 := ⟨by decide +kernel, by decide +kernel, by decide +kernel, by decide +kernel, by decide +kernel, by decide +kernel⟩
theorem lk_X10_256 : pm_LV RX10 256 yX6_allWithin 5 := ⟨by decide +kernel, by decide +kernel, by decide +kernel, by decide +kernel, by decide +kernel, by decide +kernel⟩
theorem lk_X10_260 : pm_LV RX10 260 yX6_copyTo 4 := ⟨by decide +kernel, by decide +kernel, by decide +kernel, by decide +kernel, by decide +kernel, by decide +kernel⟩
theorem lk_X10_264 : pm_LV RX10 264 yX8_parentsOfCode 2 := ⟨by decide +kernel, by decide +kernel, by decide +kernel, by decide +kernel, by decide +kernel, by decide +kernel⟩
theorem lk_X10_267 : pm_LV RX10 267 yX8_wishesOfParents 1 := ⟨by decide +kernel, by decide +kernel, by decide +kernel, by decide +kernel, by decide +kernel, by decide +kernel⟩
theorem lk_X10_271 : pm_LV RX10 271 yX8_takeParents 2 := ⟨by decide +kernel, by decide +kernel, by decide +kernel, by decide +kernel, by decide +kernel, by decide +kernel⟩
theorem lk_X10_274 : pm_LV RX10 274 yX9_build 2 := ⟨by decide +kernel, by decide +kernel, by decide +kernel, by decide +kernel, by decide +kernel, by decide +kernel⟩
theorem fl_X10_275 : pm_FL RX10 275 9 1 = true := by decide +kernel
theorem fl_X10_278 : pm_FL RX10 278 9 2 = true := by decide +kernel
theorem lk_X10_281 : pm_LV RX10 281 yX9_area 0 := ⟨by decide +kernel, by decide +kernel, by decide +kernel, by decide +kernel, by decide +kernel, by decide +kernel⟩
theorem lk_X10_284 : pm_LV RX10 284 yX9_dinv 0 := ⟨by decide +kernel, by decide +kernel, by decide +kernel, by decide +kernel, by decide +kernel, by decide +kernel⟩
theorem lk_X10_287 : pm_LV RX10 287 yX3_fill 3 := ⟨by decide +kernel, by decide +kernel, by decide +kernel, by decide +kernel, by decide +kernel, by decide +kernel⟩
theorem lk_X10_291 : pm_LV RX10 291 yX3_rowsWith 3 := ⟨by decide +kernel, by decide +kernel, by decide +kernel, by decide +kernel, by decide +kernel, by decide +kernel⟩
theorem lk_X10_295 : pm_LV RX10 295 yX7_withGoes 2 := ⟨by decide +kernel, by decide +kernel, by decide +kernel, by decide +kernel, by decide +kernel, by decide +kernel⟩
theorem lk_X10_298 : pm_LV RX10 298 yX7_withLucky 2 := ⟨by decide +kernel, by decide +kernel, by decide +kernel, by decide +kernel, by decide +kernel, by decide +kernel⟩
theorem lk_X10_301 : pm_LV RX10 301 yX7_withLastAt 2 := ⟨by decide +kernel, by decide +kernel, by decide +kernel, by decide +kernel, by decide +kernel, by decide +kernel⟩
theorem lk_X10_304 : pm_LV RX10 304 yX7_withFirstWish 2 := ⟨by decide +kernel, by decide +kernel, by decide +kernel, by decide +kernel, by decide +kernel, by decide +kernel⟩
theorem lk_X10_307 : pm_LV RX10 307 yX7_withOnes 2 := ⟨by decide +kernel, by decide +kernel, by decide +kernel, by decide +kernel, by decide +kernel, by decide +kernel⟩
theorem lk_X10_310 : pm_LV RX10 310 yX7_withCuts 2 := ⟨by decide +kernel, by decide +kernel, by decide +kernel, by decide +kernel, by decide +kernel, by decide +kernel⟩
theorem lk_X10_313 : pm_LV RX10 313 yX6_hasSheet 1 := ⟨by decide +kernel, by decide +kernel, by decide +kernel, by decide +kernel, by decide +kernel, by decide +kernel⟩
theorem lk_X10_316 : pm_LV RX10 316 yX6_hasLane 1 := ⟨by decide +kernel, by decide +kernel, by decide +kernel, by decide +kernel, by decide +kernel, by decide +kernel⟩
theorem lk_X10_319 : pm_LV RX10 319 yX6_renew 3 := ⟨by decide +kernel, by decide +kernel, by decide +kernel, by decide +kernel, by decide +kernel, by decide +kernel⟩
theorem lk_X10_322 : pm_LV RX10 322 yX6_holdsNothing 1 := ⟨by decide +kernel, by decide +kernel, by decide +kernel, by decide +kernel, by decide +kernel, by decide +kernel⟩
theorem lk_X10_325 : pm_LV RX10 325 yX6_remove 1 := ⟨by decide +kernel, by decide +kernel, by decide +kernel, by decide +kernel, by decide +kernel, by decide +kernel⟩
theorem lk_X10_328 : pm_LV RX10 328 yX6_put 3 := ⟨by decide +kernel, by decide +kernel, by decide +kernel, by decide +kernel, by decide +kernel, by decide +kernel⟩
theorem lo_X11_1 : Cond.methodLink RX11 1 objectInit ∈ lw_tbl := by decide +kernel
theorem fl_X11_7 : pm_FL RX11 7 11 1 = true := by decide +kernel
theorem fl_X11_13 : pm_FL RX11 13 11 4 = true := by decide +kernel
theorem fl_X11_17 : pm_FL RX11 17 11 5 = true := by decide +kernel
theorem fl_X11_20 : pm_FL RX11 20 11 6 = true := by decide +kernel
theorem fl_X11_23 : pm_FL RX11 23 11 7 = true := by decide +kernel
theorem fl_X11_26 : pm_FL RX11 26 11 8 = true := by decide +kernel
theorem fl_X11_29 : pm_FL RX11 29 11 9 = true := by decide +kernel
theorem fl_X11_33 : pm_FL RX11 33 11 10 = true := by decide +kernel
theorem fl_X11_36 : pm_FL RX11 36 11 11 = true := by decide +kernel
theorem fl_X11_39 : pm_FL RX11 39 11 12 = true := by decide +kernel
theorem fl_X11_42 : pm_FL RX11 42 11 13 = true := by decide +kernel
theorem fl_X11_45 : pm_FL RX11 45 11 14 = true := by decide +kernel
theorem fl_X11_48 : pm_FL RX11 48 11 15 = true := by decide +kernel
theorem fl_X11_51 : pm_FL RX11 51 11 16 = true := by decide +kernel
theorem fl_X11_55 : pm_FL RX11 55 11 17 = true := by decide +kernel
theorem fl_X11_58 : pm_FL RX11 58 11 18 = true := by decide +kernel
theorem fl_X11_61 : pm_FL RX11 61 11 19 = true := by decide +kernel
theorem fl_X11_64 : pm_FL RX11 64 11 20 = true := by decide +kernel
theorem fl_X11_67 : pm_FL RX11 67 11 21 = true := by decide +kernel
theorem fl_X11_70 : pm_FL RX11 70 11 22 = true := by decide +kernel
theorem fl_X11_73 : pm_FL RX11 73 11 23 = true := by decide +kernel
theorem fl_X11_76 : pm_FL RX11 76 11 24 = true := by decide +kernel
theorem fl_X11_79 : pm_FL RX11 79 11 25 = true := by decide +kernel
theorem fl_X11_82 : pm_FL RX11 82 11 26 = true := by decide +kernel
theorem fl_X11_85 : pm_FL RX11 85 11 27 = true := by decide +kernel
theorem fl_X11_88 : pm_FL RX11 88 11 28 = true := by decide +kernel
theorem fl_X11_91 : pm_FL RX11 91 11 29 = true := by decide +kernel
theorem lk_X11_96 : pm_LS RX11 96 yX11_in 3 := ⟨Or.inl (by decide +kernel), by decide +kernel, by decide +kernel, by decide +kernel, by decide +kernel⟩
theorem fl_X11_104 : pm_FL RX11 104 11 0 = true := by decide +kernel
theorem fl_X11_107 : pm_FL RX11 107 11 2 = true := by decide +kernel
theorem fl_X11_110 : pm_FL RX11 110 11 3 = true := by decide +kernel
theorem lk_X11_113 : pm_LV RX11 113 yX11_add 1 := ⟨by decide +kernel, by decide +kernel, by decide +kernel, by decide +kernel, by decide +kernel, by decide +kernel⟩
theorem lk_X11_117 : pm_LV RX11 117 yX11_isCar 1 := ⟨by decide +kernel, by decide +kernel, by decide +kernel, by decide +kernel, by decide +kernel, by decide +kernel⟩
theorem lk_X11_123 : pm_LV RX11 123 yX11_placeFor 1 := ⟨by decide +kernel, by decide +kernel, by decide +kernel, by decide +kernel, by decide +kernel, by decide +kernel⟩
theorem lk_X11_127 : pm_LV RX11 127 yX11_fits 2 := ⟨by decide +kernel, by decide +kernel, by decide +kernel, by decide +kernel, by decide +kernel, by decide +kernel⟩
theorem lk_X11_131 : pm_LV RX11 131 yX11_drive 0 := ⟨by decide +kernel, by decide +kernel, by decide +kernel, by decide +kernel, by decide +kernel, by decide +kernel⟩
theorem lk_X11_134 : pm_LV RX11 134 yX11_goes 1 := ⟨by decide +kernel, by decide +kernel, by decide +kernel, by decide +kernel, by decide +kernel, by decide +kernel⟩
theorem lk_X11_139 : pm_LV RX11 139 yX11_isGood 0 := ⟨by decide +kernel, by decide +kernel, by decide +kernel, by decide +kernel, by decide +kernel, by decide +kernel⟩
theorem lk_X11_145 : pm_LV RX11 145 yX11_step 0 := ⟨by decide +kernel, by decide +kernel, by decide +kernel, by decide +kernel, by decide +kernel, by decide +kernel⟩
theorem lk_X11_148 : pm_LV RX11 148 yX11_choose 2 := ⟨by decide +kernel, by decide +kernel, by decide +kernel, by decide +kernel, by decide +kernel, by decide +kernel⟩
theorem lk_X11_152 : pm_LV RX11 152 yX11_clearTold 0 := ⟨by decide +kernel, by decide +kernel, by decide +kernel, by decide +kernel, by decide +kernel, by decide +kernel⟩
theorem lk_X11_155 : pm_LV RX11 155 yX11_finishes 2 := ⟨by decide +kernel, by decide +kernel, by decide +kernel, by decide +kernel, by decide +kernel, by decide +kernel⟩
theorem lk_X11_158 : pm_LV RX11 158 yX11_rowsOf 1 := ⟨by decide +kernel, by decide +kernel, by decide +kernel, by decide +kernel, by decide +kernel, by decide +kernel⟩
theorem lk_X11_164 : pm_LV RX11 164 yX11_isPlain 0 := ⟨by decide +kernel, by decide +kernel, by decide +kernel, by decide +kernel, by decide +kernel, by decide +kernel⟩
theorem lk_X11_167 : pm_LV RX11 167 yX11_isWell 0 := ⟨by decide +kernel, by decide +kernel, by decide +kernel, by decide +kernel, by decide +kernel, by decide +kernel⟩
theorem lk_X11_170 : pm_LV RX11 170 yX11_rankOf 0 := ⟨by decide +kernel, by decide +kernel, by decide +kernel, by decide +kernel, by decide +kernel, by decide +kernel⟩
theorem lk_X11_176 : pm_LV RX11 176 yX11_fromRank 2 := ⟨by decide +kernel, by decide +kernel, by decide +kernel, by decide +kernel, by decide +kernel, by decide +kernel⟩
theorem lk_X11_180 : pm_LV RX11 180 yX11_sort 0 := ⟨by decide +kernel, by decide +kernel, by decide +kernel, by decide +kernel, by decide +kernel, by decide +kernel⟩
theorem lk_X11_183 : pm_LV RX11 183 yX11_findRising 1 := ⟨by decide +kernel, by decide +kernel, by decide +kernel, by decide +kernel, by decide +kernel, by decide +kernel⟩
theorem lk_X11_186 : pm_LV RX11 186 yX11_risingsOf 1 := ⟨by decide +kernel, by decide +kernel, by decide +kernel, by decide +kernel, by decide +kernel, by decide +kernel⟩
theorem lk_X11_189 : pm_LV RX11 189 yX11_isFull 0 := ⟨by decide +kernel, by decide +kernel, by decide +kernel, by decide +kernel, by decide +kernel, by decide +kernel⟩
theorem lk_X11_192 : pm_LV RX11 192 yX11_wishUpTo 1 := ⟨by decide +kernel, by decide +kernel, by decide +kernel, by decide +kernel, by decide +kernel, by decide +kernel⟩
theorem lk_X11_195 : pm_LS RX11 195 yX11_power 2 := ⟨Or.inl (by decide +kernel), by decide +kernel, by decide +kernel, by decide +kernel, by decide +kernel⟩
theorem lk_X11_199 : pm_LS RX11 199 yX11_primesOf 1 := ⟨Or.inl (by decide +kernel), by decide +kernel, by decide +kernel, by decide +kernel, by decide +kernel⟩
theorem lk_X11_202 : pm_LV RX11 202 yX11_findTree 0 := ⟨by decide +kernel, by decide +kernel, by decide +kernel, by decide +kernel, by decide +kernel, by decide +kernel⟩
theorem lk_X11_205 : pm_LV RX11 205 yX11_isBelow 2 := ⟨by decide +kernel, by decide +kernel, by decide +kernel, by decide +kernel, by decide +kernel, by decide +kernel⟩
theorem lk_X11_208 : pm_LV RX11 208 yX11_neighbourOf 1 := ⟨by decide +kernel, by decide +kernel, by decide +kernel, by decide +kernel, by decide +kernel, by decide +kernel⟩
theorem lk_X11_211 : pm_LS RX11 211 yX11_isSheet 2 := ⟨Or.inl (by decide +kernel), by decide +kernel, by decide +kernel, by decide +kernel, by decide +kernel⟩
theorem lk_X11_214 : pm_LV RX11 214 yX11_against 4 := ⟨by decide +kernel, by decide +kernel, by decide +kernel, by decide +kernel, by decide +kernel, by decide +kernel⟩
theorem lk_X11_218 : pm_LV RX11 218 yX11_read 2 := ⟨by decide +kernel, by decide +kernel, by decide +kernel, by decide +kernel, by decide +kernel, by decide +kernel⟩
theorem lk_X11_222 : pm_LV RX11 222 yX11_hang 0 := ⟨by decide +kernel, by decide +kernel, by decide +kernel, by decide +kernel, by decide +kernel, by decide +kernel⟩
theorem lk_X11_225 : pm_LV RX11 225 yX11_plant 0 := ⟨by decide +kernel, by decide +kernel, by decide +kernel, by decide +kernel, by decide +kernel, by decide +kernel⟩
theorem lk_X11_228 : pm_LV RX11 228 yX11_findWalk 0 := ⟨by decide +kernel, by decide +kernel, by decide +kernel, by decide +kernel, by decide +kernel, by decide +kernel⟩
theorem lk_X11_231 : pm_LV RX11 231 yX11_area 0 := ⟨by decide +kernel, by decide +kernel, by decide +kernel, by decide +kernel, by decide +kernel, by decide +kernel⟩
theorem lk_X11_235 : pm_LV RX11 235 yX11_dinv 0 := ⟨by decide +kernel, by decide +kernel, by decide +kernel, by decide +kernel, by decide +kernel, by decide +kernel⟩
theorem lk_X11_242 : pm_LV RX11 242 yX11_withSum 2 := ⟨by decide +kernel, by decide +kernel, by decide +kernel, by decide +kernel, by decide +kernel, by decide +kernel⟩
theorem lk_X11_245 : pm_LV RX11 245 yX11_withLucky 2 := ⟨by decide +kernel, by decide +kernel, by decide +kernel, by decide +kernel, by decide +kernel, by decide +kernel⟩
theorem lk_X11_248 : pm_LV RX11 248 yX11_withParts 2 := ⟨by decide +kernel, by decide +kernel, by decide +kernel, by decide +kernel, by decide +kernel, by decide +kernel⟩
theorem lk_X11_251 : pm_LS RX11 251 yX11_allOf 1 := ⟨Or.inl (by decide +kernel), by decide +kernel, by decide +kernel, by decide +kernel, by decide +kernel⟩
theorem lo_X2_3 : Cond.methodLink RX2 3 objectInit ∈ lw_tbl := by decide +kernel
theorem fl_X2_9 : pm_FL RX2 9 2 0 = true := by decide +kernel
theorem fl_X2_15 : pm_FL RX2 15 5 1 = true := by decide +kernel
theorem fl_X2_21 : pm_FL RX2 21 5 3 = true := by decide +kernel
theorem fl_X2_24 : pm_FL RX2 24 5 6 = true := by decide +kernel
theorem lk_X2_27 : pm_LV RX2 27 yX2_moveOn 3 := ⟨by decide +kernel, by decide +kernel, by decide +kernel, by decide +kernel, by decide +kernel, by decide +kernel⟩
theorem lk_X2_31 : pm_LV RX2 31 yX5_firstFree 2 := ⟨by decide +kernel, by decide +kernel, by decide +kernel, by decide +kernel, by decide +kernel, by decide +kernel⟩
theorem lk_X2_35 : pm_LV RX2 35 yX5_bodyAt 3 := ⟨by decide +kernel, by decide +kernel, by decide +kernel, by decide +kernel, by decide +kernel, by decide +kernel⟩
theorem lo_X3_3 : Cond.methodLink RX3 3 objectInit ∈ lw_tbl := by decide +kernel
theorem fl_X3_9 : pm_FL RX3 9 3 0 = true := by decide +kernel
theorem fl_X3_17 : pm_FL RX3 17 3 1 = true := by decide +kernel
theorem fl_X3_20 : pm_FL RX3 20 3 2 = true := by decide +kernel
theorem lk_X3_24 : pm_LV RX3 24 yX0_howMany 2 := ⟨by decide +kernel, by decide +kernel, by decide +kernel, by decide +kernel, by decide +kernel, by decide +kernel⟩
theorem lk_X3_30 : pm_LV RX3 30 yX9_build 2 := ⟨by decide +kernel, by decide +kernel, by decide +kernel, by decide +kernel, by decide +kernel, by decide +kernel⟩
theorem lk_X3_36 : pm_LV RX3 36 yX9_area 0 := ⟨by decide +kernel, by decide +kernel, by decide +kernel, by decide +kernel, by decide +kernel, by decide +kernel⟩
theorem lk_X3_40 : pm_LV RX3 40 yX9_dinv 0 := ⟨by decide +kernel, by decide +kernel, by decide +kernel, by decide +kernel, by decide +kernel, by decide +kernel⟩
theorem lk_X3_43 : pm_LV RX3 43 yX3_element 2 := ⟨by decide +kernel, by decide +kernel, by decide +kernel, by decide +kernel, by decide +kernel, by decide +kernel⟩
theorem lk_X3_47 : pm_LV RX3 47 yX0_stepOn 3 := ⟨by decide +kernel, by decide +kernel, by decide +kernel, by decide +kernel, by decide +kernel, by decide +kernel⟩
theorem lo_X4_3 : Cond.methodLink RX4 3 objectInit ∈ lw_tbl := by decide +kernel
theorem fl_X4_11 : pm_FL RX4 11 4 0 = true := by decide +kernel
theorem lk_X4_16 : pm_LV RX4 16 yX4_fillEndings 2 := ⟨by decide +kernel, by decide +kernel, by decide +kernel, by decide +kernel, by decide +kernel, by decide +kernel⟩
theorem lo_X5_3 : Cond.methodLink RX5 3 objectInit ∈ lw_tbl := by decide +kernel
theorem fl_X5_9 : pm_FL RX5 9 5 0 = true := by decide +kernel
theorem fl_X5_15 : pm_FL RX5 15 5 1 = true := by decide +kernel
theorem fl_X5_18 : pm_FL RX5 18 5 2 = true := by decide +kernel
theorem fl_X5_21 : pm_FL RX5 21 5 3 = true := by decide +kernel
theorem fl_X5_24 : pm_FL RX5 24 5 4 = true := by decide +kernel
theorem fl_X5_27 : pm_FL RX5 27 5 5 = true := by decide +kernel
theorem fl_X5_31 : pm_FL RX5 31 5 6 = true := by decide +kernel
theorem fl_X5_34 : pm_FL RX5 34 5 7 = true := by decide +kernel
theorem fl_X5_37 : pm_FL RX5 37 5 8 = true := by decide +kernel
theorem fl_X5_40 : pm_FL RX5 40 5 9 = true := by decide +kernel
theorem lk_X5_43 : pm_LV RX5 43 yX5_leaveOnly 1 := ⟨by decide +kernel, by decide +kernel, by decide +kernel, by decide +kernel, by decide +kernel, by decide +kernel⟩
theorem lk_X5_47 : pm_LV RX5 47 yX5_settle 0 := ⟨by decide +kernel, by decide +kernel, by decide +kernel, by decide +kernel, by decide +kernel, by decide +kernel⟩
theorem lk_X5_50 : pm_LV RX5 50 yX5_add 1 := ⟨by decide +kernel, by decide +kernel, by decide +kernel, by decide +kernel, by decide +kernel, by decide +kernel⟩
theorem lk_X5_53 : pm_LV RX5 53 yX5_firstFree 2 := ⟨by decide +kernel, by decide +kernel, by decide +kernel, by decide +kernel, by decide +kernel, by decide +kernel⟩
theorem lk_X5_57 : pm_LV RX5 57 yX5_bodyAt 3 := ⟨by decide +kernel, by decide +kernel, by decide +kernel, by decide +kernel, by decide +kernel, by decide +kernel⟩
theorem lk_X5_61 : pm_LV RX5 61 yX5_isFree 2 := ⟨by decide +kernel, by decide +kernel, by decide +kernel, by decide +kernel, by decide +kernel, by decide +kernel⟩
theorem lk_X5_65 : pm_LV RX5 65 yX5_comesIn 1 := ⟨by decide +kernel, by decide +kernel, by decide +kernel, by decide +kernel, by decide +kernel, by decide +kernel⟩
theorem lk_X5_69 : pm_LV RX5 69 yX5_isLucky 1 := ⟨by decide +kernel, by decide +kernel, by decide +kernel, by decide +kernel, by decide +kernel, by decide +kernel⟩
theorem lk_X5_72 : pm_LV RX5 72 yX5_far 1 := ⟨by decide +kernel, by decide +kernel, by decide +kernel, by decide +kernel, by decide +kernel, by decide +kernel⟩
theorem lm_X5_76 : Cond.methodLink RX5 76 Lib.Math.max.name ∈ lw_tbl := by decide +kernel
theorem lk_X5_81 : pm_LV RX5 81 yX5_howManyIn 0 := ⟨by decide +kernel, by decide +kernel, by decide +kernel, by decide +kernel, by decide +kernel, by decide +kernel⟩
theorem lc_X5_86 : Cond.methodLink RX5 86 arraycopyName ∈ lw_tbl := by decide +kernel
theorem lk_X5_92 : pm_LV RX5 92 yX5_wishesUpTo 1 := ⟨by decide +kernel, by decide +kernel, by decide +kernel, by decide +kernel, by decide +kernel, by decide +kernel⟩
theorem lk_X5_95 : pm_LV RX5 95 yX5_lastOfGreatestWish 0 := ⟨by decide +kernel, by decide +kernel, by decide +kernel, by decide +kernel, by decide +kernel, by decide +kernel⟩
theorem lo_X6_3 : Cond.methodLink RX6 3 objectInit ∈ lw_tbl := by decide +kernel
theorem fl_X6_9 : pm_FL RX6 9 6 0 = true := by decide +kernel
theorem fl_X6_15 : pm_FL RX6 15 6 1 = true := by decide +kernel
theorem fl_X6_20 : pm_FL RX6 20 6 2 = true := by decide +kernel
theorem lk_X6_23 : pm_LV RX6 23 yX6_hasSheet 1 := ⟨by decide +kernel, by decide +kernel, by decide +kernel, by decide +kernel, by decide +kernel, by decide +kernel⟩
theorem lk_X6_27 : pm_LV RX6 27 yX6_hasLane 1 := ⟨by decide +kernel, by decide +kernel, by decide +kernel, by decide +kernel, by decide +kernel, by decide +kernel⟩
theorem lk_X6_30 : pm_LV RX6 30 yX6_holdsNothing 1 := ⟨by decide +kernel, by decide +kernel, by decide +kernel, by decide +kernel, by decide +kernel, by decide +kernel⟩
theorem lo_X7_3 : Cond.methodLink RX7 3 objectInit ∈ lw_tbl := by decide +kernel
theorem fl_X7_9 : pm_FL RX7 9 7 1 = true := by decide +kernel
theorem fl_X7_17 : pm_FL RX7 17 7 2 = true := by decide +kernel
theorem fl_X7_20 : pm_FL RX7 20 7 3 = true := by decide +kernel
theorem fl_X7_23 : pm_FL RX7 23 7 4 = true := by decide +kernel
theorem fl_X7_27 : pm_FL RX7 27 7 0 = true := by decide +kernel
theorem lk_X7_31 : pm_LV RX7 31 yX7_learn 1 := ⟨by decide +kernel, by decide +kernel, by decide +kernel, by decide +kernel, by decide +kernel, by decide +kernel⟩
theorem lk_X7_35 : pm_LV RX7 35 yX7_sidesOf 2 := ⟨by decide +kernel, by decide +kernel, by decide +kernel, by decide +kernel, by decide +kernel, by decide +kernel⟩
theorem lm_X7_39 : Cond.methodLink RX7 39 Lib.Math.max.name ∈ lw_tbl := by decide +kernel
theorem lk_X7_45 : pm_LV RX7 45 yX1_of 2 := ⟨by decide +kernel, by decide +kernel, by decide +kernel, by decide +kernel, by decide +kernel, by decide +kernel⟩
theorem lk_X7_50 : pm_LS RX7 50 yX10_power 2 := ⟨Or.inr (by decide +kernel), by decide +kernel, by decide +kernel, by decide +kernel, by decide +kernel⟩
theorem lk_X7_54 : pm_LV RX7 54 yX7_withOnePartMore 1 := ⟨by decide +kernel, by decide +kernel, by decide +kernel, by decide +kernel, by decide +kernel, by decide +kernel⟩
theorem lk_X7_58 : pm_LV RX7 58 yX7_goodRows 1 := ⟨by decide +kernel, by decide +kernel, by decide +kernel, by decide +kernel, by decide +kernel, by decide +kernel⟩
theorem lk_X7_61 : pm_LV RX7 61 yX7_addGoes 2 := ⟨by decide +kernel, by decide +kernel, by decide +kernel, by decide +kernel, by decide +kernel, by decide +kernel⟩
theorem lk_X7_65 : pm_LV RX7 65 yX7_addLucky 2 := ⟨by decide +kernel, by decide +kernel, by decide +kernel, by decide +kernel, by decide +kernel, by decide +kernel⟩
theorem lk_X7_68 : pm_LV RX7 68 yX7_mostGoes 1 := ⟨by decide +kernel, by decide +kernel, by decide +kernel, by decide +kernel, by decide +kernel, by decide +kernel⟩
theorem lo_X8_3 : Cond.methodLink RX8 3 objectInit ∈ lw_tbl := by decide +kernel
theorem fl_X8_9 : pm_FL RX8 9 8 0 = true := by decide +kernel
theorem fl_X8_15 : pm_FL RX8 15 8 1 = true := by decide +kernel
theorem fl_X8_19 : pm_FL RX8 19 8 2 = true := by decide +kernel
theorem fl_X8_22 : pm_FL RX8 22 8 3 = true := by decide +kernel
theorem fl_X8_25 : pm_FL RX8 25 8 4 = true := by decide +kernel
theorem fl_X8_28 : pm_FL RX8 28 8 5 = true := by decide +kernel
theorem fl_X8_31 : pm_FL RX8 31 8 6 = true := by decide +kernel
theorem fl_X8_34 : pm_FL RX8 34 8 7 = true := by decide +kernel
theorem lk_X8_37 : pm_LV RX8 37 yX8_hangCars 1 := ⟨by decide +kernel, by decide +kernel, by decide +kernel, by decide +kernel, by decide +kernel, by decide +kernel⟩
theorem lk_X8_41 : pm_LV RX8 41 yX8_greatestWithOne 0 := ⟨by decide +kernel, by decide +kernel, by decide +kernel, by decide +kernel, by decide +kernel, by decide +kernel⟩
theorem lk_X8_45 : pm_LV RX8 45 yX8_strike 2 := ⟨by decide +kernel, by decide +kernel, by decide +kernel, by decide +kernel, by decide +kernel, by decide +kernel⟩
theorem lo_X9_3 : Cond.methodLink RX9 3 objectInit ∈ lw_tbl := by decide +kernel
theorem fl_X9_9 : pm_FL RX9 9 9 0 = true := by decide +kernel
theorem fl_X9_15 : pm_FL RX9 15 9 1 = true := by decide +kernel
theorem fl_X9_19 : pm_FL RX9 19 9 2 = true := by decide +kernel
theorem lk_X9_22 : pm_LV RX9 22 yX9_countsFor 2 := ⟨by decide +kernel, by decide +kernel, by decide +kernel, by decide +kernel, by decide +kernel, by decide +kernel⟩
theorem pk_X0_init : Cond.code yX0_init cX0_init 2 none ∈ lw_tbl := List.mem_of_getElem? (i := lw_privs.length + 98) (by decide +kernel)
theorem pk_X0_howMany : Cond.code yX0_howMany cX0_howMany 3 (some .long) ∈ lw_tbl := List.mem_of_getElem? (i := lw_privs.length + 423) (by decide +kernel)
theorem pk_X0_primeRows : Cond.code yX0_primeRows cX0_primeRows 2 (some .long) ∈ lw_tbl := List.mem_of_getElem? (i := lw_privs.length + 572) (by decide +kernel)
theorem pk_X0_numberOf : Cond.code yX0_numberOf cX0_numberOf 8 (some .long) ∈ lw_tbl := List.mem_of_getElem? (i := lw_privs.length + 443) (by decide +kernel)
theorem pk_X0_fillRow : Cond.code yX0_fillRow cX0_fillRow 12 none ∈ lw_tbl := List.mem_of_getElem? (i := lw_privs.length + 472) (by decide +kernel)
theorem pk_X0_stepOn : Cond.code yX0_stepOn cX0_stepOn 6 (some .boolean) ∈ lw_tbl := List.mem_of_getElem? (i := lw_privs.length + 485) (by decide +kernel)
theorem pk_X0_canWishOneMore : Cond.code yX0_canWishOneMore cX0_canWishOneMore 6 (some .boolean) ∈ lw_tbl := List.mem_of_getElem? (i := lw_privs.length + 489) (by decide +kernel)
theorem pk_X0_forgetWishers : Cond.code yX0_forgetWishers cX0_forgetWishers 2 none ∈ lw_tbl := List.mem_of_getElem? (i := lw_privs.length + 447) (by decide +kernel)
theorem pk_X0_rowsWith : Cond.code yX0_rowsWith cX0_rowsWith 6 (some .long) ∈ lw_tbl := List.mem_of_getElem? (i := lw_privs.length + 451) (by decide +kernel)
theorem pk_X0_endings : Cond.code yX0_endings cX0_endings 6 (some .long) ∈ lw_tbl := List.mem_of_getElem? (i := lw_privs.length + 455) (by decide +kernel)
theorem pk_X0_wishHere : Cond.code yX0_wishHere cX0_wishHere 6 (some .long) ∈ lw_tbl := List.mem_of_getElem? (i := lw_privs.length + 459) (by decide +kernel)
theorem pk_X1_init : Cond.code yX1_init cX1_init 3 none ∈ lw_tbl := List.mem_of_getElem? (i := lw_privs.length + 28) (by decide +kernel)
theorem pk_X1_of : Cond.code yX1_of cX1_of 3 (some .int) ∈ lw_tbl := List.mem_of_getElem? (i := lw_privs.length + 463) (by decide +kernel)
theorem pk_X2_init : Cond.code yX2_init cX2_init 1 none ∈ lw_tbl := List.mem_of_getElem? (i := lw_privs.length + 88) (by decide +kernel)
theorem pk_X2_goodRows : Cond.code yX2_goodRows cX2_goodRows 5 (some .int) ∈ lw_tbl := List.mem_of_getElem? (i := lw_privs.length + 405) (by decide +kernel)
theorem pk_X2_moveOn : Cond.code yX2_moveOn cX2_moveOn 7 none ∈ lw_tbl := List.mem_of_getElem? (i := lw_privs.length + 409) (by decide +kernel)
theorem pk_X3_init : Cond.code yX3_init cX3_init 1 none ∈ lw_tbl := List.mem_of_getElem? (i := lw_privs.length + 181) (by decide +kernel)
theorem pk_X3_fill : Cond.code yX3_fill cX3_fill 6 none ∈ lw_tbl := List.mem_of_getElem? (i := lw_privs.length + 696) (by decide +kernel)
theorem pk_X3_rowsWith : Cond.code yX3_rowsWith cX3_rowsWith 4 (some .int) ∈ lw_tbl := List.mem_of_getElem? (i := lw_privs.length + 709) (by decide +kernel)
theorem pk_X3_element : Cond.code yX3_element cX3_element 3 (some .int) ∈ lw_tbl := List.mem_of_getElem? (i := lw_privs.length + 704) (by decide +kernel)
theorem pk_X4_init : Cond.code yX4_init cX4_init 1 none ∈ lw_tbl := List.mem_of_getElem? (i := lw_privs.length + 115) (by decide +kernel)
theorem pk_X4_howMany : Cond.code yX4_howMany cX4_howMany 3 (some .long) ∈ lw_tbl := List.mem_of_getElem? (i := lw_privs.length + 524) (by decide +kernel)
theorem pk_X4_numberOf : Cond.code yX4_numberOf cX4_numberOf 9 (some .long) ∈ lw_tbl := List.mem_of_getElem? (i := lw_privs.length + 540) (by decide +kernel)
theorem pk_X4_fillRow : Cond.code yX4_fillRow cX4_fillRow 10 none ∈ lw_tbl := List.mem_of_getElem? (i := lw_privs.length + 548) (by decide +kernel)
theorem pk_X4_fillEndings : Cond.code yX4_fillEndings cX4_fillEndings 5 none ∈ lw_tbl := List.mem_of_getElem? (i := lw_privs.length + 528) (by decide +kernel)
theorem pk_X5_init : Cond.code yX5_init cX5_init 1 none ∈ lw_tbl := List.mem_of_getElem? (i := lw_privs.length + 41) (by decide +kernel)
theorem pk_X5_lay : Cond.code yX5_lay cX5_lay 4 none ∈ lw_tbl := List.mem_of_getElem? (i := lw_privs.length + 273) (by decide +kernel)
theorem pk_X5_add : Cond.code yX5_add cX5_add 2 none ∈ lw_tbl := List.mem_of_getElem? (i := lw_privs.length + 305) (by decide +kernel)
theorem pk_X5_leaveOnly : Cond.code yX5_leaveOnly cX5_leaveOnly 2 none ∈ lw_tbl := List.mem_of_getElem? (i := lw_privs.length + 277) (by decide +kernel)
theorem pk_X5_take : Cond.code yX5_take cX5_take 4 none ∈ lw_tbl := List.mem_of_getElem? (i := lw_privs.length + 476) (by decide +kernel)
theorem pk_X5_settle : Cond.code yX5_settle cX5_settle 3 none ∈ lw_tbl := List.mem_of_getElem? (i := lw_privs.length + 281) (by decide +kernel)
theorem pk_X5_isFree : Cond.code yX5_isFree cX5_isFree 3 (some .boolean) ∈ lw_tbl := List.mem_of_getElem? (i := lw_privs.length + 289) (by decide +kernel)
theorem pk_X5_firstFree : Cond.code yX5_firstFree cX5_firstFree 4 (some .int) ∈ lw_tbl := List.mem_of_getElem? (i := lw_privs.length + 285) (by decide +kernel)
theorem pk_X5_bodyAt : Cond.code yX5_bodyAt cX5_bodyAt 7 (some .int) ∈ lw_tbl := List.mem_of_getElem? (i := lw_privs.length + 293) (by decide +kernel)
theorem pk_X5_hasPlace : Cond.code yX5_hasPlace cX5_hasPlace 2 (some .boolean) ∈ lw_tbl := List.mem_of_getElem? (i := lw_privs.length + 301) (by decide +kernel)
theorem pk_X5_hasCar : Cond.code yX5_hasCar cX5_hasCar 2 (some .boolean) ∈ lw_tbl := List.mem_of_getElem? (i := lw_privs.length + 314) (by decide +kernel)
theorem pk_X5_comesIn : Cond.code yX5_comesIn cX5_comesIn 2 (some .boolean) ∈ lw_tbl := List.mem_of_getElem? (i := lw_privs.length + 335) (by decide +kernel)
theorem pk_X5_isLucky : Cond.code yX5_isLucky cX5_isLucky 2 (some .boolean) ∈ lw_tbl := List.mem_of_getElem? (i := lw_privs.length + 343) (by decide +kernel)
theorem pk_X5_far : Cond.code yX5_far cX5_far 3 (some .int) ∈ lw_tbl := List.mem_of_getElem? (i := lw_privs.length + 339) (by decide +kernel)
theorem pk_X5_carOn : Cond.code yX5_carOn cX5_carOn 3 (some .int) ∈ lw_tbl := List.mem_of_getElem? (i := lw_privs.length + 351) (by decide +kernel)
theorem pk_X5_howManyIn : Cond.code yX5_howManyIn cX5_howManyIn 3 (some .int) ∈ lw_tbl := List.mem_of_getElem? (i := lw_privs.length + 359) (by decide +kernel)
theorem pk_X5_howManyLucky : Cond.code yX5_howManyLucky cX5_howManyLucky 3 (some .int) ∈ lw_tbl := List.mem_of_getElem? (i := lw_privs.length + 364) (by decide +kernel)
theorem pk_X5_farOfAll : Cond.code yX5_farOfAll cX5_farOfAll 3 (some .int) ∈ lw_tbl := List.mem_of_getElem? (i := lw_privs.length + 369) (by decide +kernel)
theorem pk_X5_farthest : Cond.code yX5_farthest cX5_farthest 3 (some .int) ∈ lw_tbl := List.mem_of_getElem? (i := lw_privs.length + 374) (by decide +kernel)
theorem pk_X5_allIn : Cond.code yX5_allIn cX5_allIn 1 (some .boolean) ∈ lw_tbl := List.mem_of_getElem? (i := lw_privs.length + 391) (by decide +kernel)
theorem pk_X5_isPlain : Cond.code yX5_isPlain cX5_isPlain 2 (some .boolean) ∈ lw_tbl := List.mem_of_getElem? (i := lw_privs.length + 439) (by decide +kernel)
theorem pk_X5_isRising : Cond.code yX5_isRising cX5_isRising 2 (some .boolean) ∈ lw_tbl := List.mem_of_getElem? (i := lw_privs.length + 536) (by decide +kernel)
theorem pk_X5_hasFewRows : Cond.code yX5_hasFewRows cX5_hasFewRows 3 (some .boolean) ∈ lw_tbl := List.mem_of_getElem? (i := lw_privs.length + 400) (by decide +kernel)
theorem pk_X5_rowsLikeIt : Cond.code yX5_rowsLikeIt cX5_rowsLikeIt 6 (some .long) ∈ lw_tbl := List.mem_of_getElem? (i := lw_privs.length + 497) (by decide +kernel)
theorem pk_X5_ordersOfWishes : Cond.code yX5_ordersOfWishes cX5_ordersOfWishes 6 (some .long) ∈ lw_tbl := List.mem_of_getElem? (i := lw_privs.length + 505) (by decide +kernel)
theorem pk_X5_wishesUpTo : Cond.code yX5_wishesUpTo cX5_wishesUpTo 4 (some .int) ∈ lw_tbl := List.mem_of_getElem? (i := lw_privs.length + 564) (by decide +kernel)
theorem pk_X5_sortWishes : Cond.code yX5_sortWishes cX5_sortWishes 4 (some .int) ∈ lw_tbl := List.mem_of_getElem? (i := lw_privs.length + 513) (by decide +kernel)
theorem pk_X5_cutBits : Cond.code yX5_cutBits cX5_cutBits 3 (some .int) ∈ lw_tbl := List.mem_of_getElem? (i := lw_privs.length + 560) (by decide +kernel)
theorem pk_X5_mendWishes : Cond.code yX5_mendWishes cX5_mendWishes 3 (some .int) ∈ lw_tbl := List.mem_of_getElem? (i := lw_privs.length + 580) (by decide +kernel)
theorem pk_X5_lastOfGreatestWish : Cond.code yX5_lastOfGreatestWish cX5_lastOfGreatestWish 3 (some .int) ∈ lw_tbl := List.mem_of_getElem? (i := lw_privs.length + 584) (by decide +kernel)
theorem pk_X6_init : Cond.code yX6_init cX6_init 2 none ∈ lw_tbl := List.mem_of_getElem? (i := lw_privs.length + 222) (by decide +kernel)
theorem pk_X6_hasSheet : Cond.code yX6_hasSheet cX6_hasSheet 2 (some .boolean) ∈ lw_tbl := List.mem_of_getElem? (i := lw_privs.length + 632) (by decide +kernel)
theorem pk_X6_hasLane : Cond.code yX6_hasLane cX6_hasLane 2 (some .boolean) ∈ lw_tbl := List.mem_of_getElem? (i := lw_privs.length + 636) (by decide +kernel)
theorem pk_X6_holdsNothing : Cond.code yX6_holdsNothing cX6_holdsNothing 2 (some .boolean) ∈ lw_tbl := List.mem_of_getElem? (i := lw_privs.length + 640) (by decide +kernel)
theorem pk_X6_refusal : Cond.code yX6_refusal cX6_refusal 5 (some .int) ∈ lw_tbl := List.mem_of_getElem? (i := lw_privs.length + 628) (by decide +kernel)
theorem pk_X6_renew : Cond.code yX6_renew cX6_renew 5 none ∈ lw_tbl := List.mem_of_getElem? (i := lw_privs.length + 778) (by decide +kernel)
theorem pk_X6_remove : Cond.code yX6_remove cX6_remove 2 (some .int) ∈ lw_tbl := List.mem_of_getElem? (i := lw_privs.length + 787) (by decide +kernel)
theorem pk_X6_put : Cond.code yX6_put cX6_put 4 none ∈ lw_tbl := List.mem_of_getElem? (i := lw_privs.length + 795) (by decide +kernel)
theorem pk_X6_allWithin : Cond.code yX6_allWithin cX6_allWithin 7 (some .boolean) ∈ lw_tbl := List.mem_of_getElem? (i := lw_privs.length + 644) (by decide +kernel)
theorem pk_X6_copyTo : Cond.code yX6_copyTo cX6_copyTo 6 none ∈ lw_tbl := List.mem_of_getElem? (i := lw_privs.length + 648) (by decide +kernel)
theorem pk_X7_init : Cond.code yX7_init cX7_init 2 none ∈ lw_tbl := List.mem_of_getElem? (i := lw_privs.length + 199) (by decide +kernel)
theorem pk_X7_withGoes : Cond.code yX7_withGoes cX7_withGoes 3 (some .long) ∈ lw_tbl := List.mem_of_getElem? (i := lw_privs.length + 717) (by decide +kernel)
theorem pk_X7_withLucky : Cond.code yX7_withLucky cX7_withLucky 3 (some .long) ∈ lw_tbl := List.mem_of_getElem? (i := lw_privs.length + 739) (by decide +kernel)
theorem pk_X7_withLastAt : Cond.code yX7_withLastAt cX7_withLastAt 3 (some .long) ∈ lw_tbl := List.mem_of_getElem? (i := lw_privs.length + 743) (by decide +kernel)
theorem pk_X7_withFirstWish : Cond.code yX7_withFirstWish cX7_withFirstWish 6 (some .long) ∈ lw_tbl := List.mem_of_getElem? (i := lw_privs.length + 756) (by decide +kernel)
theorem pk_X7_withOnes : Cond.code yX7_withOnes cX7_withOnes 3 (some .long) ∈ lw_tbl := List.mem_of_getElem? (i := lw_privs.length + 760) (by decide +kernel)
theorem pk_X7_withCuts : Cond.code yX7_withCuts cX7_withCuts 5 (some .long) ∈ lw_tbl := List.mem_of_getElem? (i := lw_privs.length + 764) (by decide +kernel)
theorem pk_X7_withOnePartMore : Cond.code yX7_withOnePartMore cX7_withOnePartMore 5 (some .long) ∈ lw_tbl := List.mem_of_getElem? (i := lw_privs.length + 768) (by decide +kernel)
theorem pk_X7_sidesOf : Cond.code yX7_sidesOf cX7_sidesOf 3 (some .long) ∈ lw_tbl := List.mem_of_getElem? (i := lw_privs.length + 747) (by decide +kernel)
theorem pk_X7_goodRows : Cond.code yX7_goodRows cX7_goodRows 2 (some .long) ∈ lw_tbl := List.mem_of_getElem? (i := lw_privs.length + 751) (by decide +kernel)
theorem pk_X7_learn : Cond.code yX7_learn cX7_learn 4 none ∈ lw_tbl := List.mem_of_getElem? (i := lw_privs.length + 721) (by decide +kernel)
theorem pk_X7_mostGoes : Cond.code yX7_mostGoes cX7_mostGoes 2 (some .int) ∈ lw_tbl := List.mem_of_getElem? (i := lw_privs.length + 729) (by decide +kernel)
theorem pk_X7_addGoes : Cond.code yX7_addGoes cX7_addGoes 10 none ∈ lw_tbl := List.mem_of_getElem? (i := lw_privs.length + 725) (by decide +kernel)
theorem pk_X7_addLucky : Cond.code yX7_addLucky cX7_addLucky 9 none ∈ lw_tbl := List.mem_of_getElem? (i := lw_privs.length + 734) (by decide +kernel)
theorem pk_X8_init : Cond.code yX8_init cX8_init 1 none ∈ lw_tbl := List.mem_of_getElem? (i := lw_privs.length + 127) (by decide +kernel)
theorem pk_X8_build : Cond.code yX8_build cX8_build 4 none ∈ lw_tbl := List.mem_of_getElem? (i := lw_privs.length + 592) (by decide +kernel)
theorem pk_X8_hangCars : Cond.code yX8_hangCars cX8_hangCars 5 none ∈ lw_tbl := List.mem_of_getElem? (i := lw_privs.length + 596) (by decide +kernel)
theorem pk_X8_inversions : Cond.code yX8_inversions cX8_inversions 5 (some .int) ∈ lw_tbl := List.mem_of_getElem? (i := lw_privs.length + 604) (by decide +kernel)
theorem pk_X8_codeNumber : Cond.code yX8_codeNumber cX8_codeNumber 4 (some .int) ∈ lw_tbl := List.mem_of_getElem? (i := lw_privs.length + 612) (by decide +kernel)
theorem pk_X8_parentsOfCode : Cond.code yX8_parentsOfCode cX8_parentsOfCode 5 none ∈ lw_tbl := List.mem_of_getElem? (i := lw_privs.length + 652) (by decide +kernel)
theorem pk_X8_greatestWithOne : Cond.code yX8_greatestWithOne cX8_greatestWithOne 2 (some .int) ∈ lw_tbl := List.mem_of_getElem? (i := lw_privs.length + 616) (by decide +kernel)
theorem pk_X8_strike : Cond.code yX8_strike cX8_strike 3 none ∈ lw_tbl := List.mem_of_getElem? (i := lw_privs.length + 620) (by decide +kernel)
theorem pk_X8_takeParents : Cond.code yX8_takeParents cX8_takeParents 4 none ∈ lw_tbl := List.mem_of_getElem? (i := lw_privs.length + 664) (by decide +kernel)
theorem pk_X8_wishesOfParents : Cond.code yX8_wishesOfParents cX8_wishesOfParents 5 (some .boolean) ∈ lw_tbl := List.mem_of_getElem? (i := lw_privs.length + 656) (by decide +kernel)
theorem pk_X9_init : Cond.code yX9_init cX9_init 1 none ∈ lw_tbl := List.mem_of_getElem? (i := lw_privs.length + 163) (by decide +kernel)
theorem pk_X9_build : Cond.code yX9_build cX9_build 6 none ∈ lw_tbl := List.mem_of_getElem? (i := lw_privs.length + 672) (by decide +kernel)
theorem pk_X9_area : Cond.code yX9_area cX9_area 3 (some .int) ∈ lw_tbl := List.mem_of_getElem? (i := lw_privs.length + 680) (by decide +kernel)
theorem pk_X9_dinv : Cond.code yX9_dinv cX9_dinv 4 (some .int) ∈ lw_tbl := List.mem_of_getElem? (i := lw_privs.length + 684) (by decide +kernel)
theorem pk_X9_countsFor : Cond.code yX9_countsFor cX9_countsFor 3 (some .boolean) ∈ lw_tbl := List.mem_of_getElem? (i := lw_privs.length + 688) (by decide +kernel)
theorem pk_X10_init : Cond.code yX10_init cX10_init 2 none ∈ lw_tbl := List.mem_of_getElem? (i := lw_privs.length + 20) (by decide +kernel)
theorem pk_X10_road : Cond.code yX10_road cX10_road 4 (some .int) ∈ lw_tbl := List.mem_of_getElem? (i := lw_privs.length + 269) (by decide +kernel)
theorem pk_X10_car : Cond.code yX10_car cX10_car 2 (some .int) ∈ lw_tbl := List.mem_of_getElem? (i := lw_privs.length + 297) (by decide +kernel)
theorem pk_X10_wish : Cond.code yX10_wish cX10_wish 4 (some .int) ∈ lw_tbl := List.mem_of_getElem? (i := lw_privs.length + 310) (by decide +kernel)
theorem pk_X10_length : Cond.code yX10_length cX10_length 4 (some .int) ∈ lw_tbl := List.mem_of_getElem? (i := lw_privs.length + 318) (by decide +kernel)
theorem pk_X10_undo : Cond.code yX10_undo cX10_undo 1 (some .int) ∈ lw_tbl := List.mem_of_getElem? (i := lw_privs.length + 322) (by decide +kernel)
theorem pk_X10_clear : Cond.code yX10_clear cX10_clear 2 (some .int) ∈ lw_tbl := List.mem_of_getElem? (i := lw_privs.length + 327) (by decide +kernel)
theorem pk_X10_told : Cond.code yX10_told cX10_told 3 (some .int) ∈ lw_tbl := List.mem_of_getElem? (i := lw_privs.length + 331) (by decide +kernel)
theorem pk_X10_on : Cond.code yX10_on cX10_on 2 (some .int) ∈ lw_tbl := List.mem_of_getElem? (i := lw_privs.length + 347) (by decide +kernel)
theorem pk_X10_count : Cond.code yX10_count cX10_count 2 (some .int) ∈ lw_tbl := List.mem_of_getElem? (i := lw_privs.length + 355) (by decide +kernel)
theorem pk_X10_good : Cond.code yX10_good cX10_good 1 (some .int) ∈ lw_tbl := List.mem_of_getElem? (i := lw_privs.length + 387) (by decide +kernel)
theorem pk_X10_ways : Cond.code yX10_ways cX10_ways 1 (some .int) ∈ lw_tbl := List.mem_of_getElem? (i := lw_privs.length + 396) (by decide +kernel)
theorem pk_X10_rows : Cond.code yX10_rows cX10_rows 2 (some .long) ∈ lw_tbl := List.mem_of_getElem? (i := lw_privs.length + 415) (by decide +kernel)
theorem pk_X10_rank : Cond.code yX10_rank cX10_rank 1 (some .long) ∈ lw_tbl := List.mem_of_getElem? (i := lw_privs.length + 431) (by decide +kernel)
theorem pk_X10_unrank : Cond.code yX10_unrank cX10_unrank 4 (some .int) ∈ lw_tbl := List.mem_of_getElem? (i := lw_privs.length + 468) (by decide +kernel)
theorem pk_X10_next : Cond.code yX10_next cX10_next 1 (some .int) ∈ lw_tbl := List.mem_of_getElem? (i := lw_privs.length + 481) (by decide +kernel)
theorem pk_X10_like : Cond.code yX10_like cX10_like 1 (some .long) ∈ lw_tbl := List.mem_of_getElem? (i := lw_privs.length + 493) (by decide +kernel)
theorem pk_X10_orders : Cond.code yX10_orders cX10_orders 1 (some .long) ∈ lw_tbl := List.mem_of_getElem? (i := lw_privs.length + 501) (by decide +kernel)
theorem pk_X10_rise : Cond.code yX10_rise cX10_rise 2 (some .int) ∈ lw_tbl := List.mem_of_getElem? (i := lw_privs.length + 509) (by decide +kernel)
theorem pk_X10_risings : Cond.code yX10_risings cX10_risings 2 (some .long) ∈ lw_tbl := List.mem_of_getElem? (i := lw_privs.length + 520) (by decide +kernel)
theorem pk_X10_riseRank : Cond.code yX10_riseRank cX10_riseRank 1 (some .long) ∈ lw_tbl := List.mem_of_getElem? (i := lw_privs.length + 532) (by decide +kernel)
theorem pk_X10_riseUnrank : Cond.code yX10_riseUnrank cX10_riseUnrank 4 (some .int) ∈ lw_tbl := List.mem_of_getElem? (i := lw_privs.length + 544) (by decide +kernel)
theorem pk_X10_cuts : Cond.code yX10_cuts cX10_cuts 1 (some .int) ∈ lw_tbl := List.mem_of_getElem? (i := lw_privs.length + 552) (by decide +kernel)
theorem pk_X10_primes : Cond.code yX10_primes cX10_primes 1 (some .long) ∈ lw_tbl := List.mem_of_getElem? (i := lw_privs.length + 568) (by decide +kernel)
theorem pk_X10_mend : Cond.code yX10_mend cX10_mend 2 (some .int) ∈ lw_tbl := List.mem_of_getElem? (i := lw_privs.length + 576) (by decide +kernel)
theorem pk_X10_node : Cond.code yX10_node cX10_node 3 (some .int) ∈ lw_tbl := List.mem_of_getElem? (i := lw_privs.length + 588) (by decide +kernel)
theorem pk_X10_inv : Cond.code yX10_inv cX10_inv 1 (some .int) ∈ lw_tbl := List.mem_of_getElem? (i := lw_privs.length + 600) (by decide +kernel)
theorem pk_X10_code : Cond.code yX10_code cX10_code 2 (some .int) ∈ lw_tbl := List.mem_of_getElem? (i := lw_privs.length + 608) (by decide +kernel)
theorem pk_X10_decode : Cond.code yX10_decode cX10_decode 6 (some .int) ∈ lw_tbl := List.mem_of_getElem? (i := lw_privs.length + 624) (by decide +kernel)
theorem pk_X10_grow : Cond.code yX10_grow cX10_grow 6 (some .int) ∈ lw_tbl := List.mem_of_getElem? (i := lw_privs.length + 660) (by decide +kernel)
theorem pk_X10_walk : Cond.code yX10_walk cX10_walk 3 (some .int) ∈ lw_tbl := List.mem_of_getElem? (i := lw_privs.length + 668) (by decide +kernel)
theorem pk_X10_counts : Cond.code yX10_counts cX10_counts 2 (some .int) ∈ lw_tbl := List.mem_of_getElem? (i := lw_privs.length + 676) (by decide +kernel)
theorem pk_X10_both : Cond.code yX10_both cX10_both 4 (some .int) ∈ lw_tbl := List.mem_of_getElem? (i := lw_privs.length + 692) (by decide +kernel)
theorem pk_X10_spread : Cond.code yX10_spread cX10_spread 4 (some .long) ∈ lw_tbl := List.mem_of_getElem? (i := lw_privs.length + 713) (by decide +kernel)
theorem pk_X10_sheet : Cond.code yX10_sheet cX10_sheet 4 (some .int) ∈ lw_tbl := List.mem_of_getElem? (i := lw_privs.length + 772) (by decide +kernel)
theorem pk_X10_drop : Cond.code yX10_drop cX10_drop 2 (some .int) ∈ lw_tbl := List.mem_of_getElem? (i := lw_privs.length + 782) (by decide +kernel)
theorem pk_X10_item : Cond.code yX10_item cX10_item 6 (some .int) ∈ lw_tbl := List.mem_of_getElem? (i := lw_privs.length + 791) (by decide +kernel)
theorem pk_X10_cars : Cond.code yX10_cars cX10_cars 7 (some .int) ∈ lw_tbl := List.mem_of_getElem? (i := lw_privs.length + 799) (by decide +kernel)
theorem pk_X10_keep : Cond.code yX10_keep cX10_keep 6 (some .int) ∈ lw_tbl := List.mem_of_getElem? (i := lw_privs.length + 803) (by decide +kernel)
theorem pk_X10_isRowSize : Cond.code yX10_isRowSize cX10_isRowSize 2 (some .boolean) ∈ lw_tbl := List.mem_of_getElem? (i := lw_privs.length + 419) (by decide +kernel)
theorem pk_X10_isPlainGood : Cond.code yX10_isPlainGood cX10_isPlainGood 1 (some .boolean) ∈ lw_tbl := List.mem_of_getElem? (i := lw_privs.length + 435) (by decide +kernel)
theorem pk_X10_hasTree : Cond.code yX10_hasTree cX10_hasTree 1 (some .boolean) ∈ lw_tbl := List.mem_of_getElem? (i := lw_privs.length + 556) (by decide +kernel)
theorem pk_X10_power : Cond.code yX10_power cX10_power 6 (some .long) ∈ lw_tbl := List.mem_of_getElem? (i := lw_privs.length + 426) (by decide +kernel)
theorem pk_X11_in : Cond.code yX11_in cX11_in 6 (some .boolean) ∈ lw_tbl := List.mem_of_getElem? (i := lw_privs.length + 908) (by decide +kernel)
theorem pk_X11_init : Cond.code yX11_init cX11_init 3 none ∈ lw_tbl := List.mem_of_getElem? (i := lw_privs.length + 808) (by decide +kernel)
theorem pk_X11_road : Cond.code yX11_road cX11_road 4 (some .int) ∈ lw_tbl := List.mem_of_getElem? (i := lw_privs.length + 904) (by decide +kernel)
theorem pk_X11_add : Cond.code yX11_add cX11_add 2 none ∈ lw_tbl := List.mem_of_getElem? (i := lw_privs.length + 918) (by decide +kernel)
theorem pk_X11_car : Cond.code yX11_car cX11_car 2 (some .int) ∈ lw_tbl := List.mem_of_getElem? (i := lw_privs.length + 914) (by decide +kernel)
theorem pk_X11_isCar : Cond.code yX11_isCar cX11_isCar 2 (some .boolean) ∈ lw_tbl := List.mem_of_getElem? (i := lw_privs.length + 926) (by decide +kernel)
theorem pk_X11_wish : Cond.code yX11_wish cX11_wish 4 (some .int) ∈ lw_tbl := List.mem_of_getElem? (i := lw_privs.length + 922) (by decide +kernel)
theorem pk_X11_length : Cond.code yX11_length cX11_length 4 (some .int) ∈ lw_tbl := List.mem_of_getElem? (i := lw_privs.length + 930) (by decide +kernel)
theorem pk_X11_undo : Cond.code yX11_undo cX11_undo 1 (some .int) ∈ lw_tbl := List.mem_of_getElem? (i := lw_privs.length + 935) (by decide +kernel)
theorem pk_X11_clear : Cond.code yX11_clear cX11_clear 2 (some .int) ∈ lw_tbl := List.mem_of_getElem? (i := lw_privs.length + 939) (by decide +kernel)
theorem pk_X11_placeFor : Cond.code yX11_placeFor cX11_placeFor 4 (some .int) ∈ lw_tbl := List.mem_of_getElem? (i := lw_privs.length + 951) (by decide +kernel)
theorem pk_X11_fits : Cond.code yX11_fits cX11_fits 5 (some .boolean) ∈ lw_tbl := List.mem_of_getElem? (i := lw_privs.length + 955) (by decide +kernel)
theorem pk_X11_drive : Cond.code yX11_drive cX11_drive 4 none ∈ lw_tbl := List.mem_of_getElem? (i := lw_privs.length + 947) (by decide +kernel)
theorem pk_X11_goes : Cond.code yX11_goes cX11_goes 3 (some .int) ∈ lw_tbl := List.mem_of_getElem? (i := lw_privs.length + 959) (by decide +kernel)
theorem pk_X11_isGood : Cond.code yX11_isGood cX11_isGood 3 (some .boolean) ∈ lw_tbl := List.mem_of_getElem? (i := lw_privs.length + 976) (by decide +kernel)
theorem pk_X11_isPlain : Cond.code yX11_isPlain cX11_isPlain 3 (some .boolean) ∈ lw_tbl := List.mem_of_getElem? (i := lw_privs.length + 1018) (by decide +kernel)
theorem pk_X11_told : Cond.code yX11_told cX11_told 3 (some .int) ∈ lw_tbl := List.mem_of_getElem? (i := lw_privs.length + 943) (by decide +kernel)
theorem pk_X11_on : Cond.code yX11_on cX11_on 2 (some .int) ∈ lw_tbl := List.mem_of_getElem? (i := lw_privs.length + 963) (by decide +kernel)
theorem pk_X11_count : Cond.code yX11_count cX11_count 9 (some .int) ∈ lw_tbl := List.mem_of_getElem? (i := lw_privs.length + 967) (by decide +kernel)
theorem pk_X11_good : Cond.code yX11_good cX11_good 1 (some .int) ∈ lw_tbl := List.mem_of_getElem? (i := lw_privs.length + 972) (by decide +kernel)
theorem pk_X11_step : Cond.code yX11_step cX11_step 2 (some .boolean) ∈ lw_tbl := List.mem_of_getElem? (i := lw_privs.length + 985) (by decide +kernel)
theorem pk_X11_ways : Cond.code yX11_ways cX11_ways 6 (some .int) ∈ lw_tbl := List.mem_of_getElem? (i := lw_privs.length + 980) (by decide +kernel)
theorem pk_X11_choose : Cond.code yX11_choose cX11_choose 3 (some .long) ∈ lw_tbl := List.mem_of_getElem? (i := lw_privs.length + 1005) (by decide +kernel)
theorem pk_X11_power : Cond.code yX11_power cX11_power 6 (some .long) ∈ lw_tbl := List.mem_of_getElem? (i := lw_privs.length + 1093) (by decide +kernel)
theorem pk_X11_finishes : Cond.code yX11_finishes cX11_finishes 9 (some .long) ∈ lw_tbl := List.mem_of_getElem? (i := lw_privs.length + 1001) (by decide +kernel)
theorem pk_X11_clearTold : Cond.code yX11_clearTold cX11_clearTold 2 none ∈ lw_tbl := List.mem_of_getElem? (i := lw_privs.length + 997) (by decide +kernel)
theorem pk_X11_rowsOf : Cond.code yX11_rowsOf cX11_rowsOf 2 (some .long) ∈ lw_tbl := List.mem_of_getElem? (i := lw_privs.length + 993) (by decide +kernel)
theorem pk_X11_rows : Cond.code yX11_rows cX11_rows 2 (some .long) ∈ lw_tbl := List.mem_of_getElem? (i := lw_privs.length + 989) (by decide +kernel)
theorem pk_X11_isWell : Cond.code yX11_isWell cX11_isWell 1 (some .boolean) ∈ lw_tbl := List.mem_of_getElem? (i := lw_privs.length + 1014) (by decide +kernel)
theorem pk_X11_rankOf : Cond.code yX11_rankOf cX11_rankOf 5 (some .long) ∈ lw_tbl := List.mem_of_getElem? (i := lw_privs.length + 1022) (by decide +kernel)
theorem pk_X11_rank : Cond.code yX11_rank cX11_rank 1 (some .long) ∈ lw_tbl := List.mem_of_getElem? (i := lw_privs.length + 1010) (by decide +kernel)
theorem pk_X11_fromRank : Cond.code yX11_fromRank cX11_fromRank 10 none ∈ lw_tbl := List.mem_of_getElem? (i := lw_privs.length + 1031) (by decide +kernel)
theorem pk_X11_unrank : Cond.code yX11_unrank cX11_unrank 4 (some .int) ∈ lw_tbl := List.mem_of_getElem? (i := lw_privs.length + 1027) (by decide +kernel)
theorem pk_X11_next : Cond.code yX11_next cX11_next 3 (some .int) ∈ lw_tbl := List.mem_of_getElem? (i := lw_privs.length + 1035) (by decide +kernel)
theorem pk_X11_like : Cond.code yX11_like cX11_like 6 (some .long) ∈ lw_tbl := List.mem_of_getElem? (i := lw_privs.length + 1039) (by decide +kernel)
theorem pk_X11_orders : Cond.code yX11_orders cX11_orders 7 (some .long) ∈ lw_tbl := List.mem_of_getElem? (i := lw_privs.length + 1043) (by decide +kernel)
theorem pk_X11_sort : Cond.code yX11_sort cX11_sort 4 none ∈ lw_tbl := List.mem_of_getElem? (i := lw_privs.length + 1051) (by decide +kernel)
theorem pk_X11_rise : Cond.code yX11_rise cX11_rise 3 (some .int) ∈ lw_tbl := List.mem_of_getElem? (i := lw_privs.length + 1047) (by decide +kernel)
theorem pk_X11_findRising : Cond.code yX11_findRising cX11_findRising 6 none ∈ lw_tbl := List.mem_of_getElem? (i := lw_privs.length + 1063) (by decide +kernel)
theorem pk_X11_risingsOf : Cond.code yX11_risingsOf cX11_risingsOf 2 (some .long) ∈ lw_tbl := List.mem_of_getElem? (i := lw_privs.length + 1059) (by decide +kernel)
theorem pk_X11_risings : Cond.code yX11_risings cX11_risings 2 (some .long) ∈ lw_tbl := List.mem_of_getElem? (i := lw_privs.length + 1055) (by decide +kernel)
theorem pk_X11_riseRank : Cond.code yX11_riseRank cX11_riseRank 6 (some .long) ∈ lw_tbl := List.mem_of_getElem? (i := lw_privs.length + 1067) (by decide +kernel)
theorem pk_X11_riseUnrank : Cond.code yX11_riseUnrank cX11_riseUnrank 8 (some .int) ∈ lw_tbl := List.mem_of_getElem? (i := lw_privs.length + 1071) (by decide +kernel)
theorem pk_X11_isFull : Cond.code yX11_isFull cX11_isFull 1 (some .boolean) ∈ lw_tbl := List.mem_of_getElem? (i := lw_privs.length + 1079) (by decide +kernel)
theorem pk_X11_wishUpTo : Cond.code yX11_wishUpTo cX11_wishUpTo 4 (some .int) ∈ lw_tbl := List.mem_of_getElem? (i := lw_privs.length + 1083) (by decide +kernel)
theorem pk_X11_cuts : Cond.code yX11_cuts cX11_cuts 3 (some .int) ∈ lw_tbl := List.mem_of_getElem? (i := lw_privs.length + 1075) (by decide +kernel)
theorem pk_X11_primesOf : Cond.code yX11_primesOf cX11_primesOf 1 (some .long) ∈ lw_tbl := List.mem_of_getElem? (i := lw_privs.length + 1090) (by decide +kernel)
theorem pk_X11_primes : Cond.code yX11_primes cX11_primes 1 (some .long) ∈ lw_tbl := List.mem_of_getElem? (i := lw_privs.length + 1087) (by decide +kernel)
theorem pk_X11_mend : Cond.code yX11_mend cX11_mend 4 (some .int) ∈ lw_tbl := List.mem_of_getElem? (i := lw_privs.length + 1097) (by decide +kernel)
theorem pk_X11_findTree : Cond.code yX11_findTree cX11_findTree 4 none ∈ lw_tbl := List.mem_of_getElem? (i := lw_privs.length + 1105) (by decide +kernel)
theorem pk_X11_isBelow : Cond.code yX11_isBelow cX11_isBelow 4 (some .boolean) ∈ lw_tbl := List.mem_of_getElem? (i := lw_privs.length + 1109) (by decide +kernel)
theorem pk_X11_node : Cond.code yX11_node cX11_node 5 (some .int) ∈ lw_tbl := List.mem_of_getElem? (i := lw_privs.length + 1101) (by decide +kernel)
theorem pk_X11_inv : Cond.code yX11_inv cX11_inv 4 (some .int) ∈ lw_tbl := List.mem_of_getElem? (i := lw_privs.length + 1113) (by decide +kernel)
theorem pk_X11_neighbourOf : Cond.code yX11_neighbourOf cX11_neighbourOf 6 (some .int) ∈ lw_tbl := List.mem_of_getElem? (i := lw_privs.length + 1121) (by decide +kernel)
theorem pk_X11_code : Cond.code yX11_code cX11_code 5 (some .int) ∈ lw_tbl := List.mem_of_getElem? (i := lw_privs.length + 1117) (by decide +kernel)
theorem pk_X11_read : Cond.code yX11_read cX11_read 3 (some .int) ∈ lw_tbl := List.mem_of_getElem? (i := lw_privs.length + 1137) (by decide +kernel)
theorem pk_X11_plant : Cond.code yX11_plant cX11_plant 4 none ∈ lw_tbl := List.mem_of_getElem? (i := lw_privs.length + 1145) (by decide +kernel)
theorem pk_X11_decode : Cond.code yX11_decode cX11_decode 8 (some .int) ∈ lw_tbl := List.mem_of_getElem? (i := lw_privs.length + 1125) (by decide +kernel)
theorem pk_X11_hang : Cond.code yX11_hang cX11_hang 5 none ∈ lw_tbl := List.mem_of_getElem? (i := lw_privs.length + 1141) (by decide +kernel)
theorem pk_X11_grow : Cond.code yX11_grow cX11_grow 9 (some .int) ∈ lw_tbl := List.mem_of_getElem? (i := lw_privs.length + 1149) (by decide +kernel)
theorem pk_X11_findWalk : Cond.code yX11_findWalk cX11_findWalk 4 none ∈ lw_tbl := List.mem_of_getElem? (i := lw_privs.length + 1157) (by decide +kernel)
theorem pk_X11_area : Cond.code yX11_area cX11_area 3 (some .int) ∈ lw_tbl := List.mem_of_getElem? (i := lw_privs.length + 1165) (by decide +kernel)
theorem pk_X11_dinv : Cond.code yX11_dinv cX11_dinv 5 (some .int) ∈ lw_tbl := List.mem_of_getElem? (i := lw_privs.length + 1169) (by decide +kernel)
theorem pk_X11_walk : Cond.code yX11_walk cX11_walk 3 (some .int) ∈ lw_tbl := List.mem_of_getElem? (i := lw_privs.length + 1153) (by decide +kernel)
theorem pk_X11_counts : Cond.code yX11_counts cX11_counts 2 (some .int) ∈ lw_tbl := List.mem_of_getElem? (i := lw_privs.length + 1161) (by decide +kernel)
theorem pk_X11_both : Cond.code yX11_both cX11_both 10 (some .int) ∈ lw_tbl := List.mem_of_getElem? (i := lw_privs.length + 1173) (by decide +kernel)
theorem pk_X11_withSum : Cond.code yX11_withSum cX11_withSum 8 (some .long) ∈ lw_tbl := List.mem_of_getElem? (i := lw_privs.length + 1182) (by decide +kernel)
theorem pk_X11_withLucky : Cond.code yX11_withLucky cX11_withLucky 5 (some .long) ∈ lw_tbl := List.mem_of_getElem? (i := lw_privs.length + 1186) (by decide +kernel)
theorem pk_X11_allOf : Cond.code yX11_allOf cX11_allOf 1 (some .long) ∈ lw_tbl := List.mem_of_getElem? (i := lw_privs.length + 1194) (by decide +kernel)
theorem pk_X11_withParts : Cond.code yX11_withParts cX11_withParts 6 (some .long) ∈ lw_tbl := List.mem_of_getElem? (i := lw_privs.length + 1191) (by decide +kernel)
theorem pk_X11_spread : Cond.code yX11_spread cX11_spread 6 (some .long) ∈ lw_tbl := List.mem_of_getElem? (i := lw_privs.length + 1178) (by decide +kernel)
theorem pk_X11_isSheet : Cond.code yX11_isSheet cX11_isSheet 2 (some .boolean) ∈ lw_tbl := List.mem_of_getElem? (i := lw_privs.length + 1128) (by decide +kernel)
theorem pk_X11_sheet : Cond.code yX11_sheet cX11_sheet 5 (some .int) ∈ lw_tbl := List.mem_of_getElem? (i := lw_privs.length + 1198) (by decide +kernel)
theorem pk_X11_drop : Cond.code yX11_drop cX11_drop 2 (some .int) ∈ lw_tbl := List.mem_of_getElem? (i := lw_privs.length + 1202) (by decide +kernel)
theorem pk_X11_against : Cond.code yX11_against cX11_against 5 (some .int) ∈ lw_tbl := List.mem_of_getElem? (i := lw_privs.length + 1133) (by decide +kernel)
theorem pk_X11_item : Cond.code yX11_item cX11_item 6 (some .int) ∈ lw_tbl := List.mem_of_getElem? (i := lw_privs.length + 1206) (by decide +kernel)
theorem pk_X11_cars : Cond.code yX11_cars cX11_cars 7 (some .int) ∈ lw_tbl := List.mem_of_getElem? (i := lw_privs.length + 1210) (by decide +kernel)
theorem pk_X11_keep : Cond.code yX11_keep cX11_keep 6 (some .int) ∈ lw_tbl := List.mem_of_getElem? (i := lw_privs.length + 1214) (by decide +kernel)
theorem pk_J6_bitCount_0f7a4 : Cond.code yJ6_bitCount_0f7a4 cJ6_bitCount_0f7a4 1 (some .int) ∈ lw_tbl := List.mem_of_getElem? (i := lw_privs.length + 380) (by decide +kernel)
theorem cn_X5_85 : Cond.constant RX5 85 (100000) ∈ lw_tbl := by decide +kernel
theorem cn_J6_265 : Cond.constant RJ6 265 (1431655765) ∈ lw_tbl := by decide +kernel
theorem cn_J6_266 : Cond.constant RJ6 266 (858993459) ∈ lw_tbl := by decide +kernel
theorem cn_J6_267 : Cond.constant RJ6 267 (252645135) ∈ lw_tbl := by decide +kernel
theorem cn_X10_170 : Cond.constantLong RX10 170 (-1) ∈ lw_tbl := by decide +kernel
theorem cn_X10_179 : Cond.constantLong RX10 179 (-2) ∈ lw_tbl := by decide +kernel
theorem cn_X11_94 : Cond.constantLong RX11 94 (2) ∈ lw_tbl := by decide +kernel
theorem cn_X11_100 : Cond.constantLong RX11 100 (10) ∈ lw_tbl := by decide +kernel
theorem cn_X11_102 : Cond.constantLong RX11 102 (9) ∈ lw_tbl := by decide +kernel
theorem cn_X11_121 : Cond.constantLong RX11 121 (4) ∈ lw_tbl := by decide +kernel
theorem cn_X11_137 : Cond.constantLong RX11 137 (7) ∈ lw_tbl := by decide +kernel
theorem cn_X11_143 : Cond.constantLong RX11 143 (100000) ∈ lw_tbl := by decide +kernel
theorem cn_X11_162 : Cond.constantLong RX11 162 (-1) ∈ lw_tbl := by decide +kernel
theorem cn_X11_174 : Cond.constantLong RX11 174 (-2) ∈ lw_tbl := by decide +kernel
theorem cn_X11_254 : Cond.constantLong RX11 254 (3) ∈ lw_tbl := by decide +kernel
theorem cn_X11_238 : Cond.constantLong RX11 238 (5) ∈ lw_tbl := by decide +kernel
theorem cn_X11_240 : Cond.constantLong RX11 240 (11) ∈ lw_tbl := by decide +kernel
theorem cn_L_71 : Cond.constantLong RL 71 (4294967295) ∈ lw_tbl := by decide +kernel
