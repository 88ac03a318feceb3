theorem xt_RF : xty 0 t_RF := fun C T N h => by cases h; exact ⟨xk_RF, xn_RF⟩
theorem xt_Sh : xty 1 t_Sh := fun C T N h => by cases h; exact ⟨xk_Sh, xn_Sh⟩
theorem xt_Pa : xty 2 t_Pa := fun C T N h => by cases h; exact ⟨xk_Pa, xn_Pa⟩
theorem xt_Bi : xty 3 t_Bi := fun C T N h => by cases h; exact ⟨xk_Bi, xn_Bi⟩
theorem xt_Sc : xty 4 t_Sc := fun C T N h => by cases h; exact ⟨xk_Sc, xn_Sc⟩
theorem xt_Bo : xty 5 t_Bo := fun C T N h => by cases h; exact ⟨xk_Bo, xn_Bo⟩
theorem xt_Mo : xty 6 t_Mo := fun C T N h => by cases h; exact ⟨xk_Mo, xn_Mo⟩
theorem xf_RF_12 : xfl "ResidueFlows" 12 0 0 := ⟨_, _, _, rfl, by decide, xTw_1 146 rfl rfl, xu_RF⟩
theorem xf_RF_18 : xfl "ResidueFlows" 18 0 1 := ⟨_, _, _, rfl, by decide, xTw_1 147 rfl rfl, xu_RF⟩
theorem xf_RF_24 : xfl "ResidueFlows" 24 0 2 := ⟨_, _, _, rfl, by decide, xTw_1 148 rfl rfl, xu_RF⟩
theorem xf_RF_28 : xfl "ResidueFlows" 28 0 3 := ⟨_, _, _, rfl, by decide, xTw_1 149 rfl rfl, xu_RF⟩
theorem xf_RF_33 : xfl "ResidueFlows" 33 0 5 := ⟨_, _, _, rfl, by decide, xTw_1 151 rfl rfl, xu_RF⟩
theorem xf_RF_40 : xfl "ResidueFlows" 40 0 7 := ⟨_, _, _, rfl, by decide, xTw_1 153 rfl rfl, xu_RF⟩
theorem xf_RF_48 : xfl "ResidueFlows" 48 0 8 := ⟨_, _, _, rfl, by decide, xTw_1 154 rfl rfl, xu_RF⟩
theorem xf_RF_64 : xfl "ResidueFlows" 64 1 0 := ⟨_, _, _, rfl, by decide, xTw_1 29 rfl rfl, xu_Sh⟩
theorem xf_RF_68 : xfl "ResidueFlows" 68 1 1 := ⟨_, _, _, rfl, by decide, xTw_1 31 rfl rfl, xu_Sh⟩
theorem xf_RF_91 : xfl "ResidueFlows" 91 0 4 := ⟨_, _, _, rfl, by decide, xTw_1 150 rfl rfl, xu_RF⟩
theorem xf_RF_105 : xfl "ResidueFlows" 105 2 4 := ⟨_, _, _, rfl, by decide, xTw_1 48 rfl rfl, xu_Pa⟩
theorem xf_RF_112 : xfl "ResidueFlows" 112 0 6 := ⟨_, _, _, rfl, by decide, xTw_1 152 rfl rfl, xu_RF⟩
theorem xf_RF_120 : xfl "ResidueFlows" 120 3 0 := ⟨_, _, _, rfl, by decide, xTw_1 68 rfl rfl, xu_Bi⟩
theorem xf_RF_123 : xfl "ResidueFlows" 123 3 1 := ⟨_, _, _, rfl, by decide, xTw_1 70 rfl rfl, xu_Bi⟩
theorem xf_RF_141 : xfl "ResidueFlows" 141 3 2 := ⟨_, _, _, rfl, by decide, xTw_1 72 rfl rfl, xu_Bi⟩
theorem xf_RF_144 : xfl "ResidueFlows" 144 3 3 := ⟨_, _, _, rfl, by decide, xTw_1 74 rfl rfl, xu_Bi⟩
theorem xf_RF_147 : xfl "ResidueFlows" 147 3 4 := ⟨_, _, _, rfl, by decide, xTw_1 76 rfl rfl, xu_Bi⟩
theorem xf_RF_171 : xfl "ResidueFlows" 171 4 0 := ⟨_, _, _, rfl, by decide, xTw_1 104 rfl rfl, xu_Sc⟩
theorem xf_RF_177 : xfl "ResidueFlows" 177 4 1 := ⟨_, _, _, rfl, by decide, xTw_1 106 rfl rfl, xu_Sc⟩
theorem xf_RF_180 : xfl "ResidueFlows" 180 4 2 := ⟨_, _, _, rfl, by decide, xTw_1 108 rfl rfl, xu_Sc⟩
theorem xf_RF_183 : xfl "ResidueFlows" 183 4 3 := ⟨_, _, _, rfl, by decide, xTw_1 110 rfl rfl, xu_Sc⟩
theorem xf_RF_186 : xfl "ResidueFlows" 186 4 4 := ⟨_, _, _, rfl, by decide, xTw_1 112 rfl rfl, xu_Sc⟩
theorem xf_RF_189 : xfl "ResidueFlows" 189 4 5 := ⟨_, _, _, rfl, by decide, xTw_1 114 rfl rfl, xu_Sc⟩
theorem xf_RF_199 : xfl "ResidueFlows" 199 0 9 := ⟨_, _, _, rfl, by decide, xTw_1 155 rfl rfl, xu_RF⟩
theorem xf_RF_202 : xfl "ResidueFlows" 202 0 10 := ⟨_, _, _, rfl, by decide, xTw_1 156 rfl rfl, xu_RF⟩
theorem xf_RF_205 : xfl "ResidueFlows" 205 0 11 := ⟨_, _, _, rfl, by decide, xTw_1 157 rfl rfl, xu_RF⟩
theorem xf_RF_226 : xfl "ResidueFlows" 226 5 0 := ⟨_, _, _, rfl, by decide, xTw_1 135 rfl rfl, xu_Bo⟩
theorem xf_RF_262 : xfl "ResidueFlows" 262 3 5 := ⟨_, _, _, rfl, by decide, xTw_1 78 rfl rfl, xu_Bi⟩
theorem xf_RF_265 : xfl "ResidueFlows" 265 3 6 := ⟨_, _, _, rfl, by decide, xTw_1 80 rfl rfl, xu_Bi⟩
theorem xf_Bi_11 : xfl "ResidueFlows$Bin" 11 3 4 := ⟨_, _, _, rfl, by decide, xTw_1 75 rfl rfl, xu_Bi⟩
theorem xf_Bi_17 : xfl "ResidueFlows$Bin" 17 3 6 := ⟨_, _, _, rfl, by decide, xTw_1 79 rfl rfl, xu_Bi⟩
theorem xf_Bi_21 : xfl "ResidueFlows$Bin" 21 3 2 := ⟨_, _, _, rfl, by decide, xTw_1 71 rfl rfl, xu_Bi⟩
theorem xf_Bi_24 : xfl "ResidueFlows$Bin" 24 3 3 := ⟨_, _, _, rfl, by decide, xTw_1 73 rfl rfl, xu_Bi⟩
theorem xf_Bi_33 : xfl "ResidueFlows$Bin" 33 3 1 := ⟨_, _, _, rfl, by decide, xTw_1 69 rfl rfl, xu_Bi⟩
theorem xf_Bi_44 : xfl "ResidueFlows$Bin" 44 3 5 := ⟨_, _, _, rfl, by decide, xTw_1 77 rfl rfl, xu_Bi⟩
theorem xf_Bo_9 : xfl "ResidueFlows$Boiler" 9 5 1 := ⟨_, _, _, rfl, by decide, xTw_1 136 rfl rfl, xu_Bo⟩
theorem xf_Bo_15 : xfl "ResidueFlows$Boiler" 15 5 2 := ⟨_, _, _, rfl, by decide, xTw_1 137 rfl rfl, xu_Bo⟩
theorem xf_Bo_18 : xfl "ResidueFlows$Boiler" 18 5 0 := ⟨_, _, _, rfl, by decide, xTw_1 134 rfl rfl, xu_Bo⟩
theorem xf_Pa_9 : xfl "ResidueFlows$Parts" 9 2 0 := ⟨_, _, _, rfl, by decide, xTw_1 43 rfl rfl, xu_Pa⟩
theorem xf_Pa_15 : xfl "ResidueFlows$Parts" 15 2 1 := ⟨_, _, _, rfl, by decide, xTw_1 44 rfl rfl, xu_Pa⟩
theorem xf_Pa_18 : xfl "ResidueFlows$Parts" 18 2 2 := ⟨_, _, _, rfl, by decide, xTw_1 45 rfl rfl, xu_Pa⟩
theorem xf_Pa_21 : xfl "ResidueFlows$Parts" 21 2 3 := ⟨_, _, _, rfl, by decide, xTw_1 46 rfl rfl, xu_Pa⟩
theorem xf_Pa_24 : xfl "ResidueFlows$Parts" 24 2 4 := ⟨_, _, _, rfl, by decide, xTw_1 47 rfl rfl, xu_Pa⟩
theorem xf_Sc_7 : xfl "ResidueFlows$Screen" 7 4 0 := ⟨_, _, _, rfl, by decide, xTw_1 103 rfl rfl, xu_Sc⟩
theorem xf_Sc_13 : xfl "ResidueFlows$Screen" 13 4 1 := ⟨_, _, _, rfl, by decide, xTw_1 105 rfl rfl, xu_Sc⟩
theorem xf_Sc_17 : xfl "ResidueFlows$Screen" 17 4 2 := ⟨_, _, _, rfl, by decide, xTw_1 107 rfl rfl, xu_Sc⟩
theorem xf_Sc_20 : xfl "ResidueFlows$Screen" 20 4 3 := ⟨_, _, _, rfl, by decide, xTw_1 109 rfl rfl, xu_Sc⟩
theorem xf_Sc_23 : xfl "ResidueFlows$Screen" 23 4 4 := ⟨_, _, _, rfl, by decide, xTw_1 111 rfl rfl, xu_Sc⟩
theorem xf_Sc_26 : xfl "ResidueFlows$Screen" 26 4 5 := ⟨_, _, _, rfl, by decide, xTw_1 113 rfl rfl, xu_Sc⟩
theorem xf_Sh_7 : xfl "ResidueFlows$Share" 7 1 0 := ⟨_, _, _, rfl, by decide, xTw_1 28 rfl rfl, xu_Sh⟩
theorem xf_Sh_13 : xfl "ResidueFlows$Share" 13 1 1 := ⟨_, _, _, rfl, by decide, xTw_1 30 rfl rfl, xu_Sh⟩
theorem xf_Mo_7 : xfl "ResidueFlowsModel" 7 6 1 := ⟨_, _, _, rfl, by decide, xTw_3 71 rfl rfl, xu_Mo⟩
theorem xf_Mo_13 : xfl "ResidueFlowsModel" 13 6 2 := ⟨_, _, _, rfl, by decide, xTw_3 72 rfl rfl, xu_Mo⟩
theorem xf_Mo_16 : xfl "ResidueFlowsModel" 16 6 4 := ⟨_, _, _, rfl, by decide, xTw_3 74 rfl rfl, xu_Mo⟩
theorem xf_Mo_20 : xfl "ResidueFlowsModel" 20 6 5 := ⟨_, _, _, rfl, by decide, xTw_3 75 rfl rfl, xu_Mo⟩
theorem xf_Mo_23 : xfl "ResidueFlowsModel" 23 6 7 := ⟨_, _, _, rfl, by decide, xTw_3 77 rfl rfl, xu_Mo⟩
theorem xf_Mo_26 : xfl "ResidueFlowsModel" 26 6 8 := ⟨_, _, _, rfl, by decide, xTw_3 78 rfl rfl, xu_Mo⟩
theorem xf_Mo_29 : xfl "ResidueFlowsModel" 29 6 9 := ⟨_, _, _, rfl, by decide, xTw_3 79 rfl rfl, xu_Mo⟩
theorem xf_Mo_32 : xfl "ResidueFlowsModel" 32 6 10 := ⟨_, _, _, rfl, by decide, xTw_3 80 rfl rfl, xu_Mo⟩
theorem xf_Mo_37 : xfl "ResidueFlowsModel" 37 6 11 := ⟨_, _, _, rfl, by decide, xTw_3 81 rfl rfl, xu_Mo⟩
theorem xf_Mo_40 : xfl "ResidueFlowsModel" 40 6 12 := ⟨_, _, _, rfl, by decide, xTw_3 82 rfl rfl, xu_Mo⟩
theorem xf_Mo_43 : xfl "ResidueFlowsModel" 43 6 13 := ⟨_, _, _, rfl, by decide, xTw_3 83 rfl rfl, xu_Mo⟩
theorem xf_Mo_46 : xfl "ResidueFlowsModel" 46 6 14 := ⟨_, _, _, rfl, by decide, xTw_3 84 rfl rfl, xu_Mo⟩
theorem xf_Mo_50 : xfl "ResidueFlowsModel" 50 6 15 := ⟨_, _, _, rfl, by decide, xTw_3 85 rfl rfl, xu_Mo⟩
theorem xf_Mo_53 : xfl "ResidueFlowsModel" 53 6 16 := ⟨_, _, _, rfl, by decide, xTw_3 86 rfl rfl, xu_Mo⟩
theorem xf_Mo_56 : xfl "ResidueFlowsModel" 56 6 21 := ⟨_, _, _, rfl, by decide, xTw_3 91 rfl rfl, xu_Mo⟩
theorem xf_Mo_59 : xfl "ResidueFlowsModel" 59 6 22 := ⟨_, _, _, rfl, by decide, xTw_3 92 rfl rfl, xu_Mo⟩
theorem xf_Mo_62 : xfl "ResidueFlowsModel" 62 6 0 := ⟨_, _, _, rfl, by decide, xTw_3 70 rfl rfl, xu_Mo⟩
theorem xf_Mo_66 : xfl "ResidueFlowsModel" 66 6 6 := ⟨_, _, _, rfl, by decide, xTw_3 76 rfl rfl, xu_Mo⟩
theorem xf_Mo_81 : xfl "ResidueFlowsModel" 81 6 3 := ⟨_, _, _, rfl, by decide, xTw_3 73 rfl rfl, xu_Mo⟩
theorem xf_Mo_90 : xfl "ResidueFlowsModel" 90 6 17 := ⟨_, _, _, rfl, by decide, xTw_3 87 rfl rfl, xu_Mo⟩
theorem xf_Mo_122 : xfl "ResidueFlowsModel" 122 6 18 := ⟨_, _, _, rfl, by decide, xTw_3 88 rfl rfl, xu_Mo⟩
theorem xf_Mo_125 : xfl "ResidueFlowsModel" 125 6 19 := ⟨_, _, _, rfl, by decide, xTw_3 89 rfl rfl, xu_Mo⟩
theorem xf_Mo_130 : xfl "ResidueFlowsModel" 130 6 20 := ⟨_, _, _, rfl, by decide, xTw_3 90 rfl rfl, xu_Mo⟩
theorem xf_Mo_135 : xfl "ResidueFlowsModel" 135 6 24 := ⟨_, _, _, rfl, by decide, xTw_3 94 rfl rfl, xu_Mo⟩
theorem xf_Mo_138 : xfl "ResidueFlowsModel" 138 6 23 := ⟨_, _, _, rfl, by decide, xTw_3 93 rfl rfl, xu_Mo⟩
theorem xq_RF_init : xcw Y_RF_init 0 := ⟨xTw_1 18 rfl rfl, xTw_1 1 rfl rfl, ⟨by decide, by decide⟩, by decide +kernel⟩
theorem xq_Sh_init : xcw Y_Sh_init 2 := ⟨xTw_1 26 rfl rfl, xTw_1 2 rfl rfl, ⟨by decide, by decide⟩, by decide +kernel⟩
theorem xq_Pa_init : xcw Y_Pa_init 0 := ⟨xTw_1 41 rfl rfl, xTw_1 3 rfl rfl, ⟨by decide, by decide⟩, by decide +kernel⟩
theorem xq_Bi_init : xcw Y_Bi_init 0 := ⟨xTw_1 65 rfl rfl, xTw_1 4 rfl rfl, ⟨by decide, by decide⟩, by decide +kernel⟩
theorem xq_Sc_init : xcw Y_Sc_init 0 := ⟨xTw_1 101 rfl rfl, xTw_1 5 rfl rfl, ⟨by decide, by decide⟩, by decide +kernel⟩
theorem xq_Bo_init : xcw Y_Bo_init 0 := ⟨xTw_1 132 rfl rfl, xTw_1 6 rfl rfl, ⟨by decide, by decide⟩, by decide +kernel⟩
theorem xq_RF_begin : xcw Y_RF_begin 0 := ⟨xTw_1 186 rfl rfl, xTw_1 1 rfl rfl, ⟨by decide, by decide⟩, by decide +kernel⟩
theorem xq_RF_carbon : xcw Y_RF_carbon 0 := ⟨xTw_1 191 rfl rfl, xTw_1 1 rfl rfl, ⟨by decide, by decide⟩, by decide +kernel⟩
theorem xq_La_share : xcw Y_La_share 4 := ⟨xTw_1 195 rfl rfl, xTw_1 0 rfl rfl, ⟨by decide, by decide⟩, by decide +kernel⟩
theorem xq_RF_share : xcw Y_RF_share 3 := ⟨xTw_1 201 rfl rfl, xTw_1 1 rfl rfl, ⟨by decide, by decide⟩, by decide +kernel⟩
theorem xq_La_log : xcw Y_La_log 5 := ⟨xTw_2 48 rfl rfl, xTw_1 0 rfl rfl, ⟨by decide, by decide⟩, by decide +kernel⟩
theorem xq_RF_log : xcw Y_RF_log 3 := ⟨xTw_2 52 rfl rfl, xTw_1 1 rfl rfl, ⟨by decide, by decide⟩, by decide +kernel⟩
theorem xq_Sh_of : xcw Y_Sh_of 1 := ⟨xTw_2 58 rfl rfl, xTw_1 2 rfl rfl, ⟨by decide, by decide⟩, by decide +kernel⟩
theorem xq_RF_portion : xcw Y_RF_portion 3 := ⟨xTw_2 61 rfl rfl, xTw_1 1 rfl rfl, ⟨by decide, by decide⟩, by decide +kernel⟩
theorem xq_Pa_tell : xcw Y_Pa_tell 5 := ⟨xTw_2 67 rfl rfl, xTw_1 3 rfl rfl, ⟨by decide, by decide⟩, by decide +kernel⟩
theorem xq_Pa_add : xcw Y_Pa_add 1 := ⟨xTw_2 71 rfl rfl, xTw_1 3 rfl rfl, ⟨by decide, by decide⟩, by decide +kernel⟩
theorem xq_La_volume : xcw Y_La_volume 4 := ⟨xTw_2 74 rfl rfl, xTw_1 0 rfl rfl, ⟨by decide, by decide⟩, by decide +kernel⟩
theorem xq_RF_volume : xcw Y_RF_volume 2 := ⟨xTw_2 79 rfl rfl, xTw_1 1 rfl rfl, ⟨by decide, by decide⟩, by decide +kernel⟩
theorem xq_RF_checkKind : xcw Y_RF_checkKind 1 := ⟨xTw_2 82 rfl rfl, xTw_1 1 rfl rfl, ⟨by decide, by decide⟩, by decide +kernel⟩
theorem xq_RF_checkLogs : xcw Y_RF_checkLogs 0 := ⟨xTw_2 87 rfl rfl, xTw_1 1 rfl rfl, ⟨by decide, by decide⟩, by decide +kernel⟩
theorem xq_Pa_ofKind : xcw Y_Pa_ofKind 1 := ⟨xTw_2 107 rfl rfl, xTw_1 3 rfl rfl, ⟨by decide, by decide⟩, by decide +kernel⟩
theorem xq_La_boards : xcw Y_La_boards 3 := ⟨xTw_2 110 rfl rfl, xTw_1 0 rfl rfl, ⟨by decide, by decide⟩, by decide +kernel⟩
theorem xq_RF_boards : xcw Y_RF_boards 1 := ⟨xTw_2 114 rfl rfl, xTw_1 1 rfl rfl, ⟨by decide, by decide⟩, by decide +kernel⟩
theorem xq_La_bin : xcw Y_La_bin 4 := ⟨xTw_2 117 rfl rfl, xTw_1 0 rfl rfl, ⟨by decide, by decide⟩, by decide +kernel⟩
theorem xq_RF_bin : xcw Y_RF_bin 2 := ⟨xTw_2 121 rfl rfl, xTw_1 1 rfl rfl, ⟨by decide, by decide⟩, by decide +kernel⟩
theorem xq_La_pour : xcw Y_La_pour 5 := ⟨xTw_2 127 rfl rfl, xTw_1 0 rfl rfl, ⟨by decide, by decide⟩, by decide +kernel⟩
theorem xq_RF_pour : xcw Y_RF_pour 3 := ⟨xTw_2 131 rfl rfl, xTw_1 1 rfl rfl, ⟨by decide, by decide⟩, by decide +kernel⟩
theorem xq_RF_binAt : xcw Y_RF_binAt 1 := ⟨xTw_2 135 rfl rfl, xTw_1 1 rfl rfl, ⟨by decide, by decide⟩, by decide +kernel⟩
theorem xq_RF_checkPoured : xcw Y_RF_checkPoured 2 := ⟨xTw_2 139 rfl rfl, xTw_1 1 rfl rfl, ⟨by decide, by decide⟩, by decide +kernel⟩
theorem xq_Bi_hasRoom : xcw Y_Bi_hasRoom 1 := ⟨xTw_2 144 rfl rfl, xTw_1 4 rfl rfl, ⟨by decide, by decide⟩, by decide +kernel⟩
theorem xq_Bi_grams : xcw Y_Bi_grams 0 := ⟨xTw_2 148 rfl rfl, xTw_1 4 rfl rfl, ⟨by decide, by decide⟩, by decide +kernel⟩
theorem xq_RF_pourInto : xcw Y_RF_pourInto 3 := ⟨xTw_2 153 rfl rfl, xTw_1 1 rfl rfl, ⟨by decide, by decide⟩, by decide +kernel⟩
theorem xq_Bi_change : xcw Y_Bi_change 2 := ⟨xTw_2 157 rfl rfl, xTw_1 4 rfl rfl, ⟨by decide, by decide⟩, by decide +kernel⟩
theorem xq_La_about : xcw Y_La_about 4 := ⟨xTw_2 161 rfl rfl, xTw_1 0 rfl rfl, ⟨by decide, by decide⟩, by decide +kernel⟩
theorem xq_RF_about : xcw Y_RF_about 2 := ⟨xTw_2 165 rfl rfl, xTw_1 1 rfl rfl, ⟨by decide, by decide⟩, by decide +kernel⟩
theorem xq_La_screen : xcw Y_La_screen 7 := ⟨xTw_2 170 rfl rfl, xTw_1 0 rfl rfl, ⟨by decide, by decide⟩, by decide +kernel⟩
theorem xq_RF_screen : xcw Y_RF_screen 6 := ⟨xTw_2 174 rfl rfl, xTw_1 1 rfl rfl, ⟨by decide, by decide⟩, by decide +kernel⟩
theorem xq_RF_screenAt : xcw Y_RF_screenAt 1 := ⟨xTw_2 178 rfl rfl, xTw_1 1 rfl rfl, ⟨by decide, by decide⟩, by decide +kernel⟩
theorem xq_Sc_tell : xcw Y_Sc_tell 5 := ⟨xTw_2 187 rfl rfl, xTw_1 5 rfl rfl, ⟨by decide, by decide⟩, by decide +kernel⟩
theorem xq_La_send : xcw Y_La_send 5 := ⟨xTw_2 190 rfl rfl, xTw_1 0 rfl rfl, ⟨by decide, by decide⟩, by decide +kernel⟩
theorem xq_RF_send : xcw Y_RF_send 3 := ⟨xTw_2 194 rfl rfl, xTw_1 1 rfl rfl, ⟨by decide, by decide⟩, by decide +kernel⟩
theorem xq_La_scale : xcw Y_La_scale 3 := ⟨xTw_2 198 rfl rfl, xTw_1 0 rfl rfl, ⟨by decide, by decide⟩, by decide +kernel⟩
theorem xq_RF_scale : xcw Y_RF_scale 2 := ⟨xTw_2 202 rfl rfl, xTw_1 1 rfl rfl, ⟨by decide, by decide⟩, by decide +kernel⟩
theorem xq_La_shift : xcw Y_La_shift 3 := ⟨xTw_2 207 rfl rfl, xTw_1 0 rfl rfl, ⟨by decide, by decide⟩, by decide +kernel⟩
theorem xq_RF_shift : xcw Y_RF_shift 1 := ⟨xTw_2 211 rfl rfl, xTw_1 1 rfl rfl, ⟨by decide, by decide⟩, by decide +kernel⟩
theorem xq_RF_gramsLost : xcw Y_RF_gramsLost 0 := ⟨xTw_2 215 rfl rfl, xTw_1 1 rfl rfl, ⟨by decide, by decide⟩, by decide +kernel⟩
theorem xq_La_row : xcw Y_La_row 4 := ⟨xTw_2 219 rfl rfl, xTw_1 0 rfl rfl, ⟨by decide, by decide⟩, by decide +kernel⟩
theorem xq_RF_row : xcw Y_RF_row 2 := ⟨xTw_2 223 rfl rfl, xTw_1 1 rfl rfl, ⟨by decide, by decide⟩, by decide +kernel⟩
theorem xq_RF_checkDay : xcw Y_RF_checkDay 1 := ⟨xTw_2 226 rfl rfl, xTw_1 1 rfl rfl, ⟨by decide, by decide⟩, by decide +kernel⟩
theorem xq_Bo_lastDay : xcw Y_Bo_lastDay 0 := ⟨xTw_2 231 rfl rfl, xTw_1 6 rfl rfl, ⟨by decide, by decide⟩, by decide +kernel⟩
theorem xq_Bo_add : xcw Y_Bo_add 2 := ⟨xTw_2 236 rfl rfl, xTw_1 6 rfl rfl, ⟨by decide, by decide⟩, by decide +kernel⟩
theorem xq_La_burn : xcw Y_La_burn 5 := ⟨xTw_3 0 rfl rfl, xTw_1 0 rfl rfl, ⟨by decide, by decide⟩, by decide +kernel⟩
theorem xq_RF_burn : xcw Y_RF_burn 3 := ⟨xTw_3 4 rfl rfl, xTw_1 1 rfl rfl, ⟨by decide, by decide⟩, by decide +kernel⟩
theorem xq_RF_checkTaken : xcw Y_RF_checkTaken 1 := ⟨xTw_3 7 rfl rfl, xTw_1 1 rfl rfl, ⟨by decide, by decide⟩, by decide +kernel⟩
theorem xq_RF_checkEnough : xcw Y_RF_checkEnough 2 := ⟨xTw_3 11 rfl rfl, xTw_1 1 rfl rfl, ⟨by decide, by decide⟩, by decide +kernel⟩
theorem xq_Bi_waterIn : xcw Y_Bi_waterIn 1 := ⟨xTw_3 16 rfl rfl, xTw_1 4 rfl rfl, ⟨by decide, by decide⟩, by decide +kernel⟩
theorem xq_Bi_dryIn : xcw Y_Bi_dryIn 1 := ⟨xTw_3 21 rfl rfl, xTw_1 4 rfl rfl, ⟨by decide, by decide⟩, by decide +kernel⟩
theorem xq_RF_takeAway : xcw Y_RF_takeAway 3 := ⟨xTw_3 26 rfl rfl, xTw_1 1 rfl rfl, ⟨by decide, by decide⟩, by decide +kernel⟩
theorem xq_Bo_percentAt : xcw Y_Bo_percentAt 1 := ⟨xTw_3 32 rfl rfl, xTw_1 6 rfl rfl, ⟨by decide, by decide⟩, by decide +kernel⟩
theorem xq_La_sell : xcw Y_La_sell 5 := ⟨xTw_3 36 rfl rfl, xTw_1 0 rfl rfl, ⟨by decide, by decide⟩, by decide +kernel⟩
theorem xq_RF_sell : xcw Y_RF_sell 3 := ⟨xTw_3 40 rfl rfl, xTw_1 1 rfl rfl, ⟨by decide, by decide⟩, by decide +kernel⟩
theorem xq_La_span : xcw Y_La_span 4 := ⟨xTw_3 45 rfl rfl, xTw_1 0 rfl rfl, ⟨by decide, by decide⟩, by decide +kernel⟩
theorem xq_RF_span : xcw Y_RF_span 3 := ⟨xTw_3 49 rfl rfl, xTw_1 1 rfl rfl, ⟨by decide, by decide⟩, by decide +kernel⟩
theorem xq_La_mix : xcw Y_La_mix 5 := ⟨xTw_3 53 rfl rfl, xTw_1 0 rfl rfl, ⟨by decide, by decide⟩, by decide +kernel⟩
theorem xq_RF_mix : xcw Y_RF_mix 3 := ⟨xTw_3 57 rfl rfl, xTw_1 1 rfl rfl, ⟨by decide, by decide⟩, by decide +kernel⟩
theorem xq_Bi_spanAllows : xcw Y_Bi_spanAllows 2 := ⟨xTw_3 62 rfl rfl, xTw_1 4 rfl rfl, ⟨by decide, by decide⟩, by decide +kernel⟩
theorem xq_Mo_init : xcw Y_Mo_init 0 := ⟨xTw_3 67 rfl rfl, xTw_1 7 rfl rfl, ⟨by decide, by decide⟩, by decide +kernel⟩
theorem xq_Mo_thrown : xcw Y_Mo_thrown 0 := ⟨xTw_3 151 rfl rfl, xTw_1 7 rfl rfl, ⟨by decide, by decide⟩, by decide +kernel⟩
theorem xq_Mo_share : xcw Y_Mo_share 3 := ⟨xTw_3 155 rfl rfl, xTw_1 7 rfl rfl, ⟨by decide, by decide⟩, by decide +kernel⟩
theorem xq_Mo_isIn : xcw Y_Mo_isIn 3 := ⟨xTw_3 159 rfl rfl, xTw_1 7 rfl rfl, ⟨by decide, by decide⟩, by decide +kernel⟩
theorem xq_Mo_log : xcw Y_Mo_log 3 := ⟨xTw_3 163 rfl rfl, xTw_1 7 rfl rfl, ⟨by decide, by decide⟩, by decide +kernel⟩
theorem xq_Mo_volume : xcw Y_Mo_volume 2 := ⟨xTw_3 170 rfl rfl, xTw_1 7 rfl rfl, ⟨by decide, by decide⟩, by decide +kernel⟩
theorem xq_Mo_boards : xcw Y_Mo_boards 1 := ⟨xTw_3 174 rfl rfl, xTw_1 7 rfl rfl, ⟨by decide, by decide⟩, by decide +kernel⟩
theorem xq_Mo_bin : xcw Y_Mo_bin 2 := ⟨xTw_3 178 rfl rfl, xTw_1 7 rfl rfl, ⟨by decide, by decide⟩, by decide +kernel⟩
theorem xq_Mo_pour : xcw Y_Mo_pour 3 := ⟨xTw_3 183 rfl rfl, xTw_1 7 rfl rfl, ⟨by decide, by decide⟩, by decide +kernel⟩
theorem xq_Mo_noBin : xcw Y_Mo_noBin 1 := ⟨xTw_3 187 rfl rfl, xTw_1 7 rfl rfl, ⟨by decide, by decide⟩, by decide +kernel⟩
theorem xq_Mo_isPoured : xcw Y_Mo_isPoured 2 := ⟨xTw_3 190 rfl rfl, xTw_1 7 rfl rfl, ⟨by decide, by decide⟩, by decide +kernel⟩
theorem xq_Mo_hasRoom : xcw Y_Mo_hasRoom 2 := ⟨xTw_3 194 rfl rfl, xTw_1 7 rfl rfl, ⟨by decide, by decide⟩, by decide +kernel⟩
theorem xq_Mo_all : xcw Y_Mo_all 1 := ⟨xTw_3 198 rfl rfl, xTw_1 7 rfl rfl, ⟨by decide, by decide⟩, by decide +kernel⟩
theorem xq_Mo_add : xcw Y_Mo_add 3 := ⟨xTw_3 202 rfl rfl, xTw_1 7 rfl rfl, ⟨by decide, by decide⟩, by decide +kernel⟩
theorem xq_Mo_about : xcw Y_Mo_about 2 := ⟨xTw_3 206 rfl rfl, xTw_1 7 rfl rfl, ⟨by decide, by decide⟩, by decide +kernel⟩
theorem xq_Mo_screen : xcw Y_Mo_screen 6 := ⟨xTw_3 210 rfl rfl, xTw_1 7 rfl rfl, ⟨by decide, by decide⟩, by decide +kernel⟩
theorem xq_Mo_send : xcw Y_Mo_send 3 := ⟨xTw_3 215 rfl rfl, xTw_1 7 rfl rfl, ⟨by decide, by decide⟩, by decide +kernel⟩
theorem xq_Mo_part : xcw Y_Mo_part 3 := ⟨xTw_3 219 rfl rfl, xTw_1 7 rfl rfl, ⟨by decide, by decide⟩, by decide +kernel⟩
theorem xq_Mo_others : xcw Y_Mo_others 2 := ⟨xTw_3 223 rfl rfl, xTw_1 7 rfl rfl, ⟨by decide, by decide⟩, by decide +kernel⟩
theorem xq_Mo_scale : xcw Y_Mo_scale 2 := ⟨xTw_3 227 rfl rfl, xTw_1 7 rfl rfl, ⟨by decide, by decide⟩, by decide +kernel⟩
theorem xq_Mo_shift : xcw Y_Mo_shift 1 := ⟨xTw_3 232 rfl rfl, xTw_1 7 rfl rfl, ⟨by decide, by decide⟩, by decide +kernel⟩
theorem xq_Mo_begin : xcw Y_Mo_begin 0 := ⟨xTw_3 236 rfl rfl, xTw_1 7 rfl rfl, ⟨by decide, by decide⟩, by decide +kernel⟩
theorem xq_Mo_row : xcw Y_Mo_row 2 := ⟨xTw_4 0 rfl rfl, xTw_1 7 rfl rfl, ⟨by decide, by decide⟩, by decide +kernel⟩
theorem xq_Mo_burn : xcw Y_Mo_burn 3 := ⟨xTw_4 6 rfl rfl, xTw_1 7 rfl rfl, ⟨by decide, by decide⟩, by decide +kernel⟩
theorem xq_Mo_has : xcw Y_Mo_has 2 := ⟨xTw_4 10 rfl rfl, xTw_1 7 rfl rfl, ⟨by decide, by decide⟩, by decide +kernel⟩
theorem xq_Mo_take : xcw Y_Mo_take 2 := ⟨xTw_4 14 rfl rfl, xTw_1 7 rfl rfl, ⟨by decide, by decide⟩, by decide +kernel⟩
theorem xq_Mo_goes : xcw Y_Mo_goes 1 := ⟨xTw_4 18 rfl rfl, xTw_1 7 rfl rfl, ⟨by decide, by decide⟩, by decide +kernel⟩
theorem xq_Mo_sell : xcw Y_Mo_sell 3 := ⟨xTw_4 25 rfl rfl, xTw_1 7 rfl rfl, ⟨by decide, by decide⟩, by decide +kernel⟩
theorem xq_Mo_span : xcw Y_Mo_span 3 := ⟨xTw_4 29 rfl rfl, xTw_1 7 rfl rfl, ⟨by decide, by decide⟩, by decide +kernel⟩
theorem xq_Mo_mix : xcw Y_Mo_mix 3 := ⟨xTw_4 33 rfl rfl, xTw_1 7 rfl rfl, ⟨by decide, by decide⟩, by decide +kernel⟩
theorem xq_Mo_carbon : xcw Y_Mo_carbon 0 := ⟨xTw_4 37 rfl rfl, xTw_1 7 rfl rfl, ⟨by decide, by decide⟩, by decide +kernel⟩
theorem xl_RF_9 : Cond.methodLink "ResidueFlows" 9 ⟨"ResidueFlows$Share", "<init>", "(II)V"⟩ ∈ xTw ∧ Cond.instanceMethod ⟨"ResidueFlows$Share", "<init>", "(II)V"⟩ ∈ xTw := ⟨xTw_1 24 rfl rfl, xTw_1 25 rfl rfl⟩
theorem xl_RF_23 : Cond.methodLink "ResidueFlows" 23 ⟨"ResidueFlows$Parts", "<init>", "()V"⟩ ∈ xTw ∧ Cond.instanceMethod ⟨"ResidueFlows$Parts", "<init>", "()V"⟩ ∈ xTw := ⟨xTw_1 39 rfl rfl, xTw_1 40 rfl rfl⟩
theorem xl_RF_37 : Cond.methodLink "ResidueFlows" 37 ⟨"ResidueFlows$Bin", "<init>", "()V"⟩ ∈ xTw ∧ Cond.instanceMethod ⟨"ResidueFlows$Bin", "<init>", "()V"⟩ ∈ xTw := ⟨xTw_1 63 rfl rfl, xTw_1 64 rfl rfl⟩
theorem xl_RF_44 : Cond.methodLink "ResidueFlows" 44 ⟨"ResidueFlows$Screen", "<init>", "()V"⟩ ∈ xTw ∧ Cond.instanceMethod ⟨"ResidueFlows$Screen", "<init>", "()V"⟩ ∈ xTw := ⟨xTw_1 99 rfl rfl, xTw_1 100 rfl rfl⟩
theorem xl_RF_47 : Cond.methodLink "ResidueFlows" 47 ⟨"ResidueFlows$Boiler", "<init>", "()V"⟩ ∈ xTw ∧ Cond.instanceMethod ⟨"ResidueFlows$Boiler", "<init>", "()V"⟩ ∈ xTw := ⟨xTw_1 130 rfl rfl, xTw_1 131 rfl rfl⟩
theorem xc_RF_75 : xcv "ResidueFlows" 75 Y_Sh_of 1 := ⟨xq_Sh_of, xTw_2 55 rfl rfl, xTw_2 56 rfl rfl, xTw_2 57 rfl rfl⟩
theorem xc_RF_83 : xcv "ResidueFlows" 83 Y_Pa_tell 5 := ⟨xq_Pa_tell, xTw_2 64 rfl rfl, xTw_2 65 rfl rfl, xTw_2 66 rfl rfl⟩
theorem xc_RF_87 : xcv "ResidueFlows" 87 Y_Pa_add 1 := ⟨xq_Pa_add, xTw_2 68 rfl rfl, xTw_2 69 rfl rfl, xTw_2 70 rfl rfl⟩
theorem xc_RF_94 : xcs "ResidueFlows" 94 Y_RF_checkKind 1 := ⟨xq_RF_checkKind, xTw_2 80 rfl rfl, xTw_2 81 rfl rfl⟩
theorem xc_RF_98 : xcv "ResidueFlows" 98 Y_RF_checkLogs 0 := ⟨xq_RF_checkLogs, xTw_2 84 rfl rfl, xTw_2 86 rfl rfl, xTw_p 1 rfl rfl⟩
theorem xc_RF_101 : xcv "ResidueFlows" 101 Y_Pa_ofKind 1 := ⟨xq_Pa_ofKind, xTw_2 104 rfl rfl, xTw_2 105 rfl rfl, xTw_2 106 rfl rfl⟩
theorem xc_RF_126 : xcv "ResidueFlows" 126 Y_RF_binAt 1 := ⟨xq_RF_binAt, xTw_2 132 rfl rfl, xTw_2 134 rfl rfl, xTw_p 2 rfl rfl⟩
theorem xc_RF_130 : xcs "ResidueFlows" 130 Y_RF_checkPoured 2 := ⟨xq_RF_checkPoured, xTw_2 137 rfl rfl, xTw_2 138 rfl rfl⟩
theorem xc_RF_133 : xcv "ResidueFlows" 133 Y_Bi_hasRoom 1 := ⟨xq_Bi_hasRoom, xTw_2 141 rfl rfl, xTw_2 142 rfl rfl, xTw_2 143 rfl rfl⟩
theorem xc_RF_137 : xcv "ResidueFlows" 137 Y_RF_pourInto 3 := ⟨xq_RF_pourInto, xTw_2 150 rfl rfl, xTw_2 152 rfl rfl, xTw_p 3 rfl rfl⟩
theorem xc_RF_150 : xcv "ResidueFlows" 150 Y_Bi_grams 0 := ⟨xq_Bi_grams, xTw_2 166 rfl rfl, xTw_2 146 rfl rfl, xTw_2 147 rfl rfl⟩
theorem xc_RF_156 : xcv "ResidueFlows" 156 Y_RF_screenAt 1 := ⟨xq_RF_screenAt, xTw_2 175 rfl rfl, xTw_2 177 rfl rfl, xTw_p 4 rfl rfl⟩
theorem xc_RF_168 : xcv "ResidueFlows" 168 Y_Sc_tell 5 := ⟨xq_Sc_tell, xTw_2 184 rfl rfl, xTw_2 185 rfl rfl, xTw_2 186 rfl rfl⟩
theorem xc_RF_196 : xcv "ResidueFlows" 196 Y_RF_gramsLost 0 := ⟨xq_RF_gramsLost, xTw_2 212 rfl rfl, xTw_2 214 rfl rfl, xTw_p 5 rfl rfl⟩
theorem xc_RF_212 : xcs "ResidueFlows" 212 Y_RF_checkDay 1 := ⟨xq_RF_checkDay, xTw_2 224 rfl rfl, xTw_2 225 rfl rfl⟩
theorem xc_RF_215 : xcv "ResidueFlows" 215 Y_Bo_lastDay 0 := ⟨xq_Bo_lastDay, xTw_2 228 rfl rfl, xTw_2 229 rfl rfl, xTw_2 230 rfl rfl⟩
theorem xc_RF_221 : xcv "ResidueFlows" 221 Y_Bo_add 2 := ⟨xq_Bo_add, xTw_2 233 rfl rfl, xTw_2 234 rfl rfl, xTw_2 235 rfl rfl⟩
theorem xc_RF_229 : xcs "ResidueFlows" 229 Y_RF_checkTaken 1 := ⟨xq_RF_checkTaken, xTw_3 5 rfl rfl, xTw_3 6 rfl rfl⟩
theorem xc_RF_232 : xcs "ResidueFlows" 232 Y_RF_checkEnough 2 := ⟨xq_RF_checkEnough, xTw_3 9 rfl rfl, xTw_3 10 rfl rfl⟩
theorem xc_RF_236 : xcv "ResidueFlows" 236 Y_Bi_waterIn 1 := ⟨xq_Bi_waterIn, xTw_3 13 rfl rfl, xTw_3 14 rfl rfl, xTw_3 15 rfl rfl⟩
theorem xc_RF_239 : xcv "ResidueFlows" 239 Y_Bi_dryIn 1 := ⟨xq_Bi_dryIn, xTw_3 18 rfl rfl, xTw_3 19 rfl rfl, xTw_3 20 rfl rfl⟩
theorem xc_RF_242 : xcv "ResidueFlows" 242 Y_RF_takeAway 3 := ⟨xq_RF_takeAway, xTw_3 23 rfl rfl, xTw_3 25 rfl rfl, xTw_p 6 rfl rfl⟩
theorem xc_RF_250 : xcv "ResidueFlows" 250 Y_Bo_percentAt 1 := ⟨xq_Bo_percentAt, xTw_3 29 rfl rfl, xTw_3 30 rfl rfl, xTw_3 31 rfl rfl⟩
theorem xc_RF_270 : xcv "ResidueFlows" 270 Y_Bi_spanAllows 2 := ⟨xq_Bi_spanAllows, xTw_3 59 rfl rfl, xTw_3 60 rfl rfl, xTw_3 61 rfl rfl⟩
theorem xc_RF_274 : xcv "ResidueFlows" 274 Y_Bi_change 2 := ⟨xq_Bi_change, xTw_2 154 rfl rfl, xTw_2 155 rfl rfl, xTw_2 156 rfl rfl⟩
theorem xc_Bi_27 : xcv "ResidueFlows$Bin" 27 Y_Bi_grams 0 := ⟨xq_Bi_grams, xTw_2 145 rfl rfl, xTw_2 146 rfl rfl, xTw_2 147 rfl rfl⟩
theorem xc_Bi_36 : xcn "ResidueFlows$Bin" 36 Y_RF_portion 3 "ResidueFlows" := ⟨xq_RF_portion, by decide +kernel, xTw_2 60 rfl rfl⟩
theorem xc_Bi_40 : xcv "ResidueFlows$Bin" 40 Y_Bi_waterIn 1 := ⟨xq_Bi_waterIn, xTw_3 22 rfl rfl, xTw_3 14 rfl rfl, xTw_3 15 rfl rfl⟩
theorem xc_Sh_16 : xcn "ResidueFlows$Share" 16 Y_RF_portion 3 "ResidueFlows" := ⟨xq_RF_portion, by decide +kernel, xTw_2 60 rfl rfl⟩
theorem xc_La_7 : xcv "ResidueFlowsLaw" 7 Y_RF_share 3 := ⟨xq_RF_share, xTw_1 198 rfl rfl, xTw_1 199 rfl rfl, xTw_1 200 rfl rfl⟩
theorem xc_La_17 : xcv "ResidueFlowsLaw" 17 Y_RF_log 3 := ⟨xq_RF_log, xTw_2 49 rfl rfl, xTw_2 50 rfl rfl, xTw_2 51 rfl rfl⟩
theorem xc_La_21 : xcv "ResidueFlowsLaw" 21 Y_RF_volume 2 := ⟨xq_RF_volume, xTw_2 76 rfl rfl, xTw_2 77 rfl rfl, xTw_2 78 rfl rfl⟩
theorem xc_La_27 : xcv "ResidueFlowsLaw" 27 Y_RF_boards 1 := ⟨xq_RF_boards, xTw_2 111 rfl rfl, xTw_2 112 rfl rfl, xTw_2 113 rfl rfl⟩
theorem xc_La_31 : xcv "ResidueFlowsLaw" 31 Y_RF_bin 2 := ⟨xq_RF_bin, xTw_2 118 rfl rfl, xTw_2 119 rfl rfl, xTw_2 120 rfl rfl⟩
theorem xc_La_35 : xcv "ResidueFlowsLaw" 35 Y_RF_pour 3 := ⟨xq_RF_pour, xTw_2 128 rfl rfl, xTw_2 129 rfl rfl, xTw_2 130 rfl rfl⟩
theorem xc_La_39 : xcv "ResidueFlowsLaw" 39 Y_RF_about 2 := ⟨xq_RF_about, xTw_2 162 rfl rfl, xTw_2 163 rfl rfl, xTw_2 164 rfl rfl⟩
theorem xc_La_43 : xcv "ResidueFlowsLaw" 43 Y_RF_screen 6 := ⟨xq_RF_screen, xTw_2 171 rfl rfl, xTw_2 172 rfl rfl, xTw_2 173 rfl rfl⟩
theorem xc_La_47 : xcv "ResidueFlowsLaw" 47 Y_RF_send 3 := ⟨xq_RF_send, xTw_2 191 rfl rfl, xTw_2 192 rfl rfl, xTw_2 193 rfl rfl⟩
theorem xc_La_50 : xcv "ResidueFlowsLaw" 50 Y_RF_scale 2 := ⟨xq_RF_scale, xTw_2 199 rfl rfl, xTw_2 200 rfl rfl, xTw_2 201 rfl rfl⟩
theorem xc_La_54 : xcv "ResidueFlowsLaw" 54 Y_RF_shift 1 := ⟨xq_RF_shift, xTw_2 208 rfl rfl, xTw_2 209 rfl rfl, xTw_2 210 rfl rfl⟩
theorem xc_La_58 : xcv "ResidueFlowsLaw" 58 Y_RF_row 2 := ⟨xq_RF_row, xTw_2 220 rfl rfl, xTw_2 221 rfl rfl, xTw_2 222 rfl rfl⟩
theorem xc_La_61 : xcv "ResidueFlowsLaw" 61 Y_RF_burn 3 := ⟨xq_RF_burn, xTw_3 1 rfl rfl, xTw_3 2 rfl rfl, xTw_3 3 rfl rfl⟩
theorem xc_La_65 : xcv "ResidueFlowsLaw" 65 Y_RF_sell 3 := ⟨xq_RF_sell, xTw_3 37 rfl rfl, xTw_3 38 rfl rfl, xTw_3 39 rfl rfl⟩
theorem xc_La_68 : xcv "ResidueFlowsLaw" 68 Y_RF_span 3 := ⟨xq_RF_span, xTw_3 46 rfl rfl, xTw_3 47 rfl rfl, xTw_3 48 rfl rfl⟩
theorem xc_La_71 : xcv "ResidueFlowsLaw" 71 Y_RF_mix 3 := ⟨xq_RF_mix, xTw_3 54 rfl rfl, xTw_3 55 rfl rfl, xTw_3 56 rfl rfl⟩
theorem xl_La_74 : Cond.methodLink "ResidueFlowsLaw" 74 ⟨"ResidueFlows", "<init>", "()V"⟩ ∈ xTw ∧ Cond.instanceMethod ⟨"ResidueFlows", "<init>", "()V"⟩ ∈ xTw := ⟨xTw_1 16 rfl rfl, xTw_1 17 rfl rfl⟩
theorem xl_La_77 : Cond.methodLink "ResidueFlowsLaw" 77 ⟨"ResidueFlowsModel", "<init>", "()V"⟩ ∈ xTw ∧ Cond.instanceMethod ⟨"ResidueFlowsModel", "<init>", "()V"⟩ ∈ xTw := ⟨xTw_3 65 rfl rfl, xTw_3 66 rfl rfl⟩
theorem xc_La_78 : xcs "ResidueFlowsLaw" 78 Y_La_share 4 := ⟨xq_La_share, xTw_1 193 rfl rfl, xTw_1 194 rfl rfl⟩
theorem xc_La_83 : xcv "ResidueFlowsLaw" 83 Y_Mo_share 3 := ⟨xq_Mo_share, xTw_3 152 rfl rfl, xTw_3 153 rfl rfl, xTw_3 154 rfl rfl⟩
theorem xc_La_84 : xcv "ResidueFlowsLaw" 84 Y_Mo_thrown 0 := ⟨xq_Mo_thrown, xTw_3 148 rfl rfl, xTw_3 149 rfl rfl, xTw_3 150 rfl rfl⟩
theorem xc_La_88 : xcs "ResidueFlowsLaw" 88 Y_La_log 5 := ⟨xq_La_log, xTw_2 46 rfl rfl, xTw_2 47 rfl rfl⟩
theorem xc_La_91 : xcv "ResidueFlowsLaw" 91 Y_Mo_log 3 := ⟨xq_Mo_log, xTw_3 160 rfl rfl, xTw_3 161 rfl rfl, xTw_3 162 rfl rfl⟩
theorem xc_La_92 : xcs "ResidueFlowsLaw" 92 Y_La_volume 4 := ⟨xq_La_volume, xTw_2 72 rfl rfl, xTw_2 73 rfl rfl⟩
theorem xc_La_95 : xcv "ResidueFlowsLaw" 95 Y_Mo_volume 2 := ⟨xq_Mo_volume, xTw_3 167 rfl rfl, xTw_3 168 rfl rfl, xTw_3 169 rfl rfl⟩
theorem xc_La_96 : xcs "ResidueFlowsLaw" 96 Y_La_boards 3 := ⟨xq_La_boards, xTw_2 108 rfl rfl, xTw_2 109 rfl rfl⟩
theorem xc_La_99 : xcv "ResidueFlowsLaw" 99 Y_Mo_boards 1 := ⟨xq_Mo_boards, xTw_3 171 rfl rfl, xTw_3 172 rfl rfl, xTw_3 173 rfl rfl⟩
theorem xc_La_100 : xcs "ResidueFlowsLaw" 100 Y_La_bin 4 := ⟨xq_La_bin, xTw_2 115 rfl rfl, xTw_2 116 rfl rfl⟩
theorem xc_La_103 : xcv "ResidueFlowsLaw" 103 Y_Mo_bin 2 := ⟨xq_Mo_bin, xTw_3 175 rfl rfl, xTw_3 176 rfl rfl, xTw_3 177 rfl rfl⟩
theorem xc_La_104 : xcs "ResidueFlowsLaw" 104 Y_La_pour 5 := ⟨xq_La_pour, xTw_2 125 rfl rfl, xTw_2 126 rfl rfl⟩
theorem xc_La_106 : xcv "ResidueFlowsLaw" 106 Y_Mo_pour 3 := ⟨xq_Mo_pour, xTw_3 180 rfl rfl, xTw_3 181 rfl rfl, xTw_3 182 rfl rfl⟩
theorem xc_La_107 : xcs "ResidueFlowsLaw" 107 Y_La_about 4 := ⟨xq_La_about, xTw_2 159 rfl rfl, xTw_2 160 rfl rfl⟩
theorem xc_La_109 : xcv "ResidueFlowsLaw" 109 Y_Mo_about 2 := ⟨xq_Mo_about, xTw_3 203 rfl rfl, xTw_3 204 rfl rfl, xTw_3 205 rfl rfl⟩
theorem xc_La_110 : xcs "ResidueFlowsLaw" 110 Y_La_screen 7 := ⟨xq_La_screen, xTw_2 168 rfl rfl, xTw_2 169 rfl rfl⟩
theorem xc_La_113 : xcv "ResidueFlowsLaw" 113 Y_Mo_screen 6 := ⟨xq_Mo_screen, xTw_3 207 rfl rfl, xTw_3 208 rfl rfl, xTw_3 209 rfl rfl⟩
theorem xc_La_114 : xcs "ResidueFlowsLaw" 114 Y_La_send 5 := ⟨xq_La_send, xTw_2 188 rfl rfl, xTw_2 189 rfl rfl⟩
theorem xc_La_116 : xcv "ResidueFlowsLaw" 116 Y_Mo_send 3 := ⟨xq_Mo_send, xTw_3 212 rfl rfl, xTw_3 213 rfl rfl, xTw_3 214 rfl rfl⟩
theorem xc_La_119 : xcs "ResidueFlowsLaw" 119 Y_La_scale 3 := ⟨xq_La_scale, xTw_2 196 rfl rfl, xTw_2 197 rfl rfl⟩
theorem xc_La_122 : xcv "ResidueFlowsLaw" 122 Y_Mo_scale 2 := ⟨xq_Mo_scale, xTw_3 224 rfl rfl, xTw_3 225 rfl rfl, xTw_3 226 rfl rfl⟩
theorem xc_La_123 : xcs "ResidueFlowsLaw" 123 Y_La_shift 3 := ⟨xq_La_shift, xTw_2 205 rfl rfl, xTw_2 206 rfl rfl⟩
theorem xc_La_126 : xcv "ResidueFlowsLaw" 126 Y_Mo_shift 1 := ⟨xq_Mo_shift, xTw_3 229 rfl rfl, xTw_3 230 rfl rfl, xTw_3 231 rfl rfl⟩
theorem xc_La_127 : xcv "ResidueFlowsLaw" 127 Y_RF_begin 0 := ⟨xq_RF_begin, xTw_1 183 rfl rfl, xTw_1 184 rfl rfl, xTw_1 185 rfl rfl⟩
theorem xc_La_130 : xcv "ResidueFlowsLaw" 130 Y_Mo_begin 0 := ⟨xq_Mo_begin, xTw_3 233 rfl rfl, xTw_3 234 rfl rfl, xTw_3 235 rfl rfl⟩
theorem xc_La_131 : xcs "ResidueFlowsLaw" 131 Y_La_row 4 := ⟨xq_La_row, xTw_2 217 rfl rfl, xTw_2 218 rfl rfl⟩
theorem xc_La_133 : xcv "ResidueFlowsLaw" 133 Y_Mo_row 2 := ⟨xq_Mo_row, xTw_3 237 rfl rfl, xTw_3 238 rfl rfl, xTw_3 239 rfl rfl⟩
theorem xc_La_134 : xcs "ResidueFlowsLaw" 134 Y_La_burn 5 := ⟨xq_La_burn, xTw_2 238 rfl rfl, xTw_2 239 rfl rfl⟩
theorem xc_La_136 : xcv "ResidueFlowsLaw" 136 Y_Mo_burn 3 := ⟨xq_Mo_burn, xTw_4 3 rfl rfl, xTw_4 4 rfl rfl, xTw_4 5 rfl rfl⟩
theorem xc_La_137 : xcs "ResidueFlowsLaw" 137 Y_La_sell 5 := ⟨xq_La_sell, xTw_3 34 rfl rfl, xTw_3 35 rfl rfl⟩
theorem xc_La_139 : xcv "ResidueFlowsLaw" 139 Y_Mo_sell 3 := ⟨xq_Mo_sell, xTw_4 22 rfl rfl, xTw_4 23 rfl rfl, xTw_4 24 rfl rfl⟩
theorem xc_La_140 : xcs "ResidueFlowsLaw" 140 Y_La_span 4 := ⟨xq_La_span, xTw_3 43 rfl rfl, xTw_3 44 rfl rfl⟩
theorem xc_La_142 : xcv "ResidueFlowsLaw" 142 Y_Mo_span 3 := ⟨xq_Mo_span, xTw_4 26 rfl rfl, xTw_4 27 rfl rfl, xTw_4 28 rfl rfl⟩
theorem xc_La_143 : xcs "ResidueFlowsLaw" 143 Y_La_mix 5 := ⟨xq_La_mix, xTw_3 51 rfl rfl, xTw_3 52 rfl rfl⟩
theorem xc_La_145 : xcv "ResidueFlowsLaw" 145 Y_Mo_mix 3 := ⟨xq_Mo_mix, xTw_4 30 rfl rfl, xTw_4 31 rfl rfl, xTw_4 32 rfl rfl⟩
theorem xc_La_146 : xcv "ResidueFlowsLaw" 146 Y_RF_carbon 0 := ⟨xq_RF_carbon, xTw_1 188 rfl rfl, xTw_1 189 rfl rfl, xTw_1 190 rfl rfl⟩
theorem xc_La_150 : xcv "ResidueFlowsLaw" 150 Y_Mo_carbon 0 := ⟨xq_Mo_carbon, xTw_4 34 rfl rfl, xTw_4 35 rfl rfl, xTw_4 36 rfl rfl⟩
theorem xc_Mo_71 : xcs "ResidueFlowsModel" 71 Y_Mo_isIn 3 := ⟨xq_Mo_isIn, xTw_3 157 rfl rfl, xTw_3 158 rfl rfl⟩
theorem xc_Mo_86 : xcv "ResidueFlowsModel" 86 Y_Mo_all 1 := ⟨xq_Mo_all, xTw_3 195 rfl rfl, xTw_3 197 rfl rfl, xTw_p 9 rfl rfl⟩
theorem xc_Mo_94 : xcv "ResidueFlowsModel" 94 Y_Mo_noBin 1 := ⟨xq_Mo_noBin, xTw_3 184 rfl rfl, xTw_3 186 rfl rfl, xTw_p 7 rfl rfl⟩
theorem xc_Mo_98 : xcs "ResidueFlowsModel" 98 Y_Mo_isPoured 2 := ⟨xq_Mo_isPoured, xTw_3 188 rfl rfl, xTw_3 189 rfl rfl⟩
theorem xc_Mo_102 : xcv "ResidueFlowsModel" 102 Y_Mo_hasRoom 2 := ⟨xq_Mo_hasRoom, xTw_3 191 rfl rfl, xTw_3 193 rfl rfl, xTw_p 8 rfl rfl⟩
theorem xc_Mo_106 : xcv "ResidueFlowsModel" 106 Y_Mo_add 3 := ⟨xq_Mo_add, xTw_3 199 rfl rfl, xTw_3 201 rfl rfl, xTw_p 10 rfl rfl⟩
theorem xc_Mo_112 : xcv "ResidueFlowsModel" 112 Y_Mo_others 2 := ⟨xq_Mo_others, xTw_3 220 rfl rfl, xTw_3 222 rfl rfl, xTw_p 12 rfl rfl⟩
theorem xc_Mo_116 : xcv "ResidueFlowsModel" 116 Y_Mo_part 3 := ⟨xq_Mo_part, xTw_3 216 rfl rfl, xTw_3 218 rfl rfl, xTw_p 11 rfl rfl⟩
theorem xc_Mo_141 : xcv "ResidueFlowsModel" 141 Y_Mo_has 2 := ⟨xq_Mo_has, xTw_4 7 rfl rfl, xTw_4 9 rfl rfl, xTw_p 13 rfl rfl⟩
theorem xc_Mo_144 : xcv "ResidueFlowsModel" 144 Y_Mo_take 2 := ⟨xq_Mo_take, xTw_4 11 rfl rfl, xTw_4 13 rfl rfl, xTw_p 14 rfl rfl⟩
theorem xc_Mo_148 : xcv "ResidueFlowsModel" 148 Y_Mo_goes 1 := ⟨xq_Mo_goes, xTw_4 15 rfl rfl, xTw_4 17 rfl rfl, xTw_p 15 rfl rfl⟩
set_option maxRecDepth 100000 in
theorem xh_RF_52 : xth "ResidueFlows" 52 56 "java/lang/IndexOutOfBoundsException" ["java/lang/RuntimeException", "java/lang/Exception"] := ⟨by decide +kernel, xTw_1 202 rfl rfl, xTw_1 203 rfl rfl, xTw_1 11 rfl rfl, by decide +kernel, by decide +kernel, by decide⟩
set_option maxRecDepth 100000 in
theorem xh_RF_59 : xth "ResidueFlows" 59 63 "java/lang/IllegalArgumentException" ["java/lang/RuntimeException", "java/lang/Exception"] := ⟨by decide +kernel, xTw_2 30 rfl rfl, xTw_2 31 rfl rfl, xTw_1 12 rfl rfl, by decide +kernel, by decide +kernel, by decide⟩
set_option maxRecDepth 100000 in
theorem xh_RF_115 : xth "ResidueFlows" 115 119 "java/lang/IllegalStateException" ["java/lang/RuntimeException", "java/lang/Exception"] := ⟨by decide +kernel, xTw_2 88 rfl rfl, xTw_2 89 rfl rfl, xTw_1 13 rfl rfl, by decide +kernel, by decide +kernel, by decide⟩
theorem xs_RF_54 : ("ResidueFlows", 54, "no such share") ∈ xTs := List.mem_of_getElem? (i := 0) rfl
theorem xs_RF_61 : ("ResidueFlows", 61, "not a share") ∈ xTs := List.mem_of_getElem? (i := 1) rfl
theorem xs_RF_71 : ("ResidueFlows", 71, "not a log") ∈ xTs := List.mem_of_getElem? (i := 2) rfl
theorem xs_RF_81 : ("ResidueFlows", 81, "boards and kerf are more than the log") ∈ xTs := List.mem_of_getElem? (i := 3) rfl
theorem xs_RF_110 : ("ResidueFlows", 110, "not what a bin can hold") ∈ xTs := List.mem_of_getElem? (i := 4) rfl
theorem xs_RF_117 : ("ResidueFlows", 117, "no room for a bin more") ∈ xTs := List.mem_of_getElem? (i := 5) rfl
theorem xs_RF_154 : ("ResidueFlows", 154, "nothing such is told of a bin") ∈ xTs := List.mem_of_getElem? (i := 6) rfl
theorem xs_RF_160 : ("ResidueFlows", 160, "two bins are one") ∈ xTs := List.mem_of_getElem? (i := 7) rfl
theorem xs_RF_162 : ("ResidueFlows", 162, "bins of unlike kinds") ∈ xTs := List.mem_of_getElem? (i := 8) rfl
theorem xs_RF_166 : ("ResidueFlows", 166, "a share is below 0") ∈ xTs := List.mem_of_getElem? (i := 9) rfl
theorem xs_RF_175 : ("ResidueFlows", 175, "the screen was not told") ∈ xTs := List.mem_of_getElem? (i := 10) rfl
theorem xs_RF_194 : ("ResidueFlows", 194, "not a reading") ∈ xTs := List.mem_of_getElem? (i := 11) rfl
theorem xs_RF_208 : ("ResidueFlows", 208, "nothing such is told of a shift") ∈ xTs := List.mem_of_getElem? (i := 12) rfl
theorem xs_RF_219 : ("ResidueFlows", 219, "not a row behind the one before") ∈ xTs := List.mem_of_getElem? (i := 13) rfl
theorem xs_RF_224 : ("ResidueFlows", 224, "no room for a row more") ∈ xTs := List.mem_of_getElem? (i := 14) rfl
theorem xs_RF_256 : ("ResidueFlows", 256, "not a price") ∈ xTs := List.mem_of_getElem? (i := 15) rfl
theorem xs_RF_260 : ("ResidueFlows", 260, "not a span") ∈ xTs := List.mem_of_getElem? (i := 16) rfl
theorem xs_RF_268 : ("ResidueFlows", 268, "both bins are one") ∈ xTs := List.mem_of_getElem? (i := 17) rfl
theorem xs_RF_280 : ("ResidueFlows", 280, "no such kind") ∈ xTs := List.mem_of_getElem? (i := 18) rfl
theorem xs_RF_282 : ("ResidueFlows", 282, "there was no log") ∈ xTs := List.mem_of_getElem? (i := 19) rfl
theorem xs_RF_284 : ("ResidueFlows", 284, "not what can be poured") ∈ xTs := List.mem_of_getElem? (i := 20) rfl
theorem xs_RF_286 : ("ResidueFlows", 286, "not what can be taken") ∈ xTs := List.mem_of_getElem? (i := 21) rfl
theorem xs_RF_288 : ("ResidueFlows", 288, "not a day") ∈ xTs := List.mem_of_getElem? (i := 22) rfl
theorem xs_RF_292 : ("ResidueFlows", 292, "there is not so much") ∈ xTs := List.mem_of_getElem? (i := 23) rfl
theorem xs_RF_294 : ("ResidueFlows", 294, "no such bin") ∈ xTs := List.mem_of_getElem? (i := 24) rfl
theorem xs_RF_296 : ("ResidueFlows", 296, "no such screen") ∈ xTs := List.mem_of_getElem? (i := 25) rfl
theorem xi_RF_109 : Cond.constant "ResidueFlows" 109 (1000000) ∈ xTw := xTw_2 122 rfl rfl
theorem xj_RF_73 : Cond.constantLong "ResidueFlows" 73 (63504000) ∈ xTw := xTw_2 54 rfl rfl
theorem xj_RF_79 : Cond.constantLong "ResidueFlows" 79 (25200) ∈ xTw := xTw_2 62 rfl rfl
theorem xj_RF_164 : Cond.constantLong "ResidueFlows" 164 (60) ∈ xTw := xTw_2 182 rfl rfl
theorem xj_RF_192 : Cond.constantLong "ResidueFlows" 192 (1000000000000) ∈ xTw := xTw_2 203 rfl rfl
theorem xj_RF_210 : Cond.constantLong "ResidueFlows" 210 (-1) ∈ xTw := xTw_1 187 rfl rfl
theorem xj_RF_246 : Cond.constantLong "ResidueFlows" 246 (19) ∈ xTw := xTw_3 27 rfl rfl
theorem xj_RF_248 : Cond.constantLong "ResidueFlows" 248 (3) ∈ xTw := xTw_3 28 rfl rfl
theorem xj_RF_254 : Cond.constantLong "ResidueFlows" 254 (100) ∈ xTw := xTw_3 33 rfl rfl
theorem xj_RF_258 : Cond.constantLong "ResidueFlows" 258 (1000000) ∈ xTw := xTw_3 42 rfl rfl
theorem xj_RF_278 : Cond.constantLong "ResidueFlows" 278 (2) ∈ xTw := xTw_1 192 rfl rfl
theorem xj_RF_290 : Cond.constantLong "ResidueFlows" 290 (1000) ∈ xTw := xTw_2 158 rfl rfl
theorem xj_Bi_9 : Cond.constantLong "ResidueFlows$Bin" 9 (-1) ∈ xTw := xTw_1 67 rfl rfl
theorem xj_Bi_31 : Cond.constantLong "ResidueFlows$Bin" 31 (1000) ∈ xTw := xTw_2 149 rfl rfl
theorem xj_La_117 : Cond.constantLong "ResidueFlowsLaw" 117 (4294967295) ∈ xTw := xTw_4 39 rfl rfl
theorem xj_Mo_35 : Cond.constantLong "ResidueFlowsModel" 35 (-1) ∈ xTw := xTw_3 69 rfl rfl
theorem xj_Mo_69 : Cond.constantLong "ResidueFlowsModel" 69 (10) ∈ xTw := xTw_3 156 rfl rfl
theorem xj_Mo_75 : Cond.constantLong "ResidueFlowsModel" 75 (1000) ∈ xTw := xTw_3 164 rfl rfl
theorem xj_Mo_77 : Cond.constantLong "ResidueFlowsModel" 77 (63504000) ∈ xTw := xTw_3 165 rfl rfl
theorem xj_Mo_79 : Cond.constantLong "ResidueFlowsModel" 79 (25200) ∈ xTw := xTw_3 166 rfl rfl
theorem xj_Mo_84 : Cond.constantLong "ResidueFlowsModel" 84 (1000000) ∈ xTw := xTw_3 179 rfl rfl
theorem xj_Mo_110 : Cond.constantLong "ResidueFlowsModel" 110 (60) ∈ xTw := xTw_3 211 rfl rfl
theorem xj_Mo_120 : Cond.constantLong "ResidueFlowsModel" 120 (1000000000000) ∈ xTw := xTw_3 228 rfl rfl
theorem xj_Mo_128 : Cond.constantLong "ResidueFlowsModel" 128 (364) ∈ xTw := xTw_4 1 rfl rfl
theorem xj_Mo_133 : Cond.constantLong "ResidueFlowsModel" 133 (200) ∈ xTw := xTw_4 2 rfl rfl
theorem xj_Mo_152 : Cond.constantLong "ResidueFlowsModel" 152 (100) ∈ xTw := xTw_4 19 rfl rfl
theorem xj_Mo_154 : Cond.constantLong "ResidueFlowsModel" 154 (19) ∈ xTw := xTw_4 20 rfl rfl
theorem xj_Mo_156 : Cond.constantLong "ResidueFlowsModel" 156 (3) ∈ xTw := xTw_4 21 rfl rfl
theorem xj_Mo_158 : Cond.constantLong "ResidueFlowsModel" 158 (2) ∈ xTw := xTw_4 38 rfl rfl
theorem xa_La_share_I : xcat Y_La_share 4 "java/lang/IndexOutOfBoundsException" 10 := ⟨[], (0, 7, 10, 13), [(0, 7, 14, 15)], rfl, rfl, by decide, (fun u hu => absurd hu List.not_mem_nil), _, xTw_1 196 rfl rfl, by decide +kernel⟩
theorem xa_La_share_A : xcat Y_La_share 4 "java/lang/IllegalArgumentException" 14 := ⟨[(0, 7, 10, 13)], (0, 7, 14, 15), [], rfl, rfl, by decide, (fun u hu => by
  have hu := List.mem_singleton.mp hu; subst hu; exact ⟨_, xTw_1 196 rfl rfl, by decide +kernel⟩), _, xTw_1 197 rfl rfl, by decide +kernel⟩
theorem xa_La_log_A : xcat Y_La_log 7 "java/lang/IllegalArgumentException" 15 := ⟨[], (0, 12, 15, 15), [], rfl, rfl, by decide, (fun u hu => absurd hu List.not_mem_nil), _, xTw_1 197 rfl rfl, by decide +kernel⟩
theorem xa_La_volume_I : xcat Y_La_volume 5 "java/lang/IndexOutOfBoundsException" 12 := ⟨[], (0, 9, 12, 13), [(0, 9, 16, 25)], rfl, rfl, by decide, (fun u hu => absurd hu List.not_mem_nil), _, xTw_1 196 rfl rfl, by decide +kernel⟩
theorem xa_La_volume_S : xcat Y_La_volume 5 "java/lang/IllegalStateException" 16 := ⟨[(0, 9, 12, 13)], (0, 9, 16, 25), [], rfl, rfl, by decide, (fun u hu => by
  have hu := List.mem_singleton.mp hu; subst hu; exact ⟨_, xTw_1 196 rfl rfl, by decide +kernel⟩), _, xTw_2 75 rfl rfl, by decide +kernel⟩
theorem xa_La_boards_S : xcat Y_La_boards 4 "java/lang/IllegalStateException" 11 := ⟨[], (0, 8, 11, 25), [], rfl, rfl, by decide, (fun u hu => absurd hu List.not_mem_nil), _, xTw_2 75 rfl rfl, by decide +kernel⟩
theorem xa_La_bin_I : xcat Y_La_bin 5 "java/lang/IndexOutOfBoundsException" 13 := ⟨[], (0, 10, 13, 13), [(0, 10, 17, 15), (0, 10, 21, 25)], rfl, rfl, by decide, (fun u hu => absurd hu List.not_mem_nil), _, xTw_1 196 rfl rfl, by decide +kernel⟩
theorem xa_La_bin_A : xcat Y_La_bin 5 "java/lang/IllegalArgumentException" 17 := ⟨[(0, 10, 13, 13)], (0, 10, 17, 15), [(0, 10, 21, 25)], rfl, rfl, by decide, (fun u hu => by
  have hu := List.mem_singleton.mp hu; subst hu; exact ⟨_, xTw_1 196 rfl rfl, by decide +kernel⟩), _, xTw_1 197 rfl rfl, by decide +kernel⟩
theorem xa_La_bin_S : xcat Y_La_bin 5 "java/lang/IllegalStateException" 21 := ⟨[(0, 10, 13, 13), (0, 10, 17, 15)], (0, 10, 21, 25), [], rfl, rfl, by decide, (fun u hu => by
  rcases List.mem_cons.mp hu with rfl | hu
  · exact ⟨_, xTw_1 196 rfl rfl, by decide +kernel⟩
  · have hu := List.mem_singleton.mp hu
    subst hu
    exact ⟨_, xTw_1 197 rfl rfl, by decide +kernel⟩), _, xTw_2 75 rfl rfl, by decide +kernel⟩
theorem xa_La_pour_I : xcat Y_La_pour 7 "java/lang/IndexOutOfBoundsException" 22 := ⟨[], (0, 19, 22, 13), [(0, 19, 26, 15)], rfl, rfl, by decide, (fun u hu => absurd hu List.not_mem_nil), _, xTw_1 196 rfl rfl, by decide +kernel⟩
theorem xa_La_pour_A : xcat Y_La_pour 7 "java/lang/IllegalArgumentException" 26 := ⟨[(0, 19, 22, 13)], (0, 19, 26, 15), [], rfl, rfl, by decide, (fun u hu => by
  have hu := List.mem_singleton.mp hu; subst hu; exact ⟨_, xTw_1 196 rfl rfl, by decide +kernel⟩), _, xTw_1 197 rfl rfl, by decide +kernel⟩
theorem xa_La_about_I : xcat Y_La_about 5 "java/lang/IndexOutOfBoundsException" 12 := ⟨[], (0, 9, 12, 13), [], rfl, rfl, by decide, (fun u hu => absurd hu List.not_mem_nil), _, xTw_1 196 rfl rfl, by decide +kernel⟩
theorem xa_La_screen_I : xcat Y_La_screen 10 "java/lang/IndexOutOfBoundsException" 16 := ⟨[], (0, 13, 16, 13), [(0, 13, 20, 15)], rfl, rfl, by decide, (fun u hu => absurd hu List.not_mem_nil), _, xTw_1 196 rfl rfl, by decide +kernel⟩
theorem xa_La_screen_A : xcat Y_La_screen 10 "java/lang/IllegalArgumentException" 20 := ⟨[(0, 13, 16, 13)], (0, 13, 20, 15), [], rfl, rfl, by decide, (fun u hu => by
  have hu := List.mem_singleton.mp hu; subst hu; exact ⟨_, xTw_1 196 rfl rfl, by decide +kernel⟩), _, xTw_1 197 rfl rfl, by decide +kernel⟩
theorem xa_La_send_I : xcat Y_La_send 7 "java/lang/IndexOutOfBoundsException" 22 := ⟨[], (0, 19, 22, 13), [(0, 19, 26, 15), (0, 19, 30, 25)], rfl, rfl, by decide, (fun u hu => absurd hu List.not_mem_nil), _, xTw_1 196 rfl rfl, by decide +kernel⟩
theorem xa_La_send_A : xcat Y_La_send 7 "java/lang/IllegalArgumentException" 26 := ⟨[(0, 19, 22, 13)], (0, 19, 26, 15), [(0, 19, 30, 25)], rfl, rfl, by decide, (fun u hu => by
  have hu := List.mem_singleton.mp hu; subst hu; exact ⟨_, xTw_1 196 rfl rfl, by decide +kernel⟩), _, xTw_1 197 rfl rfl, by decide +kernel⟩
theorem xa_La_send_S : xcat Y_La_send 7 "java/lang/IllegalStateException" 30 := ⟨[(0, 19, 22, 13), (0, 19, 26, 15)], (0, 19, 30, 25), [], rfl, rfl, by decide, (fun u hu => by
  rcases List.mem_cons.mp hu with rfl | hu
  · exact ⟨_, xTw_1 196 rfl rfl, by decide +kernel⟩
  · have hu := List.mem_singleton.mp hu
    subst hu
    exact ⟨_, xTw_1 197 rfl rfl, by decide +kernel⟩), _, xTw_2 75 rfl rfl, by decide +kernel⟩
theorem xa_La_scale_I : xcat Y_La_scale 3 "java/lang/IndexOutOfBoundsException" 9 := ⟨[], (0, 6, 9, 13), [(0, 6, 13, 15)], rfl, rfl, by decide, (fun u hu => absurd hu List.not_mem_nil), _, xTw_1 196 rfl rfl, by decide +kernel⟩
theorem xa_La_scale_A : xcat Y_La_scale 3 "java/lang/IllegalArgumentException" 13 := ⟨[(0, 6, 9, 13)], (0, 6, 13, 15), [], rfl, rfl, by decide, (fun u hu => by
  have hu := List.mem_singleton.mp hu; subst hu; exact ⟨_, xTw_1 196 rfl rfl, by decide +kernel⟩), _, xTw_1 197 rfl rfl, by decide +kernel⟩
theorem xa_La_shift_I : xcat Y_La_shift 4 "java/lang/IndexOutOfBoundsException" 11 := ⟨[], (0, 8, 11, 13), [], rfl, rfl, by decide, (fun u hu => absurd hu List.not_mem_nil), _, xTw_1 196 rfl rfl, by decide +kernel⟩
theorem xa_La_row_A : xcat Y_La_row 5 "java/lang/IllegalArgumentException" 13 := ⟨[], (0, 10, 13, 15), [(0, 10, 17, 25)], rfl, rfl, by decide, (fun u hu => absurd hu List.not_mem_nil), _, xTw_1 197 rfl rfl, by decide +kernel⟩
theorem xa_La_row_S : xcat Y_La_row 5 "java/lang/IllegalStateException" 17 := ⟨[(0, 10, 13, 15)], (0, 10, 17, 25), [], rfl, rfl, by decide, (fun u hu => by
  have hu := List.mem_singleton.mp hu; subst hu; exact ⟨_, xTw_1 197 rfl rfl, by decide +kernel⟩), _, xTw_2 75 rfl rfl, by decide +kernel⟩
theorem xa_La_burn_I : xcat Y_La_burn 7 "java/lang/IndexOutOfBoundsException" 14 := ⟨[], (0, 11, 14, 13), [(0, 11, 18, 15), (0, 11, 22, 25)], rfl, rfl, by decide, (fun u hu => absurd hu List.not_mem_nil), _, xTw_1 196 rfl rfl, by decide +kernel⟩
theorem xa_La_burn_A : xcat Y_La_burn 7 "java/lang/IllegalArgumentException" 18 := ⟨[(0, 11, 14, 13)], (0, 11, 18, 15), [(0, 11, 22, 25)], rfl, rfl, by decide, (fun u hu => by
  have hu := List.mem_singleton.mp hu; subst hu; exact ⟨_, xTw_1 196 rfl rfl, by decide +kernel⟩), _, xTw_1 197 rfl rfl, by decide +kernel⟩
theorem xa_La_burn_S : xcat Y_La_burn 7 "java/lang/IllegalStateException" 22 := ⟨[(0, 11, 14, 13), (0, 11, 18, 15)], (0, 11, 22, 25), [], rfl, rfl, by decide, (fun u hu => by
  rcases List.mem_cons.mp hu with rfl | hu
  · exact ⟨_, xTw_1 196 rfl rfl, by decide +kernel⟩
  · have hu := List.mem_singleton.mp hu
    subst hu
    exact ⟨_, xTw_1 197 rfl rfl, by decide +kernel⟩), _, xTw_2 75 rfl rfl, by decide +kernel⟩
theorem xa_La_sell_I : xcat Y_La_sell 7 "java/lang/IndexOutOfBoundsException" 14 := ⟨[], (0, 11, 14, 13), [(0, 11, 18, 15), (0, 11, 22, 25)], rfl, rfl, by decide, (fun u hu => absurd hu List.not_mem_nil), _, xTw_1 196 rfl rfl, by decide +kernel⟩
theorem xa_La_sell_A : xcat Y_La_sell 7 "java/lang/IllegalArgumentException" 18 := ⟨[(0, 11, 14, 13)], (0, 11, 18, 15), [(0, 11, 22, 25)], rfl, rfl, by decide, (fun u hu => by
  have hu := List.mem_singleton.mp hu; subst hu; exact ⟨_, xTw_1 196 rfl rfl, by decide +kernel⟩), _, xTw_1 197 rfl rfl, by decide +kernel⟩
theorem xa_La_sell_S : xcat Y_La_sell 7 "java/lang/IllegalStateException" 22 := ⟨[(0, 11, 14, 13), (0, 11, 18, 15)], (0, 11, 22, 25), [], rfl, rfl, by decide, (fun u hu => by
  rcases List.mem_cons.mp hu with rfl | hu
  · exact ⟨_, xTw_1 196 rfl rfl, by decide +kernel⟩
  · have hu := List.mem_singleton.mp hu
    subst hu
    exact ⟨_, xTw_1 197 rfl rfl, by decide +kernel⟩), _, xTw_2 75 rfl rfl, by decide +kernel⟩
theorem xa_La_span_I : xcat Y_La_span 4 "java/lang/IndexOutOfBoundsException" 10 := ⟨[], (0, 7, 10, 13), [(0, 7, 14, 15)], rfl, rfl, by decide, (fun u hu => absurd hu List.not_mem_nil), _, xTw_1 196 rfl rfl, by decide +kernel⟩
theorem xa_La_span_A : xcat Y_La_span 4 "java/lang/IllegalArgumentException" 14 := ⟨[(0, 7, 10, 13)], (0, 7, 14, 15), [], rfl, rfl, by decide, (fun u hu => by
  have hu := List.mem_singleton.mp hu; subst hu; exact ⟨_, xTw_1 196 rfl rfl, by decide +kernel⟩), _, xTw_1 197 rfl rfl, by decide +kernel⟩
theorem xa_La_mix_I : xcat Y_La_mix 7 "java/lang/IndexOutOfBoundsException" 22 := ⟨[], (0, 19, 22, 13), [(0, 19, 26, 15), (0, 19, 30, 25)], rfl, rfl, by decide, (fun u hu => absurd hu List.not_mem_nil), _, xTw_1 196 rfl rfl, by decide +kernel⟩
theorem xa_La_mix_A : xcat Y_La_mix 7 "java/lang/IllegalArgumentException" 26 := ⟨[(0, 19, 22, 13)], (0, 19, 26, 15), [(0, 19, 30, 25)], rfl, rfl, by decide, (fun u hu => by
  have hu := List.mem_singleton.mp hu; subst hu; exact ⟨_, xTw_1 196 rfl rfl, by decide +kernel⟩), _, xTw_1 197 rfl rfl, by decide +kernel⟩
theorem xa_La_mix_S : xcat Y_La_mix 7 "java/lang/IllegalStateException" 30 := ⟨[(0, 19, 22, 13), (0, 19, 26, 15)], (0, 19, 30, 25), [], rfl, rfl, by decide, (fun u hu => by
  rcases List.mem_cons.mp hu with rfl | hu
  · exact ⟨_, xTw_1 196 rfl rfl, by decide +kernel⟩
  · have hu := List.mem_singleton.mp hu
    subst hu
    exact ⟨_, xTw_1 197 rfl rfl, by decide +kernel⟩), _, xTw_2 75 rfl rfl, by decide +kernel⟩
