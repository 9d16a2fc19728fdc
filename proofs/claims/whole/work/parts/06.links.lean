theorem inX0 : ∀ w ∈ u_ws RX0 TX0 0, w ∈ TB := fun w h => absurd h (by simp [u_ws])
theorem inX1 : ∀ w ∈ u_ws RX1 TX1 3, w ∈ TB := mv_ws (fun j hj => match j, hj with | 0, _ => kw_1_160 | 1, _ => kw_1_162 | 2, _ => kw_1_164 | j + 3, h => absurd h (by omega))
theorem inX2 : ∀ w ∈ u_ws RX2 TX2 0, w ∈ TB := fun w h => absurd h (by simp [u_ws])
theorem inX3 : ∀ w ∈ u_ws RX3 TX3 6, w ∈ TB := mv_ws (fun j hj => match j, hj with | 0, _ => kw_1_79 | 1, _ => kw_1_81 | 2, _ => kw_1_83 | 3, _ => kw_1_85 | 4, _ => kw_1_87 | 5, _ => kw_1_89 | j + 6, h => absurd h (by omega))
theorem inX4 : ∀ w ∈ u_ws RX4 TX4 0, w ∈ TB := fun w h => absurd h (by simp [u_ws])
theorem inX5 : ∀ w ∈ u_ws RX5 TX5 3, w ∈ TB := mv_ws (fun j hj => match j, hj with | 0, _ => kw_1_143 | 1, _ => kw_1_145 | 2, _ => kw_1_147 | j + 3, h => absurd h (by omega))
theorem inX6 : ∀ w ∈ u_ws RX6 TX6 10, w ∈ TB := mv_ws (fun j hj => match j, hj with | 0, _ => kw_1_105 | 1, _ => kw_1_107 | 2, _ => kw_1_109 | 3, _ => kw_1_111 | 4, _ => kw_1_113 | 5, _ => kw_1_115 | 6, _ => kw_1_117 | 7, _ => kw_1_119 | 8, _ => kw_1_121 | 9, _ => kw_1_123 | j + 10, h => absurd h (by omega))
theorem inX7 : ∀ w ∈ u_ws RX7 TX7 4, w ∈ TB := mv_ws (fun j hj => match j, hj with | 0, _ => kw_1_45 | 1, _ => kw_1_47 | 2, _ => kw_1_49 | 3, _ => kw_1_51 | j + 4, h => absurd h (by omega))
theorem inX8 : ∀ w ∈ u_ws RX8 TX8 0, w ∈ TB := fun w h => absurd h (by simp [u_ws])
theorem inX9 : ∀ w ∈ u_ws RX9 TX9 0, w ∈ TB := fun w h => absurd h (by simp [u_ws])
theorem inX10 : ∀ w ∈ u_ws RX10 TX10 0, w ∈ TB := fun w h => absurd h (by simp [u_ws])
theorem inX11 : ∀ w ∈ u_ws RX11 TX11 14, w ∈ TB := mv_ws (fun j hj => match j, hj with | 0, _ => kw_1_235 | 1, _ => kw_1_237 | 2, _ => kw_1_239 | 3, _ => kw_2_1 | 4, _ => kw_2_3 | 5, _ => kw_2_5 | 6, _ => kw_2_7 | 7, _ => kw_2_9 | 8, _ => kw_2_11 | 9, _ => kw_2_13 | 10, _ => kw_2_15 | 11, _ => kw_2_17 | 12, _ => kw_2_19 | 13, _ => kw_2_21 | j + 14, h => absurd h (by omega))
theorem inX12 : ∀ w ∈ u_ws RX12 TX12 18, w ∈ TB := mv_ws (fun j hj => match j, hj with | 0, _ => kw_4_28 | 1, _ => kw_4_30 | 2, _ => kw_4_32 | 3, _ => kw_4_34 | 4, _ => kw_4_36 | 5, _ => kw_4_38 | 6, _ => kw_4_40 | 7, _ => kw_4_42 | 8, _ => kw_4_44 | 9, _ => kw_4_46 | 10, _ => kw_4_48 | 11, _ => kw_4_50 | 12, _ => kw_4_52 | 13, _ => kw_4_54 | 14, _ => kw_4_56 | 15, _ => kw_4_58 | 16, _ => kw_4_60 | 17, _ => kw_4_62 | j + 18, h => absurd h (by omega))
theorem fl_X7_9 : FLK RX7 9 7 0 (tyX7 0) true := ⟨RX7, TX7, 4, tyX7, rfl, by decide, inX7, tyX7_ok, nmX7, rfl, rfl, rfl, Or.inl kw_1_37⟩
theorem fl_X7_15 : FLK RX7 15 7 1 (tyX7 1) true := ⟨RX7, TX7, 4, tyX7, rfl, by decide, inX7, tyX7_ok, nmX7, rfl, rfl, rfl, Or.inl kw_1_38⟩
theorem fl_X7_22 : FLK RX7 22 7 2 (tyX7 2) false := ⟨RX7, TX7, 4, tyX7, rfl, by decide, inX7, tyX7_ok, nmX7, rfl, rfl, rfl, Or.inl kw_1_39⟩
theorem fl_X6_61 : FLK RX6 61 7 2 (tyX7 2) false := ⟨RX7, TX7, 4, tyX7, rfl, by decide, inX7, tyX7_ok, nmX7, rfl, rfl, rfl, Or.inr ⟨_, kw_1_40⟩⟩
theorem fl_X11_257 : FLK RX11 257 7 2 (tyX7 2) false := ⟨RX7, TX7, 4, tyX7, rfl, by decide, inX7, tyX7_ok, nmX7, rfl, rfl, rfl, Or.inr ⟨_, kw_1_41⟩⟩
theorem fl_X7_18 : FLK RX7 18 7 3 (tyX7 3) false := ⟨RX7, TX7, 4, tyX7, rfl, by decide, inX7, tyX7_ok, nmX7, rfl, rfl, rfl, Or.inl kw_1_42⟩
theorem fl_X6_109 : FLK RX6 109 7 3 (tyX7 3) false := ⟨RX7, TX7, 4, tyX7, rfl, by decide, inX7, tyX7_ok, nmX7, rfl, rfl, rfl, Or.inr ⟨_, kw_1_43⟩⟩
theorem fl_X11_193 : FLK RX11 193 7 3 (tyX7 3) false := ⟨RX7, TX7, 4, tyX7, rfl, by decide, inX7, tyX7_ok, nmX7, rfl, rfl, rfl, Or.inr ⟨_, kw_1_44⟩⟩
theorem fl_X3_9 : FLK RX3 9 3 0 (tyX3 0) true := ⟨RX3, TX3, 6, tyX3, rfl, by decide, inX3, tyX3_ok, nmX3, rfl, rfl, rfl, Or.inl kw_1_69⟩
theorem fl_X3_15 : FLK RX3 15 3 1 (tyX3 1) true := ⟨RX3, TX3, 6, tyX3, rfl, by decide, inX3, tyX3_ok, nmX3, rfl, rfl, rfl, Or.inl kw_1_70⟩
theorem fl_X3_18 : FLK RX3 18 3 2 (tyX3 2) true := ⟨RX3, TX3, 6, tyX3, rfl, by decide, inX3, tyX3_ok, nmX3, rfl, rfl, rfl, Or.inl kw_1_71⟩
theorem fl_X3_30 : FLK RX3 30 3 3 (tyX3 3) false := ⟨RX3, TX3, 6, tyX3, rfl, by decide, inX3, tyX3_ok, nmX3, rfl, rfl, rfl, Or.inl kw_1_72⟩
theorem fl_X11_154 : FLK RX11 154 3 3 (tyX3 3) false := ⟨RX3, TX3, 6, tyX3, rfl, by decide, inX3, tyX3_ok, nmX3, rfl, rfl, rfl, Or.inr ⟨_, kw_1_73⟩⟩
theorem fl_X9_23 : FLK RX9 23 3 4 (tyX3 4) false := ⟨RX3, TX3, 6, tyX3, rfl, by decide, inX3, tyX3_ok, nmX3, rfl, rfl, rfl, Or.inr ⟨_, kw_1_74⟩⟩
theorem fl_X3_34 : FLK RX3 34 3 4 (tyX3 4) false := ⟨RX3, TX3, 6, tyX3, rfl, by decide, inX3, tyX3_ok, nmX3, rfl, rfl, rfl, Or.inl kw_1_75⟩
theorem fl_X11_157 : FLK RX11 157 3 4 (tyX3 4) false := ⟨RX3, TX3, 6, tyX3, rfl, by decide, inX3, tyX3_ok, nmX3, rfl, rfl, rfl, Or.inr ⟨_, kw_1_76⟩⟩
theorem fl_X3_37 : FLK RX3 37 3 5 (tyX3 5) false := ⟨RX3, TX3, 6, tyX3, rfl, by decide, inX3, tyX3_ok, nmX3, rfl, rfl, rfl, Or.inl kw_1_77⟩
theorem fl_X11_160 : FLK RX11 160 3 5 (tyX3 5) false := ⟨RX3, TX3, 6, tyX3, rfl, by decide, inX3, tyX3_ok, nmX3, rfl, rfl, rfl, Or.inr ⟨_, kw_1_78⟩⟩
theorem fl_X6_9 : FLK RX6 9 6 0 (tyX6 0) true := ⟨RX6, TX6, 10, tyX6, rfl, by decide, inX6, tyX6_ok, nmX6, rfl, rfl, rfl, Or.inl kw_1_92⟩
theorem fl_X6_33 : FLK RX6 33 6 1 (tyX6 1) false := ⟨RX6, TX6, 10, tyX6, rfl, by decide, inX6, tyX6_ok, nmX6, rfl, rfl, rfl, Or.inl kw_1_93⟩
theorem fl_X11_91 : FLK RX11 91 6 1 (tyX6 1) false := ⟨RX6, TX6, 10, tyX6, rfl, by decide, inX6, tyX6_ok, nmX6, rfl, rfl, rfl, Or.inr ⟨_, kw_1_94⟩⟩
theorem fl_X6_18 : FLK RX6 18 6 2 (tyX6 2) true := ⟨RX6, TX6, 10, tyX6, rfl, by decide, inX6, tyX6_ok, nmX6, rfl, rfl, rfl, Or.inl kw_1_95⟩
theorem fl_X11_99 : FLK RX11 99 6 2 (tyX6 2) true := ⟨RX6, TX6, 10, tyX6, rfl, by decide, inX6, tyX6_ok, nmX6, rfl, rfl, rfl, Or.inr ⟨_, kw_1_96⟩⟩
theorem fl_X6_25 : FLK RX6 25 6 3 (tyX6 3) true := ⟨RX6, TX6, 10, tyX6, rfl, by decide, inX6, tyX6_ok, nmX6, rfl, rfl, rfl, Or.inl kw_1_97⟩
theorem fl_X11_104 : FLK RX11 104 6 3 (tyX6 3) true := ⟨RX6, TX6, 10, tyX6, rfl, by decide, inX6, tyX6_ok, nmX6, rfl, rfl, rfl, Or.inr ⟨_, kw_1_98⟩⟩
theorem fl_X6_41 : FLK RX6 41 6 4 (tyX6 4) false := ⟨RX6, TX6, 10, tyX6, rfl, by decide, inX6, tyX6_ok, nmX6, rfl, rfl, rfl, Or.inl kw_1_99⟩
theorem fl_X6_45 : FLK RX6 45 6 5 (tyX6 5) false := ⟨RX6, TX6, 10, tyX6, rfl, by decide, inX6, tyX6_ok, nmX6, rfl, rfl, rfl, Or.inl kw_1_100⟩
theorem fl_X6_58 : FLK RX6 58 6 6 (tyX6 6) false := ⟨RX6, TX6, 10, tyX6, rfl, by decide, inX6, tyX6_ok, nmX6, rfl, rfl, rfl, Or.inl kw_1_101⟩
theorem fl_X6_51 : FLK RX6 51 6 7 (tyX6 7) false := ⟨RX6, TX6, 10, tyX6, rfl, by decide, inX6, tyX6_ok, nmX6, rfl, rfl, rfl, Or.inl kw_1_102⟩
theorem fl_X6_95 : FLK RX6 95 6 8 (tyX6 8) false := ⟨RX6, TX6, 10, tyX6, rfl, by decide, inX6, tyX6_ok, nmX6, rfl, rfl, rfl, Or.inl kw_1_103⟩
theorem fl_X6_29 : FLK RX6 29 6 9 (tyX6 9) true := ⟨RX6, TX6, 10, tyX6, rfl, by decide, inX6, tyX6_ok, nmX6, rfl, rfl, rfl, Or.inl kw_1_104⟩
theorem fl_X5_11 : FLK RX5 11 5 0 (tyX5 0) true := ⟨RX5, TX5, 3, tyX5, rfl, by decide, inX5, tyX5_ok, nmX5, rfl, rfl, rfl, Or.inl kw_1_139⟩
theorem fl_X5_22 : FLK RX5 22 5 1 (tyX5 1) false := ⟨RX5, TX5, 3, tyX5, rfl, by decide, inX5, tyX5_ok, nmX5, rfl, rfl, rfl, Or.inl kw_1_140⟩
theorem fl_X5_18 : FLK RX5 18 5 2 (tyX5 2) false := ⟨RX5, TX5, 3, tyX5, rfl, by decide, inX5, tyX5_ok, nmX5, rfl, rfl, rfl, Or.inl kw_1_141⟩
theorem fl_X11_172 : FLK RX11 172 5 2 (tyX5 2) false := ⟨RX5, TX5, 3, tyX5, rfl, by decide, inX5, tyX5_ok, nmX5, rfl, rfl, rfl, Or.inr ⟨_, kw_1_142⟩⟩
theorem fl_X1_9 : FLK RX1 9 1 0 (tyX1 0) true := ⟨RX1, TX1, 3, tyX1, rfl, by decide, inX1, tyX1_ok, nmX1, rfl, rfl, rfl, Or.inl kw_1_156⟩
theorem fl_X1_15 : FLK RX1 15 1 1 (tyX1 1) true := ⟨RX1, TX1, 3, tyX1, rfl, by decide, inX1, tyX1_ok, nmX1, rfl, rfl, rfl, Or.inl kw_1_157⟩
theorem fl_X1_18 : FLK RX1 18 1 2 (tyX1 2) false := ⟨RX1, TX1, 3, tyX1, rfl, by decide, inX1, tyX1_ok, nmX1, rfl, rfl, rfl, Or.inl kw_1_158⟩
theorem fl_X11_113 : FLK RX11 113 1 2 (tyX1 2) false := ⟨RX1, TX1, 3, tyX1, rfl, by decide, inX1, tyX1_ok, nmX1, rfl, rfl, rfl, Or.inr ⟨_, kw_1_159⟩⟩
theorem fl_X11_12 : FLK RX11 12 11 0 (tyX11 0) true := ⟨RX11, TX11, 14, tyX11, rfl, by decide, inX11, tyX11_ok, nmX11, rfl, rfl, rfl, Or.inl kw_1_211⟩
theorem fl_X11_19 : FLK RX11 19 11 1 (tyX11 1) true := ⟨RX11, TX11, 14, tyX11, rfl, by decide, inX11, tyX11_ok, nmX11, rfl, rfl, rfl, Or.inl kw_1_212⟩
theorem fl_X4_13 : FLK RX4 13 11 1 (tyX11 1) true := ⟨RX11, TX11, 14, tyX11, rfl, by decide, inX11, tyX11_ok, nmX11, rfl, rfl, rfl, Or.inr ⟨_, kw_1_213⟩⟩
theorem fl_X0_19 : FLK RX0 19 11 1 (tyX11 1) true := ⟨RX11, TX11, 14, tyX11, rfl, by decide, inX11, tyX11_ok, nmX11, rfl, rfl, rfl, Or.inr ⟨_, kw_1_214⟩⟩
theorem fl_X11_26 : FLK RX11 26 11 2 (tyX11 2) true := ⟨RX11, TX11, 14, tyX11, rfl, by decide, inX11, tyX11_ok, nmX11, rfl, rfl, rfl, Or.inl kw_1_215⟩
theorem fl_X2_19 : FLK RX2 19 11 2 (tyX11 2) true := ⟨RX11, TX11, 14, tyX11, rfl, by decide, inX11, tyX11_ok, nmX11, rfl, rfl, rfl, Or.inr ⟨_, kw_1_216⟩⟩
theorem fl_X9_19 : FLK RX9 19 11 2 (tyX11 2) true := ⟨RX11, TX11, 14, tyX11, rfl, by decide, inX11, tyX11_ok, nmX11, rfl, rfl, rfl, Or.inr ⟨_, kw_1_217⟩⟩
theorem fl_X11_33 : FLK RX11 33 11 3 (tyX11 3) true := ⟨RX11, TX11, 14, tyX11, rfl, by decide, inX11, tyX11_ok, nmX11, rfl, rfl, rfl, Or.inl kw_1_218⟩
theorem fl_X11_40 : FLK RX11 40 11 4 (tyX11 4) true := ⟨RX11, TX11, 14, tyX11, rfl, by decide, inX11, tyX11_ok, nmX11, rfl, rfl, rfl, Or.inl kw_1_219⟩
theorem fl_X11_44 : FLK RX11 44 11 5 (tyX11 5) true := ⟨RX11, TX11, 14, tyX11, rfl, by decide, inX11, tyX11_ok, nmX11, rfl, rfl, rfl, Or.inl kw_1_220⟩
theorem fl_X11_48 : FLK RX11 48 11 6 (tyX11 6) true := ⟨RX11, TX11, 14, tyX11, rfl, by decide, inX11, tyX11_ok, nmX11, rfl, rfl, rfl, Or.inl kw_1_221⟩
theorem fl_X11_54 : FLK RX11 54 11 7 (tyX11 7) true := ⟨RX11, TX11, 14, tyX11, rfl, by decide, inX11, tyX11_ok, nmX11, rfl, rfl, rfl, Or.inl kw_1_222⟩
theorem fl_X11_58 : FLK RX11 58 11 8 (tyX11 8) true := ⟨RX11, TX11, 14, tyX11, rfl, by decide, inX11, tyX11_ok, nmX11, rfl, rfl, rfl, Or.inl kw_1_223⟩
theorem fl_X11_62 : FLK RX11 62 11 9 (tyX11 9) true := ⟨RX11, TX11, 14, tyX11, rfl, by decide, inX11, tyX11_ok, nmX11, rfl, rfl, rfl, Or.inl kw_1_224⟩
theorem fl_X11_228 : FLK RX11 228 11 10 (tyX11 10) false := ⟨RX11, TX11, 14, tyX11, rfl, by decide, inX11, tyX11_ok, nmX11, rfl, rfl, rfl, Or.inl kw_1_225⟩
theorem fl_X11_65 : FLK RX11 65 11 11 (tyX11 11) true := ⟨RX11, TX11, 14, tyX11, rfl, by decide, inX11, tyX11_ok, nmX11, rfl, rfl, rfl, Or.inl kw_1_226⟩
theorem fl_X11_68 : FLK RX11 68 11 12 (tyX11 12) true := ⟨RX11, TX11, 14, tyX11, rfl, by decide, inX11, tyX11_ok, nmX11, rfl, rfl, rfl, Or.inl kw_1_227⟩
theorem fl_X4_7 : FLK RX4 7 11 13 (tyX11 13) false := ⟨RX11, TX11, 14, tyX11, rfl, by decide, inX11, tyX11_ok, nmX11, rfl, rfl, rfl, Or.inr ⟨_, kw_1_228⟩⟩
theorem fl_X0_7 : FLK RX0 7 11 13 (tyX11 13) false := ⟨RX11, TX11, 14, tyX11, rfl, by decide, inX11, tyX11_ok, nmX11, rfl, rfl, rfl, Or.inr ⟨_, kw_1_229⟩⟩
theorem fl_X2_7 : FLK RX2 7 11 13 (tyX11 13) false := ⟨RX11, TX11, 14, tyX11, rfl, by decide, inX11, tyX11_ok, nmX11, rfl, rfl, rfl, Or.inr ⟨_, kw_1_230⟩⟩
theorem fl_X8_7 : FLK RX8 7 11 13 (tyX11 13) false := ⟨RX11, TX11, 14, tyX11, rfl, by decide, inX11, tyX11_ok, nmX11, rfl, rfl, rfl, Or.inr ⟨_, kw_1_231⟩⟩
theorem fl_X9_7 : FLK RX9 7 11 13 (tyX11 13) false := ⟨RX11, TX11, 14, tyX11, rfl, by decide, inX11, tyX11_ok, nmX11, rfl, rfl, rfl, Or.inr ⟨_, kw_1_232⟩⟩
theorem fl_X10_7 : FLK RX10 7 11 13 (tyX11 13) false := ⟨RX11, TX11, 14, tyX11, rfl, by decide, inX11, tyX11_ok, nmX11, rfl, rfl, rfl, Or.inr ⟨_, kw_1_233⟩⟩
theorem fl_X11_270 : FLK RX11 270 11 13 (tyX11 13) false := ⟨RX11, TX11, 14, tyX11, rfl, by decide, inX11, tyX11_ok, nmX11, rfl, rfl, rfl, Or.inl kw_1_234⟩
theorem fl_X12_162 : FLK RX12 162 12 0 (tyX12 0) false := ⟨RX12, TX12, 18, tyX12, rfl, by decide, inX12, tyX12_ok, nmX12, rfl, rfl, rfl, Or.inl kw_4_10⟩
theorem fl_X12_7 : FLK RX12 7 12 1 (tyX12 1) true := ⟨RX12, TX12, 18, tyX12, rfl, by decide, inX12, tyX12_ok, nmX12, rfl, rfl, rfl, Or.inl kw_4_11⟩
theorem fl_X12_52 : FLK RX12 52 12 2 (tyX12 2) false := ⟨RX12, TX12, 18, tyX12, rfl, by decide, inX12, tyX12_ok, nmX12, rfl, rfl, rfl, Or.inl kw_4_12⟩
theorem fl_X12_13 : FLK RX12 13 12 3 (tyX12 3) true := ⟨RX12, TX12, 18, tyX12, rfl, by decide, inX12, tyX12_ok, nmX12, rfl, rfl, rfl, Or.inl kw_4_13⟩
theorem fl_X12_16 : FLK RX12 16 12 4 (tyX12 4) true := ⟨RX12, TX12, 18, tyX12, rfl, by decide, inX12, tyX12_ok, nmX12, rfl, rfl, rfl, Or.inl kw_4_14⟩
theorem fl_X12_19 : FLK RX12 19 12 5 (tyX12 5) true := ⟨RX12, TX12, 18, tyX12, rfl, by decide, inX12, tyX12_ok, nmX12, rfl, rfl, rfl, Or.inl kw_4_15⟩
theorem fl_X12_22 : FLK RX12 22 12 6 (tyX12 6) true := ⟨RX12, TX12, 18, tyX12, rfl, by decide, inX12, tyX12_ok, nmX12, rfl, rfl, rfl, Or.inl kw_4_16⟩
theorem fl_X12_25 : FLK RX12 25 12 7 (tyX12 7) true := ⟨RX12, TX12, 18, tyX12, rfl, by decide, inX12, tyX12_ok, nmX12, rfl, rfl, rfl, Or.inl kw_4_17⟩
theorem fl_X12_89 : FLK RX12 89 12 8 (tyX12 8) false := ⟨RX12, TX12, 18, tyX12, rfl, by decide, inX12, tyX12_ok, nmX12, rfl, rfl, rfl, Or.inl kw_4_18⟩
theorem fl_X12_28 : FLK RX12 28 12 9 (tyX12 9) true := ⟨RX12, TX12, 18, tyX12, rfl, by decide, inX12, tyX12_ok, nmX12, rfl, rfl, rfl, Or.inl kw_4_19⟩
theorem fl_X12_31 : FLK RX12 31 12 10 (tyX12 10) true := ⟨RX12, TX12, 18, tyX12, rfl, by decide, inX12, tyX12_ok, nmX12, rfl, rfl, rfl, Or.inl kw_4_20⟩
theorem fl_X12_35 : FLK RX12 35 12 11 (tyX12 11) true := ⟨RX12, TX12, 18, tyX12, rfl, by decide, inX12, tyX12_ok, nmX12, rfl, rfl, rfl, Or.inl kw_4_21⟩
theorem fl_X12_92 : FLK RX12 92 12 12 (tyX12 12) false := ⟨RX12, TX12, 18, tyX12, rfl, by decide, inX12, tyX12_ok, nmX12, rfl, rfl, rfl, Or.inl kw_4_22⟩
theorem fl_X12_56 : FLK RX12 56 12 13 (tyX12 13) false := ⟨RX12, TX12, 18, tyX12, rfl, by decide, inX12, tyX12_ok, nmX12, rfl, rfl, rfl, Or.inl kw_4_23⟩
theorem fl_X12_73 : FLK RX12 73 12 14 (tyX12 14) false := ⟨RX12, TX12, 18, tyX12, rfl, by decide, inX12, tyX12_ok, nmX12, rfl, rfl, rfl, Or.inl kw_4_24⟩
theorem fl_X12_63 : FLK RX12 63 12 15 (tyX12 15) false := ⟨RX12, TX12, 18, tyX12, rfl, by decide, inX12, tyX12_ok, nmX12, rfl, rfl, rfl, Or.inl kw_4_25⟩
theorem fl_X12_76 : FLK RX12 76 12 16 (tyX12 16) false := ⟨RX12, TX12, 18, tyX12, rfl, by decide, inX12, tyX12_ok, nmX12, rfl, rfl, rfl, Or.inl kw_4_26⟩
theorem fl_X12_38 : FLK RX12 38 12 17 (tyX12 17) true := ⟨RX12, TX12, 18, tyX12, rfl, by decide, inX12, tyX12_ok, nmX12, rfl, rfl, rfl, Or.inl kw_4_27⟩
theorem mi_X0_init : MI yX0_init cX0_init 1 none 0 := ⟨kw_1_180, kw_1_9, by decide +kernel, by decide +kernel, by decide +kernel⟩
theorem mi_X0_rated : MI yX0_rated cX0_rated 3 (some .int) 2 := ⟨kw_3_167, kw_1_9, by decide +kernel, by decide +kernel, by decide +kernel⟩
theorem mi_X1_init : MI yX1_init cX1_init 1 none 0 := ⟨kw_1_154, kw_1_7, by decide +kernel, by decide +kernel, by decide +kernel⟩
theorem mi_X1_add : MI yX1_add cX1_add 3 (some .boolean) 2 := ⟨kw_3_119, kw_1_7, by decide +kernel, by decide +kernel, by decide +kernel⟩
theorem mi_X1_fit : MI yX1_fit cX1_fit 4 (some .boolean) 2 := ⟨kw_3_135, kw_1_7, by decide +kernel, by decide +kernel, by decide +kernel⟩
theorem mi_X2_init : MI yX2_init cX2_init 1 none 0 := ⟨kw_1_187, kw_1_10, by decide +kernel, by decide +kernel, by decide +kernel⟩
theorem mi_X2_rated : MI yX2_rated cX2_rated 3 (some .int) 2 := ⟨kw_3_173, kw_1_10, by decide +kernel, by decide +kernel, by decide +kernel⟩
theorem mi_X3_init : MI yX3_init cX3_init 1 none 0 := ⟨kw_1_60, kw_1_4, by decide +kernel, by decide +kernel, by decide +kernel⟩
theorem mi_X3_reset : MI yX3_reset cX3_reset 1 none 0 := ⟨kw_1_65, kw_1_4, by decide +kernel, by decide +kernel, by decide +kernel⟩
theorem mi_X3_copyFrom : MI yX3_copyFrom cX3_copyFrom 2 none 1 := ⟨kw_2_127, kw_1_4, by decide +kernel, by decide +kernel, by decide +kernel⟩
theorem mi_X3_placeOf : MI yX3_placeOf cX3_placeOf 2 (some .int) 1 := ⟨kw_2_160, kw_1_4, by decide +kernel, by decide +kernel, by decide +kernel⟩
theorem mi_X3_put : MI yX3_put cX3_put 3 none 2 := ⟨kw_2_92, kw_1_4, by decide +kernel, by decide +kernel, by decide +kernel⟩
theorem mi_X3_deepAt : MI yX3_deepAt cX3_deepAt 2 (some .int) 1 := ⟨kw_2_148, kw_1_4, by decide +kernel, by decide +kernel, by decide +kernel⟩
theorem mi_X3_toesAt : MI yX3_toesAt cX3_toesAt 2 (some .int) 1 := ⟨kw_2_152, kw_1_4, by decide +kernel, by decide +kernel, by decide +kernel⟩
theorem mi_X3_setDeep : MI yX3_setDeep cX3_setDeep 3 none 2 := ⟨kw_2_116, kw_1_4, by decide +kernel, by decide +kernel, by decide +kernel⟩
theorem mi_X3_deepTogether : MI yX3_deepTogether cX3_deepTogether 3 (some .int) 0 := ⟨kw_2_191, kw_1_4, by decide +kernel, by decide +kernel, by decide +kernel⟩
theorem mi_X3_print : MI yX3_print cX3_print 4 (some .int) 3 := ⟨kw_2_234, kw_1_4, by decide +kernel, by decide +kernel, by decide +kernel⟩
theorem mi_X3_soak : MI yX3_soak cX3_soak 4 (some .int) 1 := ⟨kw_3_7, kw_1_4, by decide +kernel, by decide +kernel, by decide +kernel⟩
theorem mi_X3_dry : MI yX3_dry cX3_dry 2 none 1 := ⟨kw_3_11, kw_1_4, by decide +kernel, by decide +kernel, by decide +kernel⟩
theorem mi_X3_trayDeep : MI yX3_trayDeep cX3_trayDeep 3 (some .int) 2 := ⟨kw_3_22, kw_1_4, by decide +kernel, by decide +kernel, by decide +kernel⟩
theorem mi_X3_lift : MI yX3_lift cX3_lift 3 none 2 := ⟨kw_3_26, kw_1_4, by decide +kernel, by decide +kernel, by decide +kernel⟩
theorem mi_X3_isClear : MI yX3_isClear cX3_isClear 6 (some .boolean) 3 := ⟨kw_2_211, kw_1_4, by decide +kernel, by decide +kernel, by decide +kernel⟩
theorem mi_X4_init : MI yX4_init cX4_init 1 none 0 := ⟨kw_1_172, kw_1_8, by decide +kernel, by decide +kernel, by decide +kernel⟩
theorem mi_X4_rated : MI yX4_rated cX4_rated 3 (some .int) 2 := ⟨kw_3_193, kw_1_8, by decide +kernel, by decide +kernel, by decide +kernel⟩
theorem mi_X5_init : MI yX5_init cX5_init 2 none 0 := ⟨kw_1_134, kw_1_6, by decide +kernel, by decide +kernel, by decide +kernel⟩
theorem mi_X5_lose : MI yX5_lose cX5_lose 1 none 0 := ⟨kw_2_132, kw_1_6, by decide +kernel, by decide +kernel, by decide +kernel⟩
theorem mi_X5_remember : MI yX5_remember cX5_remember 3 none 1 := ⟨kw_2_227, kw_1_6, by decide +kernel, by decide +kernel, by decide +kernel⟩
theorem mi_X5_recall : MI yX5_recall cX5_recall 4 none 1 := ⟨kw_3_39, kw_1_6, by decide +kernel, by decide +kernel, by decide +kernel⟩
theorem mi_X6_init : MI yX6_init cX6_init 1 none 0 := ⟨kw_1_29, kw_1_2, by decide +kernel, by decide +kernel, by decide +kernel⟩
theorem mi_X6_add : MI yX6_add cX6_add 2 (some .boolean) 1 := ⟨kw_2_31, kw_1_2, by decide +kernel, by decide +kernel, by decide +kernel⟩
theorem mi_X6_readAll : MI yX6_readAll cX6_readAll 2 (some .int) 0 := ⟨kw_2_43, kw_1_2, by decide +kernel, by decide +kernel, by decide +kernel⟩
theorem mi_X6_readItem : MI yX6_readItem cX6_readItem 1 (some .boolean) 0 := ⟨kw_2_70, kw_1_2, by decide +kernel, by decide +kernel, by decide +kernel⟩
theorem mi_X6_readNumbers : MI yX6_readNumbers cX6_readNumbers 4 (some .boolean) 2 := ⟨kw_2_78, kw_1_2, by decide +kernel, by decide +kernel, by decide +kernel⟩
theorem mi_X6_tellPerson : MI yX6_tellPerson cX6_tellPerson 1 (some .boolean) 0 := ⟨kw_2_82, kw_1_2, by decide +kernel, by decide +kernel, by decide +kernel⟩
theorem mi_X6_tellSoaked : MI yX6_tellSoaked cX6_tellSoaked 1 (some .boolean) 0 := ⟨kw_2_104, kw_1_2, by decide +kernel, by decide +kernel, by decide +kernel⟩
theorem mi_X6_tellDeep : MI yX6_tellDeep cX6_tellDeep 1 (some .boolean) 0 := ⟨kw_2_112, kw_1_2, by decide +kernel, by decide +kernel, by decide +kernel⟩
theorem mi_X6_letterAt : MI yX6_letterAt cX6_letterAt 2 (some .char) 1 := ⟨kw_2_56, kw_1_2, by decide +kernel, by decide +kernel, by decide +kernel⟩
theorem mi_X6_isDigit : MI yX6_isDigit cX6_isDigit 1 (some .boolean) 1 := ⟨kw_2_59, kw_1_2, by decide +kernel, by decide +kernel, by decide +kernel⟩
theorem mi_X6_nextToken : MI yX6_nextToken cX6_nextToken 2 none 0 := ⟨kw_2_52, kw_1_2, by decide +kernel, by decide +kernel, by decide +kernel⟩
theorem mi_X6_nextNumber : MI yX6_nextNumber cX6_nextNumber 2 none 0 := ⟨kw_2_63, kw_1_2, by decide +kernel, by decide +kernel, by decide +kernel⟩
theorem mi_X7_init : MI yX7_init cX7_init 1 none 0 := ⟨kw_1_35, kw_1_3, by decide +kernel, by decide +kernel, by decide +kernel⟩
theorem mi_X7_reset : MI yX7_reset cX7_reset 1 none 0 := ⟨kw_2_47, kw_1_3, by decide +kernel, by decide +kernel, by decide +kernel⟩
theorem mi_X7_copyFrom : MI yX7_copyFrom cX7_copyFrom 2 none 1 := ⟨kw_2_120, kw_1_3, by decide +kernel, by decide +kernel, by decide +kernel⟩
theorem mi_X7_add : MI yX7_add cX7_add 3 none 2 := ⟨kw_2_96, kw_1_3, by decide +kernel, by decide +kernel, by decide +kernel⟩
theorem mi_X7_has : MI yX7_has cX7_has 2 (some .boolean) 1 := ⟨kw_2_172, kw_1_3, by decide +kernel, by decide +kernel, by decide +kernel⟩
theorem mi_X7_sets : MI yX7_sets cX7_sets 1 (some .int) 0 := ⟨kw_3_47, kw_1_3, by decide +kernel, by decide +kernel, by decide +kernel⟩
theorem mi_X7_weightOf : MI yX7_weightOf cX7_weightOf 2 (some .int) 1 := ⟨kw_2_179, kw_1_3, by decide +kernel, by decide +kernel, by decide +kernel⟩
theorem mi_X7_voicesOf : MI yX7_voicesOf cX7_voicesOf 2 (some .int) 1 := ⟨kw_2_183, kw_1_3, by decide +kernel, by decide +kernel, by decide +kernel⟩
theorem mi_X7_weightTogether : MI yX7_weightTogether cX7_weightTogether 2 (some .int) 1 := ⟨kw_3_139, kw_1_3, by decide +kernel, by decide +kernel, by decide +kernel⟩
theorem mi_X7_voicesTogether : MI yX7_voicesTogether cX7_voicesTogether 2 (some .int) 1 := ⟨kw_3_51, kw_1_3, by decide +kernel, by decide +kernel, by decide +kernel⟩
theorem mi_X7_together : MI yX7_together cX7_together 5 (some .int) 2 := ⟨kw_3_55, kw_1_3, by decide +kernel, by decide +kernel, by decide +kernel⟩
theorem mi_X8_init : MI yX8_init cX8_init 1 none 0 := ⟨kw_1_194, kw_1_11, by decide +kernel, by decide +kernel, by decide +kernel⟩
theorem mi_X8_rated : MI yX8_rated cX8_rated 3 (some .int) 2 := ⟨kw_3_180, kw_1_11, by decide +kernel, by decide +kernel, by decide +kernel⟩
theorem mi_X9_init : MI yX9_init cX9_init 1 none 0 := ⟨kw_1_208, kw_1_13, by decide +kernel, by decide +kernel, by decide +kernel⟩
theorem mi_X9_rated : MI yX9_rated cX9_rated 3 (some .int) 2 := ⟨kw_3_185, kw_1_13, by decide +kernel, by decide +kernel, by decide +kernel⟩
theorem mi_X10_init : MI yX10_init cX10_init 1 none 0 := ⟨kw_1_201, kw_1_12, by decide +kernel, by decide +kernel, by decide +kernel⟩
theorem mi_X10_rated : MI yX10_rated cX10_rated 3 (some .int) 2 := ⟨kw_3_190, kw_1_12, by decide +kernel, by decide +kernel, by decide +kernel⟩
theorem mi_X11_init : MI yX11_init cX11_init 2 none 0 := ⟨kw_1_21, kw_1_1, by decide +kernel, by decide +kernel, by decide +kernel⟩
theorem mi_X11_type : MI yX11_type cX11_type 2 (some .int) 1 := ⟨kw_2_27, kw_1_1, by decide +kernel, by decide +kernel, by decide +kernel⟩
theorem mi_X11_clear : MI yX11_clear cX11_clear 2 (some .int) 0 := ⟨kw_2_35, kw_1_1, by decide +kernel, by decide +kernel, by decide +kernel⟩
theorem mi_X11_field : MI yX11_field cX11_field 2 (some .int) 0 := ⟨kw_2_39, kw_1_1, by decide +kernel, by decide +kernel, by decide +kernel⟩
theorem mi_X11_cell : MI yX11_cell cX11_cell 4 (some .int) 2 := ⟨kw_2_140, kw_1_1, by decide +kernel, by decide +kernel, by decide +kernel⟩
theorem mi_X11_person : MI yX11_person cX11_person 3 (some .int) 2 := ⟨kw_2_168, kw_1_1, by decide +kernel, by decide +kernel, by decide +kernel⟩
theorem mi_X11_now : MI yX11_now cX11_now 2 (some .int) 1 := ⟨kw_2_187, kw_1_1, by decide +kernel, by decide +kernel, by decide +kernel⟩
theorem mi_X11_walks : MI yX11_walks cX11_walks 4 (some .int) 2 := ⟨kw_2_217, kw_1_1, by decide +kernel, by decide +kernel, by decide +kernel⟩
theorem mi_X11_stands : MI yX11_stands cX11_stands 3 (some .int) 2 := ⟨kw_2_239, kw_1_1, by decide +kernel, by decide +kernel, by decide +kernel⟩
theorem mi_X11_rains : MI yX11_rains cX11_rains 1 (some .int) 0 := ⟨kw_3_3, kw_1_1, by decide +kernel, by decide +kernel, by decide +kernel⟩
theorem mi_X11_lifts : MI yX11_lifts cX11_lifts 4 (some .int) 2 := ⟨kw_3_15, kw_1_1, by decide +kernel, by decide +kernel, by decide +kernel⟩
theorem mi_X11_votes : MI yX11_votes cX11_votes 3 (some .int) 1 := ⟨kw_3_31, kw_1_1, by decide +kernel, by decide +kernel, by decide +kernel⟩
theorem mi_X11_undo : MI yX11_undo cX11_undo 1 (some .int) 0 := ⟨kw_3_35, kw_1_1, by decide +kernel, by decide +kernel, by decide +kernel⟩
theorem mi_X11_power : MI yX11_power cX11_power 6 (some .int) 2 := ⟨kw_3_43, kw_1_1, by decide +kernel, by decide +kernel, by decide +kernel⟩
theorem mi_X11_best : MI yX11_best cX11_best 3 (some .int) 2 := ⟨kw_3_59, kw_1_1, by decide +kernel, by decide +kernel, by decide +kernel⟩
theorem mi_X11_way : MI yX11_way cX11_way 4 (some .int) 2 := ⟨kw_3_85, kw_1_1, by decide +kernel, by decide +kernel, by decide +kernel⟩
theorem mi_X11_odds : MI yX11_odds cX11_odds 12 (some .int) 4 := ⟨kw_3_102, kw_1_1, by decide +kernel, by decide +kernel, by decide +kernel⟩
theorem mi_X11_found : MI yX11_found cX11_found 3 (some .int) 2 := ⟨kw_3_115, kw_1_1, by decide +kernel, by decide +kernel, by decide +kernel⟩
theorem mi_X11_forget : MI yX11_forget cX11_forget 2 (some .int) 0 := ⟨kw_3_123, kw_1_1, by decide +kernel, by decide +kernel, by decide +kernel⟩
theorem mi_X11_can : MI yX11_can cX11_can 2 (some .int) 1 := ⟨kw_3_127, kw_1_1, by decide +kernel, by decide +kernel, by decide +kernel⟩
theorem mi_X11_ask : MI yX11_ask cX11_ask 7 (some .int) 0 := ⟨kw_3_152, kw_1_1, by decide +kernel, by decide +kernel, by decide +kernel⟩
theorem mi_X11_rate : MI yX11_rate cX11_rate 4 (some .int) 2 := ⟨kw_3_159, kw_1_1, by decide +kernel, by decide +kernel, by decide +kernel⟩
theorem mi_X11_keep : MI yX11_keep cX11_keep 3 (some .int) 1 := ⟨kw_3_198, kw_1_1, by decide +kernel, by decide +kernel, by decide +kernel⟩
theorem mi_X11_back : MI yX11_back cX11_back 3 (some .int) 1 := ⟨kw_3_202, kw_1_1, by decide +kernel, by decide +kernel, by decide +kernel⟩
theorem mi_X11_count : MI yX11_count cX11_count 2 (some .int) 1 := ⟨kw_3_206, kw_1_1, by decide +kernel, by decide +kernel, by decide +kernel⟩
theorem mi_X11_trace : MI yX11_trace cX11_trace 1 (some .long) 0 := ⟨kw_3_210, kw_1_1, by decide +kernel, by decide +kernel, by decide +kernel⟩
theorem mi_X11_loseImages : MI yX11_loseImages cX11_loseImages 2 none 0 := ⟨kw_2_136, kw_1_1, by decide +kernel, by decide +kernel, by decide +kernel⟩
theorem mi_X11_isCoordinate : MI yX11_isCoordinate cX11_isCoordinate 1 (some .boolean) 1 := ⟨kw_2_88, kw_1_1, by decide +kernel, by decide +kernel, by decide +kernel⟩
theorem mi_X11_isSide : MI yX11_isSide cX11_isSide 1 (some .boolean) 1 := ⟨kw_2_220, kw_1_1, by decide +kernel, by decide +kernel, by decide +kernel⟩
theorem mi_X11_isTray : MI yX11_isTray cX11_isTray 2 (some .boolean) 2 := ⟨kw_3_18, kw_1_1, by decide +kernel, by decide +kernel, by decide +kernel⟩
theorem mi_X11_placeAt : MI yX11_placeAt cX11_placeAt 2 (some .int) 2 := ⟨kw_2_85, kw_1_1, by decide +kernel, by decide +kernel, by decide +kernel⟩
theorem mi_X11_placeOfCell : MI yX11_placeOfCell cX11_placeOfCell 1 (some .int) 1 := ⟨kw_2_143, kw_1_1, by decide +kernel, by decide +kernel, by decide +kernel⟩
theorem mi_X11_cellOfPlace : MI yX11_cellOfPlace cX11_cellOfPlace 1 (some .int) 1 := ⟨kw_2_175, kw_1_1, by decide +kernel, by decide +kernel, by decide +kernel⟩
theorem mi_X11_placeBeside : MI yX11_placeBeside cX11_placeBeside 4 (some .int) 2 := ⟨kw_2_223, kw_1_1, by decide +kernel, by decide +kernel, by decide +kernel⟩
theorem mi_X11_peopleAt : MI yX11_peopleAt cX11_peopleAt 4 (some .int) 1 := ⟨kw_2_156, kw_1_1, by decide +kernel, by decide +kernel, by decide +kernel⟩
theorem mi_X11_rainsUntilGone : MI yX11_rainsUntilGone cX11_rainsUntilGone 3 (some .int) 1 := ⟨kw_2_164, kw_1_1, by decide +kernel, by decide +kernel, by decide +kernel⟩
theorem mi_X11_wouldPass : MI yX11_wouldPass cX11_wouldPass 5 (some .boolean) 1 := ⟨kw_2_199, kw_1_1, by decide +kernel, by decide +kernel, by decide +kernel⟩
theorem mi_X11_passingLines : MI yX11_passingLines cX11_passingLines 3 (some .int) 0 := ⟨kw_2_195, kw_1_1, by decide +kernel, by decide +kernel, by decide +kernel⟩
theorem mi_X11_widestClear : MI yX11_widestClear cX11_widestClear 2 (some .int) 0 := ⟨kw_2_203, kw_1_1, by decide +kernel, by decide +kernel, by decide +kernel⟩
theorem mi_X11_clearSquare : MI yX11_clearSquare cX11_clearSquare 4 (some .int) 1 := ⟨kw_2_207, kw_1_1, by decide +kernel, by decide +kernel, by decide +kernel⟩
theorem mi_X11_seekBest : MI yX11_seekBest cX11_seekBest 3 none 1 := ⟨kw_3_63, kw_1_1, by decide +kernel, by decide +kernel, by decide +kernel⟩
theorem mi_X11_seekBehind : MI yX11_seekBehind cX11_seekBehind 5 none 2 := ⟨kw_3_75, kw_1_1, by decide +kernel, by decide +kernel, by decide +kernel⟩
theorem mi_X11_areApart : MI yX11_areApart cX11_areApart 2 (some .boolean) 2 := ⟨kw_3_78, kw_1_1, by decide +kernel, by decide +kernel, by decide +kernel⟩
theorem mi_X11_weigh : MI yX11_weigh cX11_weigh 5 none 3 := ⟨kw_3_67, kw_1_1, by decide +kernel, by decide +kernel, by decide +kernel⟩
theorem mi_X11_saveOf : MI yX11_saveOf cX11_saveOf 2 (some .int) 1 := ⟨kw_3_71, kw_1_1, by decide +kernel, by decide +kernel, by decide +kernel⟩
theorem mi_X11_measureSteps : MI yX11_measureSteps cX11_measureSteps 7 none 1 := ⟨kw_3_89, kw_1_1, by decide +kernel, by decide +kernel, by decide +kernel⟩
theorem mi_X11_isOpen : MI yX11_isOpen cX11_isOpen 2 (some .boolean) 1 := ⟨kw_3_94, kw_1_1, by decide +kernel, by decide +kernel, by decide +kernel⟩
theorem mi_X11_stepsAt : MI yX11_stepsAt cX11_stepsAt 2 (some .int) 1 := ⟨kw_3_98, kw_1_1, by decide +kernel, by decide +kernel, by decide +kernel⟩
theorem mi_X11_chancesToStay : MI yX11_chancesToStay cX11_chancesToStay 8 (some .long) 3 := ⟨kw_3_105, kw_1_1, by decide +kernel, by decide +kernel, by decide +kernel⟩
theorem mi_X11_powerOf : MI yX11_powerOf cX11_powerOf 5 (some .long) 2 := ⟨kw_3_108, kw_1_1, by decide +kernel, by decide +kernel, by decide +kernel⟩
theorem mi_X11_commonPart : MI yX11_commonPart cX11_commonPart 11 (some .long) 2 := ⟨kw_3_111, kw_1_1, by decide +kernel, by decide +kernel, by decide +kernel⟩
theorem mi_X11_setsThatCan : MI yX11_setsThatCan cX11_setsThatCan 4 (some .int) 1 := ⟨kw_3_131, kw_1_1, by decide +kernel, by decide +kernel, by decide +kernel⟩
theorem mi_X11_peopleInAll : MI yX11_peopleInAll cX11_peopleInAll 3 (some .int) 0 := ⟨kw_3_144, kw_1_1, by decide +kernel, by decide +kernel, by decide +kernel⟩
theorem mi_X11_peopleInSome : MI yX11_peopleInSome cX11_peopleInSome 3 (some .int) 0 := ⟨kw_3_148, kw_1_1, by decide +kernel, by decide +kernel, by decide +kernel⟩
theorem mi_X12_init : MI yX12_init cX12_init 1 none 0 := ⟨kw_3_215, kw_1_14, by decide +kernel, by decide +kernel, by decide +kernel⟩
theorem mi_X12_in : MI yX12_in cX12_in 3 (some .boolean) 3 := ⟨kw_3_237, kw_1_14, by decide +kernel, by decide +kernel, by decide +kernel⟩
theorem mi_X12_has : MI yX12_has cX12_has 2 (some .boolean) 2 := ⟨kw_4_125, kw_1_14, by decide +kernel, by decide +kernel, by decide +kernel⟩
theorem mi_X12_isOne : MI yX12_isOne cX12_isOne 2 (some .boolean) 1 := ⟨kw_4_103, kw_1_14, by decide +kernel, by decide +kernel, by decide +kernel⟩
theorem mi_X12_isCell : MI yX12_isCell cX12_isCell 1 (some .boolean) 1 := ⟨kw_4_83, kw_1_14, by decide +kernel, by decide +kernel, by decide +kernel⟩
theorem mi_X12_ones : MI yX12_ones cX12_ones 3 (some .int) 1 := ⟨kw_4_197, kw_1_14, by decide +kernel, by decide +kernel, by decide +kernel⟩
theorem mi_X12_type : MI yX12_type cX12_type 2 (some .int) 1 := ⟨kw_4_68, kw_1_14, by decide +kernel, by decide +kernel, by decide +kernel⟩
theorem mi_X12_clear : MI yX12_clear cX12_clear 2 (some .int) 0 := ⟨kw_4_72, kw_1_14, by decide +kernel, by decide +kernel, by decide +kernel⟩
theorem mi_X12_letterAt : MI yX12_letterAt cX12_letterAt 2 (some .int) 1 := ⟨kw_3_228, kw_1_14, by decide +kernel, by decide +kernel, by decide +kernel⟩
theorem mi_X12_isDigit : MI yX12_isDigit cX12_isDigit 1 (some .boolean) 1 := ⟨kw_3_234, kw_1_14, by decide +kernel, by decide +kernel, by decide +kernel⟩
theorem mi_X12_isWord : MI yX12_isWord cX12_isWord 1 (some .boolean) 1 := ⟨kw_3_231, kw_1_14, by decide +kernel, by decide +kernel, by decide +kernel⟩
theorem mi_X12_token : MI yX12_token cX12_token 2 none 0 := ⟨kw_3_224, kw_1_14, by decide +kernel, by decide +kernel, by decide +kernel⟩
theorem mi_X12_number : MI yX12_number cX12_number 3 (some .boolean) 2 := ⟨kw_4_5, kw_1_14, by decide +kernel, by decide +kernel, by decide +kernel⟩
theorem mi_X12_readsItem : MI yX12_readsItem cX12_readsItem 4 (some .boolean) 0 := ⟨kw_4_1, kw_1_14, by decide +kernel, by decide +kernel, by decide +kernel⟩
theorem mi_X12_reads : MI yX12_reads cX12_reads 2 (some .boolean) 0 := ⟨kw_3_220, kw_1_14, by decide +kernel, by decide +kernel, by decide +kernel⟩
theorem mi_X12_begins : MI yX12_begins cX12_begins 2 none 0 := ⟨kw_4_9, kw_1_14, by decide +kernel, by decide +kernel, by decide +kernel⟩
theorem mi_X12_field : MI yX12_field cX12_field 1 (some .int) 0 := ⟨kw_4_76, kw_1_14, by decide +kernel, by decide +kernel, by decide +kernel⟩
theorem mi_X12_deep : MI yX12_deep cX12_deep 2 (some .int) 1 := ⟨kw_4_87, kw_1_14, by decide +kernel, by decide +kernel, by decide +kernel⟩
theorem mi_X12_peopleAt : MI yX12_peopleAt cX12_peopleAt 4 (some .int) 1 := ⟨kw_4_91, kw_1_14, by decide +kernel, by decide +kernel, by decide +kernel⟩
theorem mi_X12_gone : MI yX12_gone cX12_gone 2 (some .int) 1 := ⟨kw_4_95, kw_1_14, by decide +kernel, by decide +kernel, by decide +kernel⟩
theorem mi_X12_cell : MI yX12_cell cX12_cell 4 (some .int) 2 := ⟨kw_4_80, kw_1_14, by decide +kernel, by decide +kernel, by decide +kernel⟩
theorem mi_X12_named : MI yX12_named cX12_named 1 (some .int) 1 := ⟨kw_4_106, kw_1_14, by decide +kernel, by decide +kernel, by decide +kernel⟩
theorem mi_X12_person : MI yX12_person cX12_person 3 (some .int) 2 := ⟨kw_4_99, kw_1_14, by decide +kernel, by decide +kernel, by decide +kernel⟩
theorem mi_X12_voices : MI yX12_voices cX12_voices 4 (some .int) 1 := ⟨kw_4_122, kw_1_14, by decide +kernel, by decide +kernel, by decide +kernel⟩
theorem mi_X12_isPassed : MI yX12_isPassed cX12_isPassed 5 (some .boolean) 1 := ⟨kw_4_118, kw_1_14, by decide +kernel, by decide +kernel, by decide +kernel⟩
theorem mi_X12_lines : MI yX12_lines cX12_lines 3 (some .int) 0 := ⟨kw_4_114, kw_1_14, by decide +kernel, by decide +kernel, by decide +kernel⟩
theorem mi_X12_clearFrom : MI yX12_clearFrom cX12_clearFrom 6 (some .int) 2 := ⟨kw_4_133, kw_1_14, by decide +kernel, by decide +kernel, by decide +kernel⟩
theorem mi_X12_clearest : MI yX12_clearest cX12_clearest 6 (some .int) 1 := ⟨kw_4_129, kw_1_14, by decide +kernel, by decide +kernel, by decide +kernel⟩
theorem mi_X12_now : MI yX12_now cX12_now 4 (some .int) 1 := ⟨kw_4_110, kw_1_14, by decide +kernel, by decide +kernel, by decide +kernel⟩
theorem mi_X12_keeps : MI yX12_keeps cX12_keeps 2 none 0 := ⟨kw_4_144, kw_1_14, by decide +kernel, by decide +kernel, by decide +kernel⟩
theorem mi_X12_prints : MI yX12_prints cX12_prints 4 (some .int) 2 := ⟨kw_4_148, kw_1_14, by decide +kernel, by decide +kernel, by decide +kernel⟩
theorem mi_X12_beside : MI yX12_beside cX12_beside 4 (some .int) 2 := ⟨kw_4_140, kw_1_14, by decide +kernel, by decide +kernel, by decide +kernel⟩
theorem mi_X12_walks : MI yX12_walks cX12_walks 4 (some .int) 2 := ⟨kw_4_137, kw_1_14, by decide +kernel, by decide +kernel, by decide +kernel⟩
theorem mi_X12_stands : MI yX12_stands cX12_stands 3 (some .int) 2 := ⟨kw_4_152, kw_1_14, by decide +kernel, by decide +kernel, by decide +kernel⟩
theorem mi_X12_rains : MI yX12_rains cX12_rains 5 (some .int) 0 := ⟨kw_4_156, kw_1_14, by decide +kernel, by decide +kernel, by decide +kernel⟩
theorem mi_X12_corner : MI yX12_corner cX12_corner 1 (some .int) 1 := ⟨kw_4_167, kw_1_14, by decide +kernel, by decide +kernel, by decide +kernel⟩
theorem mi_X12_inTray : MI yX12_inTray cX12_inTray 3 (some .int) 1 := ⟨kw_4_164, kw_1_14, by decide +kernel, by decide +kernel, by decide +kernel⟩
theorem mi_X12_lifts : MI yX12_lifts cX12_lifts 5 (some .int) 2 := ⟨kw_4_160, kw_1_14, by decide +kernel, by decide +kernel, by decide +kernel⟩
theorem mi_X12_votes : MI yX12_votes cX12_votes 3 (some .int) 1 := ⟨kw_4_171, kw_1_14, by decide +kernel, by decide +kernel, by decide +kernel⟩
theorem mi_X12_undo : MI yX12_undo cX12_undo 2 (some .int) 0 := ⟨kw_4_175, kw_1_14, by decide +kernel, by decide +kernel, by decide +kernel⟩
theorem mi_X12_power : MI yX12_power cX12_power 5 (some .int) 2 := ⟨kw_4_179, kw_1_14, by decide +kernel, by decide +kernel, by decide +kernel⟩
theorem mi_X12_areApart : MI yX12_areApart cX12_areApart 4 (some .boolean) 2 := ⟨kw_4_186, kw_1_14, by decide +kernel, by decide +kernel, by decide +kernel⟩
theorem mi_X12_best : MI yX12_best cX12_best 11 (some .int) 2 := ⟨kw_4_183, kw_1_14, by decide +kernel, by decide +kernel, by decide +kernel⟩
theorem mi_X12_way : MI yX12_way cX12_way 8 (some .int) 2 := ⟨kw_4_190, kw_1_14, by decide +kernel, by decide +kernel, by decide +kernel⟩
theorem mi_X12_odds : MI yX12_odds cX12_odds 11 (some .int) 4 := ⟨kw_4_194, kw_1_14, by decide +kernel, by decide +kernel, by decide +kernel⟩
theorem mi_X12_found : MI yX12_found cX12_found 3 (some .int) 2 := ⟨kw_4_201, kw_1_14, by decide +kernel, by decide +kernel, by decide +kernel⟩
theorem mi_X12_forget : MI yX12_forget cX12_forget 2 (some .int) 0 := ⟨kw_4_205, kw_1_14, by decide +kernel, by decide +kernel, by decide +kernel⟩
theorem mi_X12_isSo : MI yX12_isSo cX12_isSo 6 (some .boolean) 1 := ⟨kw_4_217, kw_1_14, by decide +kernel, by decide +kernel, by decide +kernel⟩
theorem mi_X12_manyWith : MI yX12_manyWith cX12_manyWith 4 (some .int) 1 := ⟨kw_4_213, kw_1_14, by decide +kernel, by decide +kernel, by decide +kernel⟩
theorem mi_X12_can : MI yX12_can cX12_can 7 (some .int) 1 := ⟨kw_4_209, kw_1_14, by decide +kernel, by decide +kernel, by decide +kernel⟩
theorem mi_X12_ask : MI yX12_ask cX12_ask 7 (some .int) 0 := ⟨kw_4_221, kw_1_14, by decide +kernel, by decide +kernel, by decide +kernel⟩
theorem mi_X12_rate : MI yX12_rate cX12_rate 6 (some .int) 2 := ⟨kw_4_225, kw_1_14, by decide +kernel, by decide +kernel, by decide +kernel⟩
theorem mi_X12_keep : MI yX12_keep cX12_keep 3 (some .int) 1 := ⟨kw_4_235, kw_1_14, by decide +kernel, by decide +kernel, by decide +kernel⟩
theorem mi_X12_back : MI yX12_back cX12_back 3 (some .int) 1 := ⟨kw_4_239, kw_1_14, by decide +kernel, by decide +kernel, by decide +kernel⟩
theorem mi_X12_count : MI yX12_count cX12_count 2 (some .int) 1 := ⟨kw_5_3, kw_1_14, by decide +kernel, by decide +kernel, by decide +kernel⟩
theorem mi_X12_trace : MI yX12_trace cX12_trace 1 (some .long) 0 := ⟨kw_5_7, kw_1_14, by decide +kernel, by decide +kernel, by decide +kernel⟩
theorem mi_J9_abs_0f7a4 : MI yJ9_abs_0f7a4 cJ9_abs_0f7a4 1 (some .int) 1 := ⟨kw_3_81, kw_1_15, by decide +kernel, by decide +kernel, by decide +kernel⟩
theorem mi_J9_max_7cf53 : MI yJ9_max_7cf53 cJ9_max_7cf53 2 (some .int) 2 := ⟨kw_3_155, kw_1_15, by decide +kernel, by decide +kernel, by decide +kernel⟩
theorem mi_J9_min_7cf53 : MI yJ9_min_7cf53 cJ9_min_7cf53 2 (some .int) 2 := ⟨kw_2_66, kw_1_15, by decide +kernel, by decide +kernel, by decide +kernel⟩
theorem mi_J7_fill_53178 : MI yJ7_fill_53178 cJ7_fill_53178 4 none 2 := ⟨kw_1_68, kw_1_5, by decide +kernel, by decide +kernel, by decide +kernel⟩
-- ===== numbers of Nat in rows and machine ints =====
def nF (w : Nat → Nat) : Nat → Int32 := fun j => nI (w j)
theorem nF_up (w : Nat → Nat) (k v : Nat) : upd (nF w) k (nI v) = nF (va_up w k v) := funext fun j => by
  simp only [upd, nF, va_up]
  split <;> rfl
theorem nF_0 : nF (fun _ => 0) = fun _ => (0 : Int32) := rfl
theorem mv_inc (e c : Nat) : nI e + Int32.ofInt (c : Int) = nI (e + c) := nI_add e c
theorem mv_and (a b : Nat) : nI a &&& nI b = nI (a &&& b) := by
  apply Int32.toBitVec_inj.mp
  rw [Int32.toBitVec_and]
  apply BitVec.eq_of_toNat_eq
  simp only [nI, Int32.toBitVec_ofNat, BitVec.toNat_and, BitVec.toNat_ofNat]
  apply Nat.eq_of_testBit_eq
  intro i
  simp only [Nat.testBit_and, Nat.testBit_mod_two_pow]
  by_cases h : i < 32 <;> simp [h]
theorem mv_or (a b : Nat) : nI a ||| nI b = nI (a ||| b) := by
  apply Int32.toBitVec_inj.mp
  rw [Int32.toBitVec_or]
  apply BitVec.eq_of_toNat_eq
  simp only [nI, Int32.toBitVec_ofNat, BitVec.toNat_or, BitVec.toNat_ofNat]
  apply Nat.eq_of_testBit_eq
  intro i
  simp only [Nat.testBit_or, Nat.testBit_mod_two_pow]
  by_cases h : i < 32 <;> simp [h]
theorem mv_s31 : ∀ p, p < 31 → ((nI p &&& 31).toBitVec.smod 32).toNat = p := by decide +kernel
theorem mv_shl {a p : Nat} (hp : p < 31) (h : a * 2 ^ p < 2 ^ 32) : nI a <<< (nI p &&& 31) = nI (a * 2 ^ p) := pk_shlN (nI p &&& 31) p (mv_s31 p hp) h
theorem mv_shr {a p : Nat} (hp : p < 31) (h : a < 2 ^ 31) : nI a >>> (nI p &&& 31) = nI (a / 2 ^ p) := pk_shrN h (nI p &&& 31) p (mv_s31 p hp)
theorem mv_min {a b : Nat} (ha : a < 2 ^ 31) (hb : b < 2 ^ 31) : (if nI b < nI a then nI b else nI a) = nI (min a b) := by
  rcases Nat.lt_or_ge b a with h | h
  · rw [if_pos (nI_lt h ha), Nat.min_eq_right (by omega)]
  · rw [if_neg (nI_nlt h hb), Nat.min_eq_left h]
theorem mv_max {a b : Nat} (ha : a < 2 ^ 31) (hb : b < 2 ^ 31) : (if nI a < nI b then nI b else nI a) = nI (max a b) := by
  rcases Nat.lt_or_ge a b with h | h
  · rw [if_pos (nI_lt h hb), Nat.max_eq_right (by omega)]
  · rw [if_neg (nI_nlt h ha), Nat.max_eq_left h]
theorem mv_rn {a b : Nat} (h : a = b) : some (Value.int (nI a)) = some (Value.int (nI b)) := by rw [h]
theorem mv_ri {a b : Int32} (h : a = b) : some (Value.int a) = some (Value.int b) := by rw [h]
theorem mv_rl {a b : Int64} (h : a = b) : some (Value.long a) = some (Value.long b) := by rw [h]
theorem mv_nz {b : Nat} (h : b ≤ 1) : narrow .boolean (.int (nI b)) = .int (nI b) := by
  rcases (show b = 0 ∨ b = 1 by omega) with rfl | rfl <;> rfl
theorem mv_nzV {b : Nat} (h : b ≤ 1) : vp_nar .boolean (nI b) = nI b := by
  rcases (show b = 0 ∨ b = 1 by omega) with rfl | rfl <;> rfl
theorem mv_nc {b : Nat} (h : b < 65536) : narrow .char (.int (nI b)) = .int (nI b) := (pk_charN h).1
theorem mv_ncV {b : Nat} (h : b < 65536) : vp_nar .char (nI b) = nI b := by simp only [vp_nar, (pk_charN h).1]
theorem mv_ing {x M : Int32} {N : Nat} (hM : M = nI N) (hN : N < 2 ^ 31) (h0 : ¬ x < 0) (h1 : ¬ M ≤ x) : vp_in x N := by
  subst hM
  obtain ⟨j, hj, rfl⟩ := nI_of h0
  refine vp_in_nI ?_ hN
  rcases Nat.lt_or_ge j N with h | h
  · exact h
  · exact absurd (nI_le h hj) h1
-- ===== groups of cells =====
def gRoll (G : mvG) (a : Nat → Nat) (W V : Nat → Int32) (n k : Int32) : va_W := [(a 0, .inr (7, [.ref (a 1), .ref (a 2), .int n, .int k])), (a 1, .inl (G.2.1 0, 5, .inl W)), (a 2, .inl (G.2.1 0, 5, .inl V))]
def gMo (G : mvG) (a : Nat → Nat) (wh de to : Nat → Int32) (sv vt ps : Int32) : va_W := [(a 0, .inr (3, [.ref (a 1), .ref (a 2), .ref (a 3), .int sv, .int vt, .int ps])), (a 1, .inl (G.2.1 0, 5, .inl wh)), (a 2, .inl (G.2.1 0, 36, .inl de)), (a 3, .inl (G.2.1 0, 36, .inl to))]
def gFind (G : mvG) (a : Nat → Nat) (el de : Nat → Int32) (n : Int32) : va_W := [(a 0, .inr (1, [.ref (a 1), .ref (a 2), .int n])), (a 1, .inl (G.2.1 0, 6, .inl el)), (a 2, .inl (G.2.1 0, 6, .inl de))]
def gPast (G : mvG) (a r : Nat → Nat) (nx kn : Int32) : va_W := [(a 0, .inr (5, [.ref (a 1), .int nx, .int kn])), (a 1, .inl (G.2.1 3, 10, .inr (.inr (.inr (.inr (fun j => some (r j)))))))]
def gRead (G : mvG) (a : Nat → Nat) (ro fi : Nat) (L Nn : Nat → Int32) (len sk att ts tk nb : Int32) : va_W := [(a 0, .inr (6, [.ref (a 1), .int len, .ref ro, .ref fi, .int sk, .int att, .int ts, .int tk, .int nb, .ref (a 2)])), (a 1, .inl (G.2.1 2, 100, .inl L)), (a 2, .inl (G.2.1 0, 4, .inl Nn))]
def gMoot (G : mvG) (a im kd : Nat → Nat) (re ro mo pa fi : Nat) (K ts bt sp qu : Nat → Int32) (bs : Int32) (tr : Int64) : va_W := [(a 0, .inr (11, [.ref re, .ref ro, .ref mo, .ref pa, .ref fi, .ref (a 1), .ref (a 2), .ref (a 3), .ref (a 4), .ref (a 5), .int bs, .ref (a 6), .ref (a 7), .long tr])),
  (a 1, .inl (G.2.1 3, 2, .inr (.inr (.inr (.inr (fun j => some (im j))))))), (a 2, .inl (G.2.1 1, 2, .inl K)), (a 3, .inl (G.2.1 4, 6, .inr (.inr (.inr (.inr (fun j => some (kd j))))))), (a 4, .inl (G.2.1 0, 25, .inl ts)), (a 5, .inl (G.2.1 0, 3, .inl bt)), (a 6, .inl (G.2.1 0, 36, .inl sp)), (a 7, .inl (G.2.1 0, 36, .inl qu))]
def gKind (kd : Nat → Nat) : va_W := [(kd 0, .inr (4, [])), (kd 1, .inr (0, [])), (kd 2, .inr (2, [])), (kd 3, .inr (8, [])), (kd 4, .inr (10, [])), (kd 5, .inr (9, []))]
def gMod (G : mvG) (a : Nat → Nat) (tx to dr be s pa im ke no fa : Nat → Int32) (tr : Int64) (ty kn nd att so ss va : Int32) : va_W := [(a 0, .inr (12, [.long tr, .ref (a 1), .int ty, .ref (a 2), .ref (a 3), .ref (a 4), .ref (a 5), .ref (a 6), .int kn, .ref (a 7), .ref (a 8), .ref (a 9), .int nd, .int att, .int so, .int ss, .int va, .ref (a 10)])),
  (a 1, .inl (G.2.1 0, 100, .inl tx)), (a 2, .inl (G.2.1 0, 14, .inl to)), (a 3, .inl (G.2.1 0, 14, .inl dr)), (a 4, .inl (G.2.1 0, 44, .inl be)), (a 5, .inl (G.2.1 0, 44, .inl s)), (a 6, .inl (G.2.1 0, 440, .inl pa)), (a 7, .inl (G.2.1 0, 88, .inl im)), (a 8, .inl (G.2.1 1, 2, .inl ke)), (a 9, .inl (G.2.1 0, 6, .inl no)), (a 10, .inl (G.2.1 0, 36, .inl fa))]
/-- an array's contents may be told otherwise, so they be the same at its places -/
theorem arr_same {c : ClassId} {n : Nat} {f f' : Nat → Int32} (h : ∀ j, j < n → f j = f' j) : vp_cell c (n, .inl f) = vp_cell c (n, .inl f') := by
  simp only [vp_cell, arrV]
  congr 1
  apply Array.ext
  · simp
  · intro i h1 h2
    simp at h1
    simp [h i h1]
section VNAT
variable {C : Cx} {cc : ByteArray} {own : String} {nL : Nat} {R : Room} {G : mvG} {kc ks : Nat} {gs : List va_W} {pc : Nat} {lv : List (Option Value)} {st : List Value}
theorem V_arr {g : va_W} {a n : Nat} {f : Nat → Int32} {cA : ClassId} (f' : Nat → Int32) (i j : Nat) (hg : gs[i]? = some g) (hj : g[j]? = some (a, .inl (cA, n, .inl f))) (h : ∀ j, j < n → f j = f' j) (k : V C kc ks (gs.set i (g.set j (a, .inl (cA, n, .inl f')))) pc lv st) : V C kc ks gs pc lv st := fun H locs ls hP hD hS hl => by
  obtain ⟨m, e1, e2⟩ := mv_flat hg hj
  have hm : m < gs.flatten.length := (List.getElem?_eq_some_iff.mp e1).1
  refine k H locs ls ?_ ?_ hS hl
  · rw [← e2]
    intro k' q hq
    rw [List.getElem?_set] at hq
    by_cases e : m = k'
    · subst e
      rw [if_pos rfl, if_pos hm] at hq
      cases hq
      have := hP m _ e1
      show H[a]? = some (vp_cell cA (n, .inl f'))
      rw [← arr_same h]
      exact this
    · rw [if_neg e] at hq
      exact hP k' q hq
  · rw [← e2]
    have e3 : (gs.flatten.set m (a, .inl (cA, n, .inl f'))).map Prod.fst = gs.flatten.map Prod.fst := by
      rw [List.map_set]
      apply List.ext_getElem?
      intro k'
      rw [List.getElem?_set]
      split
      · rename_i e
        subst e
        rw [if_pos (by rw [List.length_map]; exact hm), List.getElem?_map, e1]
        rfl
      · rfl
    obtain ⟨h1, h2⟩ := va_D_mem.mp hD
    have p1 : (gs.flatten.map Prod.fst).Pairwise (fun a b => a ≠ b) := List.pairwise_map.mpr h1
    rw [← e3] at p1
    refine va_D_mem.mpr ⟨List.pairwise_map.mp p1, fun q hq => ?_⟩
    have : q.1 ∈ (gs.flatten.set m (a, .inl (cA, n, .inl f'))).map Prod.fst := List.mem_map_of_mem hq
    rw [e3] at this
    obtain ⟨r, hr, hr2⟩ := List.mem_map.mp this
    rw [← hr2]
    exact h2 r hr
theorem V_ialdN {g : va_W} {a n e : Nat} {w : Nat → Nat} (X : OK C cc own nL R G) (i j : Nat) (hg : gs[i]? = some g) (hj : g[j]? = some (a, .inl (G.2.1 0, n, .inl (nF w)))) (he : e < n) (hn : n < 1000) (d : decode cc pc = .ok (.iaload, 1)) (k : V C kc ks gs (pc + 1) lv (.int (nI (w e)) :: st)) : V C kc ks gs pc lv (.int (nI e) :: .ref a :: st) :=
  V_iald X i j hg hj (vp_in_nI he (by omega)) d (by rw [nI_clamp (by omega)]; exact k)
theorem V_ialdR {g : va_W} {a n e : Nat} {f : Nat → Int32} (X : OK C cc own nL R G) (i j : Nat) (hg : gs[i]? = some g) (hj : g[j]? = some (a, .inl (G.2.1 0, n, .inl f))) (he : e < n) (hn : n < 1000) (d : decode cc pc = .ok (.iaload, 1)) (k : V C kc ks gs (pc + 1) lv (.int (f e) :: st)) : V C kc ks gs pc lv (.int (nI e) :: .ref a :: st) :=
  V_iald X i j hg hj (vp_in_nI he (by omega)) d (by rw [nI_clamp (by omega)]; exact k)
theorem V_zaldN {g : va_W} {a n e : Nat} {w : Nat → Nat} (X : OK C cc own nL R G) (i j : Nat) (hg : gs[i]? = some g) (hj : g[j]? = some (a, .inl (G.2.1 1, n, .inl (nF w)))) (he : e < n) (hn : n < 1000) (d : decode cc pc = .ok (.baload, 1)) (k : V C kc ks gs (pc + 1) lv (.int (nI (w e)) :: st)) : V C kc ks gs pc lv (.int (nI e) :: .ref a :: st) :=
  V_zald X i j hg hj (vp_in_nI he (by omega)) d (by rw [nI_clamp (by omega)]; exact k)
theorem V_caldN {g : va_W} {a n e : Nat} {w : Nat → Nat} (X : OK C cc own nL R G) (i j : Nat) (hg : gs[i]? = some g) (hj : g[j]? = some (a, .inl (G.2.1 2, n, .inl (nF w)))) (he : e < n) (hn : n < 1000) (d : decode cc pc = .ok (.caload, 1)) (k : V C kc ks gs (pc + 1) lv (.int (nI (w e)) :: st)) : V C kc ks gs pc lv (.int (nI e) :: .ref a :: st) :=
  V_cald X i j hg hj (vp_in_nI he (by omega)) d (by rw [nI_clamp (by omega)]; exact k)
theorem V_iastN {g : va_W} {a n e v : Nat} {w : Nat → Nat} (X : OK C cc own nL R G) (i j : Nat) (hg : gs[i]? = some g) (hj : g[j]? = some (a, .inl (G.2.1 0, n, .inl (nF w)))) (he : e < n) (hn : n < 1000) (d : decode cc pc = .ok (.iastore, 1)) (k : V C kc ks (gs.set i (g.set j (a, .inl (G.2.1 0, n, .inl (nF (va_up w e v)))))) (pc + 1) lv st) : V C kc ks gs pc lv (.int (nI v) :: .int (nI e) :: .ref a :: st) :=
  V_iast X i j hg hj (vp_in_nI he (by omega)) d (by rw [nI_clamp (by omega), nF_up]; exact k)
theorem V_iastR {g : va_W} {a n e : Nat} {x : Int32} {f : Nat → Int32} (X : OK C cc own nL R G) (i j : Nat) (hg : gs[i]? = some g) (hj : g[j]? = some (a, .inl (G.2.1 0, n, .inl f))) (he : e < n) (hn : n < 1000) (d : decode cc pc = .ok (.iastore, 1)) (k : V C kc ks (gs.set i (g.set j (a, .inl (G.2.1 0, n, .inl (upd f e x))))) (pc + 1) lv st) : V C kc ks gs pc lv (.int x :: .int (nI e) :: .ref a :: st) :=
  V_iast X i j hg hj (vp_in_nI he (by omega)) d (by rw [nI_clamp (by omega)]; exact k)
theorem V_zastN {g : va_W} {a n e v : Nat} {w : Nat → Nat} (X : OK C cc own nL R G) (i j : Nat) (hg : gs[i]? = some g) (hj : g[j]? = some (a, .inl (G.2.1 1, n, .inl (nF w)))) (he : e < n) (hn : n < 1000) (hv : v ≤ 1) (d : decode cc pc = .ok (.bastore, 1)) (k : V C kc ks (gs.set i (g.set j (a, .inl (G.2.1 1, n, .inl (nF (va_up w e v)))))) (pc + 1) lv st) : V C kc ks gs pc lv (.int (nI v) :: .int (nI e) :: .ref a :: st) :=
  V_zast X i j hg hj (vp_in_nI he (by omega)) (nI v) (mv_nzV hv) d (by rw [nI_clamp (by omega), nF_up]; exact k)
theorem V_castN {g : va_W} {a n e v : Nat} {w : Nat → Nat} (X : OK C cc own nL R G) (i j : Nat) (hg : gs[i]? = some g) (hj : g[j]? = some (a, .inl (G.2.1 2, n, .inl (nF w)))) (he : e < n) (hn : n < 1000) (hv : v < 65536) (d : decode cc pc = .ok (.castore, 1)) (k : V C kc ks (gs.set i (g.set j (a, .inl (G.2.1 2, n, .inl (nF (va_up w e v)))))) (pc + 1) lv st) : V C kc ks gs pc lv (.int (nI v) :: .int (nI e) :: .ref a :: st) :=
  V_cast X i j hg hj (vp_in_nI he (by omega)) (nI v) (mv_ncV hv) d (by rw [nI_clamp (by omega), nF_up]; exact k)
theorem V_aaldN {g : va_W} {a n e t0 : Nat} {f : Nat → Nat} {cA : ClassId} {E : String} (X : OK C cc own nL R G) (i j : Nat) (hg : gs[i]? = some g) (hj : g[j]? = some (a, .inl (cA, n, .inr (.inr (.inr (.inr (fun j => some (f j)))))))) (ht : (TY G.2.1)[t0]? = some (cA, .object E)) (he : e < n) (hn : n < 1000) (d : decode cc pc = .ok (.aaload, 1)) (k : V C kc ks gs (pc + 1) lv (.ref (f e) :: st)) : V C kc ks gs pc lv (.int (nI e) :: .ref a :: st) :=
  V_aald X i j hg hj ht (vp_in_nI he (by omega)) d (by rw [nI_clamp (by omega)]; exact k)
theorem V_saldN {q : String × List Int32} {e : Nat} (X : OK C cc own nL R G) (kq : Nat) (hq : mvST[kq]? = some q) (he : e < q.2.length) (hn : q.2.length < 1000) (v : Int32) (hv : q.2.getD e 0 = v) (d : decode cc pc = .ok (.iaload, 1)) (k : V C kc ks gs (pc + 1) lv (.int v :: st)) : V C kc ks gs pc lv (.int (nI e) :: .ref (G.2.2 kq) :: st) :=
  V_sald X kq hq (vp_in_nI he (by omega)) v (by rw [nI_clamp (by omega)]; exact hv) d k
theorem V_iaddN {a b : Nat} (X : OK C cc own nL R G) (d : decode cc pc = .ok (.iadd, 1)) (k : V C kc ks gs (pc + 1) lv (.int (nI (a + b)) :: st)) : V C kc ks gs pc lv (.int (nI b) :: .int (nI a) :: st) := V_iadd X d (by rw [nI_add]; exact k)
theorem V_imulN {a b : Nat} (X : OK C cc own nL R G) (d : decode cc pc = .ok (.imul, 1)) (k : V C kc ks gs (pc + 1) lv (.int (nI (a * b)) :: st)) : V C kc ks gs pc lv (.int (nI b) :: .int (nI a) :: st) := V_imul X d (by rw [pk_mul]; exact k)
theorem V_isubN {a b : Nat} (X : OK C cc own nL R G) (d : decode cc pc = .ok (.isub, 1)) (h : b ≤ a) (k : V C kc ks gs (pc + 1) lv (.int (nI (a - b)) :: st)) : V C kc ks gs pc lv (.int (nI b) :: .int (nI a) :: st) := V_isub X d (by rw [pk_sub h]; exact k)
theorem V_idivN {a b : Nat} (X : OK C cc own nL R G) (d : decode cc pc = .ok (.idiv, 1)) (ha : a < 2 ^ 31) (h0 : 0 < b) (hb : b < 2 ^ 31) (k : V C kc ks gs (pc + 1) lv (.int (nI (a / b)) :: st)) : V C kc ks gs pc lv (.int (nI b) :: .int (nI a) :: st) := V_idiv X d (nI_ne0 h0 hb) (by rw [pk_div ha h0 hb]; exact k)
theorem V_iremN {a b : Nat} (X : OK C cc own nL R G) (d : decode cc pc = .ok (.irem, 1)) (ha : a < 2 ^ 31) (h0 : 0 < b) (hb : b < 2 ^ 31) (k : V C kc ks gs (pc + 1) lv (.int (nI (a % b)) :: st)) : V C kc ks gs pc lv (.int (nI b) :: .int (nI a) :: st) := V_irem X d (nI_ne0 h0 hb) (by rw [pk_rem ha h0 hb]; exact k)
theorem V_iandN {a b : Nat} (X : OK C cc own nL R G) (d : decode cc pc = .ok (.iand, 1)) (k : V C kc ks gs (pc + 1) lv (.int (nI (a &&& b)) :: st)) : V C kc ks gs pc lv (.int (nI b) :: .int (nI a) :: st) := V_iand X d (by rw [mv_and]; exact k)
theorem V_iorN {a b : Nat} (X : OK C cc own nL R G) (d : decode cc pc = .ok (.ior, 1)) (k : V C kc ks gs (pc + 1) lv (.int (nI (a ||| b)) :: st)) : V C kc ks gs pc lv (.int (nI b) :: .int (nI a) :: st) := V_ior X d (by rw [mv_or]; exact k)
theorem V_ishlN {a b : Nat} (X : OK C cc own nL R G) (d : decode cc pc = .ok (.ishl, 1)) (hb : b < 31) (h : a * 2 ^ b < 2 ^ 32) (k : V C kc ks gs (pc + 1) lv (.int (nI (a * 2 ^ b)) :: st)) : V C kc ks gs pc lv (.int (nI b) :: .int (nI a) :: st) := V_ishl X d (by rw [mv_shl hb h]; exact k)
theorem V_ishl1N {b : Nat} (X : OK C cc own nL R G) (d : decode cc pc = .ok (.ishl, 1)) (hb : b < 31) (k : V C kc ks gs (pc + 1) lv (.int (nI (2 ^ b)) :: st)) : V C kc ks gs pc lv (.int (nI b) :: .int (nI 1) :: st) := V_ishlN X d hb (by rw [Nat.one_mul]; exact Nat.pow_lt_pow_right (by decide) (by omega)) (by rw [Nat.one_mul]; exact k)
theorem V_ishrN {a b : Nat} (X : OK C cc own nL R G) (d : decode cc pc = .ok (.ishr, 1)) (hb : b < 31) (h : a < 2 ^ 31) (k : V C kc ks gs (pc + 1) lv (.int (nI (a / 2 ^ b)) :: st)) : V C kc ks gs pc lv (.int (nI b) :: .int (nI a) :: st) := V_ishr X d (by rw [mv_shr hb h]; exact k)
theorem V_iincN {i e c : Nat} (X : OK C cc own nL R G) (d : decode cc pc = .ok (.iinc i (c : Int), 3)) (hi : lv[i]? = some (some (.int (nI e)))) (hn : i < nL) (hok : lvOk lv i = true) (k : V C kc ks gs (pc + 3) (lv.set i (some (.int (nI (e + c))))) st) : V C kc ks gs pc lv st := V_iinc X (nI (e + c)) d hi (mv_inc e c) hn hok k
theorem V_icmp_ltN {a b : Nat} {o : Int} (X : OK C cc own nL R G) (tgt : Nat) (d : decode cc pc = .ok (.if_icmp .lt o, 3)) (ht : (pc : Int) + o = (tgt : Int)) (ha : a < 2 ^ 31) (hb : b < 2 ^ 31) (kt : a < b → V C kc ks gs tgt lv st) (kf : b ≤ a → V C kc ks gs (pc + 3) lv st) : V C kc ks gs pc lv (.int (nI b) :: .int (nI a) :: st) := V_icmp_lt X tgt d ht (fun c => kt ((nI_ltI ha hb).mp c)) (fun c => kf (Nat.not_lt.mp fun z => c ((nI_ltI ha hb).mpr z)))
theorem V_icmp_geN {a b : Nat} {o : Int} (X : OK C cc own nL R G) (tgt : Nat) (d : decode cc pc = .ok (.if_icmp .ge o, 3)) (ht : (pc : Int) + o = (tgt : Int)) (ha : a < 2 ^ 31) (hb : b < 2 ^ 31) (kt : b ≤ a → V C kc ks gs tgt lv st) (kf : a < b → V C kc ks gs (pc + 3) lv st) : V C kc ks gs pc lv (.int (nI b) :: .int (nI a) :: st) := V_icmp_ge X tgt d ht (fun c => kt ((nI_leI hb ha).mp c)) (fun c => kf (Nat.not_le.mp fun z => c ((nI_leI hb ha).mpr z)))
theorem V_icmp_gtN {a b : Nat} {o : Int} (X : OK C cc own nL R G) (tgt : Nat) (d : decode cc pc = .ok (.if_icmp .gt o, 3)) (ht : (pc : Int) + o = (tgt : Int)) (ha : a < 2 ^ 31) (hb : b < 2 ^ 31) (kt : b < a → V C kc ks gs tgt lv st) (kf : a ≤ b → V C kc ks gs (pc + 3) lv st) : V C kc ks gs pc lv (.int (nI b) :: .int (nI a) :: st) := V_icmp_gt X tgt d ht (fun c => kt ((nI_ltI hb ha).mp c)) (fun c => kf (Nat.not_lt.mp fun z => c ((nI_ltI hb ha).mpr z)))
theorem V_icmp_leN {a b : Nat} {o : Int} (X : OK C cc own nL R G) (tgt : Nat) (d : decode cc pc = .ok (.if_icmp .le o, 3)) (ht : (pc : Int) + o = (tgt : Int)) (ha : a < 2 ^ 31) (hb : b < 2 ^ 31) (kt : a ≤ b → V C kc ks gs tgt lv st) (kf : b < a → V C kc ks gs (pc + 3) lv st) : V C kc ks gs pc lv (.int (nI b) :: .int (nI a) :: st) := V_icmp_le X tgt d ht (fun c => kt ((nI_leI ha hb).mp c)) (fun c => kf (Nat.not_le.mp fun z => c ((nI_leI ha hb).mpr z)))
theorem V_icmp_eqN {a b : Nat} {o : Int} (X : OK C cc own nL R G) (tgt : Nat) (d : decode cc pc = .ok (.if_icmp .eq o, 3)) (ht : (pc : Int) + o = (tgt : Int)) (ha : a < 2 ^ 31) (hb : b < 2 ^ 31) (kt : a = b → V C kc ks gs tgt lv st) (kf : ¬ a = b → V C kc ks gs (pc + 3) lv st) : V C kc ks gs pc lv (.int (nI b) :: .int (nI a) :: st) := V_icmp_eq X tgt d ht (fun c => kt ((nI_eq ha hb).mp c)) (fun c => kf (fun z => c ((nI_eq ha hb).mpr z)))
theorem V_icmp_neN {a b : Nat} {o : Int} (X : OK C cc own nL R G) (tgt : Nat) (d : decode cc pc = .ok (.if_icmp .ne o, 3)) (ht : (pc : Int) + o = (tgt : Int)) (ha : a < 2 ^ 31) (hb : b < 2 ^ 31) (kt : ¬ a = b → V C kc ks gs tgt lv st) (kf : a = b → V C kc ks gs (pc + 3) lv st) : V C kc ks gs pc lv (.int (nI b) :: .int (nI a) :: st) := V_icmp_ne X tgt d ht (fun c => kt (fun z => c ((nI_eq ha hb).mpr z))) (fun c => kf ((nI_eq ha hb).mp c))
theorem V_if_eqN {a : Nat} {o : Int} (X : OK C cc own nL R G) (tgt : Nat) (d : decode cc pc = .ok (.ifCond .eq o, 3)) (ht : (pc : Int) + o = (tgt : Int)) (ha : a < 2 ^ 31) (kt : a = 0 → V C kc ks gs tgt lv st) (kf : ¬ a = 0 → V C kc ks gs (pc + 3) lv st) : V C kc ks gs pc lv (.int (nI a) :: st) := V_if_eq X tgt d ht (fun c => kt ((nI_eq ha (by decide)).mp c)) (fun c => kf (fun z => c ((nI_eq ha (by decide)).mpr z)))
theorem V_if_neN {a : Nat} {o : Int} (X : OK C cc own nL R G) (tgt : Nat) (d : decode cc pc = .ok (.ifCond .ne o, 3)) (ht : (pc : Int) + o = (tgt : Int)) (ha : a < 2 ^ 31) (kt : ¬ a = 0 → V C kc ks gs tgt lv st) (kf : a = 0 → V C kc ks gs (pc + 3) lv st) : V C kc ks gs pc lv (.int (nI a) :: st) := V_if_ne X tgt d ht (fun c => kt (fun z => c ((nI_eq ha (by decide)).mpr z))) (fun c => kf ((nI_eq ha (by decide)).mp c))
theorem V_if_gtN {a : Nat} {o : Int} (X : OK C cc own nL R G) (tgt : Nat) (d : decode cc pc = .ok (.ifCond .gt o, 3)) (ht : (pc : Int) + o = (tgt : Int)) (ha : a < 2 ^ 31) (kt : 0 < a → V C kc ks gs tgt lv st) (kf : a = 0 → V C kc ks gs (pc + 3) lv st) : V C kc ks gs pc lv (.int (nI a) :: st) := V_if_gt X tgt d ht (fun c => kt ((nI_ltI (a := 0) (by decide) ha).mp c)) (fun c => kf (by rcases Nat.eq_zero_or_pos a with z | z; exact z; exact absurd ((nI_ltI (a := 0) (by decide) ha).mpr z) c))
theorem V_if_leN {a : Nat} {o : Int} (X : OK C cc own nL R G) (tgt : Nat) (d : decode cc pc = .ok (.ifCond .le o, 3)) (ht : (pc : Int) + o = (tgt : Int)) (ha : a < 2 ^ 31) (kt : a = 0 → V C kc ks gs tgt lv st) (kf : 0 < a → V C kc ks gs (pc + 3) lv st) : V C kc ks gs pc lv (.int (nI a) :: st) := V_if_le X tgt d ht (fun c => kt (by have := (nI_leI ha (b := 0) (by decide)).mp c; omega)) (fun c => kf (by rcases Nat.eq_zero_or_pos a with z | z; exact absurd ((nI_leI ha (b := 0) (by decide)).mpr (by omega)) c; exact z))
theorem V_if_ltN {a : Nat} {o : Int} (X : OK C cc own nL R G) (d : decode cc pc = .ok (.ifCond .lt o, 3)) (tgt : Nat) (ht : (pc : Int) + o = (tgt : Int)) (ha : a < 2 ^ 31) (kf : V C kc ks gs (pc + 3) lv st) : V C kc ks gs pc lv (.int (nI a) :: st) := V_if_lt X tgt d ht (fun c => absurd c (nI_pos ha)) (fun _ => kf)
theorem V_if_geN {a : Nat} {o : Int} (X : OK C cc own nL R G) (d : decode cc pc = .ok (.ifCond .ge o, 3)) (tgt : Nat) (ht : (pc : Int) + o = (tgt : Int)) (ha : a < 2 ^ 31) (kt : V C kc ks gs tgt lv st) : V C kc ks gs pc lv (.int (nI a) :: st) := V_if_ge X tgt d ht (fun _ => kt) (fun c => absurd (nI_pos' ha) c)
theorem V_mmin {x y : Int32} {idx rf rl : Nat} (X : OK C cc own nL { frames := rf, locals := rl } G) (hlk : Cond.methodLink own idx yJ9_min_7cf53 ∈ TB) (d : decode cc pc = .ok (.invokestatic idx, 3)) (hf : 1 ≤ rf) (hl0 : (st.map fun v => v.category).sum + 13 ≤ rl) (h0 : kc = 0 ∧ ks = 0) (k : V C kc ks gs (pc + 3) lv (.int (if y < x then y else x) :: st)) : V C kc ks gs pc lv (.int y :: .int x :: st) := fun H locs ls hP hD hS hl => by
  have hR : CR C = { frames := rf, locals := rl } := X.2.2.2.2.2.2.2.2.2.2.1
  have hts := X.2.2.2.2.1
  exact va_mmin X.1 X.2.1 (X.2.2.1.trans hl.1.symm) X.2.2.2.1 (hts _ hlk) (hts _ kw_2_65) (hts _ mi_J9_min_7cf53.2.1) (hts _ mi_J9_min_7cf53.1) (by rw [hR]; exact hf) (by rw [hR]; exact hl0) (by rw [h0.1]; exact Nat.zero_le _) (by rw [h0.2]; exact Nat.zero_le _) d (k H locs ls hP hD hS hl)
theorem V_mmax {x y : Int32} {idx rf rl : Nat} (X : OK C cc own nL { frames := rf, locals := rl } G) (hlk : Cond.methodLink own idx yJ9_max_7cf53 ∈ TB) (d : decode cc pc = .ok (.invokestatic idx, 3)) (hf : 1 ≤ rf) (hl0 : (st.map fun v => v.category).sum + 13 ≤ rl) (h0 : kc = 0 ∧ ks = 0) (k : V C kc ks gs (pc + 3) lv (.int (if x < y then y else x) :: st)) : V C kc ks gs pc lv (.int y :: .int x :: st) := fun H locs ls hP hD hS hl => by
  have hR : CR C = { frames := rf, locals := rl } := X.2.2.2.2.2.2.2.2.2.2.1
  have hts := X.2.2.2.2.1
  exact va_mmax X.1 X.2.1 (X.2.2.1.trans hl.1.symm) X.2.2.2.1 (hts _ hlk) (hts _ kw_3_154) (hts _ mi_J9_max_7cf53.2.1) (hts _ mi_J9_max_7cf53.1) (by rw [hR]; exact hf) (by rw [hR]; exact hl0) (by rw [h0.1]; exact Nat.zero_le _) (by rw [h0.2]; exact Nat.zero_le _) d (k H locs ls hP hD hS hl)
theorem V_mabs {x : Int32} {idx rf rl : Nat} (X : OK C cc own nL { frames := rf, locals := rl } G) (hlk : Cond.methodLink own idx yJ9_abs_0f7a4 ∈ TB) (d : decode cc pc = .ok (.invokestatic idx, 3)) (hf : 1 ≤ rf) (hl0 : (st.map fun v => v.category).sum + 13 ≤ rl) (h0 : kc = 0 ∧ ks = 0) (k : V C kc ks gs (pc + 3) lv (.int (if 0 ≤ x then x else 0 - x) :: st)) : V C kc ks gs pc lv (.int x :: st) := fun H locs ls hP hD hS hl => by
  have hR : CR C = { frames := rf, locals := rl } := X.2.2.2.2.2.2.2.2.2.2.1
  have hts := X.2.2.2.2.1
  exact va_mabs X.1 X.2.1 (X.2.2.1.trans hl.1.symm) X.2.2.2.1 (hts _ hlk) (hts _ kw_3_80) (hts _ mi_J9_abs_0f7a4.2.1) (hts _ mi_J9_abs_0f7a4.1) (by rw [hR]; exact hf) (by rw [hR]; exact hl0) (by rw [h0.1]; exact Nat.zero_le _) (by rw [h0.2]; exact Nat.zero_le _) d (k H locs ls hP hD hS hl)
theorem V_mminN {a b : Nat} {idx rf rl : Nat} (X : OK C cc own nL { frames := rf, locals := rl } G) (hlk : Cond.methodLink own idx yJ9_min_7cf53 ∈ TB) (d : decode cc pc = .ok (.invokestatic idx, 3)) (hf : 1 ≤ rf) (hl0 : (st.map fun v => v.category).sum + 13 ≤ rl) (h0 : kc = 0 ∧ ks = 0) (ha : a < 2 ^ 31) (hb : b < 2 ^ 31) (k : V C kc ks gs (pc + 3) lv (.int (nI (min a b)) :: st)) : V C kc ks gs pc lv (.int (nI b) :: .int (nI a) :: st) := V_mmin X hlk d hf hl0 h0 (by rw [mv_min ha hb]; exact k)
theorem V_mmaxN {a b : Nat} {idx rf rl : Nat} (X : OK C cc own nL { frames := rf, locals := rl } G) (hlk : Cond.methodLink own idx yJ9_max_7cf53 ∈ TB) (d : decode cc pc = .ok (.invokestatic idx, 3)) (hf : 1 ≤ rf) (hl0 : (st.map fun v => v.category).sum + 13 ≤ rl) (h0 : kc = 0 ∧ ks = 0) (ha : a < 2 ^ 31) (hb : b < 2 ^ 31) (k : V C kc ks gs (pc + 3) lv (.int (nI (max a b)) :: st)) : V C kc ks gs pc lv (.int (nI b) :: .int (nI a) :: st) := V_mmax X hlk d hf hl0 h0 (by rw [mv_max ha hb]; exact k)
/-- System.arraycopy of a whole row over another of the same length -/
theorem V_copy {g0 g1 : va_W} {a0 a1 n idx rf rl : Nat} {f f1 : Nat → Int32} (X : OK C cc own nL { frames := rf, locals := rl } G) (hlk : Cond.methodLink own idx arraycopyName ∈ TB) (d : decode cc pc = .ok (.invokestatic idx, 3)) (i0 j0 i1 j1 : Nat) (hg0 : gs[i0]? = some g0) (hj0 : g0[j0]? = some (a0, .inl (G.2.1 0, n, .inl f))) (hg1 : gs[i1]? = some g1) (hj1 : g1[j1]? = some (a1, .inl (G.2.1 0, n, .inl f1))) (hn : n < 1000) (hf : 1 ≤ rf) (hl0 : (st.map fun v => v.category).sum + (nativeFrameWords "java/lang/System" "arraycopy" 5 + 11) ≤ rl)
    (k : V C kc ks (gs.set i1 (g1.set j1 (a1, .inl (G.2.1 0, n, .inl f)))) (pc + 3) lv st) : V C kc ks gs pc lv (.int (nI n) :: .int (nI 0) :: .ref a1 :: .int (nI 0) :: .ref a0 :: st) := by
  have key : V C kc ks gs pc lv (.int (nI n) :: .int (nI 0) :: .ref a1 :: .int (nI 0) :: .ref a0 :: st) := fun H locs ls hP hD hS hl => by
    have hR : CR C = { frames := rf, locals := rl } := X.2.2.2.2.2.2.2.2.2.2.1
    have hts := X.2.2.2.2.1
    have hG : CG C = G := X.2.2.2.2.2.2.2.2.2.2.2
    obtain ⟨m0, e0, -⟩ := mv_flat hg0 hj0
    obtain ⟨m1, e1, e2⟩ := mv_flat hg1 hj1
    have hP' := hP
    rw [hG] at hP'
    have c0 : (nI 0).toNatClampNeg = 0 := rfl
    have cn : (nI n).toNatClampNeg = n := nI_clamp (by omega)
    refine va_copyi X.1 X.2.1 (X.2.2.1.trans hl.1.symm) X.2.2.2.1 (hts _ hlk) (hts _ kw_2_123) (hts _ kw_2_122) (hts _ kw_1_16) X.2.2.2.2.2.1 hP' hD hS m0 m1 0 0 e0 e1 rfl rfl rfl (nI_pos (by decide)) (nI_pos (by decide)) (nI_pos (by omega)) (by rw [c0, cn]; omega) (by rw [c0, cn]; omega) (fun _ _ => rfl) (by rw [hR]; exact hf) (by rw [hR]; exact hl0) d (fun H1 locs1 p1 d1 s1 => ?_)
    have hgi : i1 < gs.length := (List.getElem?_eq_some_iff.mp hg1).1
    have hgj : j1 < g1.length := (List.getElem?_eq_some_iff.mp hj1).1
    have k2 : V C kc ks (gs.set i1 (g1.set j1 (a1, .inl (G.2.1 0, n, .inl (va_cpy f f1 (nI 0).toNatClampNeg (nI 0).toNatClampNeg (nI n).toNatClampNeg))))) (pc + 3) lv st := by
      refine V_arr (n := n) f i1 j1 (g := g1.set j1 (a1, .inl (G.2.1 0, n, .inl (va_cpy f f1 (nI 0).toNatClampNeg (nI 0).toNatClampNeg (nI n).toNatClampNeg)))) (by rw [List.getElem?_set, if_pos rfl, if_pos hgi]) (by rw [List.getElem?_set, if_pos rfl, if_pos hgj]) (fun j hj => ?_) ?_
      · rw [c0, cn]
        simp only [va_cpy]
        rw [if_pos ⟨Nat.zero_le _, by omega⟩]
        simp
      · simp only [List.set_set]
        exact k
    exact k2 H1 locs1 ls (by rw [hG, ← e2]; exact p1) (by rw [← e2]; exact d1) s1 hl
  exact key
end VNAT

