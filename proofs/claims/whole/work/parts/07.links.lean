set_option maxRecDepth 20000 in
theorem um_X0 : ∀ w ∈ u_ws RX0 TX0 5, w ∈ TB := List.forall_mem_cons.mpr ⟨k_220, List.forall_mem_cons.mpr ⟨k_222, List.forall_mem_cons.mpr ⟨k_224, List.forall_mem_cons.mpr ⟨k_226, List.forall_mem_cons.mpr ⟨k_228, fun _ h => absurd h List.not_mem_nil⟩⟩⟩⟩⟩
theorem ud_X0 : ∀ k, k < 5 → (if isR 0 k = true then defaultValue (tyX0 k) = .null else defaultValue (tyX0 k) = .int 0) := by decide +kernel
theorem cls_X0 : CLS 0 RX0 TX0 5 := ⟨rfl, um_X0, ⟨tyX0, fun k hk => ⟨tyX0_ok k hk, ud_X0 k hk⟩⟩, nmX0, rfl, by decide⟩
set_option maxRecDepth 20000 in
theorem um_X1 : ∀ w ∈ u_ws RX1 TX1 13, w ∈ TB := List.forall_mem_cons.mpr ⟨k_122, List.forall_mem_cons.mpr ⟨k_124, List.forall_mem_cons.mpr ⟨k_126, List.forall_mem_cons.mpr ⟨k_128, List.forall_mem_cons.mpr ⟨k_130, List.forall_mem_cons.mpr ⟨k_132, List.forall_mem_cons.mpr ⟨k_134, List.forall_mem_cons.mpr ⟨k_136, List.forall_mem_cons.mpr ⟨k_138, List.forall_mem_cons.mpr ⟨k_140, List.forall_mem_cons.mpr ⟨k_142, List.forall_mem_cons.mpr ⟨k_144, List.forall_mem_cons.mpr ⟨k_146, fun _ h => absurd h List.not_mem_nil⟩⟩⟩⟩⟩⟩⟩⟩⟩⟩⟩⟩⟩
theorem ud_X1 : ∀ k, k < 13 → (if isR 1 k = true then defaultValue (tyX1 k) = .null else defaultValue (tyX1 k) = .int 0) := by decide +kernel
theorem cls_X1 : CLS 1 RX1 TX1 13 := ⟨rfl, um_X1, ⟨tyX1, fun k hk => ⟨tyX1_ok k hk, ud_X1 k hk⟩⟩, nmX1, rfl, by decide⟩
set_option maxRecDepth 20000 in
theorem um_X2 : ∀ w ∈ u_ws RX2 TX2 2, w ∈ TB := List.forall_mem_cons.mpr ⟨k_202, List.forall_mem_cons.mpr ⟨k_204, fun _ h => absurd h List.not_mem_nil⟩⟩
theorem ud_X2 : ∀ k, k < 2 → (if isR 2 k = true then defaultValue (tyX2 k) = .null else defaultValue (tyX2 k) = .int 0) := by decide +kernel
theorem cls_X2 : CLS 2 RX2 TX2 2 := ⟨rfl, um_X2, ⟨tyX2, fun k hk => ⟨tyX2_ok k hk, ud_X2 k hk⟩⟩, nmX2, rfl, by decide⟩
set_option maxRecDepth 20000 in
theorem um_X3 : ∀ w ∈ u_ws RX3 TX3 8, w ∈ TB := List.forall_mem_cons.mpr ⟨k_58, List.forall_mem_cons.mpr ⟨k_60, List.forall_mem_cons.mpr ⟨k_62, List.forall_mem_cons.mpr ⟨k_64, List.forall_mem_cons.mpr ⟨k_66, List.forall_mem_cons.mpr ⟨k_68, List.forall_mem_cons.mpr ⟨k_70, List.forall_mem_cons.mpr ⟨k_72, fun _ h => absurd h List.not_mem_nil⟩⟩⟩⟩⟩⟩⟩⟩
theorem ud_X3 : ∀ k, k < 8 → (if isR 3 k = true then defaultValue (tyX3 k) = .null else defaultValue (tyX3 k) = .int 0) := by decide +kernel
theorem cls_X3 : CLS 3 RX3 TX3 8 := ⟨rfl, um_X3, ⟨tyX3, fun k hk => ⟨tyX3_ok k hk, ud_X3 k hk⟩⟩, nmX3, rfl, by decide⟩
set_option maxRecDepth 20000 in
theorem um_X4 : ∀ w ∈ u_ws RX4 TX4 4, w ∈ TB := List.forall_mem_cons.mpr ⟨k_817, List.forall_mem_cons.mpr ⟨k_819, List.forall_mem_cons.mpr ⟨k_821, List.forall_mem_cons.mpr ⟨k_823, fun _ h => absurd h List.not_mem_nil⟩⟩⟩⟩
theorem ud_X4 : ∀ k, k < 4 → (if isR 4 k = true then defaultValue (tyX4 k) = .null else defaultValue (tyX4 k) = .int 0) := by decide +kernel
theorem cls_X4 : CLS 4 RX4 TX4 4 := ⟨rfl, um_X4, ⟨tyX4, fun k hk => ⟨tyX4_ok k hk, ud_X4 k hk⟩⟩, nmX4, rfl, by decide⟩
set_option maxRecDepth 20000 in
theorem um_X5 : ∀ w ∈ u_ws RX5 TX5 3, w ∈ TB := List.forall_mem_cons.mpr ⟨k_159, List.forall_mem_cons.mpr ⟨k_161, List.forall_mem_cons.mpr ⟨k_163, fun _ h => absurd h List.not_mem_nil⟩⟩⟩
theorem ud_X5 : ∀ k, k < 3 → (if isR 5 k = true then defaultValue (tyX5 k) = .null else defaultValue (tyX5 k) = .int 0) := by decide +kernel
theorem cls_X5 : CLS 5 RX5 TX5 3 := ⟨rfl, um_X5, ⟨tyX5, fun k hk => ⟨tyX5_ok k hk, ud_X5 k hk⟩⟩, nmX5, rfl, by decide⟩
set_option maxRecDepth 20000 in
theorem um_X6 : ∀ w ∈ u_ws RX6 TX6 3, w ∈ TB := List.forall_mem_cons.mpr ⟨k_176, List.forall_mem_cons.mpr ⟨k_178, List.forall_mem_cons.mpr ⟨k_180, fun _ h => absurd h List.not_mem_nil⟩⟩⟩
theorem ud_X6 : ∀ k, k < 3 → (if isR 6 k = true then defaultValue (tyX6 k) = .null else defaultValue (tyX6 k) = .int 0) := by decide +kernel
theorem cls_X6 : CLS 6 RX6 TX6 3 := ⟨rfl, um_X6, ⟨tyX6, fun k hk => ⟨tyX6_ok k hk, ud_X6 k hk⟩⟩, nmX6, rfl, by decide⟩
set_option maxRecDepth 20000 in
theorem um_X7 : ∀ w ∈ u_ws RX7 TX7 3, w ∈ TB := List.forall_mem_cons.mpr ⟨k_245, List.forall_mem_cons.mpr ⟨k_247, List.forall_mem_cons.mpr ⟨k_249, fun _ h => absurd h List.not_mem_nil⟩⟩⟩
theorem ud_X7 : ∀ k, k < 3 → (if isR 7 k = true then defaultValue (tyX7 k) = .null else defaultValue (tyX7 k) = .int 0) := by decide +kernel
theorem cls_X7 : CLS 7 RX7 TX7 3 := ⟨rfl, um_X7, ⟨tyX7, fun k hk => ⟨tyX7_ok k hk, ud_X7 k hk⟩⟩, nmX7, rfl, by decide⟩
set_option maxRecDepth 20000 in
theorem um_X8 : ∀ w ∈ u_ws RX8 TX8 1, w ∈ TB := List.forall_mem_cons.mpr ⟨k_190, fun _ h => absurd h List.not_mem_nil⟩
theorem ud_X8 : ∀ k, k < 1 → (if isR 8 k = true then defaultValue (tyX8 k) = .null else defaultValue (tyX8 k) = .int 0) := by decide +kernel
theorem cls_X8 : CLS 8 RX8 TX8 1 := ⟨rfl, um_X8, ⟨tyX8, fun k hk => ⟨tyX8_ok k hk, ud_X8 k hk⟩⟩, nmX8, rfl, by decide⟩
set_option maxRecDepth 20000 in
theorem um_X9 : ∀ w ∈ u_ws RX9 TX9 14, w ∈ TB := List.forall_mem_cons.mpr ⟨k_266, List.forall_mem_cons.mpr ⟨k_268, List.forall_mem_cons.mpr ⟨k_270, List.forall_mem_cons.mpr ⟨k_272, List.forall_mem_cons.mpr ⟨k_274, List.forall_mem_cons.mpr ⟨k_276, List.forall_mem_cons.mpr ⟨k_278, List.forall_mem_cons.mpr ⟨k_280, List.forall_mem_cons.mpr ⟨k_282, List.forall_mem_cons.mpr ⟨k_284, List.forall_mem_cons.mpr ⟨k_286, List.forall_mem_cons.mpr ⟨k_288, List.forall_mem_cons.mpr ⟨k_290, List.forall_mem_cons.mpr ⟨k_292, fun _ h => absurd h List.not_mem_nil⟩⟩⟩⟩⟩⟩⟩⟩⟩⟩⟩⟩⟩⟩
theorem ud_X9 : ∀ k, k < 14 → (if isR 9 k = true then defaultValue (tyX9 k) = .null else defaultValue (tyX9 k) = .int 0) := by decide +kernel
theorem cls_X9 : CLS 9 RX9 TX9 14 := ⟨rfl, um_X9, ⟨tyX9, fun k hk => ⟨tyX9_ok k hk, ud_X9 k hk⟩⟩, nmX9, rfl, by decide⟩
set_option maxRecDepth 20000 in
theorem um_X10 : ∀ w ∈ u_ws RX10 TX10 61, w ∈ TB := List.forall_mem_cons.mpr ⟨k_1011, List.forall_mem_cons.mpr ⟨k_1013, List.forall_mem_cons.mpr ⟨k_1015, List.forall_mem_cons.mpr ⟨k_1017, List.forall_mem_cons.mpr ⟨k_1019, List.forall_mem_cons.mpr ⟨k_1021, List.forall_mem_cons.mpr ⟨k_1023, List.forall_mem_cons.mpr ⟨k_1025, List.forall_mem_cons.mpr ⟨k_1027, List.forall_mem_cons.mpr ⟨k_1029, List.forall_mem_cons.mpr ⟨k_1031, List.forall_mem_cons.mpr ⟨k_1033, List.forall_mem_cons.mpr ⟨k_1035, List.forall_mem_cons.mpr ⟨k_1037, List.forall_mem_cons.mpr ⟨k_1039, List.forall_mem_cons.mpr ⟨k_1041, List.forall_mem_cons.mpr ⟨k_1043, List.forall_mem_cons.mpr ⟨k_1045, List.forall_mem_cons.mpr ⟨k_1047, List.forall_mem_cons.mpr ⟨k_1049, List.forall_mem_cons.mpr ⟨k_1051, List.forall_mem_cons.mpr ⟨k_1053, List.forall_mem_cons.mpr ⟨k_1055, List.forall_mem_cons.mpr ⟨k_1057, List.forall_mem_cons.mpr ⟨k_1059, List.forall_mem_cons.mpr ⟨k_1061, List.forall_mem_cons.mpr ⟨k_1063, List.forall_mem_cons.mpr ⟨k_1065, List.forall_mem_cons.mpr ⟨k_1067, List.forall_mem_cons.mpr ⟨k_1069, List.forall_mem_cons.mpr ⟨k_1071, List.forall_mem_cons.mpr ⟨k_1073, List.forall_mem_cons.mpr ⟨k_1075, List.forall_mem_cons.mpr ⟨k_1077, List.forall_mem_cons.mpr ⟨k_1079, List.forall_mem_cons.mpr ⟨k_1081, List.forall_mem_cons.mpr ⟨k_1083, List.forall_mem_cons.mpr ⟨k_1085, List.forall_mem_cons.mpr ⟨k_1087, List.forall_mem_cons.mpr ⟨k_1089, List.forall_mem_cons.mpr ⟨k_1091, List.forall_mem_cons.mpr ⟨k_1093, List.forall_mem_cons.mpr ⟨k_1095, List.forall_mem_cons.mpr ⟨k_1097, List.forall_mem_cons.mpr ⟨k_1099, List.forall_mem_cons.mpr ⟨k_1101, List.forall_mem_cons.mpr ⟨k_1103, List.forall_mem_cons.mpr ⟨k_1105, List.forall_mem_cons.mpr ⟨k_1107, List.forall_mem_cons.mpr ⟨k_1109, List.forall_mem_cons.mpr ⟨k_1111, List.forall_mem_cons.mpr ⟨k_1113, List.forall_mem_cons.mpr ⟨k_1115, List.forall_mem_cons.mpr ⟨k_1117, List.forall_mem_cons.mpr ⟨k_1119, List.forall_mem_cons.mpr ⟨k_1121, List.forall_mem_cons.mpr ⟨k_1123, List.forall_mem_cons.mpr ⟨k_1125, List.forall_mem_cons.mpr ⟨k_1127, List.forall_mem_cons.mpr ⟨k_1129, List.forall_mem_cons.mpr ⟨k_1131, fun _ h => absurd h List.not_mem_nil⟩⟩⟩⟩⟩⟩⟩⟩⟩⟩⟩⟩⟩⟩⟩⟩⟩⟩⟩⟩⟩⟩⟩⟩⟩⟩⟩⟩⟩⟩⟩⟩⟩⟩⟩⟩⟩⟩⟩⟩⟩⟩⟩⟩⟩⟩⟩⟩⟩⟩⟩⟩⟩⟩⟩⟩⟩⟩⟩⟩⟩
theorem ud_X10 : ∀ k, k < 61 → (if isR 10 k = true then defaultValue (tyX10 k) = .null else defaultValue (tyX10 k) = .int 0) := by decide +kernel
theorem cls_X10 : CLS 10 RX10 TX10 61 := ⟨rfl, um_X10, ⟨tyX10, fun k hk => ⟨tyX10_ok k hk, ud_X10 k hk⟩⟩, nmX10, rfl, by decide⟩
theorem fl_X9_17 : FLK RX9 17 9 0 true RX9 TX9 14 := ⟨cls_X9, by decide, k_252, rfl⟩
theorem fl_X9_23 : FLK RX9 23 1 0 true RX1 TX1 13 := ⟨cls_X1, by decide, k_80, rfl⟩
theorem fl_X9_27 : FLK RX9 27 9 1 true RX9 TX9 14 := ⟨cls_X9, by decide, k_253, rfl⟩
theorem fl_X9_30 : FLK RX9 30 9 2 true RX9 TX9 14 := ⟨cls_X9, by decide, k_254, rfl⟩
theorem fl_X9_33 : FLK RX9 33 9 3 true RX9 TX9 14 := ⟨cls_X9, by decide, k_255, rfl⟩
theorem fl_X9_39 : FLK RX9 39 9 4 true RX9 TX9 14 := ⟨cls_X9, by decide, k_256, rfl⟩
theorem fl_X9_46 : FLK RX9 46 9 5 true RX9 TX9 14 := ⟨cls_X9, by decide, k_257, rfl⟩
theorem fl_X9_53 : FLK RX9 53 9 6 true RX9 TX9 14 := ⟨cls_X9, by decide, k_258, rfl⟩
theorem fl_X9_60 : FLK RX9 60 9 7 true RX9 TX9 14 := ⟨cls_X9, by decide, k_259, rfl⟩
theorem fl_X9_67 : FLK RX9 67 9 8 true RX9 TX9 14 := ⟨cls_X9, by decide, k_260, rfl⟩
theorem fl_X9_73 : FLK RX9 73 9 9 true RX9 TX9 14 := ⟨cls_X9, by decide, k_261, rfl⟩
theorem fl_X9_79 : FLK RX9 79 9 10 true RX9 TX9 14 := ⟨cls_X9, by decide, k_262, rfl⟩
theorem fl_X9_88 : FLK RX9 88 1 1 false RX1 TX1 13 := ⟨cls_X1, by decide, k_83, rfl⟩
theorem fl_X9_92 : FLK RX9 92 1 3 true RX1 TX1 13 := ⟨cls_X1, by decide, k_92, rfl⟩
theorem fl_X9_107 : FLK RX9 107 1 4 true RX1 TX1 13 := ⟨cls_X1, by decide, k_95, rfl⟩
theorem fl_X9_114 : FLK RX9 114 1 6 true RX1 TX1 13 := ⟨cls_X1, by decide, k_103, rfl⟩
theorem fl_X9_117 : FLK RX9 117 1 5 true RX1 TX1 13 := ⟨cls_X1, by decide, k_99, rfl⟩
theorem fl_X9_120 : FLK RX9 120 1 7 true RX1 TX1 13 := ⟨cls_X1, by decide, k_107, rfl⟩
theorem fl_X9_128 : FLK RX9 128 1 10 true RX1 TX1 13 := ⟨cls_X1, by decide, k_118, rfl⟩
theorem fl_X9_131 : FLK RX9 131 1 8 true RX1 TX1 13 := ⟨cls_X1, by decide, k_110, rfl⟩
theorem fl_X9_134 : FLK RX9 134 1 9 true RX1 TX1 13 := ⟨cls_X1, by decide, k_112, rfl⟩
theorem fl_X9_137 : FLK RX9 137 1 11 true RX1 TX1 13 := ⟨cls_X1, by decide, k_120, rfl⟩
theorem fl_X9_154 : FLK RX9 154 5 1 false RX5 TX5 3 := ⟨cls_X5, by decide, k_157, rfl⟩
theorem fl_X9_165 : FLK RX9 165 9 12 false RX9 TX9 14 := ⟨cls_X9, by decide, k_264, rfl⟩
theorem fl_X9_199 : FLK RX9 199 7 1 false RX7 TX7 3 := ⟨cls_X7, by decide, k_243, rfl⟩
theorem fl_X9_202 : FLK RX9 202 1 2 false RX1 TX1 13 := ⟨cls_X1, by decide, k_90, rfl⟩
theorem fl_X9_253 : FLK RX9 253 9 11 false RX9 TX9 14 := ⟨cls_X9, by decide, k_263, rfl⟩
theorem fl_X9_272 : FLK RX9 272 3 0 true RX3 TX3 8 := ⟨cls_X3, by decide, k_40, rfl⟩
theorem fl_X9_275 : FLK RX9 275 9 13 false RX9 TX9 14 := ⟨cls_X9, by decide, k_265, rfl⟩
theorem fl_X9_296 : FLK RX9 296 0 1 false RX0 TX0 5 := ⟨cls_X0, by decide, k_216, rfl⟩
theorem fl_X9_299 : FLK RX9 299 0 0 true RX0 TX0 5 := ⟨cls_X0, by decide, k_214, rfl⟩
theorem fl_X9_307 : FLK RX9 307 7 0 true RX7 TX7 3 := ⟨cls_X7, by decide, k_241, rfl⟩
theorem fl_X9_324 : FLK RX9 324 4 3 false RX4 TX4 4 := ⟨cls_X4, by decide, k_816, rfl⟩
theorem fl_X0_11 : FLK RX0 11 0 0 true RX0 TX0 5 := ⟨cls_X0, by decide, k_213, rfl⟩
theorem fl_X0_15 : FLK RX0 15 0 1 false RX0 TX0 5 := ⟨cls_X0, by decide, k_215, rfl⟩
theorem fl_X0_19 : FLK RX0 19 0 3 false RX0 TX0 5 := ⟨cls_X0, by decide, k_218, rfl⟩
theorem fl_X0_22 : FLK RX0 22 0 4 false RX0 TX0 5 := ⟨cls_X0, by decide, k_219, rfl⟩
theorem fl_X0_25 : FLK RX0 25 0 2 false RX0 TX0 5 := ⟨cls_X0, by decide, k_217, rfl⟩
theorem fl_X1_9 : FLK RX1 9 1 3 true RX1 TX1 13 := ⟨cls_X1, by decide, k_91, rfl⟩
theorem fl_X1_15 : FLK RX1 15 1 4 true RX1 TX1 13 := ⟨cls_X1, by decide, k_94, rfl⟩
theorem fl_X1_18 : FLK RX1 18 1 5 true RX1 TX1 13 := ⟨cls_X1, by decide, k_97, rfl⟩
theorem fl_X1_21 : FLK RX1 21 1 6 true RX1 TX1 13 := ⟨cls_X1, by decide, k_101, rfl⟩
theorem fl_X1_24 : FLK RX1 24 1 7 true RX1 TX1 13 := ⟨cls_X1, by decide, k_105, rfl⟩
theorem fl_X1_27 : FLK RX1 27 1 8 true RX1 TX1 13 := ⟨cls_X1, by decide, k_108, rfl⟩
theorem fl_X1_30 : FLK RX1 30 1 9 true RX1 TX1 13 := ⟨cls_X1, by decide, k_111, rfl⟩
theorem fl_X1_33 : FLK RX1 33 1 10 true RX1 TX1 13 := ⟨cls_X1, by decide, k_114, rfl⟩
theorem fl_X1_36 : FLK RX1 36 1 11 true RX1 TX1 13 := ⟨cls_X1, by decide, k_119, rfl⟩
theorem fl_X1_39 : FLK RX1 39 1 12 true RX1 TX1 13 := ⟨cls_X1, by decide, k_121, rfl⟩
theorem fl_X1_42 : FLK RX1 42 1 0 true RX1 TX1 13 := ⟨cls_X1, by decide, k_81, rfl⟩
theorem fl_X1_46 : FLK RX1 46 1 1 false RX1 TX1 13 := ⟨cls_X1, by decide, k_82, rfl⟩
theorem fl_X1_50 : FLK RX1 50 1 2 false RX1 TX1 13 := ⟨cls_X1, by decide, k_88, rfl⟩
theorem fl_X1_67 : FLK RX1 67 3 2 true RX3 TX3 8 := ⟨cls_X3, by decide, k_46, rfl⟩
theorem fl_X1_76 : FLK RX1 76 3 4 false RX3 TX3 8 := ⟨cls_X3, by decide, k_52, rfl⟩
theorem fl_X1_99 : FLK RX1 99 3 0 true RX3 TX3 8 := ⟨cls_X3, by decide, k_39, rfl⟩
theorem fl_X1_102 : FLK RX1 102 3 1 true RX3 TX3 8 := ⟨cls_X3, by decide, k_43, rfl⟩
theorem fl_X1_109 : FLK RX1 109 3 3 false RX3 TX3 8 := ⟨cls_X3, by decide, k_49, rfl⟩
theorem fl_X1_130 : FLK RX1 130 3 5 false RX3 TX3 8 := ⟨cls_X3, by decide, k_55, rfl⟩
theorem fl_X2_9 : FLK RX2 9 2 0 true RX2 TX2 2 := ⟨cls_X2, by decide, k_200, rfl⟩
theorem fl_X2_15 : FLK RX2 15 2 1 true RX2 TX2 2 := ⟨cls_X2, by decide, k_201, rfl⟩
theorem fl_X2_18 : FLK RX2 18 1 2 false RX1 TX1 13 := ⟨cls_X1, by decide, k_86, rfl⟩
theorem fl_X2_30 : FLK RX2 30 1 8 true RX1 TX1 13 := ⟨cls_X1, by decide, k_109, rfl⟩
theorem fl_X2_41 : FLK RX2 41 1 10 true RX1 TX1 13 := ⟨cls_X1, by decide, k_117, rfl⟩
theorem fl_X3_9 : FLK RX3 9 3 0 true RX3 TX3 8 := ⟨cls_X3, by decide, k_37, rfl⟩
theorem fl_X3_15 : FLK RX3 15 3 1 true RX3 TX3 8 := ⟨cls_X3, by decide, k_41, rfl⟩
theorem fl_X3_18 : FLK RX3 18 3 2 true RX3 TX3 8 := ⟨cls_X3, by decide, k_44, rfl⟩
theorem fl_X3_23 : FLK RX3 23 3 6 true RX3 TX3 8 := ⟨cls_X3, by decide, k_56, rfl⟩
theorem fl_X3_32 : FLK RX3 32 3 3 false RX3 TX3 8 := ⟨cls_X3, by decide, k_47, rfl⟩
theorem fl_X3_36 : FLK RX3 36 3 4 false RX3 TX3 8 := ⟨cls_X3, by decide, k_50, rfl⟩
theorem fl_X3_39 : FLK RX3 39 3 5 false RX3 TX3 8 := ⟨cls_X3, by decide, k_53, rfl⟩
theorem fl_X3_42 : FLK RX3 42 3 7 false RX3 TX3 8 := ⟨cls_X3, by decide, k_57, rfl⟩
theorem fl_X4_7 : FLK RX4 7 4 0 false RX4 TX4 4 := ⟨cls_X4, by decide, k_812, rfl⟩
theorem fl_X4_13 : FLK RX4 13 4 1 false RX4 TX4 4 := ⟨cls_X4, by decide, k_813, rfl⟩
theorem fl_X4_16 : FLK RX4 16 4 2 false RX4 TX4 4 := ⟨cls_X4, by decide, k_814, rfl⟩
theorem fl_X4_19 : FLK RX4 19 4 3 false RX4 TX4 4 := ⟨cls_X4, by decide, k_815, rfl⟩
theorem fl_X4_22 : FLK RX4 22 1 6 true RX1 TX1 13 := ⟨cls_X1, by decide, k_102, rfl⟩
theorem fl_X4_28 : FLK RX4 28 1 7 true RX1 TX1 13 := ⟨cls_X1, by decide, k_106, rfl⟩
theorem fl_X4_31 : FLK RX4 31 1 5 true RX1 TX1 13 := ⟨cls_X1, by decide, k_98, rfl⟩
theorem fl_X5_11 : FLK RX5 11 5 0 true RX5 TX5 3 := ⟨cls_X5, by decide, k_155, rfl⟩
theorem fl_X5_15 : FLK RX5 15 5 1 false RX5 TX5 3 := ⟨cls_X5, by decide, k_156, rfl⟩
theorem fl_X5_24 : FLK RX5 24 5 2 false RX5 TX5 3 := ⟨cls_X5, by decide, k_158, rfl⟩
theorem fl_X5_39 : FLK RX5 39 3 0 true RX3 TX3 8 := ⟨cls_X3, by decide, k_38, rfl⟩
theorem fl_X5_47 : FLK RX5 47 3 1 true RX3 TX3 8 := ⟨cls_X3, by decide, k_42, rfl⟩
theorem fl_X5_50 : FLK RX5 50 3 2 true RX3 TX3 8 := ⟨cls_X3, by decide, k_45, rfl⟩
theorem fl_X5_60 : FLK RX5 60 3 3 false RX3 TX3 8 := ⟨cls_X3, by decide, k_48, rfl⟩
theorem fl_X5_69 : FLK RX5 69 3 4 false RX3 TX3 8 := ⟨cls_X3, by decide, k_51, rfl⟩
theorem fl_X5_74 : FLK RX5 74 3 5 false RX3 TX3 8 := ⟨cls_X3, by decide, k_54, rfl⟩
theorem fl_X6_9 : FLK RX6 9 6 0 true RX6 TX6 3 := ⟨cls_X6, by decide, k_173, rfl⟩
theorem fl_X6_15 : FLK RX6 15 6 1 true RX6 TX6 3 := ⟨cls_X6, by decide, k_174, rfl⟩
theorem fl_X6_18 : FLK RX6 18 6 2 true RX6 TX6 3 := ⟨cls_X6, by decide, k_175, rfl⟩
theorem fl_X6_44 : FLK RX6 44 1 2 false RX1 TX1 13 := ⟨cls_X1, by decide, k_89, rfl⟩
theorem fl_X6_50 : FLK RX6 50 1 10 true RX1 TX1 13 := ⟨cls_X1, by decide, k_116, rfl⟩
theorem fl_X6_57 : FLK RX6 57 1 1 false RX1 TX1 13 := ⟨cls_X1, by decide, k_85, rfl⟩
theorem fl_X6_66 : FLK RX6 66 1 4 true RX1 TX1 13 := ⟨cls_X1, by decide, k_96, rfl⟩
theorem fl_X6_73 : FLK RX6 73 1 9 true RX1 TX1 13 := ⟨cls_X1, by decide, k_113, rfl⟩
theorem fl_X6_76 : FLK RX6 76 1 6 true RX1 TX1 13 := ⟨cls_X1, by decide, k_104, rfl⟩
theorem fl_X6_79 : FLK RX6 79 1 5 true RX1 TX1 13 := ⟨cls_X1, by decide, k_100, rfl⟩
theorem fl_X6_100 : FLK RX6 100 1 3 true RX1 TX1 13 := ⟨cls_X1, by decide, k_93, rfl⟩
theorem fl_X7_9 : FLK RX7 9 7 0 true RX7 TX7 3 := ⟨cls_X7, by decide, k_240, rfl⟩
theorem fl_X7_13 : FLK RX7 13 7 1 false RX7 TX7 3 := ⟨cls_X7, by decide, k_242, rfl⟩
theorem fl_X7_17 : FLK RX7 17 7 2 false RX7 TX7 3 := ⟨cls_X7, by decide, k_244, rfl⟩
theorem fl_X8_11 : FLK RX8 11 8 0 true RX8 TX8 1 := ⟨cls_X8, by decide, k_189, rfl⟩
theorem fl_X8_15 : FLK RX8 15 1 2 false RX1 TX1 13 := ⟨cls_X1, by decide, k_87, rfl⟩
theorem fl_X8_25 : FLK RX8 25 1 10 true RX1 TX1 13 := ⟨cls_X1, by decide, k_115, rfl⟩
theorem fl_X8_29 : FLK RX8 29 1 1 false RX1 TX1 13 := ⟨cls_X1, by decide, k_84, rfl⟩
theorem fl_X10_7 : FLK RX10 7 10 0 false RX10 TX10 61 := ⟨cls_X10, by decide, k_950, rfl⟩
theorem fl_X10_13 : FLK RX10 13 10 1 false RX10 TX10 61 := ⟨cls_X10, by decide, k_951, rfl⟩
theorem fl_X10_16 : FLK RX10 16 10 2 false RX10 TX10 61 := ⟨cls_X10, by decide, k_952, rfl⟩
theorem fl_X10_19 : FLK RX10 19 10 3 true RX10 TX10 61 := ⟨cls_X10, by decide, k_953, rfl⟩
theorem fl_X10_23 : FLK RX10 23 10 4 true RX10 TX10 61 := ⟨cls_X10, by decide, k_954, rfl⟩
theorem fl_X10_26 : FLK RX10 26 10 5 true RX10 TX10 61 := ⟨cls_X10, by decide, k_955, rfl⟩
theorem fl_X10_29 : FLK RX10 29 10 6 true RX10 TX10 61 := ⟨cls_X10, by decide, k_956, rfl⟩
theorem fl_X10_32 : FLK RX10 32 10 7 true RX10 TX10 61 := ⟨cls_X10, by decide, k_957, rfl⟩
theorem fl_X10_35 : FLK RX10 35 10 8 true RX10 TX10 61 := ⟨cls_X10, by decide, k_958, rfl⟩
theorem fl_X10_38 : FLK RX10 38 10 9 true RX10 TX10 61 := ⟨cls_X10, by decide, k_959, rfl⟩
theorem fl_X10_41 : FLK RX10 41 10 10 true RX10 TX10 61 := ⟨cls_X10, by decide, k_960, rfl⟩
theorem fl_X10_44 : FLK RX10 44 10 11 true RX10 TX10 61 := ⟨cls_X10, by decide, k_961, rfl⟩
theorem fl_X10_47 : FLK RX10 47 10 12 false RX10 TX10 61 := ⟨cls_X10, by decide, k_962, rfl⟩
theorem fl_X10_50 : FLK RX10 50 10 13 false RX10 TX10 61 := ⟨cls_X10, by decide, k_963, rfl⟩
theorem fl_X10_53 : FLK RX10 53 10 14 true RX10 TX10 61 := ⟨cls_X10, by decide, k_964, rfl⟩
theorem fl_X10_56 : FLK RX10 56 10 15 true RX10 TX10 61 := ⟨cls_X10, by decide, k_965, rfl⟩
theorem fl_X10_59 : FLK RX10 59 10 16 true RX10 TX10 61 := ⟨cls_X10, by decide, k_966, rfl⟩
theorem fl_X10_62 : FLK RX10 62 10 17 false RX10 TX10 61 := ⟨cls_X10, by decide, k_967, rfl⟩
theorem fl_X10_65 : FLK RX10 65 10 18 false RX10 TX10 61 := ⟨cls_X10, by decide, k_968, rfl⟩
theorem fl_X10_68 : FLK RX10 68 10 19 false RX10 TX10 61 := ⟨cls_X10, by decide, k_969, rfl⟩
theorem fl_X10_71 : FLK RX10 71 10 20 false RX10 TX10 61 := ⟨cls_X10, by decide, k_970, rfl⟩
theorem fl_X10_74 : FLK RX10 74 10 21 false RX10 TX10 61 := ⟨cls_X10, by decide, k_971, rfl⟩
theorem fl_X10_77 : FLK RX10 77 10 22 true RX10 TX10 61 := ⟨cls_X10, by decide, k_972, rfl⟩
theorem fl_X10_80 : FLK RX10 80 10 23 true RX10 TX10 61 := ⟨cls_X10, by decide, k_973, rfl⟩
theorem fl_X10_83 : FLK RX10 83 10 24 true RX10 TX10 61 := ⟨cls_X10, by decide, k_974, rfl⟩
theorem fl_X10_86 : FLK RX10 86 10 25 false RX10 TX10 61 := ⟨cls_X10, by decide, k_975, rfl⟩
theorem fl_X10_89 : FLK RX10 89 10 26 false RX10 TX10 61 := ⟨cls_X10, by decide, k_976, rfl⟩
theorem fl_X10_92 : FLK RX10 92 10 27 false RX10 TX10 61 := ⟨cls_X10, by decide, k_977, rfl⟩
theorem fl_X10_95 : FLK RX10 95 10 28 true RX10 TX10 61 := ⟨cls_X10, by decide, k_978, rfl⟩
theorem fl_X10_98 : FLK RX10 98 10 29 false RX10 TX10 61 := ⟨cls_X10, by decide, k_979, rfl⟩
theorem fl_X10_102 : FLK RX10 102 10 30 true RX10 TX10 61 := ⟨cls_X10, by decide, k_980, rfl⟩
theorem fl_X10_105 : FLK RX10 105 10 31 true RX10 TX10 61 := ⟨cls_X10, by decide, k_981, rfl⟩
theorem fl_X10_109 : FLK RX10 109 10 32 false RX10 TX10 61 := ⟨cls_X10, by decide, k_982, rfl⟩
theorem fl_X10_112 : FLK RX10 112 10 33 false RX10 TX10 61 := ⟨cls_X10, by decide, k_983, rfl⟩
theorem fl_X10_115 : FLK RX10 115 10 34 false RX10 TX10 61 := ⟨cls_X10, by decide, k_984, rfl⟩
theorem fl_X10_118 : FLK RX10 118 10 35 true RX10 TX10 61 := ⟨cls_X10, by decide, k_985, rfl⟩
theorem fl_X10_121 : FLK RX10 121 10 36 true RX10 TX10 61 := ⟨cls_X10, by decide, k_986, rfl⟩
theorem fl_X10_124 : FLK RX10 124 10 37 true RX10 TX10 61 := ⟨cls_X10, by decide, k_987, rfl⟩
theorem fl_X10_127 : FLK RX10 127 10 38 false RX10 TX10 61 := ⟨cls_X10, by decide, k_988, rfl⟩
theorem fl_X10_130 : FLK RX10 130 10 39 false RX10 TX10 61 := ⟨cls_X10, by decide, k_989, rfl⟩
theorem fl_X10_133 : FLK RX10 133 10 40 false RX10 TX10 61 := ⟨cls_X10, by decide, k_990, rfl⟩
theorem fl_X10_136 : FLK RX10 136 10 41 true RX10 TX10 61 := ⟨cls_X10, by decide, k_991, rfl⟩
theorem fl_X10_139 : FLK RX10 139 10 42 true RX10 TX10 61 := ⟨cls_X10, by decide, k_992, rfl⟩
theorem fl_X10_142 : FLK RX10 142 10 43 true RX10 TX10 61 := ⟨cls_X10, by decide, k_993, rfl⟩
theorem fl_X10_145 : FLK RX10 145 10 44 true RX10 TX10 61 := ⟨cls_X10, by decide, k_994, rfl⟩
theorem fl_X10_149 : FLK RX10 149 10 45 true RX10 TX10 61 := ⟨cls_X10, by decide, k_995, rfl⟩
theorem fl_X10_152 : FLK RX10 152 10 46 true RX10 TX10 61 := ⟨cls_X10, by decide, k_996, rfl⟩
theorem fl_X10_155 : FLK RX10 155 10 47 true RX10 TX10 61 := ⟨cls_X10, by decide, k_997, rfl⟩
theorem fl_X10_158 : FLK RX10 158 10 48 true RX10 TX10 61 := ⟨cls_X10, by decide, k_998, rfl⟩
theorem fl_X10_161 : FLK RX10 161 10 49 true RX10 TX10 61 := ⟨cls_X10, by decide, k_999, rfl⟩
theorem fl_X10_164 : FLK RX10 164 10 50 false RX10 TX10 61 := ⟨cls_X10, by decide, k_1000, rfl⟩
theorem fl_X10_167 : FLK RX10 167 10 51 true RX10 TX10 61 := ⟨cls_X10, by decide, k_1001, rfl⟩
theorem fl_X10_170 : FLK RX10 170 10 52 true RX10 TX10 61 := ⟨cls_X10, by decide, k_1002, rfl⟩
theorem fl_X10_173 : FLK RX10 173 10 53 true RX10 TX10 61 := ⟨cls_X10, by decide, k_1003, rfl⟩
theorem fl_X10_176 : FLK RX10 176 10 54 true RX10 TX10 61 := ⟨cls_X10, by decide, k_1004, rfl⟩
theorem fl_X10_179 : FLK RX10 179 10 55 false RX10 TX10 61 := ⟨cls_X10, by decide, k_1005, rfl⟩
theorem fl_X10_182 : FLK RX10 182 10 56 true RX10 TX10 61 := ⟨cls_X10, by decide, k_1006, rfl⟩
theorem fl_X10_185 : FLK RX10 185 10 57 true RX10 TX10 61 := ⟨cls_X10, by decide, k_1007, rfl⟩
theorem fl_X10_188 : FLK RX10 188 10 58 true RX10 TX10 61 := ⟨cls_X10, by decide, k_1008, rfl⟩
theorem fl_X10_191 : FLK RX10 191 10 59 true RX10 TX10 61 := ⟨cls_X10, by decide, k_1009, rfl⟩
theorem fl_X10_194 : FLK RX10 194 10 60 true RX10 TX10 61 := ⟨cls_X10, by decide, k_1010, rfl⟩
theorem fp_X9_17 : (TX9 0).2.2.2 = true ∧ parseFieldDescriptor (TX9 0).2.2.1 = some (.object "CrossroadsCarts$Country") := ⟨rfl, by decide +kernel⟩
theorem fp_X9_23 : (TX1 0).2.2.2 = false ∧ parseFieldDescriptor (TX1 0).2.2.1 = some (.object "CrossroadsCarts$Land") := ⟨rfl, by decide +kernel⟩
theorem fp_X9_27 : (TX9 1).2.2.2 = true ∧ parseFieldDescriptor (TX9 1).2.2.1 = some (.object "CrossroadsCarts$Country") := ⟨rfl, by decide +kernel⟩
theorem fp_X9_30 : (TX9 2).2.2.2 = true ∧ parseFieldDescriptor (TX9 2).2.2.1 = some (.object "CrossroadsCarts$Country") := ⟨rfl, by decide +kernel⟩
theorem fp_X9_33 : (TX9 3).2.2.2 = false ∧ parseFieldDescriptor (TX9 3).2.2.1 = some (.object "CrossroadsCarts$Land") := ⟨rfl, by decide +kernel⟩
theorem fp_X9_39 : (TX9 4).2.2.2 = true ∧ parseFieldDescriptor (TX9 4).2.2.1 = some (.object "CrossroadsCarts$Reader") := ⟨rfl, by decide +kernel⟩
theorem fp_X9_46 : (TX9 5).2.2.2 = true ∧ parseFieldDescriptor (TX9 5).2.2.1 = some (.object "CrossroadsCarts$Rests") := ⟨rfl, by decide +kernel⟩
theorem fp_X9_53 : (TX9 6).2.2.2 = true ∧ parseFieldDescriptor (TX9 6).2.2.1 = some (.object "CrossroadsCarts$Walk") := ⟨rfl, by decide +kernel⟩
theorem fp_X9_60 : (TX9 7).2.2.2 = true ∧ parseFieldDescriptor (TX9 7).2.2.1 = some (.object "CrossroadsCarts$Deals") := ⟨rfl, by decide +kernel⟩
theorem fp_X9_67 : (TX9 8).2.2.2 = true ∧ parseFieldDescriptor (TX9 8).2.2.1 = some (.object "CrossroadsCarts$Acts") := ⟨rfl, by decide +kernel⟩
theorem fp_X9_73 : (TX9 9).2.2.2 = true ∧ parseFieldDescriptor (TX9 9).2.2.1 = some (.array (.object "CrossroadsCarts$Law")) := ⟨rfl, by decide +kernel⟩
theorem fp_X9_79 : (TX9 10).2.2.2 = true ∧ parseFieldDescriptor (TX9 10).2.2.1 = some (.array (.object "CrossroadsCarts$Tape")) := ⟨rfl, by decide +kernel⟩
theorem fp_X9_88 : (TX1 1).2.2.2 = false ∧ parseFieldDescriptor (TX1 1).2.2.1 = some .int := ⟨rfl, by decide +kernel⟩
theorem fp_X9_154 : (TX5 1).2.2.2 = false ∧ parseFieldDescriptor (TX5 1).2.2.1 = some .int := ⟨rfl, by decide +kernel⟩
theorem fp_X9_165 : (TX9 12).2.2.2 = false ∧ parseFieldDescriptor (TX9 12).2.2.1 = some .int := ⟨rfl, by decide +kernel⟩
theorem fp_X9_253 : (TX9 11).2.2.2 = false ∧ parseFieldDescriptor (TX9 11).2.2.1 = some .int := ⟨rfl, by decide +kernel⟩
theorem fp_X9_275 : (TX9 13).2.2.2 = false ∧ parseFieldDescriptor (TX9 13).2.2.1 = some .int := ⟨rfl, by decide +kernel⟩
theorem fp_X0_11 : (TX0 0).2.2.2 = true ∧ parseFieldDescriptor (TX0 0).2.2.1 = some (.array .int) := ⟨rfl, by decide +kernel⟩
theorem fp_X0_15 : (TX0 1).2.2.2 = false ∧ parseFieldDescriptor (TX0 1).2.2.1 = some .int := ⟨rfl, by decide +kernel⟩
theorem fp_X0_19 : (TX0 3).2.2.2 = false ∧ parseFieldDescriptor (TX0 3).2.2.1 = some .int := ⟨rfl, by decide +kernel⟩
theorem fp_X0_22 : (TX0 4).2.2.2 = false ∧ parseFieldDescriptor (TX0 4).2.2.1 = some .int := ⟨rfl, by decide +kernel⟩
theorem fp_X0_25 : (TX0 2).2.2.2 = false ∧ parseFieldDescriptor (TX0 2).2.2.1 = some .int := ⟨rfl, by decide +kernel⟩
theorem fp_X1_9 : (TX1 3).2.2.2 = true ∧ parseFieldDescriptor (TX1 3).2.2.1 = some (.array .int) := ⟨rfl, by decide +kernel⟩
theorem fp_X1_15 : (TX1 4).2.2.2 = true ∧ parseFieldDescriptor (TX1 4).2.2.1 = some (.array .int) := ⟨rfl, by decide +kernel⟩
theorem fp_X1_18 : (TX1 5).2.2.2 = true ∧ parseFieldDescriptor (TX1 5).2.2.1 = some (.array .int) := ⟨rfl, by decide +kernel⟩
theorem fp_X1_21 : (TX1 6).2.2.2 = true ∧ parseFieldDescriptor (TX1 6).2.2.1 = some (.array .int) := ⟨rfl, by decide +kernel⟩
theorem fp_X1_24 : (TX1 7).2.2.2 = true ∧ parseFieldDescriptor (TX1 7).2.2.1 = some (.array .int) := ⟨rfl, by decide +kernel⟩
theorem fp_X1_27 : (TX1 8).2.2.2 = true ∧ parseFieldDescriptor (TX1 8).2.2.1 = some (.array .int) := ⟨rfl, by decide +kernel⟩
theorem fp_X1_30 : (TX1 9).2.2.2 = true ∧ parseFieldDescriptor (TX1 9).2.2.1 = some (.array .int) := ⟨rfl, by decide +kernel⟩
theorem fp_X1_33 : (TX1 10).2.2.2 = true ∧ parseFieldDescriptor (TX1 10).2.2.1 = some (.array .int) := ⟨rfl, by decide +kernel⟩
theorem fp_X1_36 : (TX1 11).2.2.2 = true ∧ parseFieldDescriptor (TX1 11).2.2.1 = some (.array .int) := ⟨rfl, by decide +kernel⟩
theorem fp_X1_39 : (TX1 12).2.2.2 = true ∧ parseFieldDescriptor (TX1 12).2.2.1 = some (.array .int) := ⟨rfl, by decide +kernel⟩
theorem fp_X1_42 : (TX1 0).2.2.2 = false ∧ parseFieldDescriptor (TX1 0).2.2.1 = some (.object "CrossroadsCarts$Land") := ⟨rfl, by decide +kernel⟩
theorem fp_X1_46 : (TX1 1).2.2.2 = false ∧ parseFieldDescriptor (TX1 1).2.2.1 = some .int := ⟨rfl, by decide +kernel⟩
theorem fp_X1_50 : (TX1 2).2.2.2 = false ∧ parseFieldDescriptor (TX1 2).2.2.1 = some .int := ⟨rfl, by decide +kernel⟩
theorem fp_X2_9 : (TX2 0).2.2.2 = true ∧ parseFieldDescriptor (TX2 0).2.2.1 = some (.array .int) := ⟨rfl, by decide +kernel⟩
theorem fp_X2_15 : (TX2 1).2.2.2 = true ∧ parseFieldDescriptor (TX2 1).2.2.1 = some (.array .int) := ⟨rfl, by decide +kernel⟩
theorem fp_X3_9 : (TX3 0).2.2.2 = true ∧ parseFieldDescriptor (TX3 0).2.2.1 = some (.array .int) := ⟨rfl, by decide +kernel⟩
theorem fp_X3_15 : (TX3 1).2.2.2 = true ∧ parseFieldDescriptor (TX3 1).2.2.1 = some (.array .int) := ⟨rfl, by decide +kernel⟩
theorem fp_X3_18 : (TX3 2).2.2.2 = true ∧ parseFieldDescriptor (TX3 2).2.2.1 = some (.array .int) := ⟨rfl, by decide +kernel⟩
theorem fp_X3_23 : (TX3 6).2.2.2 = true ∧ parseFieldDescriptor (TX3 6).2.2.1 = some (.array .int) := ⟨rfl, by decide +kernel⟩
theorem fp_X3_32 : (TX3 3).2.2.2 = false ∧ parseFieldDescriptor (TX3 3).2.2.1 = some .int := ⟨rfl, by decide +kernel⟩
theorem fp_X3_36 : (TX3 4).2.2.2 = false ∧ parseFieldDescriptor (TX3 4).2.2.1 = some .int := ⟨rfl, by decide +kernel⟩
theorem fp_X3_39 : (TX3 5).2.2.2 = false ∧ parseFieldDescriptor (TX3 5).2.2.1 = some .int := ⟨rfl, by decide +kernel⟩
theorem fp_X3_42 : (TX3 7).2.2.2 = false ∧ parseFieldDescriptor (TX3 7).2.2.1 = some .int := ⟨rfl, by decide +kernel⟩
theorem fp_X4_7 : (TX4 0).2.2.2 = true ∧ parseFieldDescriptor (TX4 0).2.2.1 = some .int := ⟨rfl, by decide +kernel⟩
theorem fp_X4_13 : (TX4 1).2.2.2 = true ∧ parseFieldDescriptor (TX4 1).2.2.1 = some .int := ⟨rfl, by decide +kernel⟩
theorem fp_X4_16 : (TX4 2).2.2.2 = true ∧ parseFieldDescriptor (TX4 2).2.2.1 = some .int := ⟨rfl, by decide +kernel⟩
theorem fp_X4_19 : (TX4 3).2.2.2 = true ∧ parseFieldDescriptor (TX4 3).2.2.1 = some .int := ⟨rfl, by decide +kernel⟩
theorem fp_X5_11 : (TX5 0).2.2.2 = true ∧ parseFieldDescriptor (TX5 0).2.2.1 = some (.array .char) := ⟨rfl, by decide +kernel⟩
theorem fp_X5_15 : (TX5 1).2.2.2 = false ∧ parseFieldDescriptor (TX5 1).2.2.1 = some .int := ⟨rfl, by decide +kernel⟩
theorem fp_X5_24 : (TX5 2).2.2.2 = false ∧ parseFieldDescriptor (TX5 2).2.2.1 = some .int := ⟨rfl, by decide +kernel⟩
theorem fp_X5_60 : (TX3 3).2.2.2 = false ∧ parseFieldDescriptor (TX3 3).2.2.1 = some .int := ⟨rfl, by decide +kernel⟩
theorem fp_X5_69 : (TX3 4).2.2.2 = false ∧ parseFieldDescriptor (TX3 4).2.2.1 = some .int := ⟨rfl, by decide +kernel⟩
theorem fp_X5_74 : (TX3 5).2.2.2 = false ∧ parseFieldDescriptor (TX3 5).2.2.1 = some .int := ⟨rfl, by decide +kernel⟩
theorem fp_X6_9 : (TX6 0).2.2.2 = true ∧ parseFieldDescriptor (TX6 0).2.2.1 = some (.array .int) := ⟨rfl, by decide +kernel⟩
theorem fp_X6_15 : (TX6 1).2.2.2 = true ∧ parseFieldDescriptor (TX6 1).2.2.1 = some (.array .int) := ⟨rfl, by decide +kernel⟩
theorem fp_X6_18 : (TX6 2).2.2.2 = true ∧ parseFieldDescriptor (TX6 2).2.2.1 = some (.array .int) := ⟨rfl, by decide +kernel⟩
theorem fp_X7_9 : (TX7 0).2.2.2 = true ∧ parseFieldDescriptor (TX7 0).2.2.1 = some (.array .long) := ⟨rfl, by decide +kernel⟩
theorem fp_X7_13 : (TX7 1).2.2.2 = false ∧ parseFieldDescriptor (TX7 1).2.2.1 = some .int := ⟨rfl, by decide +kernel⟩
theorem fp_X7_17 : (TX7 2).2.2.2 = false ∧ parseFieldDescriptor (TX7 2).2.2.1 = some .int := ⟨rfl, by decide +kernel⟩
theorem fp_X8_11 : (TX8 0).2.2.2 = true ∧ parseFieldDescriptor (TX8 0).2.2.1 = some (.array .long) := ⟨rfl, by decide +kernel⟩
theorem fp_X10_7 : (TX10 0).2.2.2 = false ∧ parseFieldDescriptor (TX10 0).2.2.1 = some .int := ⟨rfl, by decide +kernel⟩
theorem fp_X10_13 : (TX10 1).2.2.2 = false ∧ parseFieldDescriptor (TX10 1).2.2.1 = some .int := ⟨rfl, by decide +kernel⟩
theorem fp_X10_16 : (TX10 2).2.2.2 = false ∧ parseFieldDescriptor (TX10 2).2.2.1 = some .int := ⟨rfl, by decide +kernel⟩
theorem fp_X10_19 : (TX10 3).2.2.2 = true ∧ parseFieldDescriptor (TX10 3).2.2.1 = some (.array .int) := ⟨rfl, by decide +kernel⟩
theorem fp_X10_23 : (TX10 4).2.2.2 = true ∧ parseFieldDescriptor (TX10 4).2.2.1 = some (.array .int) := ⟨rfl, by decide +kernel⟩
theorem fp_X10_26 : (TX10 5).2.2.2 = true ∧ parseFieldDescriptor (TX10 5).2.2.1 = some (.array .int) := ⟨rfl, by decide +kernel⟩
theorem fp_X10_29 : (TX10 6).2.2.2 = true ∧ parseFieldDescriptor (TX10 6).2.2.1 = some (.array .int) := ⟨rfl, by decide +kernel⟩
theorem fp_X10_32 : (TX10 7).2.2.2 = true ∧ parseFieldDescriptor (TX10 7).2.2.1 = some (.array .int) := ⟨rfl, by decide +kernel⟩
theorem fp_X10_35 : (TX10 8).2.2.2 = true ∧ parseFieldDescriptor (TX10 8).2.2.1 = some (.array .int) := ⟨rfl, by decide +kernel⟩
theorem fp_X10_38 : (TX10 9).2.2.2 = true ∧ parseFieldDescriptor (TX10 9).2.2.1 = some (.array .int) := ⟨rfl, by decide +kernel⟩
theorem fp_X10_41 : (TX10 10).2.2.2 = true ∧ parseFieldDescriptor (TX10 10).2.2.1 = some (.array .int) := ⟨rfl, by decide +kernel⟩
theorem fp_X10_44 : (TX10 11).2.2.2 = true ∧ parseFieldDescriptor (TX10 11).2.2.1 = some (.array .int) := ⟨rfl, by decide +kernel⟩
theorem fp_X10_47 : (TX10 12).2.2.2 = false ∧ parseFieldDescriptor (TX10 12).2.2.1 = some .int := ⟨rfl, by decide +kernel⟩
theorem fp_X10_50 : (TX10 13).2.2.2 = false ∧ parseFieldDescriptor (TX10 13).2.2.1 = some .int := ⟨rfl, by decide +kernel⟩
theorem fp_X10_53 : (TX10 14).2.2.2 = true ∧ parseFieldDescriptor (TX10 14).2.2.1 = some (.array .int) := ⟨rfl, by decide +kernel⟩
theorem fp_X10_56 : (TX10 15).2.2.2 = true ∧ parseFieldDescriptor (TX10 15).2.2.1 = some (.array .int) := ⟨rfl, by decide +kernel⟩
theorem fp_X10_59 : (TX10 16).2.2.2 = true ∧ parseFieldDescriptor (TX10 16).2.2.1 = some (.array .int) := ⟨rfl, by decide +kernel⟩
theorem fp_X10_62 : (TX10 17).2.2.2 = false ∧ parseFieldDescriptor (TX10 17).2.2.1 = some .int := ⟨rfl, by decide +kernel⟩
theorem fp_X10_65 : (TX10 18).2.2.2 = false ∧ parseFieldDescriptor (TX10 18).2.2.1 = some .int := ⟨rfl, by decide +kernel⟩
theorem fp_X10_68 : (TX10 19).2.2.2 = false ∧ parseFieldDescriptor (TX10 19).2.2.1 = some .int := ⟨rfl, by decide +kernel⟩
theorem fp_X10_71 : (TX10 20).2.2.2 = false ∧ parseFieldDescriptor (TX10 20).2.2.1 = some .int := ⟨rfl, by decide +kernel⟩
theorem fp_X10_74 : (TX10 21).2.2.2 = false ∧ parseFieldDescriptor (TX10 21).2.2.1 = some .int := ⟨rfl, by decide +kernel⟩
theorem fp_X10_77 : (TX10 22).2.2.2 = true ∧ parseFieldDescriptor (TX10 22).2.2.1 = some (.array .int) := ⟨rfl, by decide +kernel⟩
theorem fp_X10_80 : (TX10 23).2.2.2 = true ∧ parseFieldDescriptor (TX10 23).2.2.1 = some (.array .int) := ⟨rfl, by decide +kernel⟩
theorem fp_X10_83 : (TX10 24).2.2.2 = true ∧ parseFieldDescriptor (TX10 24).2.2.1 = some (.array .int) := ⟨rfl, by decide +kernel⟩
theorem fp_X10_86 : (TX10 25).2.2.2 = false ∧ parseFieldDescriptor (TX10 25).2.2.1 = some .int := ⟨rfl, by decide +kernel⟩
theorem fp_X10_89 : (TX10 26).2.2.2 = false ∧ parseFieldDescriptor (TX10 26).2.2.1 = some .int := ⟨rfl, by decide +kernel⟩
theorem fp_X10_92 : (TX10 27).2.2.2 = false ∧ parseFieldDescriptor (TX10 27).2.2.1 = some .int := ⟨rfl, by decide +kernel⟩
theorem fp_X10_95 : (TX10 28).2.2.2 = true ∧ parseFieldDescriptor (TX10 28).2.2.1 = some (.array .int) := ⟨rfl, by decide +kernel⟩
theorem fp_X10_98 : (TX10 29).2.2.2 = false ∧ parseFieldDescriptor (TX10 29).2.2.1 = some .boolean := ⟨rfl, by decide +kernel⟩
theorem fp_X10_102 : (TX10 30).2.2.2 = true ∧ parseFieldDescriptor (TX10 30).2.2.1 = some (.array .int) := ⟨rfl, by decide +kernel⟩
theorem fp_X10_105 : (TX10 31).2.2.2 = true ∧ parseFieldDescriptor (TX10 31).2.2.1 = some (.array .boolean) := ⟨rfl, by decide +kernel⟩
theorem fp_X10_109 : (TX10 32).2.2.2 = false ∧ parseFieldDescriptor (TX10 32).2.2.1 = some .int := ⟨rfl, by decide +kernel⟩
theorem fp_X10_112 : (TX10 33).2.2.2 = false ∧ parseFieldDescriptor (TX10 33).2.2.1 = some .int := ⟨rfl, by decide +kernel⟩
theorem fp_X10_115 : (TX10 34).2.2.2 = false ∧ parseFieldDescriptor (TX10 34).2.2.1 = some .int := ⟨rfl, by decide +kernel⟩
theorem fp_X10_118 : (TX10 35).2.2.2 = true ∧ parseFieldDescriptor (TX10 35).2.2.1 = some (.array .int) := ⟨rfl, by decide +kernel⟩
theorem fp_X10_121 : (TX10 36).2.2.2 = true ∧ parseFieldDescriptor (TX10 36).2.2.1 = some (.array .int) := ⟨rfl, by decide +kernel⟩
theorem fp_X10_124 : (TX10 37).2.2.2 = true ∧ parseFieldDescriptor (TX10 37).2.2.1 = some (.array .int) := ⟨rfl, by decide +kernel⟩
theorem fp_X10_127 : (TX10 38).2.2.2 = false ∧ parseFieldDescriptor (TX10 38).2.2.1 = some .int := ⟨rfl, by decide +kernel⟩
theorem fp_X10_130 : (TX10 39).2.2.2 = false ∧ parseFieldDescriptor (TX10 39).2.2.1 = some .int := ⟨rfl, by decide +kernel⟩
theorem fp_X10_133 : (TX10 40).2.2.2 = false ∧ parseFieldDescriptor (TX10 40).2.2.1 = some .int := ⟨rfl, by decide +kernel⟩
theorem fp_X10_136 : (TX10 41).2.2.2 = true ∧ parseFieldDescriptor (TX10 41).2.2.1 = some (.array .int) := ⟨rfl, by decide +kernel⟩
theorem fp_X10_139 : (TX10 42).2.2.2 = true ∧ parseFieldDescriptor (TX10 42).2.2.1 = some (.array .int) := ⟨rfl, by decide +kernel⟩
theorem fp_X10_142 : (TX10 43).2.2.2 = true ∧ parseFieldDescriptor (TX10 43).2.2.1 = some (.array .int) := ⟨rfl, by decide +kernel⟩
theorem fp_X10_145 : (TX10 44).2.2.2 = true ∧ parseFieldDescriptor (TX10 44).2.2.1 = some (.array .long) := ⟨rfl, by decide +kernel⟩
theorem fp_X10_149 : (TX10 45).2.2.2 = true ∧ parseFieldDescriptor (TX10 45).2.2.1 = some (.array .int) := ⟨rfl, by decide +kernel⟩
theorem fp_X10_152 : (TX10 46).2.2.2 = true ∧ parseFieldDescriptor (TX10 46).2.2.1 = some (.array .int) := ⟨rfl, by decide +kernel⟩
theorem fp_X10_155 : (TX10 47).2.2.2 = true ∧ parseFieldDescriptor (TX10 47).2.2.1 = some (.array .int) := ⟨rfl, by decide +kernel⟩
theorem fp_X10_158 : (TX10 48).2.2.2 = true ∧ parseFieldDescriptor (TX10 48).2.2.1 = some (.array .int) := ⟨rfl, by decide +kernel⟩
theorem fp_X10_161 : (TX10 49).2.2.2 = true ∧ parseFieldDescriptor (TX10 49).2.2.1 = some (.array .int) := ⟨rfl, by decide +kernel⟩
theorem fp_X10_164 : (TX10 50).2.2.2 = false ∧ parseFieldDescriptor (TX10 50).2.2.1 = some .int := ⟨rfl, by decide +kernel⟩
theorem fp_X10_167 : (TX10 51).2.2.2 = true ∧ parseFieldDescriptor (TX10 51).2.2.1 = some (.array .int) := ⟨rfl, by decide +kernel⟩
theorem fp_X10_170 : (TX10 52).2.2.2 = true ∧ parseFieldDescriptor (TX10 52).2.2.1 = some (.array .int) := ⟨rfl, by decide +kernel⟩
theorem fp_X10_173 : (TX10 53).2.2.2 = true ∧ parseFieldDescriptor (TX10 53).2.2.1 = some (.array .int) := ⟨rfl, by decide +kernel⟩
theorem fp_X10_176 : (TX10 54).2.2.2 = true ∧ parseFieldDescriptor (TX10 54).2.2.1 = some (.array .int) := ⟨rfl, by decide +kernel⟩
theorem fp_X10_179 : (TX10 55).2.2.2 = false ∧ parseFieldDescriptor (TX10 55).2.2.1 = some .int := ⟨rfl, by decide +kernel⟩
theorem fp_X10_182 : (TX10 56).2.2.2 = true ∧ parseFieldDescriptor (TX10 56).2.2.1 = some (.array .int) := ⟨rfl, by decide +kernel⟩
theorem fp_X10_185 : (TX10 57).2.2.2 = true ∧ parseFieldDescriptor (TX10 57).2.2.1 = some (.array .int) := ⟨rfl, by decide +kernel⟩
theorem fp_X10_188 : (TX10 58).2.2.2 = true ∧ parseFieldDescriptor (TX10 58).2.2.1 = some (.array .int) := ⟨rfl, by decide +kernel⟩
theorem fp_X10_191 : (TX10 59).2.2.2 = true ∧ parseFieldDescriptor (TX10 59).2.2.1 = some (.array .long) := ⟨rfl, by decide +kernel⟩
theorem fp_X10_194 : (TX10 60).2.2.2 = true ∧ parseFieldDescriptor (TX10 60).2.2.1 = some (.array .long) := ⟨rfl, by decide +kernel⟩
theorem cf_X9_13 : KN RX9 13 yX3_init (.code yX3_init cX3_init 1 (Option.none : Option Jvm.ClassFile.FieldType)) 0 := ⟨by decide +kernel, k_34, rfl, k_3, k_35, by decide +kernel⟩
theorem cf_X9_14 : KI RX9 14 yX1_init (.code yX1_init cX1_init 2 (Option.none : Option Jvm.ClassFile.FieldType)) 1 := ⟨k_76, k_77, rfl, k_2, k_78, by decide +kernel⟩
theorem cf_X9_38 : KN RX9 38 yX5_init (.code yX5_init cX5_init 1 (Option.none : Option Jvm.ClassFile.FieldType)) 0 := ⟨by decide +kernel, k_152, rfl, k_4, k_153, by decide +kernel⟩
theorem cf_X9_45 : KN RX9 45 yX6_init (.code yX6_init cX6_init 1 (Option.none : Option Jvm.ClassFile.FieldType)) 0 := ⟨by decide +kernel, k_170, rfl, k_5, k_171, by decide +kernel⟩
theorem cf_X9_52 : KN RX9 52 yX8_init (.code yX8_init cX8_init 1 (Option.none : Option Jvm.ClassFile.FieldType)) 0 := ⟨by decide +kernel, k_186, rfl, k_6, k_187, by decide +kernel⟩
theorem cf_X9_59 : KN RX9 59 yX2_init (.code yX2_init cX2_init 1 (Option.none : Option Jvm.ClassFile.FieldType)) 0 := ⟨by decide +kernel, k_197, rfl, k_7, k_198, by decide +kernel⟩
theorem cf_X9_66 : KN RX9 66 yX0_init (.code yX0_init cX0_init 1 (Option.none : Option Jvm.ClassFile.FieldType)) 0 := ⟨by decide +kernel, k_210, rfl, k_8, k_211, by decide +kernel⟩
theorem cf_X9_83 : KN RX9 83 yX7_init (.code yX7_init cX7_init 1 (Option.none : Option Jvm.ClassFile.FieldType)) 0 := ⟨by decide +kernel, k_237, rfl, k_9, k_238, by decide +kernel⟩
theorem cf_X9_84 : KS RX9 84 yX9_within (.code yX9_within cX9_within 3 (Option.some Jvm.ClassFile.FieldType.boolean)) 3 := ⟨k_299, k_300, k_1, k_301, by decide +kernel⟩
theorem cf_X9_96 : KV RX9 96 yX9_isTown (.code yX9_isTown cX9_isTown 2 (Option.some Jvm.ClassFile.FieldType.boolean)) 1 := ⟨k_306, k_308, ks_0, k_1, k_309, by decide +kernel⟩
theorem cf_X9_100 : KV RX9 100 yX1_hasRoom (.code yX1_hasRoom cX1_hasRoom 2 (Option.some Jvm.ClassFile.FieldType.boolean)) 1 := ⟨k_310, k_311, k_312, k_2, k_313, by decide +kernel⟩
theorem cf_X9_103 : KV RX9 103 yX1_join (.code yX1_join cX1_join 4 (Option.some Jvm.ClassFile.FieldType.int)) 3 := ⟨k_318, k_319, k_320, k_2, k_321, by decide +kernel⟩
theorem cf_X9_110 : KS RX9 110 yX9_replace (.code yX9_replace cX9_replace 4 (Option.some Jvm.ClassFile.FieldType.int)) 3 := ⟨k_326, k_327, k_1, k_328, by decide +kernel⟩
theorem cf_X9_123 : KV RX9 123 yX9_isFamily (.code yX9_isFamily cX9_isFamily 2 (Option.some Jvm.ClassFile.FieldType.boolean)) 1 := ⟨k_333, k_335, ks_1, k_1, k_336, by decide +kernel⟩
theorem cf_X9_140 : KV RX9 140 yX1_duesOf (.code yX1_duesOf cX1_duesOf 4 (Option.some Jvm.ClassFile.FieldType.int)) 2 := ⟨k_338, k_339, k_340, k_2, k_341, by decide +kernel⟩
theorem cf_X9_144 : KV RX9 144 yX1_worthOf (.code yX1_worthOf cX1_worthOf 6 (Option.some Jvm.ClassFile.FieldType.int)) 2 := ⟨k_365, k_366, k_367, k_2, k_368, by decide +kernel⟩
theorem cf_X9_147 : KV RX9 147 yX1_crowd (.code yX1_crowd cX1_crowd 4 (Option.some Jvm.ClassFile.FieldType.int)) 1 := ⟨k_384, k_315, k_316, k_2, k_317, by decide +kernel⟩
theorem cf_X9_151 : KV RX9 151 yX1_costOf (.code yX1_costOf cX1_costOf 4 (Option.some Jvm.ClassFile.FieldType.int)) 1 := ⟨k_385, k_351, k_352, k_2, k_353, by decide +kernel⟩
theorem cf_X9_157 : KV RX9 157 yX5_append (.code yX5_append cX5_append 2 (Option.none : Option Jvm.ClassFile.FieldType)) 1 := ⟨k_390, k_391, k_392, k_4, k_393, by decide +kernel⟩
theorem cf_X9_161 : KV RX9 161 yX5_faultIn (.code yX5_faultIn cX5_faultIn 3 (Option.some Jvm.ClassFile.FieldType.int)) 1 := ⟨k_398, k_399, k_400, k_4, k_401, by decide +kernel⟩
theorem cf_X9_168 : KV RX9 168 yX1_chosenLevel (.code yX1_chosenLevel cX1_chosenLevel 6 (Option.some Jvm.ClassFile.FieldType.int)) 2 := ⟨k_582, k_583, k_584, k_2, k_585, by decide +kernel⟩
theorem cf_X9_171 : KV RX9 171 yX1_vote (.code yX1_vote cX1_vote 5 (Option.some Jvm.ClassFile.FieldType.int)) 1 := ⟨k_607, k_608, k_609, k_2, k_610, by decide +kernel⟩
theorem cf_X9_174 : KS RX9 174 yX9_isRest (.code yX9_isRest cX9_isRest 1 (Option.some Jvm.ClassFile.FieldType.boolean)) 1 := ⟨k_616, k_617, k_1, k_618, by decide +kernel⟩
theorem cf_X9_177 : KV RX9 177 yX6_breach (.code yX6_breach cX6_breach 4 (Option.some Jvm.ClassFile.FieldType.int)) 2 := ⟨k_619, k_620, k_621, k_5, k_622, by decide +kernel⟩
theorem cf_X9_181 : KV RX9 181 yX1_canGo (.code yX1_canGo cX1_canGo 3 (Option.some Jvm.ClassFile.FieldType.boolean)) 2 := ⟨k_682, k_629, k_630, k_2, k_631, by decide +kernel⟩
theorem cf_X9_185 : KV RX9 185 yX8_stride (.code yX8_stride cX8_stride 6 (Option.some Jvm.ClassFile.FieldType.int)) 2 := ⟨k_687, k_688, k_689, k_6, k_690, by decide +kernel⟩
theorem cf_X9_189 : KV RX9 189 yX8_strideOn (.code yX8_strideOn cX8_strideOn 5 (Option.some Jvm.ClassFile.FieldType.int)) 2 := ⟨k_702, k_703, k_704, k_6, k_705, by decide +kernel⟩
theorem cf_X9_192 : KS RX9 192 yX9_isTape (.code yX9_isTape cX9_isTape 1 (Option.some Jvm.ClassFile.FieldType.boolean)) 1 := ⟨k_715, k_716, k_1, k_717, by decide +kernel⟩
theorem cf_X9_195 : KV RX9 195 yX7_isNothing (.code yX7_isNothing cX7_isNothing 1 (Option.some Jvm.ClassFile.FieldType.boolean)) 0 := ⟨k_718, k_719, k_720, k_9, k_721, by decide +kernel⟩
theorem cf_X9_205 : KV RX9 205 yX7_spans (.code yX7_spans cX7_spans 3 (Option.some Jvm.ClassFile.FieldType.boolean)) 2 := ⟨k_722, k_723, k_724, k_9, k_725, by decide +kernel⟩
theorem cf_X9_208 : KV RX9 208 yX1_become (.code yX1_become cX1_become 2 (Option.none : Option Jvm.ClassFile.FieldType)) 1 := ⟨k_726, k_727, k_728, k_2, k_729, by decide +kernel⟩
theorem cf_X9_212 : KV RX9 212 yX9_settleAsTold (.code yX9_settleAsTold cX9_settleAsTold 6 (Option.some Jvm.ClassFile.FieldType.boolean)) 2 := ⟨k_731, k_733, ks_28, k_1, k_734, by decide +kernel⟩
theorem cf_X9_216 : KV RX9 216 yX1_hasTooManyWays (.code yX1_hasTooManyWays cX1_hasTooManyWays 1 (Option.some Jvm.ClassFile.FieldType.boolean)) 0 := ⟨k_743, k_744, k_745, k_2, k_746, by decide +kernel⟩
theorem cf_X9_219 : KV RX9 219 yX1_ways (.code yX1_ways cX1_ways 3 (Option.some Jvm.ClassFile.FieldType.int)) 0 := ⟨k_747, k_748, k_749, k_2, k_750, by decide +kernel⟩
theorem cf_X9_223 : KV RX9 223 yX1_settle (.code yX1_settle cX1_settle 4 (Option.some Jvm.ClassFile.FieldType.boolean)) 1 := ⟨k_751, k_752, k_753, k_2, k_754, by decide +kernel⟩
theorem cf_X9_226 : KV RX9 226 yX1_worthOfAll (.code yX1_worthOfAll cX1_worthOfAll 4 (Option.some Jvm.ClassFile.FieldType.long)) 0 := ⟨k_760, k_761, k_762, k_2, k_763, by decide +kernel⟩
theorem cf_X9_230 : KS RX9 230 yJ7_fill_53178 (.code yJ7_fill_53178 cJ7_fill_53178 4 (Option.none : Option Jvm.ClassFile.FieldType)) 2 := ⟨k_768, k_407, k_12, k_408, by decide +kernel⟩
theorem cf_X9_236 : KV RX9 236 yX1_soughtTown (.code yX1_soughtTown cX1_soughtTown 4 (Option.some Jvm.ClassFile.FieldType.int)) 0 := ⟨k_769, k_770, k_771, k_2, k_772, by decide +kernel⟩
theorem cf_X9_239 : KV RX9 239 yX1_pairs (.code yX1_pairs cX1_pairs 4 (Option.some Jvm.ClassFile.FieldType.int)) 0 := ⟨k_777, k_778, k_779, k_2, k_780, by decide +kernel⟩
theorem cf_X9_242 : KV RX9 242 yX2_asSorted (.code yX2_asSorted cX2_asSorted 3 (Option.some Jvm.ClassFile.FieldType.int)) 1 := ⟨k_781, k_782, k_783, k_7, k_784, by decide +kernel⟩
theorem cf_X9_246 : KV RX9 246 yX2_ofAll (.code yX2_ofAll cX2_ofAll 4 (Option.some Jvm.ClassFile.FieldType.int)) 1 := ⟨k_791, k_792, k_793, k_7, k_794, by decide +kernel⟩
theorem cf_X9_249 : KV RX9 249 yX1_othersDiffer (.code yX1_othersDiffer cX1_othersDiffer 4 (Option.some Jvm.ClassFile.FieldType.boolean)) 2 := ⟨k_799, k_800, k_801, k_2, k_802, by decide +kernel⟩
theorem cf_X9_256 : KI RX9 256 yX4_init (.code yX4_init cX4_init 5 (Option.none : Option Jvm.ClassFile.FieldType)) 4 := ⟨k_808, k_809, rfl, k_20, k_810, by decide +kernel⟩
theorem cf_X9_259 : KV RX9 259 yX9_priceOf (.code yX9_priceOf cX9_priceOf 4 (Option.some Jvm.ClassFile.FieldType.int)) 1 := ⟨k_830, k_832, ks_30, k_1, k_833, by decide +kernel⟩
theorem cf_X9_262 : KV RX9 262 yX9_clashIn (.code yX9_clashIn cX9_clashIn 4 (Option.some Jvm.ClassFile.FieldType.boolean)) 1 := ⟨k_834, k_836, ks_31, k_1, k_837, by decide +kernel⟩
theorem cf_X9_265 : KV RX9 265 yX9_enact (.code yX9_enact cX9_enact 3 (Option.none : Option Jvm.ClassFile.FieldType)) 1 := ⟨k_842, k_844, ks_32, k_1, k_845, by decide +kernel⟩
theorem cf_X9_269 : KV RX9 269 yX1_leastWorth (.code yX1_leastWorth cX1_leastWorth 4 (Option.some Jvm.ClassFile.FieldType.int)) 0 := ⟨k_850, k_851, k_852, k_2, k_853, by decide +kernel⟩
theorem cf_X9_286 : KV RX9 286 yX9_births (.code yX9_births cX9_births 4 (Option.some Jvm.ClassFile.FieldType.int)) 0 := ⟨k_864, k_866, ks_33, k_1, k_867, by decide +kernel⟩
theorem cf_X9_289 : KV RX9 289 yX0_forget (.code yX0_forget cX0_forget 3 (Option.none : Option Jvm.ClassFile.FieldType)) 2 := ⟨k_876, k_877, k_878, k_8, k_879, by decide +kernel⟩
theorem cf_X9_293 : KV RX9 293 yX0_done (.code yX0_done cX0_done 4 (Option.some Jvm.ClassFile.FieldType.int)) 3 := ⟨k_880, k_881, k_882, k_8, k_883, by decide +kernel⟩
theorem cf_X9_302 : KS RX9 302 yX6_isUnder (.code yX6_isUnder cX6_isUnder 4 (Option.some Jvm.ClassFile.FieldType.boolean)) 2 := ⟨k_911, k_634, k_5, k_635, by decide +kernel⟩
theorem cf_X9_305 : KV RX9 305 yX7_become (.code yX7_become cX7_become 3 (Option.none : Option Jvm.ClassFile.FieldType)) 2 := ⟨k_920, k_921, k_922, k_9, k_923, by decide +kernel⟩
theorem cf_X9_311 : KV RX9 311 yX7_cut (.code yX7_cut cX7_cut 3 (Option.some Jvm.ClassFile.FieldType.long)) 1 := ⟨k_931, k_932, k_933, k_9, k_934, by decide +kernel⟩
theorem cf_X9_321 : KV RX9 321 yX1_fits (.code yX1_fits cX1_fits 2 (Option.some Jvm.ClassFile.FieldType.boolean)) 0 := ⟨k_735, k_736, k_737, k_2, k_738, by decide +kernel⟩
theorem cf_X9_327 : KV RX9 327 yX4_clashes (.code yX4_clashes cX4_clashes 2 (Option.some Jvm.ClassFile.FieldType.boolean)) 1 := ⟨k_838, k_839, k_840, k_20, k_841, by decide +kernel⟩
theorem cf_X9_331 : KV RX9 331 yX4_rule (.code yX4_rule cX4_rule 3 (Option.none : Option Jvm.ClassFile.FieldType)) 1 := ⟨k_846, k_847, k_848, k_20, k_849, by decide +kernel⟩
theorem cf_X9_334 : KV RX9 334 yX1_doubledSort (.code yX1_doubledSort cX1_doubledSort 5 (Option.some Jvm.ClassFile.FieldType.int)) 1 := ⟨k_868, k_869, k_870, k_2, k_871, by decide +kernel⟩
theorem cf_X0_28 : KV RX0 28 yX0_own (.code yX0_own cX0_own 4 (Option.some Jvm.ClassFile.FieldType.int)) 3 := ⟨k_884, k_886, ks_34, k_8, k_887, by decide +kernel⟩
theorem cf_X0_32 : KV RX0 32 yX0_from (.code yX0_from cX0_from 7 (Option.some Jvm.ClassFile.FieldType.int)) 4 := ⟨k_888, k_890, ks_35, k_8, k_891, by decide +kernel⟩
theorem cf_X0_42 : KV RX0 42 yX0_run (.code yX0_run cX0_run 4 (Option.some Jvm.ClassFile.FieldType.int)) 3 := ⟨k_895, k_897, ks_36, k_8, k_898, by decide +kernel⟩
theorem cf_X0_45 : KV RX0 45 yX0_above (.code yX0_above cX0_above 5 (Option.some Jvm.ClassFile.FieldType.int)) 4 := ⟨k_899, k_901, ks_37, k_8, k_902, by decide +kernel⟩
theorem cf_X1_59 : KV RX1 59 yX1_crowd (.code yX1_crowd cX1_crowd 4 (Option.some Jvm.ClassFile.FieldType.int)) 1 := ⟨k_314, k_315, k_316, k_2, k_317, by decide +kernel⟩
theorem cf_X1_63 : KV RX1 63 yX1_hasRoom (.code yX1_hasRoom cX1_hasRoom 2 (Option.some Jvm.ClassFile.FieldType.boolean)) 1 := ⟨k_632, k_311, k_312, k_2, k_313, by decide +kernel⟩
theorem cf_X1_72 : KV RX1 72 yX1_isAsIfIn (.code yX1_isAsIfIn cX1_isAsIfIn 4 (Option.some Jvm.ClassFile.FieldType.boolean)) 3 := ⟨k_346, k_348, ks_3, k_2, k_349, by decide +kernel⟩
theorem cf_X1_79 : KV RX1 79 yX1_share (.code yX1_share cX1_share 3 (Option.some Jvm.ClassFile.FieldType.int)) 2 := ⟨k_354, k_356, ks_4, k_2, k_357, by decide +kernel⟩
theorem cf_X1_83 : KV RX1 83 yX1_greatestIncome (.code yX1_greatestIncome cX1_greatestIncome 5 (Option.some Jvm.ClassFile.FieldType.int)) 2 := ⟨k_342, k_344, ks_2, k_2, k_345, by decide +kernel⟩
theorem cf_X1_86 : KV RX1 86 yX1_costOf (.code yX1_costOf cX1_costOf 4 (Option.some Jvm.ClassFile.FieldType.int)) 1 := ⟨k_350, k_351, k_352, k_2, k_353, by decide +kernel⟩
theorem cf_X1_89 : KV RX1 89 yX1_sharesTogether (.code yX1_sharesTogether cX1_sharesTogether 6 (Option.some Jvm.ClassFile.FieldType.int)) 3 := ⟨k_358, k_360, ks_5, k_2, k_361, by decide +kernel⟩
theorem cf_X1_93 : KS RX1 93 yX1_cutPart (.code yX1_cutPart cX1_cutPart 3 (Option.some Jvm.ClassFile.FieldType.int)) 3 := ⟨k_362, k_363, k_2, k_364, by decide +kernel⟩
theorem cf_X1_96 : KV RX1 96 yX1_duesOf (.code yX1_duesOf cX1_duesOf 4 (Option.some Jvm.ClassFile.FieldType.int)) 2 := ⟨k_369, k_339, k_340, k_2, k_341, by decide +kernel⟩
theorem cf_X1_105 : KV RX1 105 yX3_shunned (.code yX3_shunned cX3_shunned 12 (Option.some Jvm.ClassFile.FieldType.int)) 4 := ⟨k_370, k_371, k_372, k_3, k_373, by decide +kernel⟩
theorem cf_X1_117 : KV RX1 117 yX1_worthOf (.code yX1_worthOf cX1_worthOf 6 (Option.some Jvm.ClassFile.FieldType.int)) 2 := ⟨k_695, k_366, k_367, k_2, k_368, by decide +kernel⟩
theorem cf_X1_120 : KV RX1 120 yX1_canGo (.code yX1_canGo cX1_canGo 3 (Option.some Jvm.ClassFile.FieldType.boolean)) 2 := ⟨k_696, k_629, k_630, k_2, k_631, by decide +kernel⟩
theorem cf_X1_124 : KS RX1 124 yJ7_fill_53178 (.code yJ7_fill_53178 cJ7_fill_53178 4 (Option.none : Option Jvm.ClassFile.FieldType)) 2 := ⟨k_586, k_407, k_12, k_408, by decide +kernel⟩
theorem cf_X1_133 : KV RX1 133 yX1_hasOldOnes (.code yX1_hasOldOnes cX1_hasOldOnes 3 (Option.some Jvm.ClassFile.FieldType.boolean)) 1 := ⟨k_587, k_589, ks_18, k_2, k_590, by decide +kernel⟩
theorem cf_X1_136 : KV RX1 136 yX1_wantedLevel (.code yX1_wantedLevel cX1_wantedLevel 14 (Option.some Jvm.ClassFile.FieldType.int)) 3 := ⟨k_591, k_593, ks_19, k_2, k_594, by decide +kernel⟩
theorem cf_X1_139 : KV RX1 139 yX1_middleWant (.code yX1_middleWant cX1_middleWant 4 (Option.some Jvm.ClassFile.FieldType.int)) 1 := ⟨k_595, k_597, ks_20, k_2, k_598, by decide +kernel⟩
theorem cf_X1_142 : KV RX1 142 yX1_commonestWant (.code yX1_commonestWant cX1_commonestWant 3 (Option.some Jvm.ClassFile.FieldType.int)) 0 := ⟨k_599, k_601, ks_21, k_2, k_602, by decide +kernel⟩
theorem cf_X1_146 : KV RX1 146 yX1_chosenLevel (.code yX1_chosenLevel cX1_chosenLevel 6 (Option.some Jvm.ClassFile.FieldType.int)) 2 := ⟨k_611, k_583, k_584, k_2, k_585, by decide +kernel⟩
theorem cf_X1_149 : KV RX1 149 yX1_fits (.code yX1_fits cX1_fits 2 (Option.some Jvm.ClassFile.FieldType.boolean)) 0 := ⟨k_755, k_736, k_737, k_2, k_738, by decide +kernel⟩
theorem cf_X2_24 : KS RX2 24 yJ7_fill_53178 (.code yJ7_fill_53178 cJ7_fill_53178 4 (Option.none : Option Jvm.ClassFile.FieldType)) 2 := ⟨k_785, k_407, k_12, k_408, by decide +kernel⟩
theorem cf_X2_33 : KV RX2 33 yX1_pairs (.code yX1_pairs cX1_pairs 4 (Option.some Jvm.ClassFile.FieldType.int)) 0 := ⟨k_786, k_778, k_779, k_2, k_780, by decide +kernel⟩
theorem cf_X2_37 : KV RX2 37 yX2_ways (.code yX2_ways cX2_ways 9 (Option.some Jvm.ClassFile.FieldType.int)) 3 := ⟨k_787, k_789, ks_29, k_7, k_790, by decide +kernel⟩
theorem cf_X3_26 : KS RX3 26 yJ7_fill_53178 (.code yJ7_fill_53178 cJ7_fill_53178 4 (Option.none : Option Jvm.ClassFile.FieldType)) 2 := ⟨k_406, k_407, k_12, k_408, by decide +kernel⟩
theorem cf_X3_45 : KS RX3 45 yX3_holds (.code yX3_holds cX3_holds 3 (Option.some Jvm.ClassFile.FieldType.boolean)) 3 := ⟨k_374, k_375, k_3, k_376, by decide +kernel⟩
theorem cf_X5_19 : KV RX5 19 yX3_forget (.code yX3_forget cX3_forget 1 (Option.none : Option Jvm.ClassFile.FieldType)) 0 := ⟨k_402, k_403, k_404, k_3, k_405, by decide +kernel⟩
theorem cf_X5_27 : KV RX5 27 yX5_clause (.code yX5_clause cX5_clause 3 (Option.some Jvm.ClassFile.FieldType.boolean)) 1 := ⟨k_409, k_411, ks_6, k_4, k_412, by decide +kernel⟩
theorem cf_X5_31 : KV RX5 31 yX5_met (.code yX5_met cX5_met 2 (Option.some Jvm.ClassFile.FieldType.boolean)) 1 := ⟨k_466, k_468, ks_8, k_4, k_469, by decide +kernel⟩
theorem cf_X5_35 : KV RX5 35 yX5_word (.code yX5_word cX5_word 3 (Option.some Jvm.ClassFile.FieldType.int)) 0 := ⟨k_413, k_415, ks_7, k_4, k_416, by decide +kernel⟩
theorem cf_X5_43 : KV RX5 43 yX5_pair (.code yX5_pair cX5_pair 6 (Option.some Jvm.ClassFile.FieldType.boolean)) 2 := ⟨k_470, k_472, ks_9, k_4, k_473, by decide +kernel⟩
theorem cf_X5_53 : KV RX5 53 yX5_single (.code yX5_single cX5_single 4 (Option.some Jvm.ClassFile.FieldType.boolean)) 1 := ⟨k_482, k_484, ks_12, k_4, k_485, by decide +kernel⟩
theorem cf_X5_57 : KV RX5 57 yX5_number (.code yX5_number cX5_number 3 (Option.some Jvm.ClassFile.FieldType.int)) 0 := ⟨k_478, k_480, ks_11, k_4, k_481, by decide +kernel⟩
theorem cf_X5_65 : KV RX5 65 yX5_letter (.code yX5_letter cX5_letter 3 (Option.some Jvm.ClassFile.FieldType.int)) 1 := ⟨k_487, k_489, ks_13, k_4, k_490, by decide +kernel⟩
theorem cf_X5_77 : KV RX5 77 yX5_either (.code yX5_either cX5_either 6 (Option.some Jvm.ClassFile.FieldType.boolean)) 2 := ⟨k_551, k_553, ks_14, k_4, k_554, by decide +kernel⟩
theorem cf_X5_81 : KV RX5 81 yX5_weight (.code yX5_weight cX5_weight 3 (Option.some Jvm.ClassFile.FieldType.boolean)) 1 := ⟨k_569, k_571, ks_17, k_4, k_572, by decide +kernel⟩
theorem cf_X5_86 : KV RX5 86 yJ0_length_8abf5 (.code yJ0_length_8abf5 cJ0_length_8abf5 1 (Option.some Jvm.ClassFile.FieldType.int)) 0 := ⟨k_418, k_419, k_420, k_13, k_421, by decide +kernel⟩
theorem cf_X5_90 : KV RX5 90 yJ0_charAt_5068e (.code yJ0_charAt_5068e cJ0_charAt_5068e 2 (Option.some Jvm.ClassFile.FieldType.char)) 1 := ⟨k_428, k_429, k_430, k_13, k_431, by decide +kernel⟩
theorem cf_X5_94 : KV RX5 94 yX5_figure (.code yX5_figure cX5_figure 2 (Option.some Jvm.ClassFile.FieldType.int)) 1 := ⟨k_474, k_476, ks_10, k_4, k_477, by decide +kernel⟩
theorem cf_X5_98 : KV RX5 98 yX3_emit (.code yX3_emit cX3_emit 3 (Option.none : Option Jvm.ClassFile.FieldType)) 2 := ⟨k_559, k_560, k_561, k_3, k_562, by decide +kernel⟩
theorem cf_X5_102 : KV RX5 102 yX5_factor (.code yX5_factor cX5_factor 4 (Option.some Jvm.ClassFile.FieldType.boolean)) 2 := ⟨k_555, k_557, ks_15, k_4, k_558, by decide +kernel⟩
theorem cf_X5_105 : KV RX5 105 yX5_test (.code yX5_test cX5_test 5 (Option.some Jvm.ClassFile.FieldType.boolean)) 1 := ⟨k_563, k_565, ks_16, k_4, k_566, by decide +kernel⟩
theorem cf_X5_112 : KV RX5 112 yJ0_indexOf_0f7a4 (.code yJ0_indexOf_0f7a4 cJ0_indexOf_0f7a4 2 (Option.some Jvm.ClassFile.FieldType.int)) 1 := ⟨k_491, k_492, k_493, k_13, k_494, by decide +kernel⟩
theorem cf_X6_24 : KV RX6 24 yX6_stay (.code yX6_stay cX6_stay 5 (Option.some Jvm.ClassFile.FieldType.int)) 1 := ⟨k_623, k_625, ks_22, k_5, k_626, by decide +kernel⟩
theorem cf_X6_28 : KS RX6 28 yX6_isUnder (.code yX6_isUnder cX6_isUnder 4 (Option.some Jvm.ClassFile.FieldType.boolean)) 2 := ⟨k_633, k_634, k_5, k_635, by decide +kernel⟩
theorem cf_X6_32 : KV RX6 32 yX6_voted (.code yX6_voted cX6_voted 4 (Option.some Jvm.ClassFile.FieldType.int)) 1 := ⟨k_638, k_640, ks_23, k_5, k_641, by decide +kernel⟩
theorem cf_X6_35 : KV RX6 35 yX6_rented (.code yX6_rented cX6_rented 5 (Option.some Jvm.ClassFile.FieldType.int)) 1 := ⟨k_643, k_645, ks_24, k_5, k_646, by decide +kernel⟩
theorem cf_X6_38 : KV RX6 38 yX6_seer (.code yX6_seer cX6_seer 7 (Option.some Jvm.ClassFile.FieldType.int)) 1 := ⟨k_648, k_650, ks_25, k_5, k_651, by decide +kernel⟩
theorem cf_X6_41 : KV RX6 41 yX6_club (.code yX6_club cX6_club 5 (Option.some Jvm.ClassFile.FieldType.int)) 1 := ⟨k_656, k_658, ks_26, k_5, k_659, by decide +kernel⟩
theorem cf_X6_53 : KV RX6 53 yX1_worthOf (.code yX1_worthOf cX1_worthOf 6 (Option.some Jvm.ClassFile.FieldType.int)) 2 := ⟨k_627, k_366, k_367, k_2, k_368, by decide +kernel⟩
theorem cf_X6_60 : KV RX6 60 yX1_canGo (.code yX1_canGo cX1_canGo 3 (Option.some Jvm.ClassFile.FieldType.boolean)) 2 := ⟨k_628, k_629, k_630, k_2, k_631, by decide +kernel⟩
theorem cf_X6_63 : KV RX6 63 yX1_chosenLevel (.code yX1_chosenLevel cX1_chosenLevel 6 (Option.some Jvm.ClassFile.FieldType.int)) 2 := ⟨k_642, k_583, k_584, k_2, k_585, by decide +kernel⟩
theorem cf_X6_69 : KV RX6 69 yX1_hasRoom (.code yX1_hasRoom cX1_hasRoom 2 (Option.some Jvm.ClassFile.FieldType.boolean)) 1 := ⟨k_647, k_311, k_312, k_2, k_313, by decide +kernel⟩
theorem cf_X6_88 : KV RX6 88 yX1_vote (.code yX1_vote cX1_vote 5 (Option.some Jvm.ClassFile.FieldType.int)) 1 := ⟨k_655, k_608, k_609, k_2, k_610, by decide +kernel⟩
theorem cf_X6_92 : KS RX6 92 yJ6_bitCount_0f7a4 (.code yJ6_bitCount_0f7a4 cJ6_bitCount_0f7a4 1 (Option.some Jvm.ClassFile.FieldType.int)) 1 := ⟨k_660, k_661, k_19, k_662, by decide +kernel⟩
theorem cf_X6_97 : KV RX6 97 yX1_crowd (.code yX1_crowd cX1_crowd 4 (Option.some Jvm.ClassFile.FieldType.int)) 1 := ⟨k_666, k_315, k_316, k_2, k_317, by decide +kernel⟩
theorem cf_X6_103 : KV RX6 103 yX6_wouldFound (.code yX6_wouldFound cX6_wouldFound 6 (Option.some Jvm.ClassFile.FieldType.boolean)) 3 := ⟨k_667, k_669, ks_27, k_5, k_670, by decide +kernel⟩
theorem cf_X6_107 : KS RX6 107 yX6_leastOf (.code yX6_leastOf cX6_leastOf 1 (Option.some Jvm.ClassFile.FieldType.int)) 1 := ⟨k_671, k_672, k_5, k_673, by decide +kernel⟩
theorem cf_X7_20 : KS RX7 20 yJ7_fill_d0a16 (.code yJ7_fill_d0a16 cJ7_fill_d0a16 5 (Option.none : Option Jvm.ClassFile.FieldType)) 2 := ⟨k_924, k_925, k_12, k_926, by decide +kernel⟩
theorem cf_X8_21 : KV RX8 21 yX1_betterTown (.code yX1_betterTown cX1_betterTown 6 (Option.some Jvm.ClassFile.FieldType.int)) 1 := ⟨k_691, k_692, k_693, k_2, k_694, by decide +kernel⟩
theorem cf_X8_32 : KV RX8 32 yX1_vote (.code yX1_vote cX1_vote 5 (Option.some Jvm.ClassFile.FieldType.int)) 1 := ⟨k_697, k_608, k_609, k_2, k_610, by decide +kernel⟩
theorem cf_X8_35 : KV RX8 35 yX1_imprint (.code yX1_imprint cX1_imprint 4 (Option.some Jvm.ClassFile.FieldType.long)) 0 := ⟨k_706, k_707, k_708, k_2, k_709, by decide +kernel⟩
theorem cf_X8_39 : KV RX8 39 yX8_stride (.code yX8_stride cX8_stride 6 (Option.some Jvm.ClassFile.FieldType.int)) 2 := ⟨k_710, k_688, k_689, k_6, k_690, by decide +kernel⟩
theorem cf_L_9 : KI RL 9 yX9_init (.code yX9_init cX9_init 2 (Option.none : Option Jvm.ClassFile.FieldType)) 0 := ⟨k_23, k_24, rfl, k_1, k_25, by decide +kernel⟩
theorem cf_L_12 : KI RL 12 yX10_init (.code yX10_init cX10_init 1 (Option.none : Option Jvm.ClassFile.FieldType)) 0 := ⟨k_946, k_947, rfl, k_10, k_948, by decide +kernel⟩
theorem cf_L_13 : KV RL 13 yX9_town (.code yX9_town cX9_town 2 (Option.some Jvm.ClassFile.FieldType.int)) 1 := ⟨k_295, k_296, k_297, k_1, k_298, by decide +kernel⟩
theorem cf_L_17 : KV RL 17 yX10_town (.code yX10_town cX10_town 2 (Option.some Jvm.ClassFile.FieldType.int)) 1 := ⟨k_1135, k_1136, k_1137, k_10, k_1138, by decide +kernel⟩
theorem cf_L_18 : KV RL 18 yX9_family (.code yX9_family cX9_family 4 (Option.some Jvm.ClassFile.FieldType.int)) 3 := ⟨k_302, k_303, k_304, k_1, k_305, by decide +kernel⟩
theorem cf_L_22 : KV RL 22 yX10_family (.code yX10_family cX10_family 4 (Option.some Jvm.ClassFile.FieldType.int)) 3 := ⟨k_1143, k_1144, k_1145, k_10, k_1146, by decide +kernel⟩
theorem cf_L_23 : KV RL 23 yX9_put (.code yX9_put cX9_put 4 (Option.some Jvm.ClassFile.FieldType.int)) 3 := ⟨k_322, k_323, k_324, k_1, k_325, by decide +kernel⟩
theorem cf_L_26 : KV RL 26 yX10_put (.code yX10_put cX10_put 5 (Option.some Jvm.ClassFile.FieldType.int)) 3 := ⟨k_1163, k_1164, k_1165, k_10, k_1166, by decide +kernel⟩
theorem cf_L_27 : KV RL 27 yX9_of (.code yX9_of cX9_of 4 (Option.some Jvm.ClassFile.FieldType.long)) 2 := ⟨k_329, k_330, k_331, k_1, k_332, by decide +kernel⟩
theorem cf_L_31 : KV RL 31 yX10_of (.code yX10_of cX10_of 3 (Option.some Jvm.ClassFile.FieldType.long)) 2 := ⟨k_1167, k_1168, k_1169, k_10, k_1170, by decide +kernel⟩
theorem cf_L_32 : KV RL 32 yX9_has (.code yX9_has cX9_has 3 (Option.some Jvm.ClassFile.FieldType.int)) 2 := ⟨k_380, k_381, k_382, k_1, k_383, by decide +kernel⟩
theorem cf_L_36 : KV RL 36 yX10_has (.code yX10_has cX10_has 3 (Option.some Jvm.ClassFile.FieldType.int)) 2 := ⟨k_1263, k_1264, k_1265, k_10, k_1266, by decide +kernel⟩
theorem cf_L_37 : KV RL 37 yX9_feed (.code yX9_feed cX9_feed 4 (Option.some Jvm.ClassFile.FieldType.int)) 2 := ⟨k_386, k_387, k_388, k_1, k_389, by decide +kernel⟩
theorem cf_L_40 : KV RL 40 yX10_feed (.code yX10_feed cX10_feed 4 (Option.some Jvm.ClassFile.FieldType.int)) 2 := ⟨k_1267, k_1268, k_1269, k_10, k_1270, by decide +kernel⟩
theorem cf_L_41 : KV RL 41 yX9_land (.code yX9_land cX9_land 3 (Option.some Jvm.ClassFile.FieldType.int)) 0 := ⟨k_394, k_395, k_396, k_1, k_397, by decide +kernel⟩
theorem cf_L_45 : KV RL 45 yX10_land (.code yX10_land cX10_land 2 (Option.some Jvm.ClassFile.FieldType.int)) 0 := ⟨k_1271, k_1272, k_1273, k_10, k_1274, by decide +kernel⟩
theorem cf_L_46 : KV RL 46 yX9_worth (.code yX9_worth cX9_worth 3 (Option.some Jvm.ClassFile.FieldType.long)) 2 := ⟨k_574, k_575, k_576, k_1, k_577, by decide +kernel⟩
theorem cf_L_49 : KV RL 49 yX10_worth (.code yX10_worth cX10_worth 3 (Option.some Jvm.ClassFile.FieldType.long)) 2 := ⟨k_1275, k_1276, k_1277, k_10, k_1278, by decide +kernel⟩
theorem cf_L_50 : KV RL 50 yX9_choice (.code yX9_choice cX9_choice 3 (Option.some Jvm.ClassFile.FieldType.int)) 2 := ⟨k_578, k_579, k_580, k_1, k_581, by decide +kernel⟩
theorem cf_L_53 : KV RL 53 yX10_choice (.code yX10_choice cX10_choice 3 (Option.some Jvm.ClassFile.FieldType.int)) 2 := ⟨k_1279, k_1280, k_1281, k_10, k_1282, by decide +kernel⟩
theorem cf_L_54 : KV RL 54 yX9_choose (.code yX9_choose cX9_choose 2 (Option.some Jvm.ClassFile.FieldType.int)) 1 := ⟨k_603, k_604, k_605, k_1, k_606, by decide +kernel⟩
theorem cf_L_57 : KV RL 57 yX10_choose (.code yX10_choose cX10_choose 2 (Option.some Jvm.ClassFile.FieldType.int)) 1 := ⟨k_1291, k_1292, k_1293, k_10, k_1294, by decide +kernel⟩
theorem cf_L_58 : KV RL 58 yX9_rest (.code yX9_rest cX9_rest 2 (Option.some Jvm.ClassFile.FieldType.int)) 1 := ⟨k_612, k_613, k_614, k_1, k_615, by decide +kernel⟩
theorem cf_L_61 : KV RL 61 yX10_rest (.code yX10_rest cX10_rest 2 (Option.some Jvm.ClassFile.FieldType.int)) 1 := ⟨k_1299, k_1300, k_1301, k_10, k_1302, by decide +kernel⟩
theorem cf_L_62 : KV RL 62 yX9_broken (.code yX9_broken cX9_broken 2 (Option.some Jvm.ClassFile.FieldType.int)) 1 := ⟨k_674, k_675, k_676, k_1, k_677, by decide +kernel⟩
theorem cf_L_65 : KV RL 65 yX10_broken (.code yX10_broken cX10_broken 2 (Option.some Jvm.ClassFile.FieldType.int)) 1 := ⟨k_1347, k_1348, k_1349, k_10, k_1350, by decide +kernel⟩
theorem cf_L_66 : KV RL 66 yX9_go (.code yX9_go cX9_go 3 (Option.some Jvm.ClassFile.FieldType.int)) 2 := ⟨k_678, k_679, k_680, k_1, k_681, by decide +kernel⟩
theorem cf_L_69 : KV RL 69 yX10_go (.code yX10_go cX10_go 4 (Option.some Jvm.ClassFile.FieldType.int)) 2 := ⟨k_1351, k_1352, k_1353, k_10, k_1354, by decide +kernel⟩
theorem cf_L_70 : KV RL 70 yX9_step (.code yX9_step cX9_step 2 (Option.some Jvm.ClassFile.FieldType.int)) 1 := ⟨k_683, k_684, k_685, k_1, k_686, by decide +kernel⟩
theorem cf_L_74 : KV RL 74 yX10_step (.code yX10_step cX10_step 2 (Option.some Jvm.ClassFile.FieldType.int)) 1 := ⟨k_1355, k_1356, k_1357, k_10, k_1358, by decide +kernel⟩
theorem cf_L_75 : KV RL 75 yX9_end (.code yX9_end cX9_end 2 (Option.some Jvm.ClassFile.FieldType.int)) 1 := ⟨k_698, k_699, k_700, k_1, k_701, by decide +kernel⟩
theorem cf_L_78 : KV RL 78 yX10_end (.code yX10_end cX10_end 2 (Option.some Jvm.ClassFile.FieldType.int)) 1 := ⟨k_1363, k_1364, k_1365, k_10, k_1366, by decide +kernel⟩
theorem cf_L_79 : KV RL 79 yX9_judge (.code yX9_judge cX9_judge 5 (Option.some Jvm.ClassFile.FieldType.int)) 3 := ⟨k_711, k_712, k_713, k_1, k_714, by decide +kernel⟩
theorem cf_L_82 : KV RL 82 yX10_judge (.code yX10_judge cX10_judge 5 (Option.some Jvm.ClassFile.FieldType.int)) 3 := ⟨k_1379, k_1380, k_1381, k_10, k_1382, by decide +kernel⟩
theorem cf_L_83 : KV RL 83 yX9_all (.code yX9_all cX9_all 7 (Option.some Jvm.ClassFile.FieldType.int)) 3 := ⟨k_739, k_740, k_741, k_1, k_742, by decide +kernel⟩
theorem cf_L_86 : KV RL 86 yX10_all (.code yX10_all cX10_all 7 (Option.some Jvm.ClassFile.FieldType.int)) 3 := ⟨k_1399, k_1400, k_1401, k_10, k_1402, by decide +kernel⟩
theorem cf_L_87 : KV RL 87 yX9_good (.code yX9_good cX9_good 9 (Option.some Jvm.ClassFile.FieldType.int)) 1 := ⟨k_756, k_757, k_758, k_1, k_759, by decide +kernel⟩
theorem cf_L_90 : KV RL 90 yX10_good (.code yX10_good cX10_good 9 (Option.some Jvm.ClassFile.FieldType.int)) 1 := ⟨k_1411, k_1412, k_1413, k_10, k_1414, by decide +kernel⟩
theorem cf_L_91 : KV RL 91 yX9_rise (.code yX9_rise cX9_rise 3 (Option.some Jvm.ClassFile.FieldType.int)) 0 := ⟨k_764, k_765, k_766, k_1, k_767, by decide +kernel⟩
theorem cf_L_94 : KV RL 94 yX10_rise (.code yX10_rise cX10_rise 3 (Option.some Jvm.ClassFile.FieldType.int)) 0 := ⟨k_1415, k_1416, k_1417, k_10, k_1418, by decide +kernel⟩
theorem cf_L_95 : KV RL 95 yX9_sorted (.code yX9_sorted cX9_sorted 2 (Option.some Jvm.ClassFile.FieldType.int)) 1 := ⟨k_773, k_774, k_775, k_1, k_776, by decide +kernel⟩
theorem cf_L_98 : KV RL 98 yX10_sorted (.code yX10_sorted cX10_sorted 6 (Option.some Jvm.ClassFile.FieldType.int)) 1 := ⟨k_1423, k_1424, k_1425, k_10, k_1426, by decide +kernel⟩
theorem cf_L_99 : KV RL 99 yX9_tip (.code yX9_tip cX9_tip 4 (Option.some Jvm.ClassFile.FieldType.int)) 1 := ⟨k_795, k_796, k_797, k_1, k_798, by decide +kernel⟩
theorem cf_L_102 : KV RL 102 yX10_tip (.code yX10_tip cX10_tip 8 (Option.some Jvm.ClassFile.FieldType.int)) 1 := ⟨k_1435, k_1436, k_1437, k_10, k_1438, by decide +kernel⟩
theorem cf_L_103 : KV RL 103 yX9_law (.code yX9_law cX9_law 6 (Option.some Jvm.ClassFile.FieldType.int)) 4 := ⟨k_803, k_804, k_805, k_1, k_806, by decide +kernel⟩
theorem cf_L_107 : KV RL 107 yX10_law (.code yX10_law cX10_law 5 (Option.some Jvm.ClassFile.FieldType.int)) 4 := ⟨k_1439, k_1440, k_1441, k_10, k_1442, by decide +kernel⟩
theorem cf_L_108 : KV RL 108 yX9_mend (.code yX9_mend cX9_mend 11 (Option.some Jvm.ClassFile.FieldType.int)) 2 := ⟨k_826, k_827, k_828, k_1, k_829, by decide +kernel⟩
theorem cf_L_112 : KV RL 112 yX10_mend (.code yX10_mend cX10_mend 9 (Option.some Jvm.ClassFile.FieldType.int)) 2 := ⟨k_1443, k_1444, k_1445, k_10, k_1446, by decide +kernel⟩
theorem cf_L_113 : KV RL 113 yX9_edge (.code yX9_edge cX9_edge 10 (Option.some Jvm.ClassFile.FieldType.int)) 3 := ⟨k_854, k_855, k_856, k_1, k_857, by decide +kernel⟩
theorem cf_L_116 : KV RL 116 yX10_edge (.code yX10_edge cX10_edge 8 (Option.some Jvm.ClassFile.FieldType.int)) 3 := ⟨k_1460, k_1461, k_1462, k_10, k_1463, by decide +kernel⟩
theorem cf_L_117 : KV RL 117 yX9_year (.code yX9_year cX9_year 4 (Option.some Jvm.ClassFile.FieldType.int)) 1 := ⟨k_858, k_859, k_860, k_1, k_861, by decide +kernel⟩
theorem cf_L_120 : KV RL 120 yX10_year (.code yX10_year cX10_year 5 (Option.some Jvm.ClassFile.FieldType.int)) 1 := ⟨k_1464, k_1465, k_1466, k_10, k_1467, by decide +kernel⟩
theorem cf_L_121 : KV RL 121 yX9_act (.code yX9_act cX9_act 4 (Option.some Jvm.ClassFile.FieldType.int)) 3 := ⟨k_872, k_873, k_874, k_1, k_875, by decide +kernel⟩
theorem cf_L_124 : KV RL 124 yX10_act (.code yX10_act cX10_act 4 (Option.some Jvm.ClassFile.FieldType.int)) 3 := ⟨k_1472, k_1473, k_1474, k_10, k_1475, by decide +kernel⟩
theorem cf_L_125 : KV RL 125 yX9_trace (.code yX9_trace cX9_trace 2 (Option.some Jvm.ClassFile.FieldType.int)) 1 := ⟨k_903, k_904, k_905, k_1, k_906, by decide +kernel⟩
theorem cf_L_128 : KV RL 128 yX10_trace (.code yX10_trace cX10_trace 2 (Option.some Jvm.ClassFile.FieldType.int)) 1 := ⟨k_1516, k_1517, k_1518, k_10, k_1519, by decide +kernel⟩
theorem cf_L_129 : KV RL 129 yX9_taken (.code yX9_taken cX9_taken 3 (Option.some Jvm.ClassFile.FieldType.int)) 2 := ⟨k_907, k_908, k_909, k_1, k_910, by decide +kernel⟩
theorem cf_L_132 : KV RL 132 yX10_taken (.code yX10_taken cX10_taken 3 (Option.some Jvm.ClassFile.FieldType.int)) 2 := ⟨k_1520, k_1521, k_1522, k_10, k_1523, by decide +kernel⟩
theorem cf_L_133 : KV RL 133 yX9_count (.code yX9_count cX9_count 2 (Option.some Jvm.ClassFile.FieldType.int)) 1 := ⟨k_912, k_913, k_914, k_1, k_915, by decide +kernel⟩
theorem cf_L_136 : KV RL 136 yX10_count (.code yX10_count cX10_count 2 (Option.some Jvm.ClassFile.FieldType.int)) 1 := ⟨k_1524, k_1525, k_1526, k_10, k_1527, by decide +kernel⟩
theorem cf_L_137 : KV RL 137 yX9_tape (.code yX9_tape cX9_tape 4 (Option.some Jvm.ClassFile.FieldType.int)) 3 := ⟨k_916, k_917, k_918, k_1, k_919, by decide +kernel⟩
theorem cf_L_140 : KV RL 140 yX10_tape (.code yX10_tape cX10_tape 5 (Option.some Jvm.ClassFile.FieldType.int)) 3 := ⟨k_1528, k_1529, k_1530, k_10, k_1531, by decide +kernel⟩
theorem cf_L_143 : KV RL 143 yX9_item (.code yX9_item cX9_item 6 (Option.some Jvm.ClassFile.FieldType.int)) 3 := ⟨k_927, k_928, k_929, k_1, k_930, by decide +kernel⟩
theorem cf_L_147 : KV RL 147 yX10_item (.code yX10_item cX10_item 5 (Option.some Jvm.ClassFile.FieldType.int)) 3 := ⟨k_1532, k_1533, k_1534, k_10, k_1535, by decide +kernel⟩
theorem cf_L_148 : KV RL 148 yX9_read (.code yX9_read cX9_read 3 (Option.some Jvm.ClassFile.FieldType.long)) 2 := ⟨k_935, k_936, k_937, k_1, k_938, by decide +kernel⟩
theorem cf_L_151 : KV RL 151 yX10_read (.code yX10_read cX10_read 3 (Option.some Jvm.ClassFile.FieldType.long)) 2 := ⟨k_1540, k_1541, k_1542, k_10, k_1543, by decide +kernel⟩
theorem cf_L_152 : KV RL 152 yX9_shift (.code yX9_shift cX9_shift 8 (Option.some Jvm.ClassFile.FieldType.int)) 5 := ⟨k_939, k_940, k_941, k_1, k_942, by decide +kernel⟩
theorem cf_L_156 : KV RL 156 yX10_shift (.code yX10_shift cX10_shift 7 (Option.some Jvm.ClassFile.FieldType.int)) 5 := ⟨k_1544, k_1545, k_1546, k_10, k_1547, by decide +kernel⟩
theorem cf_X10_197 : KV RX10 197 yX10_in (.code yX10_in cX10_in 4 (Option.some Jvm.ClassFile.FieldType.boolean)) 3 := ⟨k_1139, k_1141, ks_38, k_10, k_1142, by decide +kernel⟩
theorem cf_X10_201 : KV RX10 201 yX10_manyIn (.code yX10_manyIn cX10_manyIn 4 (Option.some Jvm.ClassFile.FieldType.int)) 1 := ⟨k_1155, k_1157, ks_41, k_10, k_1158, by decide +kernel⟩
theorem cf_X10_205 : KV RX10 205 yX10_isTown (.code yX10_isTown cX10_isTown 2 (Option.some Jvm.ClassFile.FieldType.boolean)) 1 := ⟨k_1147, k_1149, ks_39, k_10, k_1150, by decide +kernel⟩
theorem cf_X10_209 : KV RX10 209 yX10_isFree (.code yX10_isFree cX10_isFree 2 (Option.some Jvm.ClassFile.FieldType.boolean)) 1 := ⟨k_1151, k_1153, ks_40, k_10, k_1154, by decide +kernel⟩
theorem cf_X10_212 : KV RX10 212 yX10_add (.code yX10_add cX10_add 4 (Option.none : Option Jvm.ClassFile.FieldType)) 3 := ⟨k_1159, k_1161, ks_42, k_10, k_1162, by decide +kernel⟩
theorem cf_X10_216 : KV RX10 216 yX10_isFamily (.code yX10_isFamily cX10_isFamily 2 (Option.some Jvm.ClassFile.FieldType.boolean)) 1 := ⟨k_1171, k_1173, ks_43, k_10, k_1174, by decide +kernel⟩
theorem cf_X10_221 : KV RX10 221 yX10_dues (.code yX10_dues cX10_dues 8 (Option.some Jvm.ClassFile.FieldType.int)) 2 := ⟨k_1176, k_1178, ks_44, k_10, k_1179, by decide +kernel⟩
theorem cf_X10_225 : KV RX10 225 yX10_worthOf (.code yX10_worthOf cX10_worthOf 7 (Option.some Jvm.ClassFile.FieldType.long)) 2 := ⟨k_1184, k_1186, ks_46, k_10, k_1187, by decide +kernel⟩
theorem cf_X10_229 : KV RX10 229 yX10_costOf (.code yX10_costOf cX10_costOf 4 (Option.some Jvm.ClassFile.FieldType.int)) 1 := ⟨k_1180, k_1182, ks_45, k_10, k_1183, by decide +kernel⟩
theorem cf_X10_232 : KV RX10 232 yX10_next (.code yX10_next cX10_next 1 (Option.some Jvm.ClassFile.FieldType.int)) 0 := ⟨k_1200, k_1202, ks_50, k_10, k_1203, by decide +kernel⟩
theorem cf_X10_236 : KV RX10 236 yX10_takes (.code yX10_takes cX10_takes 2 (Option.some Jvm.ClassFile.FieldType.boolean)) 1 := ⟨k_1209, k_1211, ks_52, k_10, k_1212, by decide +kernel⟩
theorem cf_X10_239 : KV RX10 239 yX10_isDigit (.code yX10_isDigit cX10_isDigit 1 (Option.some Jvm.ClassFile.FieldType.boolean)) 0 := ⟨k_1225, k_1227, ks_56, k_10, k_1228, by decide +kernel⟩
theorem cf_X10_243 : KV RX10 243 yX10_takesNumber (.code yX10_takesNumber cX10_takesNumber 2 (Option.some Jvm.ClassFile.FieldType.boolean)) 0 := ⟨k_1221, k_1223, ks_55, k_10, k_1224, by decide +kernel⟩
theorem cf_X10_246 : KV RX10 246 yX10_push (.code yX10_push cX10_push 3 (Option.none : Option Jvm.ClassFile.FieldType)) 1 := ⟨k_1251, k_1253, ks_61, k_10, k_1254, by decide +kernel⟩
theorem cf_X10_250 : KV RX10 250 yX10_takesTest (.code yX10_takesTest cX10_takesTest 4 (Option.some Jvm.ClassFile.FieldType.boolean)) 0 := ⟨k_1247, k_1249, ks_60, k_10, k_1250, by decide +kernel⟩
theorem cf_X10_253 : KV RX10 253 yX10_settle (.code yX10_settle cX10_settle 2 (Option.none : Option Jvm.ClassFile.FieldType)) 1 := ⟨k_1255, k_1257, ks_62, k_10, k_1258, by decide +kernel⟩
theorem cf_X10_257 : KV RX10 257 yX10_takesFigure (.code yX10_takesFigure cX10_takesFigure 2 (Option.some Jvm.ClassFile.FieldType.boolean)) 1 := ⟨k_1217, k_1219, ks_54, k_10, k_1220, by decide +kernel⟩
theorem cf_X10_261 : KV RX10 261 yX10_takesWord (.code yX10_takesWord cX10_takesWord 4 (Option.some Jvm.ClassFile.FieldType.boolean)) 2 := ⟨k_1205, k_1207, ks_51, k_10, k_1208, by decide +kernel⟩
theorem cf_X10_266 : KV RX10 266 yX10_takesE (.code yX10_takesE cX10_takesE 3 (Option.some Jvm.ClassFile.FieldType.boolean)) 0 := ⟨k_1243, k_1245, ks_59, k_10, k_1246, by decide +kernel⟩
theorem cf_X10_270 : KV RX10 270 yX10_takesTwo (.code yX10_takesTwo cX10_takesTwo 4 (Option.some Jvm.ClassFile.FieldType.boolean)) 1 := ⟨k_1213, k_1215, ks_53, k_10, k_1216, by decide +kernel⟩
theorem cf_X10_274 : KV RX10 274 yX10_takesCost (.code yX10_takesCost cX10_takesCost 2 (Option.some Jvm.ClassFile.FieldType.boolean)) 0 := ⟨k_1230, k_1232, ks_57, k_10, k_1233, by decide +kernel⟩
theorem cf_X10_280 : KV RX10 280 yX10_takesShun (.code yX10_takesShun cX10_takesShun 1 (Option.some Jvm.ClassFile.FieldType.boolean)) 0 := ⟨k_1238, k_1240, ks_58, k_10, k_1241, by decide +kernel⟩
theorem cf_X10_283 : KV RX10 283 yX10_takesClause (.code yX10_takesClause cX10_takesClause 2 (Option.some Jvm.ClassFile.FieldType.boolean)) 0 := ⟨k_1196, k_1198, ks_49, k_10, k_1199, by decide +kernel⟩
theorem cf_X10_286 : KV RX10 286 yX10_goes (.code yX10_goes cX10_goes 4 (Option.some Jvm.ClassFile.FieldType.boolean)) 1 := ⟨k_1192, k_1194, ks_48, k_10, k_1195, by decide +kernel⟩
theorem cf_X10_289 : KV RX10 289 yX10_findShun (.code yX10_findShun cX10_findShun 4 (Option.none : Option Jvm.ClassFile.FieldType)) 0 := ⟨k_1188, k_1190, ks_47, k_10, k_1191, by decide +kernel⟩
theorem cf_X10_292 : KV RX10 292 yX10_abs (.code yX10_abs cX10_abs 2 (Option.some Jvm.ClassFile.FieldType.int)) 1 := ⟨k_1259, k_1261, ks_63, k_10, k_1262, by decide +kernel⟩
theorem cf_X10_295 : KV RX10 295 yX10_wants (.code yX10_wants cX10_wants 11 (Option.some Jvm.ClassFile.FieldType.int)) 3 := ⟨k_1287, k_1289, ks_65, k_10, k_1290, by decide +kernel⟩
theorem cf_X10_299 : KV RX10 299 yX10_choiceOf (.code yX10_choiceOf cX10_choiceOf 7 (Option.some Jvm.ClassFile.FieldType.int)) 2 := ⟨k_1283, k_1285, ks_64, k_10, k_1286, by decide +kernel⟩
theorem cf_X10_302 : KV RX10 302 yX10_chooses (.code yX10_chooses cX10_chooses 5 (Option.some Jvm.ClassFile.FieldType.int)) 1 := ⟨k_1295, k_1297, ks_66, k_10, k_1298, by decide +kernel⟩
theorem cf_X10_305 : KV RX10 305 yX10_isHindered (.code yX10_isHindered cX10_isHindered 3 (Option.some Jvm.ClassFile.FieldType.boolean)) 2 := ⟨k_1319, k_1321, ks_71, k_10, k_1322, by decide +kernel⟩
theorem cf_X10_308 : KV RX10 308 yX10_canGo (.code yX10_canGo cX10_canGo 3 (Option.some Jvm.ClassFile.FieldType.boolean)) 2 := ⟨k_1315, k_1317, ks_70, k_10, k_1318, by decide +kernel⟩
theorem cf_X10_311 : KV RX10 311 yX10_ones (.code yX10_ones cX10_ones 4 (Option.some Jvm.ClassFile.FieldType.int)) 1 := ⟨k_1331, k_1333, ks_74, k_10, k_1334, by decide +kernel⟩
theorem cf_X10_314 : KV RX10 314 yX10_isClub (.code yX10_isClub cX10_isClub 5 (Option.some Jvm.ClassFile.FieldType.boolean)) 2 := ⟨k_1335, k_1337, ks_75, k_10, k_1338, by decide +kernel⟩
theorem cf_X10_317 : KV RX10 317 yX10_stayBreak (.code yX10_stayBreak cX10_stayBreak 5 (Option.some Jvm.ClassFile.FieldType.int)) 0 := ⟨k_1311, k_1313, ks_69, k_10, k_1314, by decide +kernel⟩
theorem cf_X10_320 : KV RX10 320 yX10_rentBreak (.code yX10_rentBreak cX10_rentBreak 5 (Option.some Jvm.ClassFile.FieldType.int)) 0 := ⟨k_1323, k_1325, ks_72, k_10, k_1326, by decide +kernel⟩
theorem cf_X10_323 : KV RX10 323 yX10_clubBreak (.code yX10_clubBreak cX10_clubBreak 4 (Option.some Jvm.ClassFile.FieldType.int)) 0 := ⟨k_1327, k_1329, ks_73, k_10, k_1330, by decide +kernel⟩
theorem cf_X10_326 : KV RX10 326 yX10_voteBreak (.code yX10_voteBreak cX10_voteBreak 3 (Option.some Jvm.ClassFile.FieldType.int)) 0 := ⟨k_1339, k_1341, ks_76, k_10, k_1342, by decide +kernel⟩
theorem cf_X10_329 : KV RX10 329 yX10_seerBreak (.code yX10_seerBreak cX10_seerBreak 9 (Option.some Jvm.ClassFile.FieldType.int)) 0 := ⟨k_1343, k_1345, ks_77, k_10, k_1346, by decide +kernel⟩
theorem cf_X10_332 : KV RX10 332 yX10_breakOf (.code yX10_breakOf cX10_breakOf 3 (Option.some Jvm.ClassFile.FieldType.int)) 1 := ⟨k_1307, k_1309, ks_68, k_10, k_1310, by decide +kernel⟩
theorem cf_X10_335 : KV RX10 335 yX10_isRest (.code yX10_isRest cX10_isRest 2 (Option.some Jvm.ClassFile.FieldType.boolean)) 1 := ⟨k_1303, k_1305, ks_67, k_10, k_1306, by decide +kernel⟩
theorem cf_X10_338 : KV RX10 338 yX10_stepOnce (.code yX10_stepOnce cX10_stepOnce 8 (Option.some Jvm.ClassFile.FieldType.int)) 1 := ⟨k_1359, k_1361, ks_78, k_10, k_1362, by decide +kernel⟩
theorem cf_X10_342 : KV RX10 342 yX10_keepState (.code yX10_keepState cX10_keepState 3 (Option.none : Option Jvm.ClassFile.FieldType)) 1 := ⟨k_1371, k_1373, ks_80, k_10, k_1374, by decide +kernel⟩
theorem cf_X10_345 : KV RX10 345 yX10_isState (.code yX10_isState cX10_isState 3 (Option.some Jvm.ClassFile.FieldType.boolean)) 1 := ⟨k_1375, k_1377, ks_81, k_10, k_1378, by decide +kernel⟩
theorem cf_X10_348 : KV RX10 348 yX10_endAll (.code yX10_endAll cX10_endAll 4 (Option.some Jvm.ClassFile.FieldType.int)) 1 := ⟨k_1367, k_1369, ks_79, k_10, k_1370, by decide +kernel⟩
theorem cf_X10_351 : KV RX10 351 yX10_isTape (.code yX10_isTape cX10_isTape 2 (Option.some Jvm.ClassFile.FieldType.boolean)) 1 := ⟨k_1383, k_1385, ks_82, k_10, k_1386, by decide +kernel⟩
theorem cf_X10_354 : KV RX10 354 yX10_keep (.code yX10_keep cX10_keep 2 (Option.none : Option Jvm.ClassFile.FieldType)) 0 := ⟨k_1387, k_1389, ks_83, k_10, k_1390, by decide +kernel⟩
theorem cf_X10_357 : KV RX10 357 yX10_isRoom (.code yX10_isRoom cX10_isRoom 2 (Option.some Jvm.ClassFile.FieldType.boolean)) 0 := ⟨k_1391, k_1393, ks_84, k_10, k_1394, by decide +kernel⟩
theorem cf_X10_360 : KV RX10 360 yX10_putBack (.code yX10_putBack cX10_putBack 2 (Option.none : Option Jvm.ClassFile.FieldType)) 0 := ⟨k_1395, k_1397, ks_85, k_10, k_1398, by decide +kernel⟩
theorem cf_X10_363 : KV RX10 363 yX10_rowsOf (.code yX10_rowsOf cX10_rowsOf 3 (Option.some Jvm.ClassFile.FieldType.int)) 0 := ⟨k_1403, k_1405, ks_86, k_10, k_1406, by decide +kernel⟩
theorem cf_X10_366 : KV RX10 366 yX10_layOut (.code yX10_layOut cX10_layOut 4 (Option.none : Option Jvm.ClassFile.FieldType)) 1 := ⟨k_1407, k_1409, ks_87, k_10, k_1410, by decide +kernel⟩
theorem cf_X10_369 : KV RX10 369 yX10_isWanted (.code yX10_isWanted cX10_isWanted 4 (Option.some Jvm.ClassFile.FieldType.boolean)) 1 := ⟨k_1419, k_1421, ks_88, k_10, k_1422, by decide +kernel⟩
theorem cf_X10_372 : KV RX10 372 yX10_pairs (.code yX10_pairs cX10_pairs 4 (Option.some Jvm.ClassFile.FieldType.int)) 0 := ⟨k_1427, k_1429, ks_89, k_10, k_1430, by decide +kernel⟩
theorem cf_X10_375 : KV RX10 375 yX10_deal (.code yX10_deal cX10_deal 7 (Option.none : Option Jvm.ClassFile.FieldType)) 1 := ⟨k_1431, k_1433, ks_90, k_10, k_1434, by decide +kernel⟩
theorem cf_X10_380 : KV RX10 380 yX10_isSet (.code yX10_isSet cX10_isSet 4 (Option.some Jvm.ClassFile.FieldType.boolean)) 1 := ⟨k_1447, k_1449, ks_91, k_10, k_1450, by decide +kernel⟩
theorem cf_X10_383 : KV RX10 383 yX10_priceOf (.code yX10_priceOf cX10_priceOf 4 (Option.some Jvm.ClassFile.FieldType.int)) 1 := ⟨k_1451, k_1453, ks_92, k_10, k_1454, by decide +kernel⟩
theorem cf_X10_386 : KV RX10 386 yX10_leastBehind (.code yX10_leastBehind cX10_leastBehind 9 (Option.some Jvm.ClassFile.FieldType.long)) 2 := ⟨k_1455, k_1457, ks_93, k_10, k_1458, by decide +kernel⟩
theorem cf_X10_390 : KV RX10 390 yX10_twinSort (.code yX10_twinSort cX10_twinSort 5 (Option.some Jvm.ClassFile.FieldType.int)) 1 := ⟨k_1468, k_1470, ks_94, k_10, k_1471, by decide +kernel⟩
theorem cf_X10_393 : KV RX10 393 yX10_body (.code yX10_body cX10_body 2 (Option.none : Option Jvm.ClassFile.FieldType)) 1 := ⟨k_1484, k_1486, ks_97, k_10, k_1487, by decide +kernel⟩
theorem cf_X10_396 : KV RX10 396 yX10_plainHolds (.code yX10_plainHolds cX10_plainHolds 2 (Option.some Jvm.ClassFile.FieldType.int)) 1 := ⟨k_1488, k_1490, ks_98, k_10, k_1491, by decide +kernel⟩
theorem cf_X10_399 : KV RX10 399 yX10_votedHolds (.code yX10_votedHolds cX10_votedHolds 2 (Option.some Jvm.ClassFile.FieldType.int)) 1 := ⟨k_1480, k_1482, ks_96, k_10, k_1483, by decide +kernel⟩
theorem cf_X10_402 : KV RX10 402 yX10_holds (.code yX10_holds cX10_holds 3 (Option.some Jvm.ClassFile.FieldType.int)) 2 := ⟨k_1476, k_1478, ks_95, k_10, k_1479, by decide +kernel⟩
theorem cf_X10_405 : KV RX10 405 yX10_plainBreaks (.code yX10_plainBreaks cX10_plainBreaks 3 (Option.some Jvm.ClassFile.FieldType.int)) 2 := ⟨k_1496, k_1498, ks_100, k_10, k_1499, by decide +kernel⟩
theorem cf_X10_408 : KV RX10 408 yX10_stayBreaks (.code yX10_stayBreaks cX10_stayBreaks 3 (Option.some Jvm.ClassFile.FieldType.int)) 2 := ⟨k_1500, k_1502, ks_101, k_10, k_1503, by decide +kernel⟩
theorem cf_X10_411 : KV RX10 411 yX10_breaks (.code yX10_breaks cX10_breaks 4 (Option.some Jvm.ClassFile.FieldType.int)) 2 := ⟨k_1492, k_1494, ks_99, k_10, k_1495, by decide +kernel⟩
theorem cf_X10_414 : KV RX10 414 yX10_plainTells (.code yX10_plainTells cX10_plainTells 3 (Option.some Jvm.ClassFile.FieldType.int)) 2 := ⟨k_1512, k_1514, ks_104, k_10, k_1515, by decide +kernel⟩
theorem cf_X10_417 : KV RX10 417 yX10_votedTells (.code yX10_votedTells cX10_votedTells 4 (Option.some Jvm.ClassFile.FieldType.int)) 2 := ⟨k_1508, k_1510, ks_103, k_10, k_1511, by decide +kernel⟩
theorem cf_X10_420 : KV RX10 420 yX10_tells (.code yX10_tells cX10_tells 4 (Option.some Jvm.ClassFile.FieldType.int)) 2 := ⟨k_1504, k_1506, ks_102, k_10, k_1507, by decide +kernel⟩
theorem cf_X10_423 : KV RX10 423 yX10_narrow (.code yX10_narrow cX10_narrow 4 (Option.some Jvm.ClassFile.FieldType.long)) 2 := ⟨k_1536, k_1538, ks_105, k_10, k_1539, by decide +kernel⟩
theorem cf_J0_335 : KV RJ0 335 yJ0_coder_7d493 (.code yJ0_coder_7d493 cJ0_coder_7d493 1 (Option.some Jvm.ClassFile.FieldType.byte)) 0 := ⟨k_422, k_423, k_424, k_13, k_425, by decide +kernel⟩
theorem cf_J0_492 : KV RJ0 492 yJ0_isLatin1_aae02 (.code yJ0_isLatin1_aae02 cJ0_isLatin1_aae02 1 (Option.some Jvm.ClassFile.FieldType.boolean)) 0 := ⟨k_432, k_433, k_434, k_13, k_435, by decide +kernel⟩
theorem cf_J0_495 : KS RJ0 495 yJ1_charAt_3b067 (.code yJ1_charAt_3b067 cJ1_charAt_3b067 2 (Option.some Jvm.ClassFile.FieldType.char)) 2 := ⟨k_436, k_437, k_14, k_438, by decide +kernel⟩
theorem cf_J0_505 : KV RJ0 505 yJ0_length_8abf5 (.code yJ0_length_8abf5 cJ0_length_8abf5 1 (Option.some Jvm.ClassFile.FieldType.int)) 0 := ⟨k_499, k_419, k_420, k_13, k_421, by decide +kernel⟩
theorem cf_J0_633 : KV RJ0 633 yJ0_indexOf_7cf53 (.code yJ0_indexOf_7cf53 cJ0_indexOf_7cf53 3 (Option.some Jvm.ClassFile.FieldType.int)) 2 := ⟨k_495, k_496, k_497, k_13, k_498, by decide +kernel⟩
theorem cf_J0_637 : KS RJ0 637 yJ1_indexOf_4cfef (.code yJ1_indexOf_4cfef cJ1_indexOf_4cfef 4 (Option.some Jvm.ClassFile.FieldType.int)) 4 := ⟨k_500, k_501, k_14, k_502, by decide +kernel⟩
theorem cf_J0_1059 : KS RJ0 1059 yJ3_checkIndex_8e157 (.code yJ3_checkIndex_8e157 cJ3_checkIndex_8e157 3 (Option.some Jvm.ClassFile.FieldType.int)) 3 := ⟨k_444, k_445, k_15, k_446, by decide +kernel⟩
theorem cf_J1_9 : KS RJ1 9 yJ0_checkIndex_df160 (.code yJ0_checkIndex_df160 cJ0_checkIndex_df160 2 (Option.none : Option Jvm.ClassFile.FieldType)) 2 := ⟨k_439, k_440, k_13, k_441, by decide +kernel⟩
theorem cf_J1_88 : KS RJ1 88 yJ1_canEncode_9a6ad (.code yJ1_canEncode_9a6ad cJ1_canEncode_9a6ad 1 (Option.some Jvm.ClassFile.FieldType.boolean)) 1 := ⟨k_503, k_504, k_14, k_505, by decide +kernel⟩
theorem cf_J1_95 : KS RJ1 95 yJ1_indexOfChar_4cfef (.code yJ1_indexOfChar_4cfef cJ1_indexOfChar_4cfef 6 (Option.some Jvm.ClassFile.FieldType.int)) 4 := ⟨k_512, k_513, k_14, k_514, by decide +kernel⟩
