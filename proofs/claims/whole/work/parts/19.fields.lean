theorem ing_X0 : ∀ w ∈ u_ws RX0 TX0 6, w ∈ lw_g := by
  intro w hw
  obtain ⟨k, hk, rfl⟩ := List.mem_map.mp hw
  have hk := List.mem_range.mp hk
  match k, hk with
  | 0, _ => exact w_103
  | 1, _ => exact w_105
  | 2, _ => exact w_107
  | 3, _ => exact w_109
  | 4, _ => exact w_111
  | 5, _ => exact w_113
  | k + 6, hk => exact absurd hk (by omega)
theorem ing_X1 : ∀ w ∈ u_ws RX1 TX1 3, w ∈ lw_g := by
  intro w hw
  obtain ⟨k, hk, rfl⟩ := List.mem_map.mp hw
  have hk := List.mem_range.mp hk
  match k, hk with
  | 0, _ => exact w_193
  | 1, _ => exact w_195
  | 2, _ => exact w_197
  | k + 3, hk => exact absurd hk (by omega)
theorem ing_X2 : ∀ w ∈ u_ws RX2 TX2 3, w ∈ lw_g := by
  intro w hw
  obtain ⟨k, hk, rfl⟩ := List.mem_map.mp hw
  have hk := List.mem_range.mp hk
  match k, hk with
  | 0, _ => exact w_238
  | 1, _ => exact w_240
  | 2, _ => exact w_242
  | k + 3, hk => exact absurd hk (by omega)
theorem ing_X3 : ∀ w ∈ u_ws RX3 TX3 4, w ∈ lw_g := by
  intro w hw
  obtain ⟨k, hk, rfl⟩ := List.mem_map.mp hw
  have hk := List.mem_range.mp hk
  match k, hk with
  | 0, _ => exact w_218
  | 1, _ => exact w_220
  | 2, _ => exact w_222
  | 3, _ => exact w_224
  | k + 4, hk => exact absurd hk (by omega)
theorem ing_X4 : ∀ w ∈ u_ws RX4 TX4 6, w ∈ lw_g := by
  intro w hw
  obtain ⟨k, hk, rfl⟩ := List.mem_map.mp hw
  have hk := List.mem_range.mp hk
  match k, hk with
  | 0, _ => exact w_176
  | 1, _ => exact w_178
  | 2, _ => exact w_180
  | 3, _ => exact w_182
  | 4, _ => exact w_184
  | 5, _ => exact w_186
  | k + 6, hk => exact absurd hk (by omega)
theorem ing_X5 : ∀ w ∈ u_ws RX5 TX5 8, w ∈ lw_g := by
  intro w hw
  obtain ⟨k, hk, rfl⟩ := List.mem_map.mp hw
  have hk := List.mem_range.mp hk
  match k, hk with
  | 0, _ => exact w_137
  | 1, _ => exact w_139
  | 2, _ => exact w_141
  | 3, _ => exact w_143
  | 4, _ => exact w_145
  | 5, _ => exact w_147
  | 6, _ => exact w_149
  | 7, _ => exact w_151
  | k + 8, hk => exact absurd hk (by omega)
theorem ing_X6 : ∀ w ∈ u_ws RX6 TX6 13, w ∈ lw_g := by
  intro w hw
  obtain ⟨k, hk, rfl⟩ := List.mem_map.mp hw
  have hk := List.mem_range.mp hk
  match k, hk with
  | 0, _ => exact w_258
  | 1, _ => exact w_260
  | 2, _ => exact w_262
  | 3, _ => exact w_264
  | 4, _ => exact w_266
  | 5, _ => exact w_268
  | 6, _ => exact w_270
  | 7, _ => exact w_272
  | 8, _ => exact w_274
  | 9, _ => exact w_276
  | 10, _ => exact w_278
  | 11, _ => exact w_280
  | 12, _ => exact w_282
  | k + 13, hk => exact absurd hk (by omega)
theorem ing_X7 : ∀ w ∈ u_ws RX7 TX7 21, w ∈ lw_g := by
  intro w hw
  obtain ⟨k, hk, rfl⟩ := List.mem_map.mp hw
  have hk := List.mem_range.mp hk
  match k, hk with
  | 0, _ => exact w_857
  | 1, _ => exact w_859
  | 2, _ => exact w_861
  | 3, _ => exact w_863
  | 4, _ => exact w_865
  | 5, _ => exact w_867
  | 6, _ => exact w_869
  | 7, _ => exact w_871
  | 8, _ => exact w_873
  | 9, _ => exact w_875
  | 10, _ => exact w_877
  | 11, _ => exact w_879
  | 12, _ => exact w_881
  | 13, _ => exact w_883
  | 14, _ => exact w_885
  | 15, _ => exact w_887
  | 16, _ => exact w_889
  | 17, _ => exact w_891
  | 18, _ => exact w_893
  | 19, _ => exact w_895
  | 20, _ => exact w_897
  | k + 21, hk => exact absurd hk (by omega)
theorem nf_X0 : ∀ (ad : Nat → Nat) j, j < 6 → defaultValue (tyX0 j) = vp_V (([.null, .null, .null, .int 0, .int 0, .int 0] : List Value).map (tv ad)) j := by
  intro ad j hj
  match j, hj with
  | 0, _ => rfl
  | 1, _ => rfl
  | 2, _ => rfl
  | 3, _ => rfl
  | 4, _ => rfl
  | 5, _ => rfl
  | k + 6, hk => exact absurd hk (by omega)
theorem nf_X1 : ∀ (ad : Nat → Nat) j, j < 3 → defaultValue (tyX1 j) = vp_V (([.null, .int 0, .int 0] : List Value).map (tv ad)) j := by
  intro ad j hj
  match j, hj with
  | 0, _ => rfl
  | 1, _ => rfl
  | 2, _ => rfl
  | k + 3, hk => exact absurd hk (by omega)
theorem nf_X2 : ∀ (ad : Nat → Nat) j, j < 3 → defaultValue (tyX2 j) = vp_V (([.int 0, .int 0, .null] : List Value).map (tv ad)) j := by
  intro ad j hj
  match j, hj with
  | 0, _ => rfl
  | 1, _ => rfl
  | 2, _ => rfl
  | k + 3, hk => exact absurd hk (by omega)
theorem nf_X3 : ∀ (ad : Nat → Nat) j, j < 4 → defaultValue (tyX3 j) = vp_V (([.int 0, .null, .null, .null] : List Value).map (tv ad)) j := by
  intro ad j hj
  match j, hj with
  | 0, _ => rfl
  | 1, _ => rfl
  | 2, _ => rfl
  | 3, _ => rfl
  | k + 4, hk => exact absurd hk (by omega)
theorem nf_X4 : ∀ (ad : Nat → Nat) j, j < 6 → defaultValue (tyX4 j) = vp_V (([.null, .int 0, .int 0, .int 0, .int 0, .int 0] : List Value).map (tv ad)) j := by
  intro ad j hj
  match j, hj with
  | 0, _ => rfl
  | 1, _ => rfl
  | 2, _ => rfl
  | 3, _ => rfl
  | 4, _ => rfl
  | 5, _ => rfl
  | k + 6, hk => exact absurd hk (by omega)
theorem nf_X5 : ∀ (ad : Nat → Nat) j, j < 8 → defaultValue (tyX5 j) = vp_V (([.int 0, .int 0, .int 0, .null, .null, .null, .null, .null] : List Value).map (tv ad)) j := by
  intro ad j hj
  match j, hj with
  | 0, _ => rfl
  | 1, _ => rfl
  | 2, _ => rfl
  | 3, _ => rfl
  | 4, _ => rfl
  | 5, _ => rfl
  | 6, _ => rfl
  | 7, _ => rfl
  | k + 8, hk => exact absurd hk (by omega)
theorem nf_X6 : ∀ (ad : Nat → Nat) j, j < 13 → defaultValue (tyX6 j) = vp_V (([.null, .null, .int 0, .null, .null, .null, .null, .null, .null, .null, .null, .null, .null] : List Value).map (tv ad)) j := by
  intro ad j hj
  match j, hj with
  | 0, _ => rfl
  | 1, _ => rfl
  | 2, _ => rfl
  | 3, _ => rfl
  | 4, _ => rfl
  | 5, _ => rfl
  | 6, _ => rfl
  | 7, _ => rfl
  | 8, _ => rfl
  | 9, _ => rfl
  | 10, _ => rfl
  | 11, _ => rfl
  | 12, _ => rfl
  | k + 13, hk => exact absurd hk (by omega)
theorem nf_X7 : ∀ (ad : Nat → Nat) j, j < 21 → defaultValue (tyX7 j) = vp_V (([.null, .null, .null, .null, .int 0, .null, .null, .int 0, .int 0, .int 0, .null, .null, .int 0, .int 0, .int 0, .int 0, .int 0, .null, .null, .null, .null] : List Value).map (tv ad)) j := by
  intro ad j hj
  match j, hj with
  | 0, _ => rfl
  | 1, _ => rfl
  | 2, _ => rfl
  | 3, _ => rfl
  | 4, _ => rfl
  | 5, _ => rfl
  | 6, _ => rfl
  | 7, _ => rfl
  | 8, _ => rfl
  | 9, _ => rfl
  | 10, _ => rfl
  | 11, _ => rfl
  | 12, _ => rfl
  | 13, _ => rfl
  | 14, _ => rfl
  | 15, _ => rfl
  | 16, _ => rfl
  | 17, _ => rfl
  | 18, _ => rfl
  | 19, _ => rfl
  | 20, _ => rfl
  | k + 21, hk => exact absurd hk (by omega)
theorem f_X6_10 : FL RX6 10 6 0 (.object "SmokeRoofs$Town") true := ⟨RX6, TX6, 13, tyX6, rfl, by decide, ing_X6, by decide, w_245, tyX6_ok, nmX6, rfl, rfl, rfl⟩
theorem f_X6_16 : FL RX6 16 6 1 (.object "SmokeRoofs$Town") true := ⟨RX6, TX6, 13, tyX6, rfl, by decide, ing_X6, by decide, w_246, tyX6_ok, nmX6, rfl, rfl, rfl⟩
theorem f_X6_19 : FL RX6 19 6 2 .boolean false := ⟨RX6, TX6, 13, tyX6, rfl, by decide, ing_X6, by decide, w_247, tyX6_ok, nmX6, rfl, rfl, rfl⟩
theorem f_X6_26 : FL RX6 26 6 3 (.object "SmokeRoofs$Reader") true := ⟨RX6, TX6, 13, tyX6, rfl, by decide, ing_X6, by decide, w_248, tyX6_ok, nmX6, rfl, rfl, rfl⟩
theorem f_X6_32 : FL RX6 32 6 4 (.array (.object "SmokeRoofs$Sheet")) true := ⟨RX6, TX6, 13, tyX6, rfl, by decide, ing_X6, by decide, w_249, tyX6_ok, nmX6, rfl, rfl, rfl⟩
theorem f_X6_36 : FL RX6 36 6 5 (.array .int) true := ⟨RX6, TX6, 13, tyX6, rfl, by decide, ing_X6, by decide, w_250, tyX6_ok, nmX6, rfl, rfl, rfl⟩
theorem f_X6_43 : FL RX6 43 6 6 (.object "SmokeRoofs$Chimney") true := ⟨RX6, TX6, 13, tyX6, rfl, by decide, ing_X6, by decide, w_251, tyX6_ok, nmX6, rfl, rfl, rfl⟩
theorem f_X6_50 : FL RX6 50 6 7 (.object "SmokeRoofs$Tally") true := ⟨RX6, TX6, 13, tyX6, rfl, by decide, ing_X6, by decide, w_252, tyX6_ok, nmX6, rfl, rfl, rfl⟩
theorem f_X6_54 : FL RX6 54 6 8 (.array .int) true := ⟨RX6, TX6, 13, tyX6, rfl, by decide, ing_X6, by decide, w_253, tyX6_ok, nmX6, rfl, rfl, rfl⟩
theorem f_X6_57 : FL RX6 57 6 9 (.array .int) true := ⟨RX6, TX6, 13, tyX6, rfl, by decide, ing_X6, by decide, w_254, tyX6_ok, nmX6, rfl, rfl, rfl⟩
theorem f_X6_60 : FL RX6 60 6 10 (.array .int) true := ⟨RX6, TX6, 13, tyX6, rfl, by decide, ing_X6, by decide, w_255, tyX6_ok, nmX6, rfl, rfl, rfl⟩
theorem f_X6_63 : FL RX6 63 6 11 (.array .int) true := ⟨RX6, TX6, 13, tyX6, rfl, by decide, ing_X6, by decide, w_256, tyX6_ok, nmX6, rfl, rfl, rfl⟩
theorem f_X6_66 : FL RX6 66 6 12 (.array .int) true := ⟨RX6, TX6, 13, tyX6, rfl, by decide, ing_X6, by decide, w_257, tyX6_ok, nmX6, rfl, rfl, rfl⟩
theorem f_X6_82 : FL RX6 82 5 3 (.array .int) true := ⟨RX5, TX5, 8, tyX5, rfl, by decide, ing_X5, by decide, w_125, tyX5_ok, nmX5, rfl, rfl, rfl⟩
theorem f_X6_85 : FL RX6 85 5 4 (.array .int) true := ⟨RX5, TX5, 8, tyX5, rfl, by decide, ing_X5, by decide, w_128, tyX5_ok, nmX5, rfl, rfl, rfl⟩
theorem f_X6_105 : FL RX6 105 5 7 (.array (.object "SmokeRoofs$Chimney")) true := ⟨RX5, TX5, 8, tyX5, rfl, by decide, ing_X5, by decide, w_135, tyX5_ok, nmX5, rfl, rfl, rfl⟩
theorem f_X6_109 : FL RX6 109 0 0 (.array .int) true := ⟨RX0, TX0, 6, tyX0, rfl, by decide, ing_X0, by decide, w_90, tyX0_ok, nmX0, rfl, rfl, rfl⟩
theorem f_X6_119 : FL RX6 119 5 0 .int false := ⟨RX5, TX5, 8, tyX5, rfl, by decide, ing_X5, by decide, w_118, tyX5_ok, nmX5, rfl, rfl, rfl⟩
theorem f_X6_132 : FL RX6 132 5 5 (.array .int) true := ⟨RX5, TX5, 8, tyX5, rfl, by decide, ing_X5, by decide, w_131, tyX5_ok, nmX5, rfl, rfl, rfl⟩
theorem f_X6_150 : FL RX6 150 0 1 (.array .int) true := ⟨RX0, TX0, 6, tyX0, rfl, by decide, ing_X0, by decide, w_94, tyX0_ok, nmX0, rfl, rfl, rfl⟩
theorem f_X6_157 : FL RX6 157 0 2 (.array .int) true := ⟨RX0, TX0, 6, tyX0, rfl, by decide, ing_X0, by decide, w_96, tyX0_ok, nmX0, rfl, rfl, rfl⟩
theorem f_X6_160 : FL RX6 160 0 3 .int false := ⟨RX0, TX0, 6, tyX0, rfl, by decide, ing_X0, by decide, w_98, tyX0_ok, nmX0, rfl, rfl, rfl⟩
theorem f_X6_163 : FL RX6 163 0 4 .int false := ⟨RX0, TX0, 6, tyX0, rfl, by decide, ing_X0, by decide, w_100, tyX0_ok, nmX0, rfl, rfl, rfl⟩
theorem f_X6_166 : FL RX6 166 0 5 .int false := ⟨RX0, TX0, 6, tyX0, rfl, by decide, ing_X0, by decide, w_102, tyX0_ok, nmX0, rfl, rfl, rfl⟩
theorem f_X6_178 : FL RX6 178 5 2 .int false := ⟨RX5, TX5, 8, tyX5, rfl, by decide, ing_X5, by decide, w_123, tyX5_ok, nmX5, rfl, rfl, rfl⟩
theorem f_X6_185 : FL RX6 185 3 1 (.array .int) true := ⟨RX3, TX3, 4, tyX3, rfl, by decide, ing_X3, by decide, w_213, tyX3_ok, nmX3, rfl, rfl, rfl⟩
theorem f_X6_188 : FL RX6 188 3 0 .int false := ⟨RX3, TX3, 4, tyX3, rfl, by decide, ing_X3, by decide, w_211, tyX3_ok, nmX3, rfl, rfl, rfl⟩
theorem f_X6_195 : FL RX6 195 3 3 (.array .int) true := ⟨RX3, TX3, 4, tyX3, rfl, by decide, ing_X3, by decide, w_217, tyX3_ok, nmX3, rfl, rfl, rfl⟩
theorem f_X6_198 : FL RX6 198 3 2 (.array .int) true := ⟨RX3, TX3, 4, tyX3, rfl, by decide, ing_X3, by decide, w_215, tyX3_ok, nmX3, rfl, rfl, rfl⟩
theorem f_X6_241 : FL RX6 241 5 1 .int false := ⟨RX5, TX5, 8, tyX5, rfl, by decide, ing_X5, by decide, w_120, tyX5_ok, nmX5, rfl, rfl, rfl⟩
theorem f_X6_244 : FL RX6 244 1 0 (.object "SmokeRoofs$Tape") true := ⟨RX1, TX1, 3, tyX1, rfl, by decide, ing_X1, by decide, w_190, tyX1_ok, nmX1, rfl, rfl, rfl⟩
theorem f_X6_248 : FL RX6 248 4 1 .int false := ⟨RX4, TX4, 6, tyX4, rfl, by decide, ing_X4, by decide, w_169, tyX4_ok, nmX4, rfl, rfl, rfl⟩
theorem f_X6_253 : FL RX6 253 4 0 (.array .int) true := ⟨RX4, TX4, 6, tyX4, rfl, by decide, ing_X4, by decide, w_167, tyX4_ok, nmX4, rfl, rfl, rfl⟩
theorem f_X6_263 : FL RX6 263 4 2 .int false := ⟨RX4, TX4, 6, tyX4, rfl, by decide, ing_X4, by decide, w_171, tyX4_ok, nmX4, rfl, rfl, rfl⟩
theorem f_X6_269 : FL RX6 269 5 6 (.array .int) true := ⟨RX5, TX5, 8, tyX5, rfl, by decide, ing_X5, by decide, w_133, tyX5_ok, nmX5, rfl, rfl, rfl⟩
theorem f_X6_277 : FL RX6 277 2 1 .int false := ⟨RX2, TX2, 3, tyX2, rfl, by decide, ing_X2, by decide, w_235, tyX2_ok, nmX2, rfl, rfl, rfl⟩
theorem f_X6_284 : FL RX6 284 2 0 .int false := ⟨RX2, TX2, 3, tyX2, rfl, by decide, ing_X2, by decide, w_233, tyX2_ok, nmX2, rfl, rfl, rfl⟩
theorem f_X6_290 : FL RX6 290 2 2 (.array .int) true := ⟨RX2, TX2, 3, tyX2, rfl, by decide, ing_X2, by decide, w_237, tyX2_ok, nmX2, rfl, rfl, rfl⟩
theorem f_X0_9 : FL RX0 9 0 0 (.array .int) true := ⟨RX0, TX0, 6, tyX0, rfl, by decide, ing_X0, by decide, w_89, tyX0_ok, nmX0, rfl, rfl, rfl⟩
theorem f_X0_15 : FL RX0 15 0 1 (.array .int) true := ⟨RX0, TX0, 6, tyX0, rfl, by decide, ing_X0, by decide, w_92, tyX0_ok, nmX0, rfl, rfl, rfl⟩
theorem f_X0_18 : FL RX0 18 0 2 (.array .int) true := ⟨RX0, TX0, 6, tyX0, rfl, by decide, ing_X0, by decide, w_95, tyX0_ok, nmX0, rfl, rfl, rfl⟩
theorem f_X0_21 : FL RX0 21 0 3 .int false := ⟨RX0, TX0, 6, tyX0, rfl, by decide, ing_X0, by decide, w_97, tyX0_ok, nmX0, rfl, rfl, rfl⟩
theorem f_X0_25 : FL RX0 25 0 4 .int false := ⟨RX0, TX0, 6, tyX0, rfl, by decide, ing_X0, by decide, w_99, tyX0_ok, nmX0, rfl, rfl, rfl⟩
theorem f_X0_28 : FL RX0 28 0 5 .int false := ⟨RX0, TX0, 6, tyX0, rfl, by decide, ing_X0, by decide, w_101, tyX0_ok, nmX0, rfl, rfl, rfl⟩
theorem f_X1_12 : FL RX1 12 1 0 (.object "SmokeRoofs$Tape") true := ⟨RX1, TX1, 3, tyX1, rfl, by decide, ing_X1, by decide, w_189, tyX1_ok, nmX1, rfl, rfl, rfl⟩
theorem f_X1_18 : FL RX1 18 1 1 .boolean false := ⟨RX1, TX1, 3, tyX1, rfl, by decide, ing_X1, by decide, w_191, tyX1_ok, nmX1, rfl, rfl, rfl⟩
theorem f_X1_22 : FL RX1 22 1 2 .int false := ⟨RX1, TX1, 3, tyX1, rfl, by decide, ing_X1, by decide, w_192, tyX1_ok, nmX1, rfl, rfl, rfl⟩
theorem f_X1_26 : FL RX1 26 5 2 .int false := ⟨RX5, TX5, 8, tyX5, rfl, by decide, ing_X5, by decide, w_122, tyX5_ok, nmX5, rfl, rfl, rfl⟩
theorem f_X1_42 : FL RX1 42 4 3 .int false := ⟨RX4, TX4, 6, tyX4, rfl, by decide, ing_X4, by decide, w_173, tyX4_ok, nmX4, rfl, rfl, rfl⟩
theorem f_X1_83 : FL RX1 83 5 3 (.array .int) true := ⟨RX5, TX5, 8, tyX5, rfl, by decide, ing_X5, by decide, w_126, tyX5_ok, nmX5, rfl, rfl, rfl⟩
theorem f_X1_87 : FL RX1 87 5 4 (.array .int) true := ⟨RX5, TX5, 8, tyX5, rfl, by decide, ing_X5, by decide, w_129, tyX5_ok, nmX5, rfl, rfl, rfl⟩
theorem f_X1_109 : FL RX1 109 5 7 (.array (.object "SmokeRoofs$Chimney")) true := ⟨RX5, TX5, 8, tyX5, rfl, by decide, ing_X5, by decide, w_136, tyX5_ok, nmX5, rfl, rfl, rfl⟩
theorem f_X1_117 : FL RX1 117 0 0 (.array .int) true := ⟨RX0, TX0, 6, tyX0, rfl, by decide, ing_X0, by decide, w_91, tyX0_ok, nmX0, rfl, rfl, rfl⟩
theorem f_X2_9 : FL RX2 9 2 0 .int false := ⟨RX2, TX2, 3, tyX2, rfl, by decide, ing_X2, by decide, w_232, tyX2_ok, nmX2, rfl, rfl, rfl⟩
theorem f_X2_15 : FL RX2 15 2 1 .int false := ⟨RX2, TX2, 3, tyX2, rfl, by decide, ing_X2, by decide, w_234, tyX2_ok, nmX2, rfl, rfl, rfl⟩
theorem f_X2_18 : FL RX2 18 2 2 (.array .int) true := ⟨RX2, TX2, 3, tyX2, rfl, by decide, ing_X2, by decide, w_236, tyX2_ok, nmX2, rfl, rfl, rfl⟩
theorem f_X3_9 : FL RX3 9 3 0 .int false := ⟨RX3, TX3, 4, tyX3, rfl, by decide, ing_X3, by decide, w_210, tyX3_ok, nmX3, rfl, rfl, rfl⟩
theorem f_X3_15 : FL RX3 15 3 1 (.array .int) true := ⟨RX3, TX3, 4, tyX3, rfl, by decide, ing_X3, by decide, w_212, tyX3_ok, nmX3, rfl, rfl, rfl⟩
theorem f_X3_19 : FL RX3 19 3 2 (.array .int) true := ⟨RX3, TX3, 4, tyX3, rfl, by decide, ing_X3, by decide, w_214, tyX3_ok, nmX3, rfl, rfl, rfl⟩
theorem f_X3_22 : FL RX3 22 3 3 (.array .int) true := ⟨RX3, TX3, 4, tyX3, rfl, by decide, ing_X3, by decide, w_216, tyX3_ok, nmX3, rfl, rfl, rfl⟩
theorem f_X4_9 : FL RX4 9 4 0 (.array .int) true := ⟨RX4, TX4, 6, tyX4, rfl, by decide, ing_X4, by decide, w_166, tyX4_ok, nmX4, rfl, rfl, rfl⟩
theorem f_X4_15 : FL RX4 15 4 1 .int false := ⟨RX4, TX4, 6, tyX4, rfl, by decide, ing_X4, by decide, w_168, tyX4_ok, nmX4, rfl, rfl, rfl⟩
theorem f_X4_19 : FL RX4 19 4 2 .int false := ⟨RX4, TX4, 6, tyX4, rfl, by decide, ing_X4, by decide, w_170, tyX4_ok, nmX4, rfl, rfl, rfl⟩
theorem f_X4_22 : FL RX4 22 4 3 .int false := ⟨RX4, TX4, 6, tyX4, rfl, by decide, ing_X4, by decide, w_172, tyX4_ok, nmX4, rfl, rfl, rfl⟩
theorem f_X4_25 : FL RX4 25 4 4 .int false := ⟨RX4, TX4, 6, tyX4, rfl, by decide, ing_X4, by decide, w_174, tyX4_ok, nmX4, rfl, rfl, rfl⟩
theorem f_X4_28 : FL RX4 28 4 5 .int false := ⟨RX4, TX4, 6, tyX4, rfl, by decide, ing_X4, by decide, w_175, tyX4_ok, nmX4, rfl, rfl, rfl⟩
theorem f_X5_9 : FL RX5 9 5 0 .int false := ⟨RX5, TX5, 8, tyX5, rfl, by decide, ing_X5, by decide, w_117, tyX5_ok, nmX5, rfl, rfl, rfl⟩
theorem f_X5_15 : FL RX5 15 5 1 .int false := ⟨RX5, TX5, 8, tyX5, rfl, by decide, ing_X5, by decide, w_119, tyX5_ok, nmX5, rfl, rfl, rfl⟩
theorem f_X5_18 : FL RX5 18 5 2 .int false := ⟨RX5, TX5, 8, tyX5, rfl, by decide, ing_X5, by decide, w_121, tyX5_ok, nmX5, rfl, rfl, rfl⟩
theorem f_X5_21 : FL RX5 21 5 3 (.array .int) true := ⟨RX5, TX5, 8, tyX5, rfl, by decide, ing_X5, by decide, w_124, tyX5_ok, nmX5, rfl, rfl, rfl⟩
theorem f_X5_25 : FL RX5 25 5 4 (.array .int) true := ⟨RX5, TX5, 8, tyX5, rfl, by decide, ing_X5, by decide, w_127, tyX5_ok, nmX5, rfl, rfl, rfl⟩
theorem f_X5_28 : FL RX5 28 5 5 (.array .int) true := ⟨RX5, TX5, 8, tyX5, rfl, by decide, ing_X5, by decide, w_130, tyX5_ok, nmX5, rfl, rfl, rfl⟩
theorem f_X5_31 : FL RX5 31 5 6 (.array .int) true := ⟨RX5, TX5, 8, tyX5, rfl, by decide, ing_X5, by decide, w_132, tyX5_ok, nmX5, rfl, rfl, rfl⟩
theorem f_X5_36 : FL RX5 36 5 7 (.array (.object "SmokeRoofs$Chimney")) true := ⟨RX5, TX5, 8, tyX5, rfl, by decide, ing_X5, by decide, w_134, tyX5_ok, nmX5, rfl, rfl, rfl⟩
theorem f_X5_61 : FL RX5 61 0 1 (.array .int) true := ⟨RX0, TX0, 6, tyX0, rfl, by decide, ing_X0, by decide, w_93, tyX0_ok, nmX0, rfl, rfl, rfl⟩
theorem f_X7_7 : FL RX7 7 7 0 (.array .int) true := ⟨RX7, TX7, 21, tyX7, rfl, by decide, ing_X7, by decide, w_836, tyX7_ok, nmX7, rfl, rfl, rfl⟩
theorem f_X7_13 : FL RX7 13 7 1 (.array .int) true := ⟨RX7, TX7, 21, tyX7, rfl, by decide, ing_X7, by decide, w_837, tyX7_ok, nmX7, rfl, rfl, rfl⟩
theorem f_X7_16 : FL RX7 16 7 2 (.array .int) true := ⟨RX7, TX7, 21, tyX7, rfl, by decide, ing_X7, by decide, w_838, tyX7_ok, nmX7, rfl, rfl, rfl⟩
theorem f_X7_19 : FL RX7 19 7 3 (.array .int) true := ⟨RX7, TX7, 21, tyX7, rfl, by decide, ing_X7, by decide, w_839, tyX7_ok, nmX7, rfl, rfl, rfl⟩
theorem f_X7_22 : FL RX7 22 7 5 (.array .int) true := ⟨RX7, TX7, 21, tyX7, rfl, by decide, ing_X7, by decide, w_841, tyX7_ok, nmX7, rfl, rfl, rfl⟩
theorem f_X7_25 : FL RX7 25 7 6 (.array .int) true := ⟨RX7, TX7, 21, tyX7, rfl, by decide, ing_X7, by decide, w_842, tyX7_ok, nmX7, rfl, rfl, rfl⟩
theorem f_X7_28 : FL RX7 28 7 10 (.array .int) true := ⟨RX7, TX7, 21, tyX7, rfl, by decide, ing_X7, by decide, w_846, tyX7_ok, nmX7, rfl, rfl, rfl⟩
theorem f_X7_31 : FL RX7 31 7 11 (.array .int) true := ⟨RX7, TX7, 21, tyX7, rfl, by decide, ing_X7, by decide, w_847, tyX7_ok, nmX7, rfl, rfl, rfl⟩
theorem f_X7_34 : FL RX7 34 7 17 (.array .int) true := ⟨RX7, TX7, 21, tyX7, rfl, by decide, ing_X7, by decide, w_853, tyX7_ok, nmX7, rfl, rfl, rfl⟩
theorem f_X7_37 : FL RX7 37 7 18 (.array .int) true := ⟨RX7, TX7, 21, tyX7, rfl, by decide, ing_X7, by decide, w_854, tyX7_ok, nmX7, rfl, rfl, rfl⟩
theorem f_X7_40 : FL RX7 40 7 19 (.array .int) true := ⟨RX7, TX7, 21, tyX7, rfl, by decide, ing_X7, by decide, w_855, tyX7_ok, nmX7, rfl, rfl, rfl⟩
theorem f_X7_43 : FL RX7 43 7 20 (.array .int) true := ⟨RX7, TX7, 21, tyX7, rfl, by decide, ing_X7, by decide, w_856, tyX7_ok, nmX7, rfl, rfl, rfl⟩
theorem f_X7_122 : FL RX7 122 7 9 .boolean false := ⟨RX7, TX7, 21, tyX7, rfl, by decide, ing_X7, by decide, w_845, tyX7_ok, nmX7, rfl, rfl, rfl⟩
theorem f_X7_126 : FL RX7 126 7 7 .int false := ⟨RX7, TX7, 21, tyX7, rfl, by decide, ing_X7, by decide, w_843, tyX7_ok, nmX7, rfl, rfl, rfl⟩
theorem f_X7_130 : FL RX7 130 7 8 .int false := ⟨RX7, TX7, 21, tyX7, rfl, by decide, ing_X7, by decide, w_844, tyX7_ok, nmX7, rfl, rfl, rfl⟩
theorem f_X7_192 : FL RX7 192 7 12 .int false := ⟨RX7, TX7, 21, tyX7, rfl, by decide, ing_X7, by decide, w_848, tyX7_ok, nmX7, rfl, rfl, rfl⟩
theorem f_X7_201 : FL RX7 201 7 14 .int false := ⟨RX7, TX7, 21, tyX7, rfl, by decide, ing_X7, by decide, w_850, tyX7_ok, nmX7, rfl, rfl, rfl⟩
theorem f_X7_204 : FL RX7 204 7 13 .int false := ⟨RX7, TX7, 21, tyX7, rfl, by decide, ing_X7, by decide, w_849, tyX7_ok, nmX7, rfl, rfl, rfl⟩
theorem f_X7_216 : FL RX7 216 7 16 .boolean false := ⟨RX7, TX7, 21, tyX7, rfl, by decide, ing_X7, by decide, w_852, tyX7_ok, nmX7, rfl, rfl, rfl⟩
theorem f_X7_226 : FL RX7 226 7 15 .int false := ⟨RX7, TX7, 21, tyX7, rfl, by decide, ing_X7, by decide, w_851, tyX7_ok, nmX7, rfl, rfl, rfl⟩
theorem f_X7_303 : FL RX7 303 7 4 .boolean false := ⟨RX7, TX7, 21, tyX7, rfl, by decide, ing_X7, by decide, w_840, tyX7_ok, nmX7, rfl, rfl, rfl⟩
