section ZF
set_option maxRecDepth 20000 in
theorem clX0 : zCl 0 RX0 TX0 18 := ⟨rfl, fun w h => zWd_of (inX0 w h) ((by decide +kernel : ∀ w ∈ wsX00, goodWord w = true) w h), ⟨tyX0, tyX0_ok⟩, nmX0, by decide +kernel⟩
set_option maxRecDepth 20000 in
theorem clX1 : zCl 1 RX1 TX1 10 := ⟨rfl, fun w h => zWd_of (inX1 w h) ((by decide +kernel : ∀ w ∈ wsX10, goodWord w = true) w h), ⟨tyX1, tyX1_ok⟩, nmX1, by decide +kernel⟩
set_option maxRecDepth 20000 in
theorem clX2 : zCl 2 RX2 TX2 3 := ⟨rfl, fun w h => zWd_of (inX2 w h) ((by decide +kernel : ∀ w ∈ wsX20, goodWord w = true) w h), ⟨tyX2, tyX2_ok⟩, nmX2, by decide +kernel⟩
set_option maxRecDepth 20000 in
theorem clX3 : zCl 3 RX3 TX3 4 := ⟨rfl, fun w h => zWd_of (inX3 w h) ((by decide +kernel : ∀ w ∈ wsX30, goodWord w = true) w h), ⟨tyX3, tyX3_ok⟩, nmX3, by decide +kernel⟩
set_option maxRecDepth 20000 in
theorem clX4 : zCl 4 RX4 TX4 6 := ⟨rfl, fun w h => zWd_of (inX4 w h) ((by decide +kernel : ∀ w ∈ wsX40, goodWord w = true) w h), ⟨tyX4, tyX4_ok⟩, nmX4, by decide +kernel⟩
set_option maxRecDepth 20000 in
theorem clX5 : zCl 5 RX5 TX5 36 := ⟨rfl, fun w h => zWd_of (inX5 w h) ((by decide +kernel : ∀ w ∈ wsX50, goodWord w = true) w h), ⟨tyX5, tyX5_ok⟩, nmX5, by decide +kernel⟩
theorem flX2_11 : zFl RX2 11 2 0 := ⟨RX2, TX2, 3, clX2, by decide, Or.inl (zWd_in 101 (by decide +kernel) rfl)⟩
theorem fpX2_11 : zFp RX2 11 2 0 (.array (.array .int)) true := ⟨RX2, TX2, 3, clX2, by decide, Or.inl (zWd_in 101 (by decide +kernel) rfl), rfl, by decide +kernel, fun _ => rfl⟩
theorem flX4_61 : zFl RX4 61 2 0 := ⟨RX2, TX2, 3, clX2, by decide, Or.inl (zWd_in 102 (by decide +kernel) rfl)⟩
theorem flX0_63 : zFl RX0 63 2 0 := ⟨RX2, TX2, 3, clX2, by decide, Or.inl (zWd_in 103 (by decide +kernel) rfl)⟩
theorem flX1_65 : zFl RX1 65 2 0 := ⟨RX2, TX2, 3, clX2, by decide, Or.inl (zWd_in 104 (by decide +kernel) rfl)⟩
theorem flX2_16 : zFl RX2 16 2 1 := ⟨RX2, TX2, 3, clX2, by decide, Or.inl (zWd_in 105 (by decide +kernel) rfl)⟩
theorem fpX2_16 : zFp RX2 16 2 1 (.array (.array .int)) true := ⟨RX2, TX2, 3, clX2, by decide, Or.inl (zWd_in 105 (by decide +kernel) rfl), rfl, by decide +kernel, fun _ => rfl⟩
theorem flX1_79 : zFl RX1 79 2 1 := ⟨RX2, TX2, 3, clX2, by decide, Or.inl (zWd_in 106 (by decide +kernel) rfl)⟩
theorem flX4_84 : zFl RX4 84 2 1 := ⟨RX2, TX2, 3, clX2, by decide, Or.inl (zWd_in 107 (by decide +kernel) rfl)⟩
theorem flX0_98 : zFl RX0 98 2 1 := ⟨RX2, TX2, 3, clX2, by decide, Or.inl (zWd_in 108 (by decide +kernel) rfl)⟩
theorem flX2_19 : zFl RX2 19 2 2 := ⟨RX2, TX2, 3, clX2, by decide, Or.inl (zWd_in 109 (by decide +kernel) rfl)⟩
theorem fpX2_19 : zFp RX2 19 2 2 (.array .int) true := ⟨RX2, TX2, 3, clX2, by decide, Or.inl (zWd_in 109 (by decide +kernel) rfl), rfl, by decide +kernel, fun _ => rfl⟩
theorem flX4_73 : zFl RX4 73 2 2 := ⟨RX2, TX2, 3, clX2, by decide, Or.inl (zWd_in 110 (by decide +kernel) rfl)⟩
theorem flX0_129 : zFl RX0 129 2 2 := ⟨RX2, TX2, 3, clX2, by decide, Or.inl (zWd_in 111 (by decide +kernel) rfl)⟩
theorem flX0_45 : zFl RX0 45 0 0 := ⟨RX0, TX0, 18, clX0, by decide, Or.inl (zWd_in 126 (by decide +kernel) rfl)⟩
theorem fpX0_45 : zFp RX0 45 0 0 (.object "OffsetChains$Plan") true := ⟨RX0, TX0, 18, clX0, by decide, Or.inl (zWd_in 126 (by decide +kernel) rfl), rfl, by decide +kernel, fun _ => rfl⟩
theorem flX0_9 : zFl RX0 9 0 1 := ⟨RX0, TX0, 18, clX0, by decide, Or.inl (zWd_in 127 (by decide +kernel) rfl)⟩
theorem fpX0_9 : zFp RX0 9 0 1 (.array .int) true := ⟨RX0, TX0, 18, clX0, by decide, Or.inl (zWd_in 127 (by decide +kernel) rfl), rfl, by decide +kernel, fun _ => rfl⟩
theorem flX0_15 : zFl RX0 15 0 2 := ⟨RX0, TX0, 18, clX0, by decide, Or.inl (zWd_in 128 (by decide +kernel) rfl)⟩
theorem fpX0_15 : zFp RX0 15 0 2 (.array .int) true := ⟨RX0, TX0, 18, clX0, by decide, Or.inl (zWd_in 128 (by decide +kernel) rfl), rfl, by decide +kernel, fun _ => rfl⟩
theorem flX0_18 : zFl RX0 18 0 3 := ⟨RX0, TX0, 18, clX0, by decide, Or.inl (zWd_in 129 (by decide +kernel) rfl)⟩
theorem fpX0_18 : zFp RX0 18 0 3 (.array .int) true := ⟨RX0, TX0, 18, clX0, by decide, Or.inl (zWd_in 129 (by decide +kernel) rfl), rfl, by decide +kernel, fun _ => rfl⟩
theorem flX0_21 : zFl RX0 21 0 4 := ⟨RX0, TX0, 18, clX0, by decide, Or.inl (zWd_in 130 (by decide +kernel) rfl)⟩
theorem fpX0_21 : zFp RX0 21 0 4 (.array .int) true := ⟨RX0, TX0, 18, clX0, by decide, Or.inl (zWd_in 130 (by decide +kernel) rfl), rfl, by decide +kernel, fun _ => rfl⟩
theorem flX0_24 : zFl RX0 24 0 5 := ⟨RX0, TX0, 18, clX0, by decide, Or.inl (zWd_in 131 (by decide +kernel) rfl)⟩
theorem fpX0_24 : zFp RX0 24 0 5 (.array .int) true := ⟨RX0, TX0, 18, clX0, by decide, Or.inl (zWd_in 131 (by decide +kernel) rfl), rfl, by decide +kernel, fun _ => rfl⟩
theorem flX0_27 : zFl RX0 27 0 6 := ⟨RX0, TX0, 18, clX0, by decide, Or.inl (zWd_in 132 (by decide +kernel) rfl)⟩
theorem fpX0_27 : zFp RX0 27 0 6 (.array .int) true := ⟨RX0, TX0, 18, clX0, by decide, Or.inl (zWd_in 132 (by decide +kernel) rfl), rfl, by decide +kernel, fun _ => rfl⟩
theorem flX0_30 : zFl RX0 30 0 7 := ⟨RX0, TX0, 18, clX0, by decide, Or.inl (zWd_in 133 (by decide +kernel) rfl)⟩
theorem fpX0_30 : zFp RX0 30 0 7 (.array .int) true := ⟨RX0, TX0, 18, clX0, by decide, Or.inl (zWd_in 133 (by decide +kernel) rfl), rfl, by decide +kernel, fun _ => rfl⟩
theorem flX0_33 : zFl RX0 33 0 8 := ⟨RX0, TX0, 18, clX0, by decide, Or.inl (zWd_in 134 (by decide +kernel) rfl)⟩
theorem fpX0_33 : zFp RX0 33 0 8 (.array .int) true := ⟨RX0, TX0, 18, clX0, by decide, Or.inl (zWd_in 134 (by decide +kernel) rfl), rfl, by decide +kernel, fun _ => rfl⟩
theorem flX0_36 : zFl RX0 36 0 9 := ⟨RX0, TX0, 18, clX0, by decide, Or.inl (zWd_in 135 (by decide +kernel) rfl)⟩
theorem fpX0_36 : zFp RX0 36 0 9 (.array .int) true := ⟨RX0, TX0, 18, clX0, by decide, Or.inl (zWd_in 135 (by decide +kernel) rfl), rfl, by decide +kernel, fun _ => rfl⟩
theorem flX0_39 : zFl RX0 39 0 10 := ⟨RX0, TX0, 18, clX0, by decide, Or.inl (zWd_in 136 (by decide +kernel) rfl)⟩
theorem fpX0_39 : zFp RX0 39 0 10 (.array .int) true := ⟨RX0, TX0, 18, clX0, by decide, Or.inl (zWd_in 136 (by decide +kernel) rfl), rfl, by decide +kernel, fun _ => rfl⟩
theorem flX0_42 : zFl RX0 42 0 11 := ⟨RX0, TX0, 18, clX0, by decide, Or.inl (zWd_in 137 (by decide +kernel) rfl)⟩
theorem fpX0_42 : zFp RX0 42 0 11 (.array .int) true := ⟨RX0, TX0, 18, clX0, by decide, Or.inl (zWd_in 137 (by decide +kernel) rfl), rfl, by decide +kernel, fun _ => rfl⟩
theorem flX0_89 : zFl RX0 89 0 12 := ⟨RX0, TX0, 18, clX0, by decide, Or.inl (zWd_in 138 (by decide +kernel) rfl)⟩
theorem fpX0_89 : zFp RX0 89 0 12 .int false := ⟨RX0, TX0, 18, clX0, by decide, Or.inl (zWd_in 138 (by decide +kernel) rfl), rfl, by decide +kernel, fun h => by cases h⟩
theorem flX0_120 : zFl RX0 120 0 13 := ⟨RX0, TX0, 18, clX0, by decide, Or.inl (zWd_in 139 (by decide +kernel) rfl)⟩
theorem fpX0_120 : zFp RX0 120 0 13 .int false := ⟨RX0, TX0, 18, clX0, by decide, Or.inl (zWd_in 139 (by decide +kernel) rfl), rfl, by decide +kernel, fun h => by cases h⟩
theorem flX0_123 : zFl RX0 123 0 14 := ⟨RX0, TX0, 18, clX0, by decide, Or.inl (zWd_in 140 (by decide +kernel) rfl)⟩
theorem fpX0_123 : zFp RX0 123 0 14 .int false := ⟨RX0, TX0, 18, clX0, by decide, Or.inl (zWd_in 140 (by decide +kernel) rfl), rfl, by decide +kernel, fun h => by cases h⟩
theorem flX0_126 : zFl RX0 126 0 15 := ⟨RX0, TX0, 18, clX0, by decide, Or.inl (zWd_in 141 (by decide +kernel) rfl)⟩
theorem fpX0_126 : zFp RX0 126 0 15 .int false := ⟨RX0, TX0, 18, clX0, by decide, Or.inl (zWd_in 141 (by decide +kernel) rfl), rfl, by decide +kernel, fun h => by cases h⟩
theorem flX0_49 : zFl RX0 49 0 16 := ⟨RX0, TX0, 18, clX0, by decide, Or.inl (zWd_in 142 (by decide +kernel) rfl)⟩
theorem fpX0_49 : zFp RX0 49 0 16 .int false := ⟨RX0, TX0, 18, clX0, by decide, Or.inl (zWd_in 142 (by decide +kernel) rfl), rfl, by decide +kernel, fun h => by cases h⟩
theorem flX4_129 : zFl RX4 129 0 16 := ⟨RX0, TX0, 18, clX0, by decide, Or.inr ⟨"OffsetChains", zNs_in 143 (by decide +kernel) rfl⟩⟩
theorem fpX4_129 : zFp RX4 129 0 16 .int false := ⟨RX0, TX0, 18, clX0, by decide, Or.inr ⟨rfl, "OffsetChains", zNs_in 143 (by decide +kernel) rfl⟩, rfl, by decide +kernel, fun h => by cases h⟩
theorem flX0_53 : zFl RX0 53 0 17 := ⟨RX0, TX0, 18, clX0, by decide, Or.inl (zWd_in 144 (by decide +kernel) rfl)⟩
theorem fpX0_53 : zFp RX0 53 0 17 .boolean false := ⟨RX0, TX0, 18, clX0, by decide, Or.inl (zWd_in 144 (by decide +kernel) rfl), rfl, by decide +kernel, fun h => by cases h⟩
theorem flX4_65 : zFl RX4 65 0 17 := ⟨RX0, TX0, 18, clX0, by decide, Or.inr ⟨"OffsetChains", zNs_in 145 (by decide +kernel) rfl⟩⟩
theorem fpX4_65 : zFp RX4 65 0 17 .boolean false := ⟨RX0, TX0, 18, clX0, by decide, Or.inr ⟨rfl, "OffsetChains", zNs_in 145 (by decide +kernel) rfl⟩, rfl, by decide +kernel, fun h => by cases h⟩
theorem flX1_41 : zFl RX1 41 1 0 := ⟨RX1, TX1, 10, clX1, by decide, Or.inl (zWd_in 195 (by decide +kernel) rfl)⟩
theorem fpX1_41 : zFp RX1 41 1 0 .int false := ⟨RX1, TX1, 10, clX1, by decide, Or.inl (zWd_in 195 (by decide +kernel) rfl), rfl, by decide +kernel, fun h => by cases h⟩
theorem flX4_231 : zFl RX4 231 1 0 := ⟨RX1, TX1, 10, clX1, by decide, Or.inr ⟨"OffsetChains", zNs_in 196 (by decide +kernel) rfl⟩⟩
theorem fpX4_231 : zFp RX4 231 1 0 .int false := ⟨RX1, TX1, 10, clX1, by decide, Or.inr ⟨rfl, "OffsetChains", zNs_in 196 (by decide +kernel) rfl⟩, rfl, by decide +kernel, fun h => by cases h⟩
theorem flX1_45 : zFl RX1 45 1 1 := ⟨RX1, TX1, 10, clX1, by decide, Or.inl (zWd_in 197 (by decide +kernel) rfl)⟩
theorem fpX1_45 : zFp RX1 45 1 1 .int false := ⟨RX1, TX1, 10, clX1, by decide, Or.inl (zWd_in 197 (by decide +kernel) rfl), rfl, by decide +kernel, fun h => by cases h⟩
theorem flX4_149 : zFl RX4 149 1 1 := ⟨RX1, TX1, 10, clX1, by decide, Or.inr ⟨"OffsetChains", zNs_in 198 (by decide +kernel) rfl⟩⟩
theorem fpX4_149 : zFp RX4 149 1 1 .int false := ⟨RX1, TX1, 10, clX1, by decide, Or.inr ⟨rfl, "OffsetChains", zNs_in 198 (by decide +kernel) rfl⟩, rfl, by decide +kernel, fun h => by cases h⟩
theorem flX1_9 : zFl RX1 9 1 2 := ⟨RX1, TX1, 10, clX1, by decide, Or.inl (zWd_in 199 (by decide +kernel) rfl)⟩
theorem fpX1_9 : zFp RX1 9 1 2 (.array .int) true := ⟨RX1, TX1, 10, clX1, by decide, Or.inl (zWd_in 199 (by decide +kernel) rfl), rfl, by decide +kernel, fun _ => rfl⟩
theorem flX4_228 : zFl RX4 228 1 2 := ⟨RX1, TX1, 10, clX1, by decide, Or.inr ⟨"OffsetChains", zNs_in 200 (by decide +kernel) rfl⟩⟩
theorem flX1_17 : zFl RX1 17 1 3 := ⟨RX1, TX1, 10, clX1, by decide, Or.inl (zWd_in 201 (by decide +kernel) rfl)⟩
theorem fpX1_17 : zFp RX1 17 1 3 (.array (.array .int)) true := ⟨RX1, TX1, 10, clX1, by decide, Or.inl (zWd_in 201 (by decide +kernel) rfl), rfl, by decide +kernel, fun _ => rfl⟩
theorem flX4_155 : zFl RX4 155 1 3 := ⟨RX1, TX1, 10, clX1, by decide, Or.inr ⟨"OffsetChains", zNs_in 202 (by decide +kernel) rfl⟩⟩
theorem flX1_20 : zFl RX1 20 1 4 := ⟨RX1, TX1, 10, clX1, by decide, Or.inl (zWd_in 203 (by decide +kernel) rfl)⟩
theorem fpX1_20 : zFp RX1 20 1 4 (.array .int) true := ⟨RX1, TX1, 10, clX1, by decide, Or.inl (zWd_in 203 (by decide +kernel) rfl), rfl, by decide +kernel, fun _ => rfl⟩
theorem flX1_23 : zFl RX1 23 1 5 := ⟨RX1, TX1, 10, clX1, by decide, Or.inl (zWd_in 204 (by decide +kernel) rfl)⟩
theorem fpX1_23 : zFp RX1 23 1 5 (.array .int) true := ⟨RX1, TX1, 10, clX1, by decide, Or.inl (zWd_in 204 (by decide +kernel) rfl), rfl, by decide +kernel, fun _ => rfl⟩
theorem flX1_26 : zFl RX1 26 1 6 := ⟨RX1, TX1, 10, clX1, by decide, Or.inl (zWd_in 205 (by decide +kernel) rfl)⟩
theorem fpX1_26 : zFp RX1 26 1 6 (.array .int) true := ⟨RX1, TX1, 10, clX1, by decide, Or.inl (zWd_in 205 (by decide +kernel) rfl), rfl, by decide +kernel, fun _ => rfl⟩
theorem flX1_29 : zFl RX1 29 1 7 := ⟨RX1, TX1, 10, clX1, by decide, Or.inl (zWd_in 206 (by decide +kernel) rfl)⟩
theorem fpX1_29 : zFp RX1 29 1 7 (.array .int) true := ⟨RX1, TX1, 10, clX1, by decide, Or.inl (zWd_in 206 (by decide +kernel) rfl), rfl, by decide +kernel, fun _ => rfl⟩
theorem flX1_32 : zFl RX1 32 1 8 := ⟨RX1, TX1, 10, clX1, by decide, Or.inl (zWd_in 207 (by decide +kernel) rfl)⟩
theorem fpX1_32 : zFp RX1 32 1 8 (.array (.array .int)) true := ⟨RX1, TX1, 10, clX1, by decide, Or.inl (zWd_in 207 (by decide +kernel) rfl), rfl, by decide +kernel, fun _ => rfl⟩
theorem flX1_35 : zFl RX1 35 1 9 := ⟨RX1, TX1, 10, clX1, by decide, Or.inl (zWd_in 208 (by decide +kernel) rfl)⟩
theorem fpX1_35 : zFp RX1 35 1 9 (.array .int) true := ⟨RX1, TX1, 10, clX1, by decide, Or.inl (zWd_in 208 (by decide +kernel) rfl), rfl, by decide +kernel, fun _ => rfl⟩
theorem flX3_9 : zFl RX3 9 3 0 := ⟨RX3, TX3, 4, clX3, by decide, Or.inl (zWd_in 237 (by decide +kernel) rfl)⟩
theorem fpX3_9 : zFp RX3 9 3 0 .boolean false := ⟨RX3, TX3, 4, clX3, by decide, Or.inl (zWd_in 237 (by decide +kernel) rfl), rfl, by decide +kernel, fun h => by cases h⟩
theorem flX4_90 : zFl RX4 90 3 0 := ⟨RX3, TX3, 4, clX3, by decide, Or.inr ⟨"OffsetChains", zNs_in 238 (by decide +kernel) rfl⟩⟩
theorem fpX4_90 : zFp RX4 90 3 0 .boolean false := ⟨RX3, TX3, 4, clX3, by decide, Or.inr ⟨rfl, "OffsetChains", zNs_in 238 (by decide +kernel) rfl⟩, rfl, by decide +kernel, fun h => by cases h⟩
theorem flX3_19 : zFl RX3 19 3 1 := ⟨RX3, TX3, 4, clX3, by decide, Or.inl (zWd_in 239 (by decide +kernel) rfl)⟩
theorem fpX3_19 : zFp RX3 19 3 1 .int false := ⟨RX3, TX3, 4, clX3, by decide, Or.inl (zWd_in 239 (by decide +kernel) rfl), rfl, by decide +kernel, fun h => by cases h⟩
theorem flX4_178 : zFl RX4 178 3 1 := ⟨RX3, TX3, 4, clX3, by decide, Or.inr ⟨"OffsetChains", zNs_in 240 (by decide +kernel) rfl⟩⟩
theorem fpX4_178 : zFp RX4 178 3 1 .int false := ⟨RX3, TX3, 4, clX3, by decide, Or.inr ⟨rfl, "OffsetChains", zNs_in 240 (by decide +kernel) rfl⟩, rfl, by decide +kernel, fun h => by cases h⟩
theorem flX3_23 : zFl RX3 23 3 2 := ⟨RX3, TX3, 4, clX3, by decide, Or.inl (zWd_in 241 (by decide +kernel) rfl)⟩
theorem fpX3_23 : zFp RX3 23 3 2 .int false := ⟨RX3, TX3, 4, clX3, by decide, Or.inl (zWd_in 241 (by decide +kernel) rfl), rfl, by decide +kernel, fun h => by cases h⟩
theorem flX4_97 : zFl RX4 97 3 2 := ⟨RX3, TX3, 4, clX3, by decide, Or.inr ⟨"OffsetChains", zNs_in 242 (by decide +kernel) rfl⟩⟩
theorem fpX4_97 : zFp RX4 97 3 2 .int false := ⟨RX3, TX3, 4, clX3, by decide, Or.inr ⟨rfl, "OffsetChains", zNs_in 242 (by decide +kernel) rfl⟩, rfl, by decide +kernel, fun h => by cases h⟩
theorem flX3_15 : zFl RX3 15 3 3 := ⟨RX3, TX3, 4, clX3, by decide, Or.inl (zWd_in 243 (by decide +kernel) rfl)⟩
theorem fpX3_15 : zFp RX3 15 3 3 (.array .long) true := ⟨RX3, TX3, 4, clX3, by decide, Or.inl (zWd_in 243 (by decide +kernel) rfl), rfl, by decide +kernel, fun _ => rfl⟩
theorem flX4_104 : zFl RX4 104 3 3 := ⟨RX3, TX3, 4, clX3, by decide, Or.inr ⟨"OffsetChains", zNs_in 244 (by decide +kernel) rfl⟩⟩
theorem flX4_12 : zFl RX4 12 4 0 := ⟨RX4, TX4, 6, clX4, by decide, Or.inl (zWd_in 255 (by decide +kernel) rfl)⟩
theorem fpX4_12 : zFp RX4 12 4 0 (.object "OffsetChains$Plan") true := ⟨RX4, TX4, 6, clX4, by decide, Or.inl (zWd_in 255 (by decide +kernel) rfl), rfl, by decide +kernel, fun _ => rfl⟩
theorem flX4_21 : zFl RX4 21 4 1 := ⟨RX4, TX4, 6, clX4, by decide, Or.inl (zWd_in 256 (by decide +kernel) rfl)⟩
theorem fpX4_21 : zFp RX4 21 4 1 (.object "OffsetChains$Answers") true := ⟨RX4, TX4, 6, clX4, by decide, Or.inl (zWd_in 256 (by decide +kernel) rfl), rfl, by decide +kernel, fun _ => rfl⟩
theorem flX4_25 : zFl RX4 25 4 2 := ⟨RX4, TX4, 6, clX4, by decide, Or.inl (zWd_in 257 (by decide +kernel) rfl)⟩
theorem fpX4_25 : zFp RX4 25 4 2 (.object "OffsetChains$Answers") true := ⟨RX4, TX4, 6, clX4, by decide, Or.inl (zWd_in 257 (by decide +kernel) rfl), rfl, by decide +kernel, fun _ => rfl⟩
theorem flX4_31 : zFl RX4 31 4 3 := ⟨RX4, TX4, 6, clX4, by decide, Or.inl (zWd_in 258 (by decide +kernel) rfl)⟩
theorem fpX4_31 : zFp RX4 31 4 3 (.object "OffsetChains$Course") true := ⟨RX4, TX4, 6, clX4, by decide, Or.inl (zWd_in 258 (by decide +kernel) rfl), rfl, by decide +kernel, fun _ => rfl⟩
theorem flX4_37 : zFl RX4 37 4 4 := ⟨RX4, TX4, 6, clX4, by decide, Or.inl (zWd_in 259 (by decide +kernel) rfl)⟩
theorem fpX4_37 : zFp RX4 37 4 4 (.array (.object "OffsetChains$Sheet")) true := ⟨RX4, TX4, 6, clX4, by decide, Or.inl (zWd_in 259 (by decide +kernel) rfl), rfl, by decide +kernel, fun _ => rfl⟩
theorem flX4_42 : zFl RX4 42 4 5 := ⟨RX4, TX4, 6, clX4, by decide, Or.inl (zWd_in 260 (by decide +kernel) rfl)⟩
theorem fpX4_42 : zFp RX4 42 4 5 .int false := ⟨RX4, TX4, 6, clX4, by decide, Or.inl (zWd_in 260 (by decide +kernel) rfl), rfl, by decide +kernel, fun h => by cases h⟩
theorem stX4_54 : Cond.fieldLink RX4 54 "OffsetChains" (zTn 0) "[I" ∈ zWd := zWd_in 284 (by decide +kernel) rfl
theorem stX4_58 : Cond.fieldLink RX4 58 "OffsetChains" (zTn 1) "[I" ∈ zWd := zWd_in 286 (by decide +kernel) rfl
theorem stX4_205 : Cond.fieldLink RX4 205 "OffsetChains" (zTn 2) "[I" ∈ zWd := zWd_in 295 (by decide +kernel) rfl
theorem stX4_208 : Cond.fieldLink RX4 208 "OffsetChains" (zTn 3) "[I" ∈ zWd := zWd_in 297 (by decide +kernel) rfl
theorem flX5_7 : zFl RX5 7 5 0 := ⟨RX5, TX5, 36, clX5, by decide, Or.inl (zWd_in 651 (by decide +kernel) rfl)⟩
theorem fpX5_7 : zFp RX5 7 5 0 (.array .int) true := ⟨RX5, TX5, 36, clX5, by decide, Or.inl (zWd_in 651 (by decide +kernel) rfl), rfl, by decide +kernel, fun _ => rfl⟩
theorem flX5_13 : zFl RX5 13 5 1 := ⟨RX5, TX5, 36, clX5, by decide, Or.inl (zWd_in 652 (by decide +kernel) rfl)⟩
theorem fpX5_13 : zFp RX5 13 5 1 (.array .int) true := ⟨RX5, TX5, 36, clX5, by decide, Or.inl (zWd_in 652 (by decide +kernel) rfl), rfl, by decide +kernel, fun _ => rfl⟩
theorem flX5_16 : zFl RX5 16 5 2 := ⟨RX5, TX5, 36, clX5, by decide, Or.inl (zWd_in 653 (by decide +kernel) rfl)⟩
theorem fpX5_16 : zFp RX5 16 5 2 (.array .long) true := ⟨RX5, TX5, 36, clX5, by decide, Or.inl (zWd_in 653 (by decide +kernel) rfl), rfl, by decide +kernel, fun _ => rfl⟩
theorem flX5_20 : zFl RX5 20 5 3 := ⟨RX5, TX5, 36, clX5, by decide, Or.inl (zWd_in 654 (by decide +kernel) rfl)⟩
theorem fpX5_20 : zFp RX5 20 5 3 (.array .long) true := ⟨RX5, TX5, 36, clX5, by decide, Or.inl (zWd_in 654 (by decide +kernel) rfl), rfl, by decide +kernel, fun _ => rfl⟩
theorem flX5_95 : zFl RX5 95 5 4 := ⟨RX5, TX5, 36, clX5, by decide, Or.inl (zWd_in 655 (by decide +kernel) rfl)⟩
theorem fpX5_95 : zFp RX5 95 5 4 .int false := ⟨RX5, TX5, 36, clX5, by decide, Or.inl (zWd_in 655 (by decide +kernel) rfl), rfl, by decide +kernel, fun h => by cases h⟩
theorem flX5_23 : zFl RX5 23 5 5 := ⟨RX5, TX5, 36, clX5, by decide, Or.inl (zWd_in 656 (by decide +kernel) rfl)⟩
theorem fpX5_23 : zFp RX5 23 5 5 (.array .int) true := ⟨RX5, TX5, 36, clX5, by decide, Or.inl (zWd_in 656 (by decide +kernel) rfl), rfl, by decide +kernel, fun _ => rfl⟩
theorem flX5_26 : zFl RX5 26 5 6 := ⟨RX5, TX5, 36, clX5, by decide, Or.inl (zWd_in 657 (by decide +kernel) rfl)⟩
theorem fpX5_26 : zFp RX5 26 5 6 (.array .int) true := ⟨RX5, TX5, 36, clX5, by decide, Or.inl (zWd_in 657 (by decide +kernel) rfl), rfl, by decide +kernel, fun _ => rfl⟩
theorem flX5_29 : zFl RX5 29 5 7 := ⟨RX5, TX5, 36, clX5, by decide, Or.inl (zWd_in 658 (by decide +kernel) rfl)⟩
theorem fpX5_29 : zFp RX5 29 5 7 (.array .int) true := ⟨RX5, TX5, 36, clX5, by decide, Or.inl (zWd_in 658 (by decide +kernel) rfl), rfl, by decide +kernel, fun _ => rfl⟩
theorem flX5_32 : zFl RX5 32 5 8 := ⟨RX5, TX5, 36, clX5, by decide, Or.inl (zWd_in 659 (by decide +kernel) rfl)⟩
theorem fpX5_32 : zFp RX5 32 5 8 (.array .int) true := ⟨RX5, TX5, 36, clX5, by decide, Or.inl (zWd_in 659 (by decide +kernel) rfl), rfl, by decide +kernel, fun _ => rfl⟩
theorem flX5_35 : zFl RX5 35 5 9 := ⟨RX5, TX5, 36, clX5, by decide, Or.inl (zWd_in 660 (by decide +kernel) rfl)⟩
theorem fpX5_35 : zFp RX5 35 5 9 (.array .int) true := ⟨RX5, TX5, 36, clX5, by decide, Or.inl (zWd_in 660 (by decide +kernel) rfl), rfl, by decide +kernel, fun _ => rfl⟩
theorem flX5_38 : zFl RX5 38 5 10 := ⟨RX5, TX5, 36, clX5, by decide, Or.inl (zWd_in 661 (by decide +kernel) rfl)⟩
theorem fpX5_38 : zFp RX5 38 5 10 (.array .int) true := ⟨RX5, TX5, 36, clX5, by decide, Or.inl (zWd_in 661 (by decide +kernel) rfl), rfl, by decide +kernel, fun _ => rfl⟩
theorem flX5_41 : zFl RX5 41 5 11 := ⟨RX5, TX5, 36, clX5, by decide, Or.inl (zWd_in 662 (by decide +kernel) rfl)⟩
theorem fpX5_41 : zFp RX5 41 5 11 (.array .int) true := ⟨RX5, TX5, 36, clX5, by decide, Or.inl (zWd_in 662 (by decide +kernel) rfl), rfl, by decide +kernel, fun _ => rfl⟩
theorem flX5_44 : zFl RX5 44 5 12 := ⟨RX5, TX5, 36, clX5, by decide, Or.inl (zWd_in 663 (by decide +kernel) rfl)⟩
theorem fpX5_44 : zFp RX5 44 5 12 (.array .int) true := ⟨RX5, TX5, 36, clX5, by decide, Or.inl (zWd_in 663 (by decide +kernel) rfl), rfl, by decide +kernel, fun _ => rfl⟩
theorem flX5_47 : zFl RX5 47 5 13 := ⟨RX5, TX5, 36, clX5, by decide, Or.inl (zWd_in 664 (by decide +kernel) rfl)⟩
theorem fpX5_47 : zFp RX5 47 5 13 (.array .int) true := ⟨RX5, TX5, 36, clX5, by decide, Or.inl (zWd_in 664 (by decide +kernel) rfl), rfl, by decide +kernel, fun _ => rfl⟩
theorem flX5_50 : zFl RX5 50 5 14 := ⟨RX5, TX5, 36, clX5, by decide, Or.inl (zWd_in 665 (by decide +kernel) rfl)⟩
theorem fpX5_50 : zFp RX5 50 5 14 (.array .int) true := ⟨RX5, TX5, 36, clX5, by decide, Or.inl (zWd_in 665 (by decide +kernel) rfl), rfl, by decide +kernel, fun _ => rfl⟩
theorem flX5_170 : zFl RX5 170 5 15 := ⟨RX5, TX5, 36, clX5, by decide, Or.inl (zWd_in 666 (by decide +kernel) rfl)⟩
theorem fpX5_170 : zFp RX5 170 5 15 .long false := ⟨RX5, TX5, 36, clX5, by decide, Or.inl (zWd_in 666 (by decide +kernel) rfl), rfl, by decide +kernel, fun h => by cases h⟩
theorem flX5_166 : zFl RX5 166 5 16 := ⟨RX5, TX5, 36, clX5, by decide, Or.inl (zWd_in 667 (by decide +kernel) rfl)⟩
theorem fpX5_166 : zFp RX5 166 5 16 .long false := ⟨RX5, TX5, 36, clX5, by decide, Or.inl (zWd_in 667 (by decide +kernel) rfl), rfl, by decide +kernel, fun h => by cases h⟩
theorem flX5_53 : zFl RX5 53 5 17 := ⟨RX5, TX5, 36, clX5, by decide, Or.inl (zWd_in 668 (by decide +kernel) rfl)⟩
theorem fpX5_53 : zFp RX5 53 5 17 (.array .int) true := ⟨RX5, TX5, 36, clX5, by decide, Or.inl (zWd_in 668 (by decide +kernel) rfl), rfl, by decide +kernel, fun _ => rfl⟩
theorem flX5_56 : zFl RX5 56 5 18 := ⟨RX5, TX5, 36, clX5, by decide, Or.inl (zWd_in 669 (by decide +kernel) rfl)⟩
theorem fpX5_56 : zFp RX5 56 5 18 (.array .int) true := ⟨RX5, TX5, 36, clX5, by decide, Or.inl (zWd_in 669 (by decide +kernel) rfl), rfl, by decide +kernel, fun _ => rfl⟩
theorem flX5_204 : zFl RX5 204 5 19 := ⟨RX5, TX5, 36, clX5, by decide, Or.inl (zWd_in 670 (by decide +kernel) rfl)⟩
theorem fpX5_204 : zFp RX5 204 5 19 .int false := ⟨RX5, TX5, 36, clX5, by decide, Or.inl (zWd_in 670 (by decide +kernel) rfl), rfl, by decide +kernel, fun h => by cases h⟩
theorem flX5_214 : zFl RX5 214 5 20 := ⟨RX5, TX5, 36, clX5, by decide, Or.inl (zWd_in 671 (by decide +kernel) rfl)⟩
theorem fpX5_214 : zFp RX5 214 5 20 .int false := ⟨RX5, TX5, 36, clX5, by decide, Or.inl (zWd_in 671 (by decide +kernel) rfl), rfl, by decide +kernel, fun h => by cases h⟩
theorem flX5_217 : zFl RX5 217 5 21 := ⟨RX5, TX5, 36, clX5, by decide, Or.inl (zWd_in 672 (by decide +kernel) rfl)⟩
theorem fpX5_217 : zFp RX5 217 5 21 .int false := ⟨RX5, TX5, 36, clX5, by decide, Or.inl (zWd_in 672 (by decide +kernel) rfl), rfl, by decide +kernel, fun h => by cases h⟩
theorem flX5_220 : zFl RX5 220 5 22 := ⟨RX5, TX5, 36, clX5, by decide, Or.inl (zWd_in 673 (by decide +kernel) rfl)⟩
theorem fpX5_220 : zFp RX5 220 5 22 .int false := ⟨RX5, TX5, 36, clX5, by decide, Or.inl (zWd_in 673 (by decide +kernel) rfl), rfl, by decide +kernel, fun h => by cases h⟩
theorem flX5_59 : zFl RX5 59 5 23 := ⟨RX5, TX5, 36, clX5, by decide, Or.inl (zWd_in 674 (by decide +kernel) rfl)⟩
theorem fpX5_59 : zFp RX5 59 5 23 (.array .int) true := ⟨RX5, TX5, 36, clX5, by decide, Or.inl (zWd_in 674 (by decide +kernel) rfl), rfl, by decide +kernel, fun _ => rfl⟩
theorem flX5_62 : zFl RX5 62 5 24 := ⟨RX5, TX5, 36, clX5, by decide, Or.inl (zWd_in 675 (by decide +kernel) rfl)⟩
theorem fpX5_62 : zFp RX5 62 5 24 (.array .int) true := ⟨RX5, TX5, 36, clX5, by decide, Or.inl (zWd_in 675 (by decide +kernel) rfl), rfl, by decide +kernel, fun _ => rfl⟩
theorem flX5_65 : zFl RX5 65 5 25 := ⟨RX5, TX5, 36, clX5, by decide, Or.inl (zWd_in 676 (by decide +kernel) rfl)⟩
theorem fpX5_65 : zFp RX5 65 5 25 (.array .int) true := ⟨RX5, TX5, 36, clX5, by decide, Or.inl (zWd_in 676 (by decide +kernel) rfl), rfl, by decide +kernel, fun _ => rfl⟩
theorem flX5_68 : zFl RX5 68 5 26 := ⟨RX5, TX5, 36, clX5, by decide, Or.inl (zWd_in 677 (by decide +kernel) rfl)⟩
theorem fpX5_68 : zFp RX5 68 5 26 (.array .int) true := ⟨RX5, TX5, 36, clX5, by decide, Or.inl (zWd_in 677 (by decide +kernel) rfl), rfl, by decide +kernel, fun _ => rfl⟩
theorem flX5_232 : zFl RX5 232 5 27 := ⟨RX5, TX5, 36, clX5, by decide, Or.inl (zWd_in 678 (by decide +kernel) rfl)⟩
theorem fpX5_232 : zFp RX5 232 5 27 .boolean false := ⟨RX5, TX5, 36, clX5, by decide, Or.inl (zWd_in 678 (by decide +kernel) rfl), rfl, by decide +kernel, fun h => by cases h⟩
theorem flX5_240 : zFl RX5 240 5 28 := ⟨RX5, TX5, 36, clX5, by decide, Or.inl (zWd_in 679 (by decide +kernel) rfl)⟩
theorem fpX5_240 : zFp RX5 240 5 28 .int false := ⟨RX5, TX5, 36, clX5, by decide, Or.inl (zWd_in 679 (by decide +kernel) rfl), rfl, by decide +kernel, fun h => by cases h⟩
theorem flX5_71 : zFl RX5 71 5 29 := ⟨RX5, TX5, 36, clX5, by decide, Or.inl (zWd_in 680 (by decide +kernel) rfl)⟩
theorem fpX5_71 : zFp RX5 71 5 29 (.array .int) true := ⟨RX5, TX5, 36, clX5, by decide, Or.inl (zWd_in 680 (by decide +kernel) rfl), rfl, by decide +kernel, fun _ => rfl⟩
theorem flX5_74 : zFl RX5 74 5 30 := ⟨RX5, TX5, 36, clX5, by decide, Or.inl (zWd_in 681 (by decide +kernel) rfl)⟩
theorem fpX5_74 : zFp RX5 74 5 30 (.array .int) true := ⟨RX5, TX5, 36, clX5, by decide, Or.inl (zWd_in 681 (by decide +kernel) rfl), rfl, by decide +kernel, fun _ => rfl⟩
theorem flX5_77 : zFl RX5 77 5 31 := ⟨RX5, TX5, 36, clX5, by decide, Or.inl (zWd_in 682 (by decide +kernel) rfl)⟩
theorem fpX5_77 : zFp RX5 77 5 31 (.array .int) true := ⟨RX5, TX5, 36, clX5, by decide, Or.inl (zWd_in 682 (by decide +kernel) rfl), rfl, by decide +kernel, fun _ => rfl⟩
theorem flX5_80 : zFl RX5 80 5 32 := ⟨RX5, TX5, 36, clX5, by decide, Or.inl (zWd_in 683 (by decide +kernel) rfl)⟩
theorem fpX5_80 : zFp RX5 80 5 32 (.array .int) true := ⟨RX5, TX5, 36, clX5, by decide, Or.inl (zWd_in 683 (by decide +kernel) rfl), rfl, by decide +kernel, fun _ => rfl⟩
theorem flX5_83 : zFl RX5 83 5 33 := ⟨RX5, TX5, 36, clX5, by decide, Or.inl (zWd_in 684 (by decide +kernel) rfl)⟩
theorem fpX5_83 : zFp RX5 83 5 33 (.array .int) true := ⟨RX5, TX5, 36, clX5, by decide, Or.inl (zWd_in 684 (by decide +kernel) rfl), rfl, by decide +kernel, fun _ => rfl⟩
theorem flX5_86 : zFl RX5 86 5 34 := ⟨RX5, TX5, 36, clX5, by decide, Or.inl (zWd_in 685 (by decide +kernel) rfl)⟩
theorem fpX5_86 : zFp RX5 86 5 34 (.array .int) true := ⟨RX5, TX5, 36, clX5, by decide, Or.inl (zWd_in 685 (by decide +kernel) rfl), rfl, by decide +kernel, fun _ => rfl⟩
theorem flX5_308 : zFl RX5 308 5 35 := ⟨RX5, TX5, 36, clX5, by decide, Or.inl (zWd_in 686 (by decide +kernel) rfl)⟩
theorem fpX5_308 : zFp RX5 308 5 35 .int false := ⟨RX5, TX5, 36, clX5, by decide, Or.inl (zWd_in 686 (by decide +kernel) rfl), rfl, by decide +kernel, fun h => by cases h⟩
abbrev μX4_init : zU := (yX4_init, cX4_init, 2, none)
set_option maxRecDepth 20000 in
theorem mkX4_init : zMk μX4_init 0 := ⟨zWd_in 86 rfl rfl, zWd_in 72 (by decide +kernel) rfl, ⟨by decide +kernel, by decide +kernel, by decide +kernel⟩, by decide⟩
abbrev μX2_init : zU := (yX2_init, cX2_init, 1, none)
set_option maxRecDepth 20000 in
theorem mkX2_init : zMk μX2_init 0 := ⟨zWd_in 94 rfl rfl, zWd_in 73 (by decide +kernel) rfl, ⟨by decide +kernel, by decide +kernel, by decide +kernel⟩, by decide⟩
abbrev μJ7_fill_53178 : zU := (yJ7_fill_53178, cJ7_fill_53178, 4, none)
set_option maxRecDepth 20000 in
theorem mkJ7_fill_53178 : zMk μJ7_fill_53178 2 := ⟨zWd_in 100 rfl rfl, zWd_in 74 (by decide +kernel) rfl, ⟨by decide +kernel, by decide +kernel, by decide +kernel⟩, by decide⟩
abbrev μX0_init : zU := (yX0_init, cX0_init, 2, none)
set_option maxRecDepth 20000 in
theorem mkX0_init : zMk μX0_init 1 := ⟨zWd_in 124 rfl rfl, zWd_in 75 (by decide +kernel) rfl, ⟨by decide +kernel, by decide +kernel, by decide +kernel⟩, by decide⟩
abbrev μX1_init : zU := (yX1_init, cX1_init, 1, none)
set_option maxRecDepth 20000 in
theorem mkX1_init : zMk μX1_init 0 := ⟨zWd_in 187 rfl rfl, zWd_in 76 (by decide +kernel) rfl, ⟨by decide +kernel, by decide +kernel, by decide +kernel⟩, by decide⟩
abbrev μX1_clear : zU := (yX1_clear, cX1_clear, 2, none)
set_option maxRecDepth 20000 in
theorem mkX1_clear : zMk μX1_clear 0 := ⟨zWd_in 193 rfl rfl, zWd_in 76 (by decide +kernel) rfl, ⟨by decide +kernel, by decide +kernel, by decide +kernel⟩, by decide⟩
abbrev μX3_init : zU := (yX3_init, cX3_init, 1, none)
set_option maxRecDepth 20000 in
theorem mkX3_init : zMk μX3_init 0 := ⟨zWd_in 235 rfl rfl, zWd_in 77 (by decide +kernel) rfl, ⟨by decide +kernel, by decide +kernel, by decide +kernel⟩, by decide⟩
abbrev μX4_chain : zU := (yX4_chain, cX4_chain, 5, some .int)
set_option maxRecDepth 20000 in
theorem mkX4_chain : zMk μX4_chain 3 := ⟨zWd_in 277 rfl rfl, zWd_in 72 (by decide +kernel) rfl, ⟨by decide +kernel, by decide +kernel, by decide +kernel⟩, by decide⟩
abbrev μX4_isChain : zU := (yX4_isChain, cX4_isChain, 1, some .boolean)
set_option maxRecDepth 20000 in
theorem mkX4_isChain : zMk μX4_isChain 1 := ⟨zWd_in 280 rfl rfl, zWd_in 72 (by decide +kernel) rfl, ⟨by decide +kernel, by decide +kernel, by decide +kernel⟩, by decide⟩
abbrev μX4_within : zU := (yX4_within, cX4_within, 4, some .boolean)
set_option maxRecDepth 20000 in
theorem mkX4_within : zMk μX4_within 3 := ⟨zWd_in 283 rfl rfl, zWd_in 72 (by decide +kernel) rfl, ⟨by decide +kernel, by decide +kernel, by decide +kernel⟩, by decide⟩
abbrev μX4_step : zU := (yX4_step, cX4_step, 6, some .int)
set_option maxRecDepth 20000 in
theorem mkX4_step : zMk μX4_step 5 := ⟨zWd_in 291 rfl rfl, zWd_in 72 (by decide +kernel) rfl, ⟨by decide +kernel, by decide +kernel, by decide +kernel⟩, by decide⟩
abbrev μX4_isMark : zU := (yX4_isMark, cX4_isMark, 3, some .boolean)
set_option maxRecDepth 20000 in
theorem mkX4_isMark : zMk μX4_isMark 2 := ⟨zWd_in 294 rfl rfl, zWd_in 72 (by decide +kernel) rfl, ⟨by decide +kernel, by decide +kernel, by decide +kernel⟩, by decide⟩
abbrev μX2_append : zU := (yX2_append, cX2_append, 8, some .int)
set_option maxRecDepth 20000 in
theorem mkX2_append : zMk μX2_append 5 := ⟨zWd_in 302 rfl rfl, zWd_in 73 (by decide +kernel) rfl, ⟨by decide +kernel, by decide +kernel, by decide +kernel⟩, by decide⟩
abbrev μX4_back : zU := (yX4_back, cX4_back, 2, some .int)
set_option maxRecDepth 20000 in
theorem mkX4_back : zMk μX4_back 1 := ⟨zWd_in 306 rfl rfl, zWd_in 72 (by decide +kernel) rfl, ⟨by decide +kernel, by decide +kernel, by decide +kernel⟩, by decide⟩
abbrev μX4_tune : zU := (yX4_tune, cX4_tune, 7, some .int)
set_option maxRecDepth 20000 in
theorem mkX4_tune : zMk μX4_tune 4 := ⟨zWd_in 310 rfl rfl, zWd_in 72 (by decide +kernel) rfl, ⟨by decide +kernel, by decide +kernel, by decide +kernel⟩, by decide⟩
abbrev μX2_numberOf : zU := (yX2_numberOf, cX2_numberOf, 3, some .int)
set_option maxRecDepth 20000 in
theorem mkX2_numberOf : zMk μX2_numberOf 2 := ⟨zWd_in 314 rfl rfl, zWd_in 73 (by decide +kernel) rfl, ⟨by decide +kernel, by decide +kernel, by decide +kernel⟩, by decide⟩
abbrev μX4_read : zU := (yX4_read, cX4_read, 7, some .int)
set_option maxRecDepth 20000 in
theorem mkX4_read : zMk μX4_read 2 := ⟨zWd_in 320 rfl rfl, zWd_in 72 (by decide +kernel) rfl, ⟨by decide +kernel, by decide +kernel, by decide +kernel⟩, by decide⟩
abbrev μX4_isSheet : zU := (yX4_isSheet, cX4_isSheet, 1, some .boolean)
set_option maxRecDepth 20000 in
theorem mkX4_isSheet : zMk μX4_isSheet 1 := ⟨zWd_in 323 rfl rfl, zWd_in 72 (by decide +kernel) rfl, ⟨by decide +kernel, by decide +kernel, by decide +kernel⟩, by decide⟩
abbrev μX4_found : zU := (yX4_found, cX4_found, 2, some .int)
set_option maxRecDepth 20000 in
theorem mkX4_found : zMk μX4_found 1 := ⟨zWd_in 327 rfl rfl, zWd_in 72 (by decide +kernel) rfl, ⟨by decide +kernel, by decide +kernel, by decide +kernel⟩, by decide⟩
abbrev μX4_holdsStep : zU := (yX4_holdsStep, cX4_holdsStep, 3, some .boolean)
set_option maxRecDepth 20000 in
theorem mkX4_holdsStep : zMk μX4_holdsStep 2 := ⟨zWd_in 330 rfl rfl, zWd_in 72 (by decide +kernel) rfl, ⟨by decide +kernel, by decide +kernel, by decide +kernel⟩, by decide⟩
abbrev μX4_has : zU := (yX4_has, cX4_has, 3, some .int)
set_option maxRecDepth 20000 in
theorem mkX4_has : zMk μX4_has 2 := ⟨zWd_in 334 rfl rfl, zWd_in 72 (by decide +kernel) rfl, ⟨by decide +kernel, by decide +kernel, by decide +kernel⟩, by decide⟩
abbrev μX4_traitOf : zU := (yX4_traitOf, cX4_traitOf, 3, some .int)
set_option maxRecDepth 20000 in
theorem mkX4_traitOf : zMk μX4_traitOf 2 := ⟨zWd_in 338 rfl rfl, zWd_in 72 (by decide +kernel) rfl, ⟨by decide +kernel, by decide +kernel, by decide +kernel⟩, by decide⟩
abbrev μX4_info : zU := (yX4_info, cX4_info, 5, some .int)
set_option maxRecDepth 20000 in
theorem mkX4_info : zMk μX4_info 3 := ⟨zWd_in 342 rfl rfl, zWd_in 72 (by decide +kernel) rfl, ⟨by decide +kernel, by decide +kernel, by decide +kernel⟩, by decide⟩
abbrev μX0_settle : zU := (yX0_settle, cX0_settle, 2, none)
set_option maxRecDepth 20000 in
theorem mkX0_settle : zMk μX0_settle 0 := ⟨zWd_in 346 rfl rfl, zWd_in 75 (by decide +kernel) rfl, ⟨by decide +kernel, by decide +kernel, by decide +kernel⟩, by decide⟩
abbrev μX2_periodOf : zU := (yX2_periodOf, cX2_periodOf, 2, some .int)
set_option maxRecDepth 20000 in
theorem mkX2_periodOf : zMk μX2_periodOf 1 := ⟨zWd_in 350 rfl rfl, zWd_in 73 (by decide +kernel) rfl, ⟨by decide +kernel, by decide +kernel, by decide +kernel⟩, by decide⟩
abbrev μJ9_max_7cf53 : zU := (yJ9_max_7cf53, cJ9_max_7cf53, 2, some .int)
set_option maxRecDepth 20000 in
theorem mkJ9_max_7cf53 : zMk μJ9_max_7cf53 2 := ⟨zWd_in 353 rfl rfl, zWd_in 79 (by decide +kernel) rfl, ⟨by decide +kernel, by decide +kernel, by decide +kernel⟩, by decide⟩
abbrev μX0_boundAll : zU := (yX0_boundAll, cX0_boundAll, 2, some .boolean)
set_option maxRecDepth 20000 in
theorem mkX0_boundAll : zMk μX0_boundAll 0 := ⟨zWd_in 357 rfl rfl, zWd_in 75 (by decide +kernel) rfl, ⟨by decide +kernel, by decide +kernel, by decide +kernel⟩, by decide⟩
abbrev μX0_placeComings : zU := (yX0_placeComings, cX0_placeComings, 8, none)
set_option maxRecDepth 20000 in
theorem mkX0_placeComings : zMk μX0_placeComings 0 := ⟨zWd_in 361 rfl rfl, zWd_in 75 (by decide +kernel) rfl, ⟨by decide +kernel, by decide +kernel, by decide +kernel⟩, by decide⟩
abbrev μX2_isStep : zU := (yX2_isStep, cX2_isStep, 2, some .boolean)
set_option maxRecDepth 20000 in
theorem mkX2_isStep : zMk μX2_isStep 1 := ⟨zWd_in 365 rfl rfl, zWd_in 73 (by decide +kernel) rfl, ⟨by decide +kernel, by decide +kernel, by decide +kernel⟩, by decide⟩
abbrev μX2_earliestOf : zU := (yX2_earliestOf, cX2_earliestOf, 4, some .int)
set_option maxRecDepth 20000 in
theorem mkX2_earliestOf : zMk μX2_earliestOf 1 := ⟨zWd_in 369 rfl rfl, zWd_in 73 (by decide +kernel) rfl, ⟨by decide +kernel, by decide +kernel, by decide +kernel⟩, by decide⟩
abbrev μJ9_floorMod_7cf53 : zU := (yJ9_floorMod_7cf53, cJ9_floorMod_7cf53, 3, some .int)
set_option maxRecDepth 20000 in
theorem mkJ9_floorMod_7cf53 : zMk μJ9_floorMod_7cf53 2 := ⟨zWd_in 372 rfl rfl, zWd_in 79 (by decide +kernel) rfl, ⟨by decide +kernel, by decide +kernel, by decide +kernel⟩, by decide⟩
abbrev μX0_gatherRivals : zU := (yX0_gatherRivals, cX0_gatherRivals, 4, none)
set_option maxRecDepth 20000 in
theorem mkX0_gatherRivals : zMk μX0_gatherRivals 1 := ⟨zWd_in 376 rfl rfl, zWd_in 75 (by decide +kernel) rfl, ⟨by decide +kernel, by decide +kernel, by decide +kernel⟩, by decide⟩
abbrev μX2_isRival : zU := (yX2_isRival, cX2_isRival, 3, some .boolean)
set_option maxRecDepth 20000 in
theorem mkX2_isRival : zMk μX2_isRival 2 := ⟨zWd_in 380 rfl rfl, zWd_in 73 (by decide +kernel) rfl, ⟨by decide +kernel, by decide +kernel, by decide +kernel⟩, by decide⟩
abbrev μX2_isOverloaded : zU := (yX2_isOverloaded, cX2_isOverloaded, 2, some .boolean)
set_option maxRecDepth 20000 in
theorem mkX2_isOverloaded : zMk μX2_isOverloaded 1 := ⟨zWd_in 385 rfl rfl, zWd_in 73 (by decide +kernel) rfl, ⟨by decide +kernel, by decide +kernel, by decide +kernel⟩, by decide⟩
abbrev μX2_loadAbove : zU := (yX2_loadAbove, cX2_loadAbove, 5, some .int)
set_option maxRecDepth 20000 in
theorem mkX2_loadAbove : zMk μX2_loadAbove 1 := ⟨zWd_in 389 rfl rfl, zWd_in 73 (by decide +kernel) rfl, ⟨by decide +kernel, by decide +kernel, by decide +kernel⟩, by decide⟩
abbrev μX2_loadBelow : zU := (yX2_loadBelow, cX2_loadBelow, 1, some .int)
set_option maxRecDepth 20000 in
theorem mkX2_loadBelow : zMk μX2_loadBelow 0 := ⟨zWd_in 393 rfl rfl, zWd_in 73 (by decide +kernel) rfl, ⟨by decide +kernel, by decide +kernel, by decide +kernel⟩, by decide⟩
abbrev μX0_findLongest : zU := (yX0_findLongest, cX0_findLongest, 14, some .boolean)
set_option maxRecDepth 20000 in
theorem mkX0_findLongest : zMk μX0_findLongest 1 := ⟨zWd_in 399 rfl rfl, zWd_in 75 (by decide +kernel) rfl, ⟨by decide +kernel, by decide +kernel, by decide +kernel⟩, by decide⟩
abbrev μX0_leastTime : zU := (yX0_leastTime, cX0_leastTime, 8, some .int)
set_option maxRecDepth 20000 in
theorem mkX0_leastTime : zMk μX0_leastTime 4 := ⟨zWd_in 403 rfl rfl, zWd_in 75 (by decide +kernel) rfl, ⟨by decide +kernel, by decide +kernel, by decide +kernel⟩, by decide⟩
abbrev μX0_quickNeeded : zU := (yX0_quickNeeded, cX0_quickNeeded, 9, some .int)
set_option maxRecDepth 20000 in
theorem mkX0_quickNeeded : zMk μX0_quickNeeded 3 := ⟨zWd_in 407 rfl rfl, zWd_in 75 (by decide +kernel) rfl, ⟨by decide +kernel, by decide +kernel, by decide +kernel⟩, by decide⟩
abbrev μX0_quickComes : zU := (yX0_quickComes, cX0_quickComes, 4, some .int)
set_option maxRecDepth 20000 in
theorem mkX0_quickComes : zMk μX0_quickComes 2 := ⟨zWd_in 411 rfl rfl, zWd_in 75 (by decide +kernel) rfl, ⟨by decide +kernel, by decide +kernel, by decide +kernel⟩, by decide⟩
abbrev μX0_needed : zU := (yX0_needed, cX0_needed, 12, some .int)
set_option maxRecDepth 20000 in
theorem mkX0_needed : zMk μX0_needed 4 := ⟨zWd_in 415 rfl rfl, zWd_in 75 (by decide +kernel) rfl, ⟨by decide +kernel, by decide +kernel, by decide +kernel⟩, by decide⟩
abbrev μX0_comes : zU := (yX0_comes, cX0_comes, 6, some .int)
set_option maxRecDepth 20000 in
theorem mkX0_comes : zMk μX0_comes 3 := ⟨zWd_in 419 rfl rfl, zWd_in 75 (by decide +kernel) rfl, ⟨by decide +kernel, by decide +kernel, by decide +kernel⟩, by decide⟩
abbrev μX0_work : zU := (yX0_work, cX0_work, 7, some .int)
set_option maxRecDepth 20000 in
theorem mkX0_work : zMk μX0_work 3 := ⟨zWd_in 423 rfl rfl, zWd_in 75 (by decide +kernel) rfl, ⟨by decide +kernel, by decide +kernel, by decide +kernel⟩, by decide⟩
abbrev μX0_passLateness : zU := (yX0_passLateness, cX0_passLateness, 4, some .boolean)
set_option maxRecDepth 20000 in
theorem mkX0_passLateness : zMk μX0_passLateness 0 := ⟨zWd_in 428 rfl rfl, zWd_in 75 (by decide +kernel) rfl, ⟨by decide +kernel, by decide +kernel, by decide +kernel⟩, by decide⟩
abbrev μX4_infoOf : zU := (yX4_infoOf, cX4_infoOf, 3, some .int)
set_option maxRecDepth 20000 in
theorem mkX4_infoOf : zMk μX4_infoOf 2 := ⟨zWd_in 432 rfl rfl, zWd_in 72 (by decide +kernel) rfl, ⟨by decide +kernel, by decide +kernel, by decide +kernel⟩, by decide⟩
abbrev μX0_lateOf : zU := (yX0_lateOf, cX0_lateOf, 2, some .int)
set_option maxRecDepth 20000 in
theorem mkX0_lateOf : zMk μX0_lateOf 1 := ⟨zWd_in 437 rfl rfl, zWd_in 75 (by decide +kernel) rfl, ⟨by decide +kernel, by decide +kernel, by decide +kernel⟩, by decide⟩
abbrev μX2_rivalsOf : zU := (yX2_rivalsOf, cX2_rivalsOf, 4, some .int)
set_option maxRecDepth 20000 in
theorem mkX2_rivalsOf : zMk μX2_rivalsOf 1 := ⟨zWd_in 441 rfl rfl, zWd_in 73 (by decide +kernel) rfl, ⟨by decide +kernel, by decide +kernel, by decide +kernel⟩, by decide⟩
abbrev μX4_load : zU := (yX4_load, cX4_load, 5, some .int)
set_option maxRecDepth 20000 in
theorem mkX4_load : zMk μX4_load 3 := ⟨zWd_in 445 rfl rfl, zWd_in 72 (by decide +kernel) rfl, ⟨by decide +kernel, by decide +kernel, by decide +kernel⟩, by decide⟩
abbrev μX2_loadPart : zU := (yX2_loadPart, cX2_loadPart, 6, some .int)
set_option maxRecDepth 20000 in
theorem mkX2_loadPart : zMk μX2_loadPart 2 := ⟨zWd_in 449 rfl rfl, zWd_in 73 (by decide +kernel) rfl, ⟨by decide +kernel, by decide +kernel, by decide +kernel⟩, by decide⟩
abbrev μX2_greatestDivisor : zU := (yX2_greatestDivisor, cX2_greatestDivisor, 6, some .int)
set_option maxRecDepth 20000 in
theorem mkX2_greatestDivisor : zMk μX2_greatestDivisor 2 := ⟨zWd_in 452 rfl rfl, zWd_in 73 (by decide +kernel) rfl, ⟨by decide +kernel, by decide +kernel, by decide +kernel⟩, by decide⟩
abbrev μX4_bound : zU := (yX4_bound, cX4_bound, 4, some .int)
set_option maxRecDepth 20000 in
theorem mkX4_bound : zMk μX4_bound 2 := ⟨zWd_in 456 rfl rfl, zWd_in 72 (by decide +kernel) rfl, ⟨by decide +kernel, by decide +kernel, by decide +kernel⟩, by decide⟩
abbrev μX0_boundOf : zU := (yX0_boundOf, cX0_boundOf, 2, some .int)
set_option maxRecDepth 20000 in
theorem mkX0_boundOf : zMk μX0_boundOf 1 := ⟨zWd_in 460 rfl rfl, zWd_in 75 (by decide +kernel) rfl, ⟨by decide +kernel, by decide +kernel, by decide +kernel⟩, by decide⟩
abbrev μX4_searched : zU := (yX4_searched, cX4_searched, 4, some .int)
set_option maxRecDepth 20000 in
theorem mkX4_searched : zMk μX4_searched 2 := ⟨zWd_in 464 rfl rfl, zWd_in 72 (by decide +kernel) rfl, ⟨by decide +kernel, by decide +kernel, by decide +kernel⟩, by decide⟩
abbrev μX0_searchedOf : zU := (yX0_searchedOf, cX0_searchedOf, 7, some .int)
set_option maxRecDepth 20000 in
theorem mkX0_searchedOf : zMk μX0_searchedOf 1 := ⟨zWd_in 468 rfl rfl, zWd_in 75 (by decide +kernel) rfl, ⟨by decide +kernel, by decide +kernel, by decide +kernel⟩, by decide⟩
abbrev μX4_quick : zU := (yX4_quick, cX4_quick, 4, some .int)
set_option maxRecDepth 20000 in
theorem mkX4_quick : zMk μX4_quick 2 := ⟨zWd_in 472 rfl rfl, zWd_in 72 (by decide +kernel) rfl, ⟨by decide +kernel, by decide +kernel, by decide +kernel⟩, by decide⟩
abbrev μX0_quickOf : zU := (yX0_quickOf, cX0_quickOf, 9, some .int)
set_option maxRecDepth 20000 in
theorem mkX0_quickOf : zMk μX0_quickOf 1 := ⟨zWd_in 476 rfl rfl, zWd_in 75 (by decide +kernel) rfl, ⟨by decide +kernel, by decide +kernel, by decide +kernel⟩, by decide⟩
abbrev μX4_rounds : zU := (yX4_rounds, cX4_rounds, 1, some .int)
set_option maxRecDepth 20000 in
theorem mkX4_rounds : zMk μX4_rounds 0 := ⟨zWd_in 480 rfl rfl, zWd_in 72 (by decide +kernel) rfl, ⟨by decide +kernel, by decide +kernel, by decide +kernel⟩, by decide⟩
abbrev μX4_worst : zU := (yX4_worst, cX4_worst, 5, some .int)
set_option maxRecDepth 20000 in
theorem mkX4_worst : zMk μX4_worst 3 := ⟨zWd_in 484 rfl rfl, zWd_in 72 (by decide +kernel) rfl, ⟨by decide +kernel, by decide +kernel, by decide +kernel⟩, by decide⟩
abbrev μX0_worstOf : zU := (yX0_worstOf, cX0_worstOf, 3, some .int)
set_option maxRecDepth 20000 in
theorem mkX0_worstOf : zMk μX0_worstOf 2 := ⟨zWd_in 488 rfl rfl, zWd_in 75 (by decide +kernel) rfl, ⟨by decide +kernel, by decide +kernel, by decide +kernel⟩, by decide⟩
abbrev μX4_meets : zU := (yX4_meets, cX4_meets, 1, some .int)
set_option maxRecDepth 20000 in
theorem mkX4_meets : zMk μX4_meets 0 := ⟨zWd_in 492 rfl rfl, zWd_in 72 (by decide +kernel) rfl, ⟨by decide +kernel, by decide +kernel, by decide +kernel⟩, by decide⟩
abbrev μX0_meetingBits : zU := (yX0_meetingBits, cX0_meetingBits, 4, some .int)
set_option maxRecDepth 20000 in
theorem mkX0_meetingBits : zMk μX0_meetingBits 0 := ⟨zWd_in 496 rfl rfl, zWd_in 75 (by decide +kernel) rfl, ⟨by decide +kernel, by decide +kernel, by decide +kernel⟩, by decide⟩
abbrev μX2_dueBits : zU := (yX2_dueBits, cX2_dueBits, 3, some .int)
set_option maxRecDepth 20000 in
theorem mkX2_dueBits : zMk μX2_dueBits 0 := ⟨zWd_in 500 rfl rfl, zWd_in 73 (by decide +kernel) rfl, ⟨by decide +kernel, by decide +kernel, by decide +kernel⟩, by decide⟩
abbrev μX2_lastOf : zU := (yX2_lastOf, cX2_lastOf, 2, some .int)
set_option maxRecDepth 20000 in
theorem mkX2_lastOf : zMk μX2_lastOf 1 := ⟨zWd_in 504 rfl rfl, zWd_in 73 (by decide +kernel) rfl, ⟨by decide +kernel, by decide +kernel, by decide +kernel⟩, by decide⟩
abbrev μX4_margin : zU := (yX4_margin, cX4_margin, 8, some .int)
set_option maxRecDepth 20000 in
theorem mkX4_margin : zMk μX4_margin 2 := ⟨zWd_in 508 rfl rfl, zWd_in 72 (by decide +kernel) rfl, ⟨by decide +kernel, by decide +kernel, by decide +kernel⟩, by decide⟩
abbrev μX4_better : zU := (yX4_better, cX4_better, 11, some .int)
set_option maxRecDepth 20000 in
theorem mkX4_better : zMk μX4_better 3 := ⟨zWd_in 513 rfl rfl, zWd_in 72 (by decide +kernel) rfl, ⟨by decide +kernel, by decide +kernel, by decide +kernel⟩, by decide⟩
abbrev μX4_run : zU := (yX4_run, cX4_run, 2, some .int)
set_option maxRecDepth 20000 in
theorem mkX4_run : zMk μX4_run 1 := ⟨zWd_in 518 rfl rfl, zWd_in 72 (by decide +kernel) rfl, ⟨by decide +kernel, by decide +kernel, by decide +kernel⟩, by decide⟩
abbrev μX1_go : zU := (yX1_go, cX1_go, 6, none)
set_option maxRecDepth 20000 in
theorem mkX1_go : zMk μX1_go 2 := ⟨zWd_in 522 rfl rfl, zWd_in 76 (by decide +kernel) rfl, ⟨by decide +kernel, by decide +kernel, by decide +kernel⟩, by decide⟩
abbrev μX1_firstReady : zU := (yX1_firstReady, cX1_firstReady, 4, some .int)
set_option maxRecDepth 20000 in
theorem mkX1_firstReady : zMk μX1_firstReady 3 := ⟨zWd_in 525 rfl rfl, zWd_in 76 (by decide +kernel) rfl, ⟨by decide +kernel, by decide +kernel, by decide +kernel⟩, by decide⟩
abbrev μX1_released : zU := (yX1_released, cX1_released, 3, some .int)
set_option maxRecDepth 20000 in
theorem mkX1_released : zMk μX1_released 3 := ⟨zWd_in 529 rfl rfl, zWd_in 76 (by decide +kernel) rfl, ⟨by decide +kernel, by decide +kernel, by decide +kernel⟩, by decide⟩
abbrev μX1_mostUrgent : zU := (yX1_mostUrgent, cX1_mostUrgent, 6, some .int)
set_option maxRecDepth 20000 in
theorem mkX1_mostUrgent : zMk μX1_mostUrgent 3 := ⟨zWd_in 533 rfl rfl, zWd_in 76 (by decide +kernel) rfl, ⟨by decide +kernel, by decide +kernel, by decide +kernel⟩, by decide⟩
abbrev μX1_isReady : zU := (yX1_isReady, cX1_isReady, 5, some .boolean)
set_option maxRecDepth 20000 in
theorem mkX1_isReady : zMk μX1_isReady 3 := ⟨zWd_in 538 rfl rfl, zWd_in 76 (by decide +kernel) rfl, ⟨by decide +kernel, by decide +kernel, by decide +kernel⟩, by decide⟩
abbrev μX1_doTick : zU := (yX1_doTick, cX1_doTick, 7, none)
set_option maxRecDepth 20000 in
theorem mkX1_doTick : zMk μX1_doTick 3 := ⟨zWd_in 542 rfl rfl, zWd_in 76 (by decide +kernel) rfl, ⟨by decide +kernel, by decide +kernel, by decide +kernel⟩, by decide⟩
abbrev μJ9_min_7cf53 : zU := (yJ9_min_7cf53, cJ9_min_7cf53, 2, some .int)
set_option maxRecDepth 20000 in
theorem mkJ9_min_7cf53 : zMk μJ9_min_7cf53 2 := ⟨zWd_in 545 rfl rfl, zWd_in 79 (by decide +kernel) rfl, ⟨by decide +kernel, by decide +kernel, by decide +kernel⟩, by decide⟩
abbrev μX4_seen : zU := (yX4_seen, cX4_seen, 5, some .int)
set_option maxRecDepth 20000 in
theorem mkX4_seen : zMk μX4_seen 3 := ⟨zWd_in 549 rfl rfl, zWd_in 72 (by decide +kernel) rfl, ⟨by decide +kernel, by decide +kernel, by decide +kernel⟩, by decide⟩
abbrev μX1_seenOf : zU := (yX1_seenOf, cX1_seenOf, 3, some .int)
set_option maxRecDepth 20000 in
theorem mkX1_seenOf : zMk μX1_seenOf 2 := ⟨zWd_in 553 rfl rfl, zWd_in 76 (by decide +kernel) rfl, ⟨by decide +kernel, by decide +kernel, by decide +kernel⟩, by decide⟩
abbrev μX4_tick : zU := (yX4_tick, cX4_tick, 3, some .int)
set_option maxRecDepth 20000 in
theorem mkX4_tick : zMk μX4_tick 2 := ⟨zWd_in 557 rfl rfl, zWd_in 72 (by decide +kernel) rfl, ⟨by decide +kernel, by decide +kernel, by decide +kernel⟩, by decide⟩
abbrev μX4_sheet : zU := (yX4_sheet, cX4_sheet, 4, some .int)
set_option maxRecDepth 20000 in
theorem mkX4_sheet : zMk μX4_sheet 3 := ⟨zWd_in 561 rfl rfl, zWd_in 72 (by decide +kernel) rfl, ⟨by decide +kernel, by decide +kernel, by decide +kernel⟩, by decide⟩
abbrev μX4_isForm : zU := (yX4_isForm, cX4_isForm, 1, some .boolean)
set_option maxRecDepth 20000 in
theorem mkX4_isForm : zMk μX4_isForm 1 := ⟨zWd_in 564 rfl rfl, zWd_in 72 (by decide +kernel) rfl, ⟨by decide +kernel, by decide +kernel, by decide +kernel⟩, by decide⟩
abbrev μX3_begin : zU := (yX3_begin, cX3_begin, 3, none)
set_option maxRecDepth 20000 in
theorem mkX3_begin : zMk μX3_begin 2 := ⟨zWd_in 568 rfl rfl, zWd_in 77 (by decide +kernel) rfl, ⟨by decide +kernel, by decide +kernel, by decide +kernel⟩, by decide⟩
abbrev μJ7_fill_d0a16 : zU := (yJ7_fill_d0a16, cJ7_fill_d0a16, 5, none)
set_option maxRecDepth 20000 in
theorem mkJ7_fill_d0a16 : zMk μJ7_fill_d0a16 2 := ⟨zWd_in 571 rfl rfl, zWd_in 74 (by decide +kernel) rfl, ⟨by decide +kernel, by decide +kernel, by decide +kernel⟩, by decide⟩
abbrev μX4_lose : zU := (yX4_lose, cX4_lose, 2, some .int)
set_option maxRecDepth 20000 in
theorem mkX4_lose : zMk μX4_lose 1 := ⟨zWd_in 575 rfl rfl, zWd_in 72 (by decide +kernel) rfl, ⟨by decide +kernel, by decide +kernel, by decide +kernel⟩, by decide⟩
abbrev μX4_lay : zU := (yX4_lay, cX4_lay, 6, some .int)
set_option maxRecDepth 20000 in
theorem mkX4_lay : zMk μX4_lay 4 := ⟨zWd_in 579 rfl rfl, zWd_in 72 (by decide +kernel) rfl, ⟨by decide +kernel, by decide +kernel, by decide +kernel⟩, by decide⟩
abbrev μX3_troubleAt : zU := (yX3_troubleAt, cX3_troubleAt, 3, some .int)
set_option maxRecDepth 20000 in
theorem mkX3_troubleAt : zMk μX3_troubleAt 2 := ⟨zWd_in 583 rfl rfl, zWd_in 77 (by decide +kernel) rfl, ⟨by decide +kernel, by decide +kernel, by decide +kernel⟩, by decide⟩
abbrev μX3_put : zU := (yX3_put, cX3_put, 4, none)
set_option maxRecDepth 20000 in
theorem mkX3_put : zMk μX3_put 2 := ⟨zWd_in 589 rfl rfl, zWd_in 77 (by decide +kernel) rfl, ⟨by decide +kernel, by decide +kernel, by decide +kernel⟩, by decide⟩
abbrev μX4_get : zU := (yX4_get, cX4_get, 5, some .long)
set_option maxRecDepth 20000 in
theorem mkX4_get : zMk μX4_get 3 := ⟨zWd_in 593 rfl rfl, zWd_in 72 (by decide +kernel) rfl, ⟨by decide +kernel, by decide +kernel, by decide +kernel⟩, by decide⟩
abbrev μX4_copy : zU := (yX4_copy, cX4_copy, 8, some .int)
set_option maxRecDepth 20000 in
theorem mkX4_copy : zMk μX4_copy 5 := ⟨zWd_in 599 rfl rfl, zWd_in 72 (by decide +kernel) rfl, ⟨by decide +kernel, by decide +kernel, by decide +kernel⟩, by decide⟩
abbrev μX3_hasRange : zU := (yX3_hasRange, cX3_hasRange, 3, some .boolean)
set_option maxRecDepth 20000 in
theorem mkX3_hasRange : zMk μX3_hasRange 2 := ⟨zWd_in 603 rfl rfl, zWd_in 77 (by decide +kernel) rfl, ⟨by decide +kernel, by decide +kernel, by decide +kernel⟩, by decide⟩
abbrev μX4_write : zU := (yX4_write, cX4_write, 5, some .int)
set_option maxRecDepth 20000 in
theorem mkX4_write : zMk μX4_write 1 := ⟨zWd_in 610 rfl rfl, zWd_in 72 (by decide +kernel) rfl, ⟨by decide +kernel, by decide +kernel, by decide +kernel⟩, by decide⟩
abbrev μX4_count : zU := (yX4_count, cX4_count, 2, some .int)
set_option maxRecDepth 20000 in
theorem mkX4_count : zMk μX4_count 1 := ⟨zWd_in 615 rfl rfl, zWd_in 72 (by decide +kernel) rfl, ⟨by decide +kernel, by decide +kernel, by decide +kernel⟩, by decide⟩
abbrev μX4_countOf : zU := (yX4_countOf, cX4_countOf, 2, some .int)
set_option maxRecDepth 20000 in
theorem mkX4_countOf : zMk μX4_countOf 1 := ⟨zWd_in 619 rfl rfl, zWd_in 72 (by decide +kernel) rfl, ⟨by decide +kernel, by decide +kernel, by decide +kernel⟩, by decide⟩
abbrev μX2_stepsInAll : zU := (yX2_stepsInAll, cX2_stepsInAll, 1, some .int)
set_option maxRecDepth 20000 in
theorem mkX2_stepsInAll : zMk μX2_stepsInAll 0 := ⟨zWd_in 623 rfl rfl, zWd_in 73 (by decide +kernel) rfl, ⟨by decide +kernel, by decide +kernel, by decide +kernel⟩, by decide⟩
abbrev μJ6_bitCount_0f7a4 : zU := (yJ6_bitCount_0f7a4, cJ6_bitCount_0f7a4, 1, some .int)
set_option maxRecDepth 20000 in
theorem mkJ6_bitCount_0f7a4 : zMk μJ6_bitCount_0f7a4 1 := ⟨zWd_in 626 rfl rfl, zWd_in 81 (by decide +kernel) rfl, ⟨by decide +kernel, by decide +kernel, by decide +kernel⟩, by decide⟩
abbrev μX2_overloadedSteps : zU := (yX2_overloadedSteps, cX2_overloadedSteps, 3, some .int)
set_option maxRecDepth 20000 in
theorem mkX2_overloadedSteps : zMk μX2_overloadedSteps 0 := ⟨zWd_in 633 rfl rfl, zWd_in 73 (by decide +kernel) rfl, ⟨by decide +kernel, by decide +kernel, by decide +kernel⟩, by decide⟩
abbrev μX4_digest : zU := (yX4_digest, cX4_digest, 5, some .long)
set_option maxRecDepth 20000 in
theorem mkX4_digest : zMk μX4_digest 0 := ⟨zWd_in 638 rfl rfl, zWd_in 72 (by decide +kernel) rfl, ⟨by decide +kernel, by decide +kernel, by decide +kernel⟩, by decide⟩
abbrev μX4_withStep : zU := (yX4_withStep, cX4_withStep, 7, some .long)
set_option maxRecDepth 20000 in
theorem mkX4_withStep : zMk μX4_withStep 2 := ⟨zWd_in 644 rfl rfl, zWd_in 72 (by decide +kernel) rfl, ⟨by decide +kernel, by decide +kernel, by decide +kernel⟩, by decide⟩
abbrev μX5_init : zU := (yX5_init, cX5_init, 2, none)
set_option maxRecDepth 20000 in
theorem mkX5_init : zMk μX5_init 0 := ⟨zWd_in 649 rfl rfl, zWd_in 78 (by decide +kernel) rfl, ⟨by decide +kernel, by decide +kernel, by decide +kernel⟩, by decide⟩
abbrev μX5_sheet : zU := (yX5_sheet, cX5_sheet, 5, some .int)
set_option maxRecDepth 20000 in
theorem mkX5_sheet : zMk μX5_sheet 3 := ⟨zWd_in 763 rfl rfl, zWd_in 78 (by decide +kernel) rfl, ⟨by decide +kernel, by decide +kernel, by decide +kernel⟩, by decide⟩
abbrev μX5_isSheet : zU := (yX5_isSheet, cX5_isSheet, 1, some .boolean)
set_option maxRecDepth 20000 in
theorem mkX5_isSheet : zMk μX5_isSheet 1 := ⟨zWd_in 766 rfl rfl, zWd_in 78 (by decide +kernel) rfl, ⟨by decide +kernel, by decide +kernel, by decide +kernel⟩, by decide⟩
abbrev μX5_in : zU := (yX5_in, cX5_in, 6, some .boolean)
set_option maxRecDepth 20000 in
theorem mkX5_in : zMk μX5_in 3 := ⟨zWd_in 770 rfl rfl, zWd_in 78 (by decide +kernel) rfl, ⟨by decide +kernel, by decide +kernel, by decide +kernel⟩, by decide⟩
abbrev μX5_finds : zU := (yX5_finds, cX5_finds, 2, some .int)
set_option maxRecDepth 20000 in
theorem mkX5_finds : zMk μX5_finds 1 := ⟨zWd_in 775 rfl rfl, zWd_in 78 (by decide +kernel) rfl, ⟨by decide +kernel, by decide +kernel, by decide +kernel⟩, by decide⟩
abbrev μX5_lose : zU := (yX5_lose, cX5_lose, 2, some .int)
set_option maxRecDepth 20000 in
theorem mkX5_lose : zMk μX5_lose 1 := ⟨zWd_in 779 rfl rfl, zWd_in 78 (by decide +kernel) rfl, ⟨by decide +kernel, by decide +kernel, by decide +kernel⟩, by decide⟩
abbrev μX5_lay : zU := (yX5_lay, cX5_lay, 6, some .int)
set_option maxRecDepth 20000 in
theorem mkX5_lay : zMk μX5_lay 4 := ⟨zWd_in 783 rfl rfl, zWd_in 78 (by decide +kernel) rfl, ⟨by decide +kernel, by decide +kernel, by decide +kernel⟩, by decide⟩
abbrev μX5_lacks : zU := (yX5_lacks, cX5_lacks, 4, some .int)
set_option maxRecDepth 20000 in
theorem mkX5_lacks : zMk μX5_lacks 3 := ⟨zWd_in 787 rfl rfl, zWd_in 78 (by decide +kernel) rfl, ⟨by decide +kernel, by decide +kernel, by decide +kernel⟩, by decide⟩
abbrev μX5_get : zU := (yX5_get, cX5_get, 5, some .long)
set_option maxRecDepth 20000 in
theorem mkX5_get : zMk μX5_get 3 := ⟨zWd_in 792 rfl rfl, zWd_in 78 (by decide +kernel) rfl, ⟨by decide +kernel, by decide +kernel, by decide +kernel⟩, by decide⟩
abbrev μX5_no : zU := (yX5_no, cX5_no, 1, some .long)
set_option maxRecDepth 20000 in
theorem mkX5_no : zMk μX5_no 1 := ⟨zWd_in 795 rfl rfl, zWd_in 78 (by decide +kernel) rfl, ⟨by decide +kernel, by decide +kernel, by decide +kernel⟩, by decide⟩
abbrev μX5_copy : zU := (yX5_copy, cX5_copy, 7, some .int)
set_option maxRecDepth 20000 in
theorem mkX5_copy : zMk μX5_copy 5 := ⟨zWd_in 800 rfl rfl, zWd_in 78 (by decide +kernel) rfl, ⟨by decide +kernel, by decide +kernel, by decide +kernel⟩, by decide⟩
abbrev μX5_chain : zU := (yX5_chain, cX5_chain, 5, some .int)
set_option maxRecDepth 20000 in
theorem mkX5_chain : zMk μX5_chain 3 := ⟨zWd_in 804 rfl rfl, zWd_in 78 (by decide +kernel) rfl, ⟨by decide +kernel, by decide +kernel, by decide +kernel⟩, by decide⟩
abbrev μX5_isChain : zU := (yX5_isChain, cX5_isChain, 1, some .boolean)
set_option maxRecDepth 20000 in
theorem mkX5_isChain : zMk μX5_isChain 1 := ⟨zWd_in 807 rfl rfl, zWd_in 78 (by decide +kernel) rfl, ⟨by decide +kernel, by decide +kernel, by decide +kernel⟩, by decide⟩
abbrev μX5_mayChain : zU := (yX5_mayChain, cX5_mayChain, 2, some .boolean)
set_option maxRecDepth 20000 in
theorem mkX5_mayChain : zMk μX5_mayChain 2 := ⟨zWd_in 810 rfl rfl, zWd_in 78 (by decide +kernel) rfl, ⟨by decide +kernel, by decide +kernel, by decide +kernel⟩, by decide⟩
abbrev μX5_hasBy : zU := (yX5_hasBy, cX5_hasBy, 3, some .int)
set_option maxRecDepth 20000 in
theorem mkX5_hasBy : zMk μX5_hasBy 2 := ⟨zWd_in 820 rfl rfl, zWd_in 78 (by decide +kernel) rfl, ⟨by decide +kernel, by decide +kernel, by decide +kernel⟩, by decide⟩
abbrev μX5_step : zU := (yX5_step, cX5_step, 7, some .int)
set_option maxRecDepth 20000 in
theorem mkX5_step : zMk μX5_step 5 := ⟨zWd_in 824 rfl rfl, zWd_in 78 (by decide +kernel) rfl, ⟨by decide +kernel, by decide +kernel, by decide +kernel⟩, by decide⟩
abbrev μX5_mayStep : zU := (yX5_mayStep, cX5_mayStep, 3, some .boolean)
set_option maxRecDepth 20000 in
theorem mkX5_mayStep : zMk μX5_mayStep 2 := ⟨zWd_in 827 rfl rfl, zWd_in 78 (by decide +kernel) rfl, ⟨by decide +kernel, by decide +kernel, by decide +kernel⟩, by decide⟩
abbrev μX5_tells : zU := (yX5_tells, cX5_tells, 4, none)
set_option maxRecDepth 20000 in
theorem mkX5_tells : zMk μX5_tells 3 := ⟨zWd_in 832 rfl rfl, zWd_in 78 (by decide +kernel) rfl, ⟨by decide +kernel, by decide +kernel, by decide +kernel⟩, by decide⟩
abbrev μX5_back : zU := (yX5_back, cX5_back, 2, some .int)
set_option maxRecDepth 20000 in
theorem mkX5_back : zMk μX5_back 1 := ⟨zWd_in 836 rfl rfl, zWd_in 78 (by decide +kernel) rfl, ⟨by decide +kernel, by decide +kernel, by decide +kernel⟩, by decide⟩
abbrev μX5_tune : zU := (yX5_tune, cX5_tune, 6, some .int)
set_option maxRecDepth 20000 in
theorem mkX5_tune : zMk μX5_tune 4 := ⟨zWd_in 840 rfl rfl, zWd_in 78 (by decide +kernel) rfl, ⟨by decide +kernel, by decide +kernel, by decide +kernel⟩, by decide⟩
abbrev μX5_isStep : zU := (yX5_isStep, cX5_isStep, 3, some .boolean)
set_option maxRecDepth 20000 in
theorem mkX5_isStep : zMk μX5_isStep 2 := ⟨zWd_in 844 rfl rfl, zWd_in 78 (by decide +kernel) rfl, ⟨by decide +kernel, by decide +kernel, by decide +kernel⟩, by decide⟩
abbrev μX5_toldBy : zU := (yX5_toldBy, cX5_toldBy, 3, some .int)
set_option maxRecDepth 20000 in
theorem mkX5_toldBy : zMk μX5_toldBy 2 := ⟨zWd_in 848 rfl rfl, zWd_in 78 (by decide +kernel) rfl, ⟨by decide +kernel, by decide +kernel, by decide +kernel⟩, by decide⟩
abbrev μX5_read : zU := (yX5_read, cX5_read, 7, some .int)
set_option maxRecDepth 20000 in
theorem mkX5_read : zMk μX5_read 2 := ⟨zWd_in 852 rfl rfl, zWd_in 78 (by decide +kernel) rfl, ⟨by decide +kernel, by decide +kernel, by decide +kernel⟩, by decide⟩
abbrev μX5_has : zU := (yX5_has, cX5_has, 3, some .int)
set_option maxRecDepth 20000 in
theorem mkX5_has : zMk μX5_has 2 := ⟨zWd_in 856 rfl rfl, zWd_in 78 (by decide +kernel) rfl, ⟨by decide +kernel, by decide +kernel, by decide +kernel⟩, by decide⟩
abbrev μX5_load : zU := (yX5_load, cX5_load, 4, some .int)
set_option maxRecDepth 20000 in
theorem mkX5_load : zMk μX5_load 3 := ⟨zWd_in 860 rfl rfl, zWd_in 78 (by decide +kernel) rfl, ⟨by decide +kernel, by decide +kernel, by decide +kernel⟩, by decide⟩
abbrev μX5_isTwo : zU := (yX5_isTwo, cX5_isTwo, 1, some .boolean)
set_option maxRecDepth 20000 in
theorem mkX5_isTwo : zMk μX5_isTwo 1 := ⟨zWd_in 863 rfl rfl, zWd_in 78 (by decide +kernel) rfl, ⟨by decide +kernel, by decide +kernel, by decide +kernel⟩, by decide⟩
abbrev μX5_loadBy : zU := (yX5_loadBy, cX5_loadBy, 3, some .int)
set_option maxRecDepth 20000 in
theorem mkX5_loadBy : zMk μX5_loadBy 2 := ⟨zWd_in 867 rfl rfl, zWd_in 78 (by decide +kernel) rfl, ⟨by decide +kernel, by decide +kernel, by decide +kernel⟩, by decide⟩
abbrev μX5_loads : zU := (yX5_loads, cX5_loads, 9, none)
set_option maxRecDepth 20000 in
theorem mkX5_loads : zMk μX5_loads 1 := ⟨zWd_in 871 rfl rfl, zWd_in 78 (by decide +kernel) rfl, ⟨by decide +kernel, by decide +kernel, by decide +kernel⟩, by decide⟩
abbrev μX5_isRival : zU := (yX5_isRival, cX5_isRival, 3, some .boolean)
set_option maxRecDepth 20000 in
theorem mkX5_isRival : zMk μX5_isRival 2 := ⟨zWd_in 875 rfl rfl, zWd_in 78 (by decide +kernel) rfl, ⟨by decide +kernel, by decide +kernel, by decide +kernel⟩, by decide⟩
abbrev μX5_isThere : zU := (yX5_isThere, cX5_isThere, 2, some .boolean)
set_option maxRecDepth 20000 in
theorem mkX5_isThere : zMk μX5_isThere 1 := ⟨zWd_in 879 rfl rfl, zWd_in 78 (by decide +kernel) rfl, ⟨by decide +kernel, by decide +kernel, by decide +kernel⟩, by decide⟩
abbrev μX5_info : zU := (yX5_info, cX5_info, 4, some .int)
set_option maxRecDepth 20000 in
theorem mkX5_info : zMk μX5_info 3 := ⟨zWd_in 883 rfl rfl, zWd_in 78 (by decide +kernel) rfl, ⟨by decide +kernel, by decide +kernel, by decide +kernel⟩, by decide⟩
abbrev μX5_settles : zU := (yX5_settles, cX5_settles, 6, none)
set_option maxRecDepth 20000 in
theorem mkX5_settles : zMk μX5_settles 0 := ⟨zWd_in 888 rfl rfl, zWd_in 78 (by decide +kernel) rfl, ⟨by decide +kernel, by decide +kernel, by decide +kernel⟩, by decide⟩
abbrev μX5_picksAll : zU := (yX5_picksAll, cX5_picksAll, 2, none)
set_option maxRecDepth 20000 in
theorem mkX5_picksAll : zMk μX5_picksAll 0 := ⟨zWd_in 892 rfl rfl, zWd_in 78 (by decide +kernel) rfl, ⟨by decide +kernel, by decide +kernel, by decide +kernel⟩, by decide⟩
abbrev μX5_boundsAll : zU := (yX5_boundsAll, cX5_boundsAll, 2, some .boolean)
set_option maxRecDepth 20000 in
theorem mkX5_boundsAll : zMk μX5_boundsAll 0 := ⟨zWd_in 896 rfl rfl, zWd_in 78 (by decide +kernel) rfl, ⟨by decide +kernel, by decide +kernel, by decide +kernel⟩, by decide⟩
abbrev μX5_isOver : zU := (yX5_isOver, cX5_isOver, 2, some .boolean)
set_option maxRecDepth 20000 in
theorem mkX5_isOver : zMk μX5_isOver 1 := ⟨zWd_in 900 rfl rfl, zWd_in 78 (by decide +kernel) rfl, ⟨by decide +kernel, by decide +kernel, by decide +kernel⟩, by decide⟩
abbrev μX5_answers : zU := (yX5_answers, cX5_answers, 5, some .boolean)
set_option maxRecDepth 20000 in
theorem mkX5_answers : zMk μX5_answers 1 := ⟨zWd_in 904 rfl rfl, zWd_in 78 (by decide +kernel) rfl, ⟨by decide +kernel, by decide +kernel, by decide +kernel⟩, by decide⟩
abbrev μX5_holds : zU := (yX5_holds, cX5_holds, 7, some .int)
set_option maxRecDepth 20000 in
theorem mkX5_holds : zMk μX5_holds 3 := ⟨zWd_in 908 rfl rfl, zWd_in 78 (by decide +kernel) rfl, ⟨by decide +kernel, by decide +kernel, by decide +kernel⟩, by decide⟩
abbrev μX5_comes : zU := (yX5_comes, cX5_comes, 6, some .int)
set_option maxRecDepth 20000 in
theorem mkX5_comes : zMk μX5_comes 3 := ⟨zWd_in 912 rfl rfl, zWd_in 78 (by decide +kernel) rfl, ⟨by decide +kernel, by decide +kernel, by decide +kernel⟩, by decide⟩
abbrev μX5_phi : zU := (yX5_phi, cX5_phi, 5, some .int)
set_option maxRecDepth 20000 in
theorem mkX5_phi : zMk μX5_phi 2 := ⟨zWd_in 916 rfl rfl, zWd_in 78 (by decide +kernel) rfl, ⟨by decide +kernel, by decide +kernel, by decide +kernel⟩, by decide⟩
abbrev μX5_earliest : zU := (yX5_earliest, cX5_earliest, 4, some .int)
set_option maxRecDepth 20000 in
theorem mkX5_earliest : zMk μX5_earliest 1 := ⟨zWd_in 920 rfl rfl, zWd_in 78 (by decide +kernel) rfl, ⟨by decide +kernel, by decide +kernel, by decide +kernel⟩, by decide⟩
abbrev μX5_up : zU := (yX5_up, cX5_up, 2, some .int)
set_option maxRecDepth 20000 in
theorem mkX5_up : zMk μX5_up 2 := ⟨zWd_in 923 rfl rfl, zWd_in 78 (by decide +kernel) rfl, ⟨by decide +kernel, by decide +kernel, by decide +kernel⟩, by decide⟩
abbrev μX5_work : zU := (yX5_work, cX5_work, 6, some .int)
set_option maxRecDepth 20000 in
theorem mkX5_work : zMk μX5_work 3 := ⟨zWd_in 927 rfl rfl, zWd_in 78 (by decide +kernel) rfl, ⟨by decide +kernel, by decide +kernel, by decide +kernel⟩, by decide⟩
abbrev μX5_others : zU := (yX5_others, cX5_others, 7, some .int)
set_option maxRecDepth 20000 in
theorem mkX5_others : zMk μX5_others 2 := ⟨zWd_in 931 rfl rfl, zWd_in 78 (by decide +kernel) rfl, ⟨by decide +kernel, by decide +kernel, by decide +kernel⟩, by decide⟩
abbrev μX5_greater : zU := (yX5_greater, cX5_greater, 2, some .int)
set_option maxRecDepth 20000 in
theorem mkX5_greater : zMk μX5_greater 2 := ⟨zWd_in 934 rfl rfl, zWd_in 78 (by decide +kernel) rfl, ⟨by decide +kernel, by decide +kernel, by decide +kernel⟩, by decide⟩
abbrev μX5_answersBy : zU := (yX5_answersBy, cX5_answersBy, 11, some .boolean)
set_option maxRecDepth 20000 in
theorem mkX5_answersBy : zMk μX5_answersBy 3 := ⟨zWd_in 938 rfl rfl, zWd_in 78 (by decide +kernel) rfl, ⟨by decide +kernel, by decide +kernel, by decide +kernel⟩, by decide⟩
abbrev μX5_infoBy : zU := (yX5_infoBy, cX5_infoBy, 3, some .int)
set_option maxRecDepth 20000 in
theorem mkX5_infoBy : zMk μX5_infoBy 2 := ⟨zWd_in 942 rfl rfl, zWd_in 78 (by decide +kernel) rfl, ⟨by decide +kernel, by decide +kernel, by decide +kernel⟩, by decide⟩
abbrev μX5_rivals : zU := (yX5_rivals, cX5_rivals, 4, some .int)
set_option maxRecDepth 20000 in
theorem mkX5_rivals : zMk μX5_rivals 1 := ⟨zWd_in 946 rfl rfl, zWd_in 78 (by decide +kernel) rfl, ⟨by decide +kernel, by decide +kernel, by decide +kernel⟩, by decide⟩
abbrev μX5_bound : zU := (yX5_bound, cX5_bound, 3, some .int)
set_option maxRecDepth 20000 in
theorem mkX5_bound : zMk μX5_bound 2 := ⟨zWd_in 950 rfl rfl, zWd_in 78 (by decide +kernel) rfl, ⟨by decide +kernel, by decide +kernel, by decide +kernel⟩, by decide⟩
abbrev μX5_boundBy : zU := (yX5_boundBy, cX5_boundBy, 2, some .int)
set_option maxRecDepth 20000 in
theorem mkX5_boundBy : zMk μX5_boundBy 1 := ⟨zWd_in 954 rfl rfl, zWd_in 78 (by decide +kernel) rfl, ⟨by decide +kernel, by decide +kernel, by decide +kernel⟩, by decide⟩
abbrev μX5_searched : zU := (yX5_searched, cX5_searched, 3, some .int)
set_option maxRecDepth 20000 in
theorem mkX5_searched : zMk μX5_searched 2 := ⟨zWd_in 958 rfl rfl, zWd_in 78 (by decide +kernel) rfl, ⟨by decide +kernel, by decide +kernel, by decide +kernel⟩, by decide⟩
abbrev μX5_searchedBy : zU := (yX5_searchedBy, cX5_searchedBy, 9, some .int)
set_option maxRecDepth 20000 in
theorem mkX5_searchedBy : zMk μX5_searchedBy 1 := ⟨zWd_in 962 rfl rfl, zWd_in 78 (by decide +kernel) rfl, ⟨by decide +kernel, by decide +kernel, by decide +kernel⟩, by decide⟩
abbrev μX5_momentOf : zU := (yX5_momentOf, cX5_momentOf, 6, some .int)
set_option maxRecDepth 20000 in
theorem mkX5_momentOf : zMk μX5_momentOf 3 := ⟨zWd_in 966 rfl rfl, zWd_in 78 (by decide +kernel) rfl, ⟨by decide +kernel, by decide +kernel, by decide +kernel⟩, by decide⟩
abbrev μX5_quick : zU := (yX5_quick, cX5_quick, 3, some .int)
set_option maxRecDepth 20000 in
theorem mkX5_quick : zMk μX5_quick 2 := ⟨zWd_in 970 rfl rfl, zWd_in 78 (by decide +kernel) rfl, ⟨by decide +kernel, by decide +kernel, by decide +kernel⟩, by decide⟩
abbrev μX5_quickBy : zU := (yX5_quickBy, cX5_quickBy, 7, some .int)
set_option maxRecDepth 20000 in
theorem mkX5_quickBy : zMk μX5_quickBy 1 := ⟨zWd_in 974 rfl rfl, zWd_in 78 (by decide +kernel) rfl, ⟨by decide +kernel, by decide +kernel, by decide +kernel⟩, by decide⟩
abbrev μX5_holdsQuick : zU := (yX5_holdsQuick, cX5_holdsQuick, 7, some .int)
set_option maxRecDepth 20000 in
theorem mkX5_holdsQuick : zMk μX5_holdsQuick 2 := ⟨zWd_in 978 rfl rfl, zWd_in 78 (by decide +kernel) rfl, ⟨by decide +kernel, by decide +kernel, by decide +kernel⟩, by decide⟩
abbrev μX5_comesQuick : zU := (yX5_comesQuick, cX5_comesQuick, 3, some .int)
set_option maxRecDepth 20000 in
theorem mkX5_comesQuick : zMk μX5_comesQuick 2 := ⟨zWd_in 982 rfl rfl, zWd_in 78 (by decide +kernel) rfl, ⟨by decide +kernel, by decide +kernel, by decide +kernel⟩, by decide⟩
abbrev μX5_rounds : zU := (yX5_rounds, cX5_rounds, 1, some .int)
set_option maxRecDepth 20000 in
theorem mkX5_rounds : zMk μX5_rounds 0 := ⟨zWd_in 986 rfl rfl, zWd_in 78 (by decide +kernel) rfl, ⟨by decide +kernel, by decide +kernel, by decide +kernel⟩, by decide⟩
abbrev μX5_roundsNow : zU := (yX5_roundsNow, cX5_roundsNow, 1, some .int)
set_option maxRecDepth 20000 in
theorem mkX5_roundsNow : zMk μX5_roundsNow 0 := ⟨zWd_in 990 rfl rfl, zWd_in 78 (by decide +kernel) rfl, ⟨by decide +kernel, by decide +kernel, by decide +kernel⟩, by decide⟩
abbrev μX5_worst : zU := (yX5_worst, cX5_worst, 4, some .int)
set_option maxRecDepth 20000 in
theorem mkX5_worst : zMk μX5_worst 3 := ⟨zWd_in 994 rfl rfl, zWd_in 78 (by decide +kernel) rfl, ⟨by decide +kernel, by decide +kernel, by decide +kernel⟩, by decide⟩
abbrev μX5_worstBy : zU := (yX5_worstBy, cX5_worstBy, 3, some .int)
set_option maxRecDepth 20000 in
theorem mkX5_worstBy : zMk μX5_worstBy 2 := ⟨zWd_in 998 rfl rfl, zWd_in 78 (by decide +kernel) rfl, ⟨by decide +kernel, by decide +kernel, by decide +kernel⟩, by decide⟩
abbrev μX5_meets : zU := (yX5_meets, cX5_meets, 1, some .int)
set_option maxRecDepth 20000 in
theorem mkX5_meets : zMk μX5_meets 0 := ⟨zWd_in 1002 rfl rfl, zWd_in 78 (by decide +kernel) rfl, ⟨by decide +kernel, by decide +kernel, by decide +kernel⟩, by decide⟩
abbrev μX5_meetsNow : zU := (yX5_meetsNow, cX5_meetsNow, 3, some .int)
set_option maxRecDepth 20000 in
theorem mkX5_meetsNow : zMk μX5_meetsNow 0 := ⟨zWd_in 1006 rfl rfl, zWd_in 78 (by decide +kernel) rfl, ⟨by decide +kernel, by decide +kernel, by decide +kernel⟩, by decide⟩
abbrev μX5_isMet : zU := (yX5_isMet, cX5_isMet, 2, some .boolean)
set_option maxRecDepth 20000 in
theorem mkX5_isMet : zMk μX5_isMet 1 := ⟨zWd_in 1010 rfl rfl, zWd_in 78 (by decide +kernel) rfl, ⟨by decide +kernel, by decide +kernel, by decide +kernel⟩, by decide⟩
abbrev μX5_isAsked : zU := (yX5_isAsked, cX5_isAsked, 2, some .boolean)
set_option maxRecDepth 20000 in
theorem mkX5_isAsked : zMk μX5_isAsked 1 := ⟨zWd_in 1014 rfl rfl, zWd_in 78 (by decide +kernel) rfl, ⟨by decide +kernel, by decide +kernel, by decide +kernel⟩, by decide⟩
abbrev μX5_margin : zU := (yX5_margin, cX5_margin, 3, some .int)
set_option maxRecDepth 20000 in
theorem mkX5_margin : zMk μX5_margin 2 := ⟨zWd_in 1018 rfl rfl, zWd_in 78 (by decide +kernel) rfl, ⟨by decide +kernel, by decide +kernel, by decide +kernel⟩, by decide⟩
abbrev μX5_marginBy : zU := (yX5_marginBy, cX5_marginBy, 5, some .int)
set_option maxRecDepth 20000 in
theorem mkX5_marginBy : zMk μX5_marginBy 1 := ⟨zWd_in 1022 rfl rfl, zWd_in 78 (by decide +kernel) rfl, ⟨by decide +kernel, by decide +kernel, by decide +kernel⟩, by decide⟩
abbrev μX5_allMeet : zU := (yX5_allMeet, cX5_allMeet, 3, some .boolean)
set_option maxRecDepth 20000 in
theorem mkX5_allMeet : zMk μX5_allMeet 0 := ⟨zWd_in 1026 rfl rfl, zWd_in 78 (by decide +kernel) rfl, ⟨by decide +kernel, by decide +kernel, by decide +kernel⟩, by decide⟩
abbrev μX5_better : zU := (yX5_better, cX5_better, 4, some .int)
set_option maxRecDepth 20000 in
theorem mkX5_better : zMk μX5_better 3 := ⟨zWd_in 1030 rfl rfl, zWd_in 78 (by decide +kernel) rfl, ⟨by decide +kernel, by decide +kernel, by decide +kernel⟩, by decide⟩
abbrev μX5_betterBy : zU := (yX5_betterBy, cX5_betterBy, 9, some .int)
set_option maxRecDepth 20000 in
theorem mkX5_betterBy : zMk μX5_betterBy 2 := ⟨zWd_in 1034 rfl rfl, zWd_in 78 (by decide +kernel) rfl, ⟨by decide +kernel, by decide +kernel, by decide +kernel⟩, by decide⟩
abbrev μX5_run : zU := (yX5_run, cX5_run, 5, some .int)
set_option maxRecDepth 20000 in
theorem mkX5_run : zMk μX5_run 1 := ⟨zWd_in 1038 rfl rfl, zWd_in 78 (by decide +kernel) rfl, ⟨by decide +kernel, by decide +kernel, by decide +kernel⟩, by decide⟩
abbrev μX5_begins : zU := (yX5_begins, cX5_begins, 6, none)
set_option maxRecDepth 20000 in
theorem mkX5_begins : zMk μX5_begins 0 := ⟨zWd_in 1043 rfl rfl, zWd_in 78 (by decide +kernel) rfl, ⟨by decide +kernel, by decide +kernel, by decide +kernel⟩, by decide⟩
abbrev μX5_releaseOf : zU := (yX5_releaseOf, cX5_releaseOf, 3, some .int)
set_option maxRecDepth 20000 in
theorem mkX5_releaseOf : zMk μX5_releaseOf 2 := ⟨zWd_in 1047 rfl rfl, zWd_in 78 (by decide +kernel) rfl, ⟨by decide +kernel, by decide +kernel, by decide +kernel⟩, by decide⟩
abbrev μX5_does : zU := (yX5_does, cX5_does, 8, some .int)
set_option maxRecDepth 20000 in
theorem mkX5_does : zMk μX5_does 2 := ⟨zWd_in 1051 rfl rfl, zWd_in 78 (by decide +kernel) rfl, ⟨by decide +kernel, by decide +kernel, by decide +kernel⟩, by decide⟩
abbrev μX5_ends : zU := (yX5_ends, cX5_ends, 6, none)
set_option maxRecDepth 20000 in
theorem mkX5_ends : zMk μX5_ends 2 := ⟨zWd_in 1055 rfl rfl, zWd_in 78 (by decide +kernel) rfl, ⟨by decide +kernel, by decide +kernel, by decide +kernel⟩, by decide⟩
abbrev μX5_lesser : zU := (yX5_lesser, cX5_lesser, 2, some .int)
set_option maxRecDepth 20000 in
theorem mkX5_lesser : zMk μX5_lesser 2 := ⟨zWd_in 1058 rfl rfl, zWd_in 78 (by decide +kernel) rfl, ⟨by decide +kernel, by decide +kernel, by decide +kernel⟩, by decide⟩
abbrev μX5_endedNow : zU := (yX5_endedNow, cX5_endedNow, 3, some .int)
set_option maxRecDepth 20000 in
theorem mkX5_endedNow : zMk μX5_endedNow 0 := ⟨zWd_in 1062 rfl rfl, zWd_in 78 (by decide +kernel) rfl, ⟨by decide +kernel, by decide +kernel, by decide +kernel⟩, by decide⟩
abbrev μX5_seen : zU := (yX5_seen, cX5_seen, 4, some .int)
set_option maxRecDepth 20000 in
theorem mkX5_seen : zMk μX5_seen 3 := ⟨zWd_in 1066 rfl rfl, zWd_in 78 (by decide +kernel) rfl, ⟨by decide +kernel, by decide +kernel, by decide +kernel⟩, by decide⟩
abbrev μX5_seenBy : zU := (yX5_seenBy, cX5_seenBy, 3, some .int)
set_option maxRecDepth 20000 in
theorem mkX5_seenBy : zMk μX5_seenBy 2 := ⟨zWd_in 1070 rfl rfl, zWd_in 78 (by decide +kernel) rfl, ⟨by decide +kernel, by decide +kernel, by decide +kernel⟩, by decide⟩
abbrev μX5_tick : zU := (yX5_tick, cX5_tick, 3, some .int)
set_option maxRecDepth 20000 in
theorem mkX5_tick : zMk μX5_tick 2 := ⟨zWd_in 1074 rfl rfl, zWd_in 78 (by decide +kernel) rfl, ⟨by decide +kernel, by decide +kernel, by decide +kernel⟩, by decide⟩
abbrev μX5_tickBy : zU := (yX5_tickBy, cX5_tickBy, 3, some .int)
set_option maxRecDepth 20000 in
theorem mkX5_tickBy : zMk μX5_tickBy 2 := ⟨zWd_in 1079 rfl rfl, zWd_in 78 (by decide +kernel) rfl, ⟨by decide +kernel, by decide +kernel, by decide +kernel⟩, by decide⟩
abbrev μX5_write : zU := (yX5_write, cX5_write, 4, some .int)
set_option maxRecDepth 20000 in
theorem mkX5_write : zMk μX5_write 1 := ⟨zWd_in 1083 rfl rfl, zWd_in 78 (by decide +kernel) rfl, ⟨by decide +kernel, by decide +kernel, by decide +kernel⟩, by decide⟩
abbrev μX5_count : zU := (yX5_count, cX5_count, 2, some .int)
set_option maxRecDepth 20000 in
theorem mkX5_count : zMk μX5_count 1 := ⟨zWd_in 1087 rfl rfl, zWd_in 78 (by decide +kernel) rfl, ⟨by decide +kernel, by decide +kernel, by decide +kernel⟩, by decide⟩
abbrev μX5_countBy : zU := (yX5_countBy, cX5_countBy, 2, some .int)
set_option maxRecDepth 20000 in
theorem mkX5_countBy : zMk μX5_countBy 1 := ⟨zWd_in 1091 rfl rfl, zWd_in 78 (by decide +kernel) rfl, ⟨by decide +kernel, by decide +kernel, by decide +kernel⟩, by decide⟩
abbrev μX5_idle : zU := (yX5_idle, cX5_idle, 4, some .int)
set_option maxRecDepth 20000 in
theorem mkX5_idle : zMk μX5_idle 1 := ⟨zWd_in 1095 rfl rfl, zWd_in 78 (by decide +kernel) rfl, ⟨by decide +kernel, by decide +kernel, by decide +kernel⟩, by decide⟩
abbrev μX5_over : zU := (yX5_over, cX5_over, 3, some .int)
set_option maxRecDepth 20000 in
theorem mkX5_over : zMk μX5_over 0 := ⟨zWd_in 1099 rfl rfl, zWd_in 78 (by decide +kernel) rfl, ⟨by decide +kernel, by decide +kernel, by decide +kernel⟩, by decide⟩
abbrev μX5_digest : zU := (yX5_digest, cX5_digest, 5, some .long)
set_option maxRecDepth 20000 in
theorem mkX5_digest : zMk μX5_digest 0 := ⟨zWd_in 1103 rfl rfl, zWd_in 78 (by decide +kernel) rfl, ⟨by decide +kernel, by decide +kernel, by decide +kernel⟩, by decide⟩
abbrev μX5_stepTells : zU := (yX5_stepTells, cX5_stepTells, 7, some .long)
set_option maxRecDepth 20000 in
theorem mkX5_stepTells : zMk μX5_stepTells 2 := ⟨zWd_in 1109 rfl rfl, zWd_in 78 (by decide +kernel) rfl, ⟨by decide +kernel, by decide +kernel, by decide +kernel⟩, by decide⟩
theorem csL_9 : zSI RL 9 μX4_init := ⟨Or.inl (zWd_in 84 (by decide +kernel) rfl), zWd_in 85 (by decide +kernel) rfl, rfl, rfl⟩
theorem csX4_11 : zSI RX4 11 μX2_init := ⟨Or.inl (zWd_in 92 (by decide +kernel) rfl), zWd_in 93 (by decide +kernel) rfl, rfl, rfl⟩
theorem csX2_23 : zSS RX2 23 μJ7_fill_53178 := ⟨Or.inl (zWd_in 98 (by decide +kernel) rfl), zWd_in 99 (by decide +kernel) rfl⟩
theorem csX4_18 : zSI RX4 18 μX0_init := ⟨Or.inl (zWd_in 122 (by decide +kernel) rfl), zWd_in 123 (by decide +kernel) rfl, rfl, rfl⟩
theorem csX4_30 : zSI RX4 30 μX1_init := ⟨Or.inl (zWd_in 185 (by decide +kernel) rfl), zWd_in 186 (by decide +kernel) rfl, rfl, rfl⟩
theorem csX1_38 : zSV RX1 38 μX1_clear := ⟨zWd_in 190 (by decide +kernel) rfl, zWd_in 192 (by decide +kernel) rfl, zWd_in 0 (by decide +kernel) rfl⟩
theorem csX1_48 : zSS RX1 48 μJ7_fill_53178 := ⟨Or.inl (zWd_in 194 (by decide +kernel) rfl), zWd_in 99 (by decide +kernel) rfl⟩
theorem csX4_41 : zSI RX4 41 μX3_init := ⟨Or.inr ⟨"OffsetChains", zNs_in 233 (by decide +kernel) rfl⟩, zWd_in 234 (by decide +kernel) rfl, rfl, rfl⟩
theorem csL_13 : zSV RL 13 μX4_chain := ⟨zWd_in 274 (by decide +kernel) rfl, zWd_in 275 (by decide +kernel) rfl, zWd_in 276 (by decide +kernel) rfl⟩
theorem csX4_46 : zSS RX4 46 μX4_isChain := ⟨Or.inl (zWd_in 278 (by decide +kernel) rfl), zWd_in 279 (by decide +kernel) rfl⟩
theorem csX4_50 : zSS RX4 50 μX4_within := ⟨Or.inl (zWd_in 281 (by decide +kernel) rfl), zWd_in 282 (by decide +kernel) rfl⟩
theorem csL_18 : zSV RL 18 μX4_step := ⟨zWd_in 288 (by decide +kernel) rfl, zWd_in 289 (by decide +kernel) rfl, zWd_in 290 (by decide +kernel) rfl⟩
theorem csX4_69 : zSS RX4 69 μX4_isMark := ⟨Or.inl (zWd_in 292 (by decide +kernel) rfl), zWd_in 293 (by decide +kernel) rfl⟩
theorem csX4_76 : zSV RX4 76 μX2_append := ⟨zWd_in 299 (by decide +kernel) rfl, zWd_in 300 (by decide +kernel) rfl, zWd_in 301 (by decide +kernel) rfl⟩
theorem csL_23 : zSV RL 23 μX4_back := ⟨zWd_in 303 (by decide +kernel) rfl, zWd_in 304 (by decide +kernel) rfl, zWd_in 305 (by decide +kernel) rfl⟩
theorem csL_28 : zSV RL 28 μX4_tune := ⟨zWd_in 307 (by decide +kernel) rfl, zWd_in 308 (by decide +kernel) rfl, zWd_in 309 (by decide +kernel) rfl⟩
theorem csX4_80 : zSV RX4 80 μX2_numberOf := ⟨zWd_in 311 (by decide +kernel) rfl, zWd_in 312 (by decide +kernel) rfl, zWd_in 313 (by decide +kernel) rfl⟩
theorem csX2_29 : zSS RX2 29 μX4_isChain := ⟨Or.inr ⟨"OffsetChains", zNs_in 315 (by decide +kernel) rfl⟩, zWd_in 279 (by decide +kernel) rfl⟩
theorem csX2_33 : zSS RX2 33 μX4_within := ⟨Or.inr ⟨"OffsetChains", zNs_in 316 (by decide +kernel) rfl⟩, zWd_in 282 (by decide +kernel) rfl⟩
theorem csL_33 : zSV RL 33 μX4_read := ⟨zWd_in 317 (by decide +kernel) rfl, zWd_in 318 (by decide +kernel) rfl, zWd_in 319 (by decide +kernel) rfl⟩
theorem csX4_87 : zSS RX4 87 μX4_isSheet := ⟨Or.inl (zWd_in 321 (by decide +kernel) rfl), zWd_in 322 (by decide +kernel) rfl⟩
theorem csX4_93 : zSV RX4 93 μX4_found := ⟨zWd_in 324 (by decide +kernel) rfl, zWd_in 326 (by decide +kernel) rfl, zWd_in 1 (by decide +kernel) rfl⟩
theorem csX4_100 : zSS RX4 100 μX4_holdsStep := ⟨Or.inl (zWd_in 328 (by decide +kernel) rfl), zWd_in 329 (by decide +kernel) rfl⟩
theorem csL_38 : zSV RL 38 μX4_has := ⟨zWd_in 331 (by decide +kernel) rfl, zWd_in 332 (by decide +kernel) rfl, zWd_in 333 (by decide +kernel) rfl⟩
theorem csX4_108 : zSV RX4 108 μX4_traitOf := ⟨zWd_in 335 (by decide +kernel) rfl, zWd_in 337 (by decide +kernel) rfl, zWd_in 2 (by decide +kernel) rfl⟩
theorem csL_42 : zSV RL 42 μX4_info := ⟨zWd_in 339 (by decide +kernel) rfl, zWd_in 340 (by decide +kernel) rfl, zWd_in 341 (by decide +kernel) rfl⟩
theorem csX4_111 : zSV RX4 111 μX0_settle := ⟨zWd_in 343 (by decide +kernel) rfl, zWd_in 344 (by decide +kernel) rfl, zWd_in 345 (by decide +kernel) rfl⟩
theorem csX0_57 : zSV RX0 57 μX2_periodOf := ⟨zWd_in 347 (by decide +kernel) rfl, zWd_in 348 (by decide +kernel) rfl, zWd_in 349 (by decide +kernel) rfl⟩
set_option maxRecDepth 20000 in
theorem csX2_37 : Cond.methodLink RX2 37 Lib.Math.max.name ∈ zWd ∧ Cond.static Lib.Math.max.name ∈ zWd ∧ Cond.initialized "java/lang/Math" ∈ zWd ∧ Cond.code Lib.Math.max.name Lib.Math.max.code 2 (some .int) ∈ zWd := ⟨zWd_in 351 (by decide +kernel) rfl, zWd_in 352 (by decide +kernel) rfl, zWd_in 79 (by decide +kernel) rfl, zWd_in 353 rfl rfl⟩
theorem csX0_67 : zSV RX0 67 μX0_boundAll := ⟨zWd_in 354 (by decide +kernel) rfl, zWd_in 356 (by decide +kernel) rfl, zWd_in 3 (by decide +kernel) rfl⟩
theorem csX0_111 : zSV RX0 111 μX0_placeComings := ⟨zWd_in 358 (by decide +kernel) rfl, zWd_in 360 (by decide +kernel) rfl, zWd_in 4 (by decide +kernel) rfl⟩
theorem csX0_114 : zSV RX0 114 μX2_isStep := ⟨zWd_in 362 (by decide +kernel) rfl, zWd_in 363 (by decide +kernel) rfl, zWd_in 364 (by decide +kernel) rfl⟩
theorem csX0_108 : zSV RX0 108 μX2_earliestOf := ⟨zWd_in 366 (by decide +kernel) rfl, zWd_in 367 (by decide +kernel) rfl, zWd_in 368 (by decide +kernel) rfl⟩
theorem csX0_132 : zSS RX0 132 μJ9_floorMod_7cf53 := ⟨Or.inl (zWd_in 370 (by decide +kernel) rfl), zWd_in 371 (by decide +kernel) rfl⟩
theorem csX0_81 : zSV RX0 81 μX0_gatherRivals := ⟨zWd_in 373 (by decide +kernel) rfl, zWd_in 375 (by decide +kernel) rfl, zWd_in 5 (by decide +kernel) rfl⟩
theorem csX0_135 : zSV RX0 135 μX2_isRival := ⟨zWd_in 377 (by decide +kernel) rfl, zWd_in 378 (by decide +kernel) rfl, zWd_in 379 (by decide +kernel) rfl⟩
theorem csX2_43 : zSV RX2 43 μX2_isStep := ⟨zWd_in 381 (by decide +kernel) rfl, zWd_in 363 (by decide +kernel) rfl, zWd_in 364 (by decide +kernel) rfl⟩
theorem csX0_117 : zSV RX0 117 μX2_isOverloaded := ⟨zWd_in 382 (by decide +kernel) rfl, zWd_in 383 (by decide +kernel) rfl, zWd_in 384 (by decide +kernel) rfl⟩
theorem csX2_58 : zSV RX2 58 μX2_loadAbove := ⟨zWd_in 386 (by decide +kernel) rfl, zWd_in 388 (by decide +kernel) rfl, zWd_in 6 (by decide +kernel) rfl⟩
theorem csX2_54 : zSV RX2 54 μX2_loadBelow := ⟨zWd_in 390 (by decide +kernel) rfl, zWd_in 392 (by decide +kernel) rfl, zWd_in 7 (by decide +kernel) rfl⟩
theorem csX2_50 : zSV RX2 50 μX2_periodOf := ⟨zWd_in 394 (by decide +kernel) rfl, zWd_in 348 (by decide +kernel) rfl, zWd_in 349 (by decide +kernel) rfl⟩
theorem csX2_46 : zSV RX2 46 μX2_isRival := ⟨zWd_in 395 (by decide +kernel) rfl, zWd_in 378 (by decide +kernel) rfl, zWd_in 379 (by decide +kernel) rfl⟩
theorem csX0_85 : zSV RX0 85 μX0_findLongest := ⟨zWd_in 396 (by decide +kernel) rfl, zWd_in 398 (by decide +kernel) rfl, zWd_in 8 (by decide +kernel) rfl⟩
theorem csX0_101 : zSV RX0 101 μX0_leastTime := ⟨zWd_in 400 (by decide +kernel) rfl, zWd_in 402 (by decide +kernel) rfl, zWd_in 9 (by decide +kernel) rfl⟩
theorem csX0_143 : zSV RX0 143 μX0_quickNeeded := ⟨zWd_in 404 (by decide +kernel) rfl, zWd_in 406 (by decide +kernel) rfl, zWd_in 10 (by decide +kernel) rfl⟩
theorem csX0_105 : zSV RX0 105 μX0_quickComes := ⟨zWd_in 408 (by decide +kernel) rfl, zWd_in 410 (by decide +kernel) rfl, zWd_in 11 (by decide +kernel) rfl⟩
theorem csX0_146 : zSV RX0 146 μX0_needed := ⟨zWd_in 412 (by decide +kernel) rfl, zWd_in 414 (by decide +kernel) rfl, zWd_in 12 (by decide +kernel) rfl⟩
theorem csX0_139 : zSV RX0 139 μX0_comes := ⟨zWd_in 416 (by decide +kernel) rfl, zWd_in 418 (by decide +kernel) rfl, zWd_in 13 (by decide +kernel) rfl⟩
theorem csX0_149 : zSV RX0 149 μX0_work := ⟨zWd_in 420 (by decide +kernel) rfl, zWd_in 422 (by decide +kernel) rfl, zWd_in 14 (by decide +kernel) rfl⟩
set_option maxRecDepth 20000 in
theorem csX0_92 : Cond.methodLink RX0 92 Lib.Math.max.name ∈ zWd ∧ Cond.static Lib.Math.max.name ∈ zWd ∧ Cond.initialized "java/lang/Math" ∈ zWd ∧ Cond.code Lib.Math.max.name Lib.Math.max.code 2 (some .int) ∈ zWd := ⟨zWd_in 424 (by decide +kernel) rfl, zWd_in 352 (by decide +kernel) rfl, zWd_in 79 (by decide +kernel) rfl, zWd_in 353 rfl rfl⟩
theorem csX0_71 : zSV RX0 71 μX0_passLateness := ⟨zWd_in 425 (by decide +kernel) rfl, zWd_in 427 (by decide +kernel) rfl, zWd_in 15 (by decide +kernel) rfl⟩
theorem csX4_114 : zSV RX4 114 μX4_infoOf := ⟨zWd_in 429 (by decide +kernel) rfl, zWd_in 431 (by decide +kernel) rfl, zWd_in 16 (by decide +kernel) rfl⟩
theorem csX4_211 : zSV RX4 211 μX2_earliestOf := ⟨zWd_in 433 (by decide +kernel) rfl, zWd_in 367 (by decide +kernel) rfl, zWd_in 368 (by decide +kernel) rfl⟩
theorem csX4_214 : zSV RX4 214 μX0_lateOf := ⟨zWd_in 434 (by decide +kernel) rfl, zWd_in 435 (by decide +kernel) rfl, zWd_in 436 (by decide +kernel) rfl⟩
theorem csX4_217 : zSV RX4 217 μX2_rivalsOf := ⟨zWd_in 438 (by decide +kernel) rfl, zWd_in 439 (by decide +kernel) rfl, zWd_in 440 (by decide +kernel) rfl⟩
theorem csL_46 : zSV RL 46 μX4_load := ⟨zWd_in 442 (by decide +kernel) rfl, zWd_in 443 (by decide +kernel) rfl, zWd_in 444 (by decide +kernel) rfl⟩
theorem csX4_117 : zSV RX4 117 μX2_loadPart := ⟨zWd_in 446 (by decide +kernel) rfl, zWd_in 447 (by decide +kernel) rfl, zWd_in 448 (by decide +kernel) rfl⟩
theorem csX2_64 : zSS RX2 64 μX2_greatestDivisor := ⟨Or.inl (zWd_in 450 (by decide +kernel) rfl), zWd_in 451 (by decide +kernel) rfl⟩
theorem csL_50 : zSV RL 50 μX4_bound := ⟨zWd_in 453 (by decide +kernel) rfl, zWd_in 454 (by decide +kernel) rfl, zWd_in 455 (by decide +kernel) rfl⟩
theorem csX4_120 : zSV RX4 120 μX0_boundOf := ⟨zWd_in 457 (by decide +kernel) rfl, zWd_in 458 (by decide +kernel) rfl, zWd_in 459 (by decide +kernel) rfl⟩
theorem csL_54 : zSV RL 54 μX4_searched := ⟨zWd_in 461 (by decide +kernel) rfl, zWd_in 462 (by decide +kernel) rfl, zWd_in 463 (by decide +kernel) rfl⟩
theorem csX4_123 : zSV RX4 123 μX0_searchedOf := ⟨zWd_in 465 (by decide +kernel) rfl, zWd_in 466 (by decide +kernel) rfl, zWd_in 467 (by decide +kernel) rfl⟩
theorem csL_58 : zSV RL 58 μX4_quick := ⟨zWd_in 469 (by decide +kernel) rfl, zWd_in 470 (by decide +kernel) rfl, zWd_in 471 (by decide +kernel) rfl⟩
theorem csX4_126 : zSV RX4 126 μX0_quickOf := ⟨zWd_in 473 (by decide +kernel) rfl, zWd_in 474 (by decide +kernel) rfl, zWd_in 475 (by decide +kernel) rfl⟩
theorem csL_62 : zSV RL 62 μX4_rounds := ⟨zWd_in 477 (by decide +kernel) rfl, zWd_in 478 (by decide +kernel) rfl, zWd_in 479 (by decide +kernel) rfl⟩
theorem csL_67 : zSV RL 67 μX4_worst := ⟨zWd_in 481 (by decide +kernel) rfl, zWd_in 482 (by decide +kernel) rfl, zWd_in 483 (by decide +kernel) rfl⟩
theorem csX4_132 : zSV RX4 132 μX0_worstOf := ⟨zWd_in 485 (by decide +kernel) rfl, zWd_in 486 (by decide +kernel) rfl, zWd_in 487 (by decide +kernel) rfl⟩
theorem csL_71 : zSV RL 71 μX4_meets := ⟨zWd_in 489 (by decide +kernel) rfl, zWd_in 490 (by decide +kernel) rfl, zWd_in 491 (by decide +kernel) rfl⟩
theorem csX4_135 : zSV RX4 135 μX0_meetingBits := ⟨zWd_in 493 (by decide +kernel) rfl, zWd_in 494 (by decide +kernel) rfl, zWd_in 495 (by decide +kernel) rfl⟩
theorem csX0_74 : zSV RX0 74 μX2_dueBits := ⟨zWd_in 497 (by decide +kernel) rfl, zWd_in 498 (by decide +kernel) rfl, zWd_in 499 (by decide +kernel) rfl⟩
theorem csX0_78 : zSV RX0 78 μX2_lastOf := ⟨zWd_in 501 (by decide +kernel) rfl, zWd_in 502 (by decide +kernel) rfl, zWd_in 503 (by decide +kernel) rfl⟩
theorem csL_75 : zSV RL 75 μX4_margin := ⟨zWd_in 505 (by decide +kernel) rfl, zWd_in 506 (by decide +kernel) rfl, zWd_in 507 (by decide +kernel) rfl⟩
theorem csX4_139 : zSV RX4 139 μX2_dueBits := ⟨zWd_in 509 (by decide +kernel) rfl, zWd_in 498 (by decide +kernel) rfl, zWd_in 499 (by decide +kernel) rfl⟩
theorem csL_79 : zSV RL 79 μX4_better := ⟨zWd_in 510 (by decide +kernel) rfl, zWd_in 511 (by decide +kernel) rfl, zWd_in 512 (by decide +kernel) rfl⟩
theorem csX4_142 : zSV RX4 142 μX2_lastOf := ⟨zWd_in 514 (by decide +kernel) rfl, zWd_in 502 (by decide +kernel) rfl, zWd_in 503 (by decide +kernel) rfl⟩
theorem csL_83 : zSV RL 83 μX4_run := ⟨zWd_in 515 (by decide +kernel) rfl, zWd_in 516 (by decide +kernel) rfl, zWd_in 517 (by decide +kernel) rfl⟩
theorem csX4_145 : zSV RX4 145 μX1_go := ⟨zWd_in 519 (by decide +kernel) rfl, zWd_in 520 (by decide +kernel) rfl, zWd_in 521 (by decide +kernel) rfl⟩
theorem csX1_54 : zSS RX1 54 μX1_firstReady := ⟨Or.inl (zWd_in 523 (by decide +kernel) rfl), zWd_in 524 (by decide +kernel) rfl⟩
set_option maxRecDepth 20000 in
theorem csX1_70 : Cond.methodLink RX1 70 Lib.Math.max.name ∈ zWd ∧ Cond.static Lib.Math.max.name ∈ zWd ∧ Cond.initialized "java/lang/Math" ∈ zWd ∧ Cond.code Lib.Math.max.name Lib.Math.max.code 2 (some .int) ∈ zWd := ⟨zWd_in 526 (by decide +kernel) rfl, zWd_in 352 (by decide +kernel) rfl, zWd_in 79 (by decide +kernel) rfl, zWd_in 353 rfl rfl⟩
theorem csX1_76 : zSS RX1 76 μX1_released := ⟨Or.inl (zWd_in 527 (by decide +kernel) rfl), zWd_in 528 (by decide +kernel) rfl⟩
theorem csX1_58 : zSV RX1 58 μX1_mostUrgent := ⟨zWd_in 530 (by decide +kernel) rfl, zWd_in 532 (by decide +kernel) rfl, zWd_in 17 (by decide +kernel) rfl⟩
theorem csX1_82 : zSV RX1 82 μX2_isStep := ⟨zWd_in 534 (by decide +kernel) rfl, zWd_in 363 (by decide +kernel) rfl, zWd_in 364 (by decide +kernel) rfl⟩
theorem csX1_86 : zSV RX1 86 μX1_isReady := ⟨zWd_in 535 (by decide +kernel) rfl, zWd_in 537 (by decide +kernel) rfl, zWd_in 18 (by decide +kernel) rfl⟩
theorem csX1_61 : zSV RX1 61 μX1_doTick := ⟨zWd_in 539 (by decide +kernel) rfl, zWd_in 541 (by decide +kernel) rfl, zWd_in 19 (by decide +kernel) rfl⟩
set_option maxRecDepth 20000 in
theorem csX1_90 : Cond.methodLink RX1 90 Lib.Math.min.name ∈ zWd ∧ Cond.static Lib.Math.min.name ∈ zWd ∧ Cond.initialized "java/lang/Math" ∈ zWd ∧ Cond.code Lib.Math.min.name Lib.Math.min.code 2 (some .int) ∈ zWd := ⟨zWd_in 543 (by decide +kernel) rfl, zWd_in 544 (by decide +kernel) rfl, zWd_in 79 (by decide +kernel) rfl, zWd_in 545 rfl rfl⟩
theorem csL_87 : zSV RL 87 μX4_seen := ⟨zWd_in 546 (by decide +kernel) rfl, zWd_in 547 (by decide +kernel) rfl, zWd_in 548 (by decide +kernel) rfl⟩
theorem csX4_152 : zSV RX4 152 μX1_seenOf := ⟨zWd_in 550 (by decide +kernel) rfl, zWd_in 551 (by decide +kernel) rfl, zWd_in 552 (by decide +kernel) rfl⟩
theorem csL_91 : zSV RL 91 μX4_tick := ⟨zWd_in 554 (by decide +kernel) rfl, zWd_in 555 (by decide +kernel) rfl, zWd_in 556 (by decide +kernel) rfl⟩
theorem csL_95 : zSV RL 95 μX4_sheet := ⟨zWd_in 558 (by decide +kernel) rfl, zWd_in 559 (by decide +kernel) rfl, zWd_in 560 (by decide +kernel) rfl⟩
theorem csX4_158 : zSS RX4 158 μX4_isForm := ⟨Or.inl (zWd_in 562 (by decide +kernel) rfl), zWd_in 563 (by decide +kernel) rfl⟩
theorem csX4_161 : zSV RX4 161 μX3_begin := ⟨zWd_in 565 (by decide +kernel) rfl, zWd_in 566 (by decide +kernel) rfl, zWd_in 567 (by decide +kernel) rfl⟩
theorem csX3_26 : zSS RX3 26 μJ7_fill_d0a16 := ⟨Or.inl (zWd_in 569 (by decide +kernel) rfl), zWd_in 570 (by decide +kernel) rfl⟩
theorem csL_99 : zSV RL 99 μX4_lose := ⟨zWd_in 572 (by decide +kernel) rfl, zWd_in 573 (by decide +kernel) rfl, zWd_in 574 (by decide +kernel) rfl⟩
theorem csL_103 : zSV RL 103 μX4_lay := ⟨zWd_in 576 (by decide +kernel) rfl, zWd_in 577 (by decide +kernel) rfl, zWd_in 578 (by decide +kernel) rfl⟩
theorem csX4_165 : zSV RX4 165 μX3_troubleAt := ⟨zWd_in 580 (by decide +kernel) rfl, zWd_in 581 (by decide +kernel) rfl, zWd_in 582 (by decide +kernel) rfl⟩
theorem csX3_32 : zSS RX3 32 μX4_within := ⟨Or.inr ⟨"OffsetChains", zNs_in 584 (by decide +kernel) rfl⟩, zWd_in 282 (by decide +kernel) rfl⟩
theorem kX4_168 : Cond.constantLong RX4 168 (zl (100000007)) ∈ zWd := zWd_in 585 (by decide +kernel) rfl
theorem csX4_170 : zSV RX4 170 μX3_put := ⟨zWd_in 586 (by decide +kernel) rfl, zWd_in 587 (by decide +kernel) rfl, zWd_in 588 (by decide +kernel) rfl⟩
theorem csL_107 : zSV RL 107 μX4_get := ⟨zWd_in 590 (by decide +kernel) rfl, zWd_in 591 (by decide +kernel) rfl, zWd_in 592 (by decide +kernel) rfl⟩
theorem kX4_174 : Cond.constantLong RX4 174 (zl (-9223372036854775806)) ∈ zWd := zWd_in 594 (by decide +kernel) rfl
theorem kX4_176 : Cond.constantLong RX4 176 (zl (-9223372036854775808)) ∈ zWd := zWd_in 595 (by decide +kernel) rfl
theorem csL_112 : zSV RL 112 μX4_copy := ⟨zWd_in 596 (by decide +kernel) rfl, zWd_in 597 (by decide +kernel) rfl, zWd_in 598 (by decide +kernel) rfl⟩
theorem csX4_181 : zSV RX4 181 μX3_hasRange := ⟨zWd_in 600 (by decide +kernel) rfl, zWd_in 601 (by decide +kernel) rfl, zWd_in 602 (by decide +kernel) rfl⟩
theorem csX4_185 : Cond.methodLink RX4 185 arraycopyName ∈ zWd ∧ Cond.native arraycopyName ∈ zWd ∧ Cond.static arraycopyName ∈ zWd ∧ Cond.initialized "java/lang/System" ∈ zWd := ⟨zWd_in 604 (by decide +kernel) rfl, zWd_in 606 (by decide +kernel) rfl, zWd_in 605 (by decide +kernel) rfl, zWd_in 80 (by decide +kernel) rfl⟩
theorem csL_116 : zSV RL 116 μX4_write := ⟨zWd_in 607 (by decide +kernel) rfl, zWd_in 608 (by decide +kernel) rfl, zWd_in 609 (by decide +kernel) rfl⟩
theorem csX4_191 : zSV RX4 191 μX2_isStep := ⟨zWd_in 611 (by decide +kernel) rfl, zWd_in 363 (by decide +kernel) rfl, zWd_in 364 (by decide +kernel) rfl⟩
theorem csL_120 : zSV RL 120 μX4_count := ⟨zWd_in 612 (by decide +kernel) rfl, zWd_in 613 (by decide +kernel) rfl, zWd_in 614 (by decide +kernel) rfl⟩
theorem csX4_194 : zSV RX4 194 μX4_countOf := ⟨zWd_in 616 (by decide +kernel) rfl, zWd_in 618 (by decide +kernel) rfl, zWd_in 20 (by decide +kernel) rfl⟩
theorem csX4_220 : zSV RX4 220 μX2_stepsInAll := ⟨zWd_in 620 (by decide +kernel) rfl, zWd_in 621 (by decide +kernel) rfl, zWd_in 622 (by decide +kernel) rfl⟩
theorem csX4_223 : zSS RX4 223 μJ6_bitCount_0f7a4 := ⟨Or.inl (zWd_in 624 (by decide +kernel) rfl), zWd_in 625 (by decide +kernel) rfl⟩
theorem kJ6_265 : Cond.constant RJ6 265 (zi (1431655765)) ∈ zWd := zWd_in 627 (by decide +kernel) rfl
theorem kJ6_266 : Cond.constant RJ6 266 (zi (858993459)) ∈ zWd := zWd_in 628 (by decide +kernel) rfl
theorem kJ6_267 : Cond.constant RJ6 267 (zi (252645135)) ∈ zWd := zWd_in 629 (by decide +kernel) rfl
theorem csX4_234 : zSV RX4 234 μX2_overloadedSteps := ⟨zWd_in 630 (by decide +kernel) rfl, zWd_in 631 (by decide +kernel) rfl, zWd_in 632 (by decide +kernel) rfl⟩
theorem csX2_61 : zSV RX2 61 μX2_isOverloaded := ⟨zWd_in 634 (by decide +kernel) rfl, zWd_in 383 (by decide +kernel) rfl, zWd_in 384 (by decide +kernel) rfl⟩
theorem csL_124 : zSV RL 124 μX4_digest := ⟨zWd_in 635 (by decide +kernel) rfl, zWd_in 636 (by decide +kernel) rfl, zWd_in 637 (by decide +kernel) rfl⟩
theorem kX4_197 : Cond.constantLong RX4 197 (zl (17)) ∈ zWd := zWd_in 639 (by decide +kernel) rfl
theorem kX4_199 : Cond.constantLong RX4 199 (zl (31)) ∈ zWd := zWd_in 640 (by decide +kernel) rfl
theorem csX4_201 : zSV RX4 201 μX4_withStep := ⟨zWd_in 641 (by decide +kernel) rfl, zWd_in 643 (by decide +kernel) rfl, zWd_in 21 (by decide +kernel) rfl⟩
theorem csL_12 : zSI RL 12 μX5_init := ⟨Or.inl (zWd_in 647 (by decide +kernel) rfl), zWd_in 648 (by decide +kernel) rfl, rfl, rfl⟩
theorem csL_98 : zSV RL 98 μX5_sheet := ⟨zWd_in 760 (by decide +kernel) rfl, zWd_in 761 (by decide +kernel) rfl, zWd_in 762 (by decide +kernel) rfl⟩
theorem csX5_101 : zSS RX5 101 μX5_isSheet := ⟨Or.inl (zWd_in 764 (by decide +kernel) rfl), zWd_in 765 (by decide +kernel) rfl⟩
theorem kX5_99 : Cond.constantLong RX5 99 (zl (3)) ∈ zWd := zWd_in 767 (by decide +kernel) rfl
theorem csX5_89 : zSS RX5 89 μX5_in := ⟨Or.inl (zWd_in 768 (by decide +kernel) rfl), zWd_in 769 (by decide +kernel) rfl⟩
theorem kX5_105 : Cond.constantLong RX5 105 (zl (2)) ∈ zWd := zWd_in 771 (by decide +kernel) rfl
theorem csX5_107 : zSV RX5 107 μX5_finds := ⟨zWd_in 772 (by decide +kernel) rfl, zWd_in 774 (by decide +kernel) rfl, zWd_in 22 (by decide +kernel) rfl⟩
theorem csL_102 : zSV RL 102 μX5_lose := ⟨zWd_in 776 (by decide +kernel) rfl, zWd_in 777 (by decide +kernel) rfl, zWd_in 778 (by decide +kernel) rfl⟩
theorem csL_106 : zSV RL 106 μX5_lay := ⟨zWd_in 780 (by decide +kernel) rfl, zWd_in 781 (by decide +kernel) rfl, zWd_in 782 (by decide +kernel) rfl⟩
theorem csX5_111 : zSV RX5 111 μX5_lacks := ⟨zWd_in 784 (by decide +kernel) rfl, zWd_in 786 (by decide +kernel) rfl, zWd_in 23 (by decide +kernel) rfl⟩
theorem kX5_115 : Cond.constantLong RX5 115 (zl (100000007)) ∈ zWd := zWd_in 788 (by decide +kernel) rfl
theorem csL_111 : zSV RL 111 μX5_get := ⟨zWd_in 789 (by decide +kernel) rfl, zWd_in 790 (by decide +kernel) rfl, zWd_in 791 (by decide +kernel) rfl⟩
theorem csX5_117 : zSS RX5 117 μX5_no := ⟨Or.inl (zWd_in 793 (by decide +kernel) rfl), zWd_in 794 (by decide +kernel) rfl⟩
theorem kX5_93 : Cond.constantLong RX5 93 (zl (-9223372036854775808)) ∈ zWd := zWd_in 796 (by decide +kernel) rfl
theorem csL_115 : zSV RL 115 μX5_copy := ⟨zWd_in 797 (by decide +kernel) rfl, zWd_in 798 (by decide +kernel) rfl, zWd_in 799 (by decide +kernel) rfl⟩
theorem csL_17 : zSV RL 17 μX5_chain := ⟨zWd_in 801 (by decide +kernel) rfl, zWd_in 802 (by decide +kernel) rfl, zWd_in 803 (by decide +kernel) rfl⟩
theorem csX5_121 : zSS RX5 121 μX5_isChain := ⟨Or.inl (zWd_in 805 (by decide +kernel) rfl), zWd_in 806 (by decide +kernel) rfl⟩
theorem csX5_136 : zSS RX5 136 μX5_mayChain := ⟨Or.inl (zWd_in 808 (by decide +kernel) rfl), zWd_in 809 (by decide +kernel) rfl⟩
theorem kX5_124 : Cond.constantLong RX5 124 (zl (5)) ∈ zWd := zWd_in 811 (by decide +kernel) rfl
theorem kX5_126 : Cond.constantLong RX5 126 (zl (100)) ∈ zWd := zWd_in 812 (by decide +kernel) rfl
theorem kX5_128 : Cond.constantLong RX5 128 (zl (30)) ∈ zWd := zWd_in 813 (by decide +kernel) rfl
theorem kX5_130 : Cond.constantLong RX5 130 (zl (200)) ∈ zWd := zWd_in 814 (by decide +kernel) rfl
theorem kX5_132 : Cond.constantLong RX5 132 (zl (99)) ∈ zWd := zWd_in 815 (by decide +kernel) rfl
theorem kX5_134 : Cond.constantLong RX5 134 (zl (9)) ∈ zWd := zWd_in 816 (by decide +kernel) rfl
theorem csX5_140 : zSV RX5 140 μX5_hasBy := ⟨zWd_in 817 (by decide +kernel) rfl, zWd_in 819 (by decide +kernel) rfl, zWd_in 24 (by decide +kernel) rfl⟩
theorem csL_22 : zSV RL 22 μX5_step := ⟨zWd_in 821 (by decide +kernel) rfl, zWd_in 822 (by decide +kernel) rfl, zWd_in 823 (by decide +kernel) rfl⟩
theorem csX5_146 : zSS RX5 146 μX5_mayStep := ⟨Or.inl (zWd_in 825 (by decide +kernel) rfl), zWd_in 826 (by decide +kernel) rfl⟩
theorem kX5_144 : Cond.constantLong RX5 144 (zl (20)) ∈ zWd := zWd_in 828 (by decide +kernel) rfl
theorem csX5_150 : zSV RX5 150 μX5_tells := ⟨zWd_in 829 (by decide +kernel) rfl, zWd_in 831 (by decide +kernel) rfl, zWd_in 25 (by decide +kernel) rfl⟩
theorem csL_27 : zSV RL 27 μX5_back := ⟨zWd_in 833 (by decide +kernel) rfl, zWd_in 834 (by decide +kernel) rfl, zWd_in 835 (by decide +kernel) rfl⟩
theorem csL_32 : zSV RL 32 μX5_tune := ⟨zWd_in 837 (by decide +kernel) rfl, zWd_in 838 (by decide +kernel) rfl, zWd_in 839 (by decide +kernel) rfl⟩
theorem csX5_154 : zSV RX5 154 μX5_isStep := ⟨zWd_in 841 (by decide +kernel) rfl, zWd_in 843 (by decide +kernel) rfl, zWd_in 26 (by decide +kernel) rfl⟩
theorem csX5_157 : zSV RX5 157 μX5_toldBy := ⟨zWd_in 845 (by decide +kernel) rfl, zWd_in 847 (by decide +kernel) rfl, zWd_in 27 (by decide +kernel) rfl⟩
theorem csL_37 : zSV RL 37 μX5_read := ⟨zWd_in 849 (by decide +kernel) rfl, zWd_in 850 (by decide +kernel) rfl, zWd_in 851 (by decide +kernel) rfl⟩
theorem csL_41 : zSV RL 41 μX5_has := ⟨zWd_in 853 (by decide +kernel) rfl, zWd_in 854 (by decide +kernel) rfl, zWd_in 855 (by decide +kernel) rfl⟩
theorem csL_49 : zSV RL 49 μX5_load := ⟨zWd_in 857 (by decide +kernel) rfl, zWd_in 858 (by decide +kernel) rfl, zWd_in 859 (by decide +kernel) rfl⟩
theorem csX5_177 : zSS RX5 177 μX5_isTwo := ⟨Or.inl (zWd_in 861 (by decide +kernel) rfl), zWd_in 862 (by decide +kernel) rfl⟩
theorem csX5_180 : zSV RX5 180 μX5_loadBy := ⟨zWd_in 864 (by decide +kernel) rfl, zWd_in 866 (by decide +kernel) rfl, zWd_in 28 (by decide +kernel) rfl⟩
theorem csX5_173 : zSV RX5 173 μX5_loads := ⟨zWd_in 868 (by decide +kernel) rfl, zWd_in 870 (by decide +kernel) rfl, zWd_in 29 (by decide +kernel) rfl⟩
theorem csX5_163 : zSV RX5 163 μX5_isRival := ⟨zWd_in 872 (by decide +kernel) rfl, zWd_in 874 (by decide +kernel) rfl, zWd_in 30 (by decide +kernel) rfl⟩
theorem csX5_160 : zSV RX5 160 μX5_isThere := ⟨zWd_in 876 (by decide +kernel) rfl, zWd_in 878 (by decide +kernel) rfl, zWd_in 31 (by decide +kernel) rfl⟩
theorem csL_45 : zSV RL 45 μX5_info := ⟨zWd_in 880 (by decide +kernel) rfl, zWd_in 881 (by decide +kernel) rfl, zWd_in 882 (by decide +kernel) rfl⟩
theorem kX5_246 : Cond.constantLong RX5 246 (zl (6)) ∈ zWd := zWd_in 884 (by decide +kernel) rfl
theorem csX5_248 : zSV RX5 248 μX5_settles := ⟨zWd_in 885 (by decide +kernel) rfl, zWd_in 887 (by decide +kernel) rfl, zWd_in 32 (by decide +kernel) rfl⟩
theorem csX5_229 : zSV RX5 229 μX5_picksAll := ⟨zWd_in 889 (by decide +kernel) rfl, zWd_in 891 (by decide +kernel) rfl, zWd_in 33 (by decide +kernel) rfl⟩
theorem csX5_236 : zSV RX5 236 μX5_boundsAll := ⟨zWd_in 893 (by decide +kernel) rfl, zWd_in 895 (by decide +kernel) rfl, zWd_in 34 (by decide +kernel) rfl⟩
theorem csX5_223 : zSV RX5 223 μX5_isOver := ⟨zWd_in 897 (by decide +kernel) rfl, zWd_in 899 (by decide +kernel) rfl, zWd_in 35 (by decide +kernel) rfl⟩
theorem csX5_226 : zSV RX5 226 μX5_answers := ⟨zWd_in 901 (by decide +kernel) rfl, zWd_in 903 (by decide +kernel) rfl, zWd_in 36 (by decide +kernel) rfl⟩
theorem csX5_207 : zSV RX5 207 μX5_holds := ⟨zWd_in 905 (by decide +kernel) rfl, zWd_in 907 (by decide +kernel) rfl, zWd_in 37 (by decide +kernel) rfl⟩
theorem csX5_192 : zSV RX5 192 μX5_comes := ⟨zWd_in 909 (by decide +kernel) rfl, zWd_in 911 (by decide +kernel) rfl, zWd_in 38 (by decide +kernel) rfl⟩
theorem csX5_186 : zSV RX5 186 μX5_phi := ⟨zWd_in 913 (by decide +kernel) rfl, zWd_in 915 (by decide +kernel) rfl, zWd_in 39 (by decide +kernel) rfl⟩
theorem csX5_183 : zSV RX5 183 μX5_earliest := ⟨zWd_in 917 (by decide +kernel) rfl, zWd_in 919 (by decide +kernel) rfl, zWd_in 40 (by decide +kernel) rfl⟩
theorem csX5_189 : zSS RX5 189 μX5_up := ⟨Or.inl (zWd_in 921 (by decide +kernel) rfl), zWd_in 922 (by decide +kernel) rfl⟩
theorem csX5_195 : zSV RX5 195 μX5_work := ⟨zWd_in 924 (by decide +kernel) rfl, zWd_in 926 (by decide +kernel) rfl, zWd_in 41 (by decide +kernel) rfl⟩
theorem csX5_201 : zSV RX5 201 μX5_others := ⟨zWd_in 928 (by decide +kernel) rfl, zWd_in 930 (by decide +kernel) rfl, zWd_in 42 (by decide +kernel) rfl⟩
theorem csX5_198 : zSS RX5 198 μX5_greater := ⟨Or.inl (zWd_in 932 (by decide +kernel) rfl), zWd_in 933 (by decide +kernel) rfl⟩
theorem csX5_210 : zSV RX5 210 μX5_answersBy := ⟨zWd_in 935 (by decide +kernel) rfl, zWd_in 937 (by decide +kernel) rfl, zWd_in 43 (by decide +kernel) rfl⟩
theorem csX5_251 : zSV RX5 251 μX5_infoBy := ⟨zWd_in 939 (by decide +kernel) rfl, zWd_in 941 (by decide +kernel) rfl, zWd_in 44 (by decide +kernel) rfl⟩
theorem csX5_243 : zSV RX5 243 μX5_rivals := ⟨zWd_in 943 (by decide +kernel) rfl, zWd_in 945 (by decide +kernel) rfl, zWd_in 45 (by decide +kernel) rfl⟩
theorem csL_53 : zSV RL 53 μX5_bound := ⟨zWd_in 947 (by decide +kernel) rfl, zWd_in 948 (by decide +kernel) rfl, zWd_in 949 (by decide +kernel) rfl⟩
theorem csX5_254 : zSV RX5 254 μX5_boundBy := ⟨zWd_in 951 (by decide +kernel) rfl, zWd_in 953 (by decide +kernel) rfl, zWd_in 46 (by decide +kernel) rfl⟩
theorem csL_57 : zSV RL 57 μX5_searched := ⟨zWd_in 955 (by decide +kernel) rfl, zWd_in 956 (by decide +kernel) rfl, zWd_in 957 (by decide +kernel) rfl⟩
theorem csX5_260 : zSV RX5 260 μX5_searchedBy := ⟨zWd_in 959 (by decide +kernel) rfl, zWd_in 961 (by decide +kernel) rfl, zWd_in 47 (by decide +kernel) rfl⟩
theorem csX5_257 : zSV RX5 257 μX5_momentOf := ⟨zWd_in 963 (by decide +kernel) rfl, zWd_in 965 (by decide +kernel) rfl, zWd_in 48 (by decide +kernel) rfl⟩
theorem csL_61 : zSV RL 61 μX5_quick := ⟨zWd_in 967 (by decide +kernel) rfl, zWd_in 968 (by decide +kernel) rfl, zWd_in 969 (by decide +kernel) rfl⟩
theorem csX5_269 : zSV RX5 269 μX5_quickBy := ⟨zWd_in 971 (by decide +kernel) rfl, zWd_in 973 (by decide +kernel) rfl, zWd_in 49 (by decide +kernel) rfl⟩
theorem csX5_266 : zSV RX5 266 μX5_holdsQuick := ⟨zWd_in 975 (by decide +kernel) rfl, zWd_in 977 (by decide +kernel) rfl, zWd_in 50 (by decide +kernel) rfl⟩
theorem csX5_263 : zSV RX5 263 μX5_comesQuick := ⟨zWd_in 979 (by decide +kernel) rfl, zWd_in 981 (by decide +kernel) rfl, zWd_in 51 (by decide +kernel) rfl⟩
theorem csL_66 : zSV RL 66 μX5_rounds := ⟨zWd_in 983 (by decide +kernel) rfl, zWd_in 984 (by decide +kernel) rfl, zWd_in 985 (by decide +kernel) rfl⟩
theorem csX5_272 : zSV RX5 272 μX5_roundsNow := ⟨zWd_in 987 (by decide +kernel) rfl, zWd_in 989 (by decide +kernel) rfl, zWd_in 52 (by decide +kernel) rfl⟩
theorem csL_70 : zSV RL 70 μX5_worst := ⟨zWd_in 991 (by decide +kernel) rfl, zWd_in 992 (by decide +kernel) rfl, zWd_in 993 (by decide +kernel) rfl⟩
theorem csX5_276 : zSV RX5 276 μX5_worstBy := ⟨zWd_in 995 (by decide +kernel) rfl, zWd_in 997 (by decide +kernel) rfl, zWd_in 53 (by decide +kernel) rfl⟩
theorem csL_74 : zSV RL 74 μX5_meets := ⟨zWd_in 999 (by decide +kernel) rfl, zWd_in 1000 (by decide +kernel) rfl, zWd_in 1001 (by decide +kernel) rfl⟩
theorem csX5_285 : zSV RX5 285 μX5_meetsNow := ⟨zWd_in 1003 (by decide +kernel) rfl, zWd_in 1005 (by decide +kernel) rfl, zWd_in 54 (by decide +kernel) rfl⟩
theorem csX5_282 : zSV RX5 282 μX5_isMet := ⟨zWd_in 1007 (by decide +kernel) rfl, zWd_in 1009 (by decide +kernel) rfl, zWd_in 55 (by decide +kernel) rfl⟩
theorem csX5_279 : zSV RX5 279 μX5_isAsked := ⟨zWd_in 1011 (by decide +kernel) rfl, zWd_in 1013 (by decide +kernel) rfl, zWd_in 56 (by decide +kernel) rfl⟩
theorem csL_78 : zSV RL 78 μX5_margin := ⟨zWd_in 1015 (by decide +kernel) rfl, zWd_in 1016 (by decide +kernel) rfl, zWd_in 1017 (by decide +kernel) rfl⟩
theorem csX5_291 : zSV RX5 291 μX5_marginBy := ⟨zWd_in 1019 (by decide +kernel) rfl, zWd_in 1021 (by decide +kernel) rfl, zWd_in 57 (by decide +kernel) rfl⟩
theorem csX5_288 : zSV RX5 288 μX5_allMeet := ⟨zWd_in 1023 (by decide +kernel) rfl, zWd_in 1025 (by decide +kernel) rfl, zWd_in 58 (by decide +kernel) rfl⟩
theorem csL_82 : zSV RL 82 μX5_better := ⟨zWd_in 1027 (by decide +kernel) rfl, zWd_in 1028 (by decide +kernel) rfl, zWd_in 1029 (by decide +kernel) rfl⟩
theorem csX5_294 : zSV RX5 294 μX5_betterBy := ⟨zWd_in 1031 (by decide +kernel) rfl, zWd_in 1033 (by decide +kernel) rfl, zWd_in 59 (by decide +kernel) rfl⟩
theorem csL_86 : zSV RL 86 μX5_run := ⟨zWd_in 1035 (by decide +kernel) rfl, zWd_in 1036 (by decide +kernel) rfl, zWd_in 1037 (by decide +kernel) rfl⟩
theorem kX5_303 : Cond.constantLong RX5 303 (zl (300)) ∈ zWd := zWd_in 1039 (by decide +kernel) rfl
theorem csX5_305 : zSV RX5 305 μX5_begins := ⟨zWd_in 1040 (by decide +kernel) rfl, zWd_in 1042 (by decide +kernel) rfl, zWd_in 60 (by decide +kernel) rfl⟩
theorem csX5_297 : zSV RX5 297 μX5_releaseOf := ⟨zWd_in 1044 (by decide +kernel) rfl, zWd_in 1046 (by decide +kernel) rfl, zWd_in 61 (by decide +kernel) rfl⟩
theorem csX5_311 : zSV RX5 311 μX5_does := ⟨zWd_in 1048 (by decide +kernel) rfl, zWd_in 1050 (by decide +kernel) rfl, zWd_in 62 (by decide +kernel) rfl⟩
theorem csX5_314 : zSV RX5 314 μX5_ends := ⟨zWd_in 1052 (by decide +kernel) rfl, zWd_in 1054 (by decide +kernel) rfl, zWd_in 63 (by decide +kernel) rfl⟩
theorem csX5_300 : zSS RX5 300 μX5_lesser := ⟨Or.inl (zWd_in 1056 (by decide +kernel) rfl), zWd_in 1057 (by decide +kernel) rfl⟩
theorem csX5_318 : zSV RX5 318 μX5_endedNow := ⟨zWd_in 1059 (by decide +kernel) rfl, zWd_in 1061 (by decide +kernel) rfl, zWd_in 64 (by decide +kernel) rfl⟩
theorem csL_90 : zSV RL 90 μX5_seen := ⟨zWd_in 1063 (by decide +kernel) rfl, zWd_in 1064 (by decide +kernel) rfl, zWd_in 1065 (by decide +kernel) rfl⟩
theorem csX5_321 : zSV RX5 321 μX5_seenBy := ⟨zWd_in 1067 (by decide +kernel) rfl, zWd_in 1069 (by decide +kernel) rfl, zWd_in 65 (by decide +kernel) rfl⟩
theorem csL_94 : zSV RL 94 μX5_tick := ⟨zWd_in 1071 (by decide +kernel) rfl, zWd_in 1072 (by decide +kernel) rfl, zWd_in 1073 (by decide +kernel) rfl⟩
theorem kX5_324 : Cond.constantLong RX5 324 (zl (299)) ∈ zWd := zWd_in 1075 (by decide +kernel) rfl
theorem csX5_326 : zSV RX5 326 μX5_tickBy := ⟨zWd_in 1076 (by decide +kernel) rfl, zWd_in 1078 (by decide +kernel) rfl, zWd_in 66 (by decide +kernel) rfl⟩
theorem csL_119 : zSV RL 119 μX5_write := ⟨zWd_in 1080 (by decide +kernel) rfl, zWd_in 1081 (by decide +kernel) rfl, zWd_in 1082 (by decide +kernel) rfl⟩
theorem csL_123 : zSV RL 123 μX5_count := ⟨zWd_in 1084 (by decide +kernel) rfl, zWd_in 1085 (by decide +kernel) rfl, zWd_in 1086 (by decide +kernel) rfl⟩
theorem csX5_335 : zSV RX5 335 μX5_countBy := ⟨zWd_in 1088 (by decide +kernel) rfl, zWd_in 1090 (by decide +kernel) rfl, zWd_in 67 (by decide +kernel) rfl⟩
theorem csX5_329 : zSV RX5 329 μX5_idle := ⟨zWd_in 1092 (by decide +kernel) rfl, zWd_in 1094 (by decide +kernel) rfl, zWd_in 68 (by decide +kernel) rfl⟩
theorem csX5_332 : zSV RX5 332 μX5_over := ⟨zWd_in 1096 (by decide +kernel) rfl, zWd_in 1098 (by decide +kernel) rfl, zWd_in 69 (by decide +kernel) rfl⟩
theorem csL_128 : zSV RL 128 μX5_digest := ⟨zWd_in 1100 (by decide +kernel) rfl, zWd_in 1101 (by decide +kernel) rfl, zWd_in 1102 (by decide +kernel) rfl⟩
theorem kX5_340 : Cond.constantLong RX5 340 (zl (17)) ∈ zWd := zWd_in 1104 (by decide +kernel) rfl
theorem kX5_338 : Cond.constantLong RX5 338 (zl (31)) ∈ zWd := zWd_in 1105 (by decide +kernel) rfl
theorem csX5_342 : zSV RX5 342 μX5_stepTells := ⟨zWd_in 1106 (by decide +kernel) rfl, zWd_in 1108 (by decide +kernel) rfl, zWd_in 70 (by decide +kernel) rfl⟩
end ZF
