section ZF
set_option maxRecDepth 20000 in
theorem clX0 : zCl 0 RX0 TX0 18 := ⟨rfl, fun w h => zWd_of (inX0 w h) ((by decide +kernel : ∀ w ∈ wsX00, goodWord w = true) w h), ⟨tyX0, tyX0_ok⟩, nmX0, by decide +kernel⟩
set_option maxRecDepth 20000 in
theorem clX1 : zCl 1 RX1 TX1 10 := ⟨rfl, fun w h => zWd_of (inX1 w h) ((by decide +kernel : ∀ w ∈ wsX10, goodWord w = true) w h), ⟨tyX1, tyX1_ok⟩, nmX1, by decide +kernel⟩
set_option maxRecDepth 20000 in
theorem clX2 : zCl 2 RX2 TX2 3 := ⟨rfl, fun w h => zWd_of (inX2 w h) ((by decide +kernel : ∀ w ∈ wsX20, goodWord w = true) w h), ⟨tyX2, tyX2_ok⟩, nmX2, by decide +kernel⟩
set_option maxRecDepth 20000 in
theorem clX3 : zCl 3 RX3 TX3 4 := ⟨rfl, fun w h => zWd_of (inX3 w h) ((by decide +kernel : ∀ w ∈ wsX30, goodWord w = true) w h), ⟨tyX3, tyX3_ok⟩, nmX3, by decide +kernel⟩
set_option maxRecDepth 20000 in
theorem clX4 : zCl 4 RX4 TX4 6 := ⟨rfl, fun w h => zWd_of (inX4 w h) ((by decide +kernel : ∀ w ∈ wsX40, goodWord w = true) w h), ⟨tyX4, tyX4_ok⟩, nmX4, by decide +kernel⟩
theorem flX2_11 : zFl RX2 11 2 0 := ⟨RX2, TX2, 3, clX2, by decide, Or.inl (zWd_in 48 (by decide +kernel) rfl)⟩
theorem fpX2_11 : zFp RX2 11 2 0 (.array (.array .int)) true := ⟨RX2, TX2, 3, clX2, by decide, Or.inl (zWd_in 48 (by decide +kernel) rfl), rfl, by decide +kernel, fun _ => rfl⟩
theorem flX4_61 : zFl RX4 61 2 0 := ⟨RX2, TX2, 3, clX2, by decide, Or.inl (zWd_in 49 (by decide +kernel) rfl)⟩
theorem flX0_63 : zFl RX0 63 2 0 := ⟨RX2, TX2, 3, clX2, by decide, Or.inl (zWd_in 50 (by decide +kernel) rfl)⟩
theorem flX1_65 : zFl RX1 65 2 0 := ⟨RX2, TX2, 3, clX2, by decide, Or.inl (zWd_in 51 (by decide +kernel) rfl)⟩
theorem flX2_16 : zFl RX2 16 2 1 := ⟨RX2, TX2, 3, clX2, by decide, Or.inl (zWd_in 52 (by decide +kernel) rfl)⟩
theorem fpX2_16 : zFp RX2 16 2 1 (.array (.array .int)) true := ⟨RX2, TX2, 3, clX2, by decide, Or.inl (zWd_in 52 (by decide +kernel) rfl), rfl, by decide +kernel, fun _ => rfl⟩
theorem flX1_79 : zFl RX1 79 2 1 := ⟨RX2, TX2, 3, clX2, by decide, Or.inl (zWd_in 53 (by decide +kernel) rfl)⟩
theorem flX0_98 : zFl RX0 98 2 1 := ⟨RX2, TX2, 3, clX2, by decide, Or.inl (zWd_in 54 (by decide +kernel) rfl)⟩
theorem flX4_84 : zFl RX4 84 2 1 := ⟨RX2, TX2, 3, clX2, by decide, Or.inl (zWd_in 55 (by decide +kernel) rfl)⟩
theorem flX2_19 : zFl RX2 19 2 2 := ⟨RX2, TX2, 3, clX2, by decide, Or.inl (zWd_in 56 (by decide +kernel) rfl)⟩
theorem fpX2_19 : zFp RX2 19 2 2 (.array .int) true := ⟨RX2, TX2, 3, clX2, by decide, Or.inl (zWd_in 56 (by decide +kernel) rfl), rfl, by decide +kernel, fun _ => rfl⟩
theorem flX4_73 : zFl RX4 73 2 2 := ⟨RX2, TX2, 3, clX2, by decide, Or.inl (zWd_in 57 (by decide +kernel) rfl)⟩
theorem flX0_129 : zFl RX0 129 2 2 := ⟨RX2, TX2, 3, clX2, by decide, Or.inl (zWd_in 58 (by decide +kernel) rfl)⟩
theorem flX0_45 : zFl RX0 45 0 0 := ⟨RX0, TX0, 18, clX0, by decide, Or.inl (zWd_in 73 (by decide +kernel) rfl)⟩
theorem fpX0_45 : zFp RX0 45 0 0 (.object "OffsetChains$Plan") true := ⟨RX0, TX0, 18, clX0, by decide, Or.inl (zWd_in 73 (by decide +kernel) rfl), rfl, by decide +kernel, fun _ => rfl⟩
theorem flX0_9 : zFl RX0 9 0 1 := ⟨RX0, TX0, 18, clX0, by decide, Or.inl (zWd_in 74 (by decide +kernel) rfl)⟩
theorem fpX0_9 : zFp RX0 9 0 1 (.array .int) true := ⟨RX0, TX0, 18, clX0, by decide, Or.inl (zWd_in 74 (by decide +kernel) rfl), rfl, by decide +kernel, fun _ => rfl⟩
theorem flX0_15 : zFl RX0 15 0 2 := ⟨RX0, TX0, 18, clX0, by decide, Or.inl (zWd_in 75 (by decide +kernel) rfl)⟩
theorem fpX0_15 : zFp RX0 15 0 2 (.array .int) true := ⟨RX0, TX0, 18, clX0, by decide, Or.inl (zWd_in 75 (by decide +kernel) rfl), rfl, by decide +kernel, fun _ => rfl⟩
theorem flX0_18 : zFl RX0 18 0 3 := ⟨RX0, TX0, 18, clX0, by decide, Or.inl (zWd_in 76 (by decide +kernel) rfl)⟩
theorem fpX0_18 : zFp RX0 18 0 3 (.array .int) true := ⟨RX0, TX0, 18, clX0, by decide, Or.inl (zWd_in 76 (by decide +kernel) rfl), rfl, by decide +kernel, fun _ => rfl⟩
theorem flX0_21 : zFl RX0 21 0 4 := ⟨RX0, TX0, 18, clX0, by decide, Or.inl (zWd_in 77 (by decide +kernel) rfl)⟩
theorem fpX0_21 : zFp RX0 21 0 4 (.array .int) true := ⟨RX0, TX0, 18, clX0, by decide, Or.inl (zWd_in 77 (by decide +kernel) rfl), rfl, by decide +kernel, fun _ => rfl⟩
theorem flX0_24 : zFl RX0 24 0 5 := ⟨RX0, TX0, 18, clX0, by decide, Or.inl (zWd_in 78 (by decide +kernel) rfl)⟩
theorem fpX0_24 : zFp RX0 24 0 5 (.array .int) true := ⟨RX0, TX0, 18, clX0, by decide, Or.inl (zWd_in 78 (by decide +kernel) rfl), rfl, by decide +kernel, fun _ => rfl⟩
theorem flX0_27 : zFl RX0 27 0 6 := ⟨RX0, TX0, 18, clX0, by decide, Or.inl (zWd_in 79 (by decide +kernel) rfl)⟩
theorem fpX0_27 : zFp RX0 27 0 6 (.array .int) true := ⟨RX0, TX0, 18, clX0, by decide, Or.inl (zWd_in 79 (by decide +kernel) rfl), rfl, by decide +kernel, fun _ => rfl⟩
theorem flX0_30 : zFl RX0 30 0 7 := ⟨RX0, TX0, 18, clX0, by decide, Or.inl (zWd_in 80 (by decide +kernel) rfl)⟩
theorem fpX0_30 : zFp RX0 30 0 7 (.array .int) true := ⟨RX0, TX0, 18, clX0, by decide, Or.inl (zWd_in 80 (by decide +kernel) rfl), rfl, by decide +kernel, fun _ => rfl⟩
theorem flX0_33 : zFl RX0 33 0 8 := ⟨RX0, TX0, 18, clX0, by decide, Or.inl (zWd_in 81 (by decide +kernel) rfl)⟩
theorem fpX0_33 : zFp RX0 33 0 8 (.array .int) true := ⟨RX0, TX0, 18, clX0, by decide, Or.inl (zWd_in 81 (by decide +kernel) rfl), rfl, by decide +kernel, fun _ => rfl⟩
theorem flX0_36 : zFl RX0 36 0 9 := ⟨RX0, TX0, 18, clX0, by decide, Or.inl (zWd_in 82 (by decide +kernel) rfl)⟩
theorem fpX0_36 : zFp RX0 36 0 9 (.array .int) true := ⟨RX0, TX0, 18, clX0, by decide, Or.inl (zWd_in 82 (by decide +kernel) rfl), rfl, by decide +kernel, fun _ => rfl⟩
theorem flX0_39 : zFl RX0 39 0 10 := ⟨RX0, TX0, 18, clX0, by decide, Or.inl (zWd_in 83 (by decide +kernel) rfl)⟩
theorem fpX0_39 : zFp RX0 39 0 10 (.array .int) true := ⟨RX0, TX0, 18, clX0, by decide, Or.inl (zWd_in 83 (by decide +kernel) rfl), rfl, by decide +kernel, fun _ => rfl⟩
theorem flX0_42 : zFl RX0 42 0 11 := ⟨RX0, TX0, 18, clX0, by decide, Or.inl (zWd_in 84 (by decide +kernel) rfl)⟩
theorem fpX0_42 : zFp RX0 42 0 11 (.array .int) true := ⟨RX0, TX0, 18, clX0, by decide, Or.inl (zWd_in 84 (by decide +kernel) rfl), rfl, by decide +kernel, fun _ => rfl⟩
theorem flX0_89 : zFl RX0 89 0 12 := ⟨RX0, TX0, 18, clX0, by decide, Or.inl (zWd_in 85 (by decide +kernel) rfl)⟩
theorem fpX0_89 : zFp RX0 89 0 12 .int false := ⟨RX0, TX0, 18, clX0, by decide, Or.inl (zWd_in 85 (by decide +kernel) rfl), rfl, by decide +kernel, fun h => by cases h⟩
theorem flX0_120 : zFl RX0 120 0 13 := ⟨RX0, TX0, 18, clX0, by decide, Or.inl (zWd_in 86 (by decide +kernel) rfl)⟩
theorem fpX0_120 : zFp RX0 120 0 13 .int false := ⟨RX0, TX0, 18, clX0, by decide, Or.inl (zWd_in 86 (by decide +kernel) rfl), rfl, by decide +kernel, fun h => by cases h⟩
theorem flX0_123 : zFl RX0 123 0 14 := ⟨RX0, TX0, 18, clX0, by decide, Or.inl (zWd_in 87 (by decide +kernel) rfl)⟩
theorem fpX0_123 : zFp RX0 123 0 14 .int false := ⟨RX0, TX0, 18, clX0, by decide, Or.inl (zWd_in 87 (by decide +kernel) rfl), rfl, by decide +kernel, fun h => by cases h⟩
theorem flX0_126 : zFl RX0 126 0 15 := ⟨RX0, TX0, 18, clX0, by decide, Or.inl (zWd_in 88 (by decide +kernel) rfl)⟩
theorem fpX0_126 : zFp RX0 126 0 15 .int false := ⟨RX0, TX0, 18, clX0, by decide, Or.inl (zWd_in 88 (by decide +kernel) rfl), rfl, by decide +kernel, fun h => by cases h⟩
theorem flX0_49 : zFl RX0 49 0 16 := ⟨RX0, TX0, 18, clX0, by decide, Or.inl (zWd_in 89 (by decide +kernel) rfl)⟩
theorem fpX0_49 : zFp RX0 49 0 16 .int false := ⟨RX0, TX0, 18, clX0, by decide, Or.inl (zWd_in 89 (by decide +kernel) rfl), rfl, by decide +kernel, fun h => by cases h⟩
theorem flX4_129 : zFl RX4 129 0 16 := ⟨RX0, TX0, 18, clX0, by decide, Or.inr ⟨"OffsetChains", zNs_in 90 (by decide +kernel) rfl⟩⟩
theorem fpX4_129 : zFp RX4 129 0 16 .int false := ⟨RX0, TX0, 18, clX0, by decide, Or.inr ⟨rfl, "OffsetChains", zNs_in 90 (by decide +kernel) rfl⟩, rfl, by decide +kernel, fun h => by cases h⟩
theorem flX0_53 : zFl RX0 53 0 17 := ⟨RX0, TX0, 18, clX0, by decide, Or.inl (zWd_in 91 (by decide +kernel) rfl)⟩
theorem fpX0_53 : zFp RX0 53 0 17 .boolean false := ⟨RX0, TX0, 18, clX0, by decide, Or.inl (zWd_in 91 (by decide +kernel) rfl), rfl, by decide +kernel, fun h => by cases h⟩
theorem flX4_65 : zFl RX4 65 0 17 := ⟨RX0, TX0, 18, clX0, by decide, Or.inr ⟨"OffsetChains", zNs_in 92 (by decide +kernel) rfl⟩⟩
theorem fpX4_65 : zFp RX4 65 0 17 .boolean false := ⟨RX0, TX0, 18, clX0, by decide, Or.inr ⟨rfl, "OffsetChains", zNs_in 92 (by decide +kernel) rfl⟩, rfl, by decide +kernel, fun h => by cases h⟩
theorem flX1_41 : zFl RX1 41 1 0 := ⟨RX1, TX1, 10, clX1, by decide, Or.inl (zWd_in 142 (by decide +kernel) rfl)⟩
theorem fpX1_41 : zFp RX1 41 1 0 .int false := ⟨RX1, TX1, 10, clX1, by decide, Or.inl (zWd_in 142 (by decide +kernel) rfl), rfl, by decide +kernel, fun h => by cases h⟩
theorem flX4_231 : zFl RX4 231 1 0 := ⟨RX1, TX1, 10, clX1, by decide, Or.inr ⟨"OffsetChains", zNs_in 143 (by decide +kernel) rfl⟩⟩
theorem fpX4_231 : zFp RX4 231 1 0 .int false := ⟨RX1, TX1, 10, clX1, by decide, Or.inr ⟨rfl, "OffsetChains", zNs_in 143 (by decide +kernel) rfl⟩, rfl, by decide +kernel, fun h => by cases h⟩
theorem flX1_45 : zFl RX1 45 1 1 := ⟨RX1, TX1, 10, clX1, by decide, Or.inl (zWd_in 144 (by decide +kernel) rfl)⟩
theorem fpX1_45 : zFp RX1 45 1 1 .int false := ⟨RX1, TX1, 10, clX1, by decide, Or.inl (zWd_in 144 (by decide +kernel) rfl), rfl, by decide +kernel, fun h => by cases h⟩
theorem flX4_149 : zFl RX4 149 1 1 := ⟨RX1, TX1, 10, clX1, by decide, Or.inr ⟨"OffsetChains", zNs_in 145 (by decide +kernel) rfl⟩⟩
theorem fpX4_149 : zFp RX4 149 1 1 .int false := ⟨RX1, TX1, 10, clX1, by decide, Or.inr ⟨rfl, "OffsetChains", zNs_in 145 (by decide +kernel) rfl⟩, rfl, by decide +kernel, fun h => by cases h⟩
theorem flX1_9 : zFl RX1 9 1 2 := ⟨RX1, TX1, 10, clX1, by decide, Or.inl (zWd_in 146 (by decide +kernel) rfl)⟩
theorem fpX1_9 : zFp RX1 9 1 2 (.array .int) true := ⟨RX1, TX1, 10, clX1, by decide, Or.inl (zWd_in 146 (by decide +kernel) rfl), rfl, by decide +kernel, fun _ => rfl⟩
theorem flX4_228 : zFl RX4 228 1 2 := ⟨RX1, TX1, 10, clX1, by decide, Or.inr ⟨"OffsetChains", zNs_in 147 (by decide +kernel) rfl⟩⟩
theorem flX1_17 : zFl RX1 17 1 3 := ⟨RX1, TX1, 10, clX1, by decide, Or.inl (zWd_in 148 (by decide +kernel) rfl)⟩
theorem fpX1_17 : zFp RX1 17 1 3 (.array (.array .int)) true := ⟨RX1, TX1, 10, clX1, by decide, Or.inl (zWd_in 148 (by decide +kernel) rfl), rfl, by decide +kernel, fun _ => rfl⟩
theorem flX1_20 : zFl RX1 20 1 4 := ⟨RX1, TX1, 10, clX1, by decide, Or.inl (zWd_in 149 (by decide +kernel) rfl)⟩
theorem fpX1_20 : zFp RX1 20 1 4 (.array .int) true := ⟨RX1, TX1, 10, clX1, by decide, Or.inl (zWd_in 149 (by decide +kernel) rfl), rfl, by decide +kernel, fun _ => rfl⟩
theorem flX1_23 : zFl RX1 23 1 5 := ⟨RX1, TX1, 10, clX1, by decide, Or.inl (zWd_in 150 (by decide +kernel) rfl)⟩
theorem fpX1_23 : zFp RX1 23 1 5 (.array .int) true := ⟨RX1, TX1, 10, clX1, by decide, Or.inl (zWd_in 150 (by decide +kernel) rfl), rfl, by decide +kernel, fun _ => rfl⟩
theorem flX1_26 : zFl RX1 26 1 6 := ⟨RX1, TX1, 10, clX1, by decide, Or.inl (zWd_in 151 (by decide +kernel) rfl)⟩
theorem fpX1_26 : zFp RX1 26 1 6 (.array .int) true := ⟨RX1, TX1, 10, clX1, by decide, Or.inl (zWd_in 151 (by decide +kernel) rfl), rfl, by decide +kernel, fun _ => rfl⟩
theorem flX1_29 : zFl RX1 29 1 7 := ⟨RX1, TX1, 10, clX1, by decide, Or.inl (zWd_in 152 (by decide +kernel) rfl)⟩
theorem fpX1_29 : zFp RX1 29 1 7 (.array .int) true := ⟨RX1, TX1, 10, clX1, by decide, Or.inl (zWd_in 152 (by decide +kernel) rfl), rfl, by decide +kernel, fun _ => rfl⟩
theorem flX1_32 : zFl RX1 32 1 8 := ⟨RX1, TX1, 10, clX1, by decide, Or.inl (zWd_in 153 (by decide +kernel) rfl)⟩
theorem fpX1_32 : zFp RX1 32 1 8 (.array (.array .int)) true := ⟨RX1, TX1, 10, clX1, by decide, Or.inl (zWd_in 153 (by decide +kernel) rfl), rfl, by decide +kernel, fun _ => rfl⟩
theorem flX1_35 : zFl RX1 35 1 9 := ⟨RX1, TX1, 10, clX1, by decide, Or.inl (zWd_in 154 (by decide +kernel) rfl)⟩
theorem fpX1_35 : zFp RX1 35 1 9 (.array .int) true := ⟨RX1, TX1, 10, clX1, by decide, Or.inl (zWd_in 154 (by decide +kernel) rfl), rfl, by decide +kernel, fun _ => rfl⟩
theorem flX3_9 : zFl RX3 9 3 0 := ⟨RX3, TX3, 4, clX3, by decide, Or.inl (zWd_in 183 (by decide +kernel) rfl)⟩
theorem fpX3_9 : zFp RX3 9 3 0 .boolean false := ⟨RX3, TX3, 4, clX3, by decide, Or.inl (zWd_in 183 (by decide +kernel) rfl), rfl, by decide +kernel, fun h => by cases h⟩
theorem flX3_15 : zFl RX3 15 3 3 := ⟨RX3, TX3, 4, clX3, by decide, Or.inl (zWd_in 184 (by decide +kernel) rfl)⟩
theorem fpX3_15 : zFp RX3 15 3 3 (.array .long) true := ⟨RX3, TX3, 4, clX3, by decide, Or.inl (zWd_in 184 (by decide +kernel) rfl), rfl, by decide +kernel, fun _ => rfl⟩
theorem flX4_12 : zFl RX4 12 4 0 := ⟨RX4, TX4, 6, clX4, by decide, Or.inl (zWd_in 195 (by decide +kernel) rfl)⟩
theorem fpX4_12 : zFp RX4 12 4 0 (.object "OffsetChains$Plan") true := ⟨RX4, TX4, 6, clX4, by decide, Or.inl (zWd_in 195 (by decide +kernel) rfl), rfl, by decide +kernel, fun _ => rfl⟩
theorem flX4_21 : zFl RX4 21 4 1 := ⟨RX4, TX4, 6, clX4, by decide, Or.inl (zWd_in 196 (by decide +kernel) rfl)⟩
theorem fpX4_21 : zFp RX4 21 4 1 (.object "OffsetChains$Answers") true := ⟨RX4, TX4, 6, clX4, by decide, Or.inl (zWd_in 196 (by decide +kernel) rfl), rfl, by decide +kernel, fun _ => rfl⟩
theorem flX4_25 : zFl RX4 25 4 2 := ⟨RX4, TX4, 6, clX4, by decide, Or.inl (zWd_in 197 (by decide +kernel) rfl)⟩
theorem fpX4_25 : zFp RX4 25 4 2 (.object "OffsetChains$Answers") true := ⟨RX4, TX4, 6, clX4, by decide, Or.inl (zWd_in 197 (by decide +kernel) rfl), rfl, by decide +kernel, fun _ => rfl⟩
theorem flX4_31 : zFl RX4 31 4 3 := ⟨RX4, TX4, 6, clX4, by decide, Or.inl (zWd_in 198 (by decide +kernel) rfl)⟩
theorem fpX4_31 : zFp RX4 31 4 3 (.object "OffsetChains$Course") true := ⟨RX4, TX4, 6, clX4, by decide, Or.inl (zWd_in 198 (by decide +kernel) rfl), rfl, by decide +kernel, fun _ => rfl⟩
theorem flX4_37 : zFl RX4 37 4 4 := ⟨RX4, TX4, 6, clX4, by decide, Or.inl (zWd_in 199 (by decide +kernel) rfl)⟩
theorem fpX4_37 : zFp RX4 37 4 4 (.array (.object "OffsetChains$Sheet")) true := ⟨RX4, TX4, 6, clX4, by decide, Or.inl (zWd_in 199 (by decide +kernel) rfl), rfl, by decide +kernel, fun _ => rfl⟩
theorem flX4_42 : zFl RX4 42 4 5 := ⟨RX4, TX4, 6, clX4, by decide, Or.inl (zWd_in 200 (by decide +kernel) rfl)⟩
theorem fpX4_42 : zFp RX4 42 4 5 .int false := ⟨RX4, TX4, 6, clX4, by decide, Or.inl (zWd_in 200 (by decide +kernel) rfl), rfl, by decide +kernel, fun h => by cases h⟩
theorem stX4_54 : Cond.fieldLink RX4 54 "OffsetChains" (zTn 0) "[I" ∈ zWd := zWd_in 224 (by decide +kernel) rfl
theorem stX4_58 : Cond.fieldLink RX4 58 "OffsetChains" (zTn 1) "[I" ∈ zWd := zWd_in 226 (by decide +kernel) rfl
theorem stX4_205 : Cond.fieldLink RX4 205 "OffsetChains" (zTn 2) "[I" ∈ zWd := zWd_in 463 (by decide +kernel) rfl
theorem stX4_208 : Cond.fieldLink RX4 208 "OffsetChains" (zTn 3) "[I" ∈ zWd := zWd_in 465 (by decide +kernel) rfl
abbrev μX4_init : zU := (yX4_init, cX4_init, 2, none)
set_option maxRecDepth 20000 in
theorem mkX4_init : zMk μX4_init 0 := ⟨zWd_in 33 rfl rfl, zWd_in 21 (by decide +kernel) rfl, ⟨by decide +kernel, by decide +kernel, by decide +kernel⟩, by decide⟩
abbrev μX2_init : zU := (yX2_init, cX2_init, 1, none)
set_option maxRecDepth 20000 in
theorem mkX2_init : zMk μX2_init 0 := ⟨zWd_in 41 rfl rfl, zWd_in 22 (by decide +kernel) rfl, ⟨by decide +kernel, by decide +kernel, by decide +kernel⟩, by decide⟩
abbrev μJ7_fill_53178 : zU := (yJ7_fill_53178, cJ7_fill_53178, 4, none)
set_option maxRecDepth 20000 in
theorem mkJ7_fill_53178 : zMk μJ7_fill_53178 2 := ⟨zWd_in 47 rfl rfl, zWd_in 23 (by decide +kernel) rfl, ⟨by decide +kernel, by decide +kernel, by decide +kernel⟩, by decide⟩
abbrev μX0_init : zU := (yX0_init, cX0_init, 2, none)
set_option maxRecDepth 20000 in
theorem mkX0_init : zMk μX0_init 1 := ⟨zWd_in 71 rfl rfl, zWd_in 24 (by decide +kernel) rfl, ⟨by decide +kernel, by decide +kernel, by decide +kernel⟩, by decide⟩
abbrev μX1_init : zU := (yX1_init, cX1_init, 1, none)
set_option maxRecDepth 20000 in
theorem mkX1_init : zMk μX1_init 0 := ⟨zWd_in 134 rfl rfl, zWd_in 25 (by decide +kernel) rfl, ⟨by decide +kernel, by decide +kernel, by decide +kernel⟩, by decide⟩
abbrev μX1_clear : zU := (yX1_clear, cX1_clear, 2, none)
set_option maxRecDepth 20000 in
theorem mkX1_clear : zMk μX1_clear 0 := ⟨zWd_in 140 rfl rfl, zWd_in 25 (by decide +kernel) rfl, ⟨by decide +kernel, by decide +kernel, by decide +kernel⟩, by decide⟩
abbrev μX3_init : zU := (yX3_init, cX3_init, 1, none)
set_option maxRecDepth 20000 in
theorem mkX3_init : zMk μX3_init 0 := ⟨zWd_in 181 rfl rfl, zWd_in 26 (by decide +kernel) rfl, ⟨by decide +kernel, by decide +kernel, by decide +kernel⟩, by decide⟩
abbrev μX4_chain : zU := (yX4_chain, cX4_chain, 5, some .int)
set_option maxRecDepth 20000 in
theorem mkX4_chain : zMk μX4_chain 3 := ⟨zWd_in 217 rfl rfl, zWd_in 21 (by decide +kernel) rfl, ⟨by decide +kernel, by decide +kernel, by decide +kernel⟩, by decide⟩
abbrev μX4_isChain : zU := (yX4_isChain, cX4_isChain, 1, some .boolean)
set_option maxRecDepth 20000 in
theorem mkX4_isChain : zMk μX4_isChain 1 := ⟨zWd_in 220 rfl rfl, zWd_in 21 (by decide +kernel) rfl, ⟨by decide +kernel, by decide +kernel, by decide +kernel⟩, by decide⟩
abbrev μX4_within : zU := (yX4_within, cX4_within, 4, some .boolean)
set_option maxRecDepth 20000 in
theorem mkX4_within : zMk μX4_within 3 := ⟨zWd_in 223 rfl rfl, zWd_in 21 (by decide +kernel) rfl, ⟨by decide +kernel, by decide +kernel, by decide +kernel⟩, by decide⟩
abbrev μX4_has : zU := (yX4_has, cX4_has, 3, some .int)
set_option maxRecDepth 20000 in
theorem mkX4_has : zMk μX4_has 2 := ⟨zWd_in 231 rfl rfl, zWd_in 21 (by decide +kernel) rfl, ⟨by decide +kernel, by decide +kernel, by decide +kernel⟩, by decide⟩
abbrev μX4_traitOf : zU := (yX4_traitOf, cX4_traitOf, 3, some .int)
set_option maxRecDepth 20000 in
theorem mkX4_traitOf : zMk μX4_traitOf 2 := ⟨zWd_in 235 rfl rfl, zWd_in 21 (by decide +kernel) rfl, ⟨by decide +kernel, by decide +kernel, by decide +kernel⟩, by decide⟩
abbrev μX4_info : zU := (yX4_info, cX4_info, 5, some .int)
set_option maxRecDepth 20000 in
theorem mkX4_info : zMk μX4_info 3 := ⟨zWd_in 239 rfl rfl, zWd_in 21 (by decide +kernel) rfl, ⟨by decide +kernel, by decide +kernel, by decide +kernel⟩, by decide⟩
abbrev μX2_numberOf : zU := (yX2_numberOf, cX2_numberOf, 3, some .int)
set_option maxRecDepth 20000 in
theorem mkX2_numberOf : zMk μX2_numberOf 2 := ⟨zWd_in 243 rfl rfl, zWd_in 22 (by decide +kernel) rfl, ⟨by decide +kernel, by decide +kernel, by decide +kernel⟩, by decide⟩
abbrev μX0_settle : zU := (yX0_settle, cX0_settle, 2, none)
set_option maxRecDepth 20000 in
theorem mkX0_settle : zMk μX0_settle 0 := ⟨zWd_in 249 rfl rfl, zWd_in 24 (by decide +kernel) rfl, ⟨by decide +kernel, by decide +kernel, by decide +kernel⟩, by decide⟩
abbrev μX2_periodOf : zU := (yX2_periodOf, cX2_periodOf, 2, some .int)
set_option maxRecDepth 20000 in
theorem mkX2_periodOf : zMk μX2_periodOf 1 := ⟨zWd_in 253 rfl rfl, zWd_in 22 (by decide +kernel) rfl, ⟨by decide +kernel, by decide +kernel, by decide +kernel⟩, by decide⟩
abbrev μJ9_max_7cf53 : zU := (yJ9_max_7cf53, cJ9_max_7cf53, 2, some .int)
set_option maxRecDepth 20000 in
theorem mkJ9_max_7cf53 : zMk μJ9_max_7cf53 2 := ⟨zWd_in 256 rfl rfl, zWd_in 27 (by decide +kernel) rfl, ⟨by decide +kernel, by decide +kernel, by decide +kernel⟩, by decide⟩
abbrev μX0_boundAll : zU := (yX0_boundAll, cX0_boundAll, 2, some .boolean)
set_option maxRecDepth 20000 in
theorem mkX0_boundAll : zMk μX0_boundAll 0 := ⟨zWd_in 260 rfl rfl, zWd_in 24 (by decide +kernel) rfl, ⟨by decide +kernel, by decide +kernel, by decide +kernel⟩, by decide⟩
abbrev μX0_placeComings : zU := (yX0_placeComings, cX0_placeComings, 8, none)
set_option maxRecDepth 20000 in
theorem mkX0_placeComings : zMk μX0_placeComings 0 := ⟨zWd_in 264 rfl rfl, zWd_in 24 (by decide +kernel) rfl, ⟨by decide +kernel, by decide +kernel, by decide +kernel⟩, by decide⟩
abbrev μX2_isStep : zU := (yX2_isStep, cX2_isStep, 2, some .boolean)
set_option maxRecDepth 20000 in
theorem mkX2_isStep : zMk μX2_isStep 1 := ⟨zWd_in 268 rfl rfl, zWd_in 22 (by decide +kernel) rfl, ⟨by decide +kernel, by decide +kernel, by decide +kernel⟩, by decide⟩
abbrev μX2_earliestOf : zU := (yX2_earliestOf, cX2_earliestOf, 4, some .int)
set_option maxRecDepth 20000 in
theorem mkX2_earliestOf : zMk μX2_earliestOf 1 := ⟨zWd_in 272 rfl rfl, zWd_in 22 (by decide +kernel) rfl, ⟨by decide +kernel, by decide +kernel, by decide +kernel⟩, by decide⟩
abbrev μJ9_floorMod_7cf53 : zU := (yJ9_floorMod_7cf53, cJ9_floorMod_7cf53, 3, some .int)
set_option maxRecDepth 20000 in
theorem mkJ9_floorMod_7cf53 : zMk μJ9_floorMod_7cf53 2 := ⟨zWd_in 275 rfl rfl, zWd_in 27 (by decide +kernel) rfl, ⟨by decide +kernel, by decide +kernel, by decide +kernel⟩, by decide⟩
abbrev μX0_gatherRivals : zU := (yX0_gatherRivals, cX0_gatherRivals, 4, none)
set_option maxRecDepth 20000 in
theorem mkX0_gatherRivals : zMk μX0_gatherRivals 1 := ⟨zWd_in 279 rfl rfl, zWd_in 24 (by decide +kernel) rfl, ⟨by decide +kernel, by decide +kernel, by decide +kernel⟩, by decide⟩
abbrev μX2_isRival : zU := (yX2_isRival, cX2_isRival, 3, some .boolean)
set_option maxRecDepth 20000 in
theorem mkX2_isRival : zMk μX2_isRival 2 := ⟨zWd_in 283 rfl rfl, zWd_in 22 (by decide +kernel) rfl, ⟨by decide +kernel, by decide +kernel, by decide +kernel⟩, by decide⟩
abbrev μX2_isOverloaded : zU := (yX2_isOverloaded, cX2_isOverloaded, 2, some .boolean)
set_option maxRecDepth 20000 in
theorem mkX2_isOverloaded : zMk μX2_isOverloaded 1 := ⟨zWd_in 288 rfl rfl, zWd_in 22 (by decide +kernel) rfl, ⟨by decide +kernel, by decide +kernel, by decide +kernel⟩, by decide⟩
abbrev μX2_loadAbove : zU := (yX2_loadAbove, cX2_loadAbove, 5, some .int)
set_option maxRecDepth 20000 in
theorem mkX2_loadAbove : zMk μX2_loadAbove 1 := ⟨zWd_in 292 rfl rfl, zWd_in 22 (by decide +kernel) rfl, ⟨by decide +kernel, by decide +kernel, by decide +kernel⟩, by decide⟩
abbrev μX2_loadBelow : zU := (yX2_loadBelow, cX2_loadBelow, 1, some .int)
set_option maxRecDepth 20000 in
theorem mkX2_loadBelow : zMk μX2_loadBelow 0 := ⟨zWd_in 296 rfl rfl, zWd_in 22 (by decide +kernel) rfl, ⟨by decide +kernel, by decide +kernel, by decide +kernel⟩, by decide⟩
abbrev μX0_findLongest : zU := (yX0_findLongest, cX0_findLongest, 14, some .boolean)
set_option maxRecDepth 20000 in
theorem mkX0_findLongest : zMk μX0_findLongest 1 := ⟨zWd_in 302 rfl rfl, zWd_in 24 (by decide +kernel) rfl, ⟨by decide +kernel, by decide +kernel, by decide +kernel⟩, by decide⟩
abbrev μX0_leastTime : zU := (yX0_leastTime, cX0_leastTime, 8, some .int)
set_option maxRecDepth 20000 in
theorem mkX0_leastTime : zMk μX0_leastTime 4 := ⟨zWd_in 306 rfl rfl, zWd_in 24 (by decide +kernel) rfl, ⟨by decide +kernel, by decide +kernel, by decide +kernel⟩, by decide⟩
abbrev μX0_quickNeeded : zU := (yX0_quickNeeded, cX0_quickNeeded, 9, some .int)
set_option maxRecDepth 20000 in
theorem mkX0_quickNeeded : zMk μX0_quickNeeded 3 := ⟨zWd_in 310 rfl rfl, zWd_in 24 (by decide +kernel) rfl, ⟨by decide +kernel, by decide +kernel, by decide +kernel⟩, by decide⟩
abbrev μX0_quickComes : zU := (yX0_quickComes, cX0_quickComes, 4, some .int)
set_option maxRecDepth 20000 in
theorem mkX0_quickComes : zMk μX0_quickComes 2 := ⟨zWd_in 314 rfl rfl, zWd_in 24 (by decide +kernel) rfl, ⟨by decide +kernel, by decide +kernel, by decide +kernel⟩, by decide⟩
abbrev μX0_needed : zU := (yX0_needed, cX0_needed, 12, some .int)
set_option maxRecDepth 20000 in
theorem mkX0_needed : zMk μX0_needed 4 := ⟨zWd_in 318 rfl rfl, zWd_in 24 (by decide +kernel) rfl, ⟨by decide +kernel, by decide +kernel, by decide +kernel⟩, by decide⟩
abbrev μX0_comes : zU := (yX0_comes, cX0_comes, 6, some .int)
set_option maxRecDepth 20000 in
theorem mkX0_comes : zMk μX0_comes 3 := ⟨zWd_in 322 rfl rfl, zWd_in 24 (by decide +kernel) rfl, ⟨by decide +kernel, by decide +kernel, by decide +kernel⟩, by decide⟩
abbrev μX0_work : zU := (yX0_work, cX0_work, 7, some .int)
set_option maxRecDepth 20000 in
theorem mkX0_work : zMk μX0_work 3 := ⟨zWd_in 326 rfl rfl, zWd_in 24 (by decide +kernel) rfl, ⟨by decide +kernel, by decide +kernel, by decide +kernel⟩, by decide⟩
abbrev μX0_passLateness : zU := (yX0_passLateness, cX0_passLateness, 4, some .boolean)
set_option maxRecDepth 20000 in
theorem mkX0_passLateness : zMk μX0_passLateness 0 := ⟨zWd_in 331 rfl rfl, zWd_in 24 (by decide +kernel) rfl, ⟨by decide +kernel, by decide +kernel, by decide +kernel⟩, by decide⟩
abbrev μX4_infoOf : zU := (yX4_infoOf, cX4_infoOf, 3, some .int)
set_option maxRecDepth 20000 in
theorem mkX4_infoOf : zMk μX4_infoOf 2 := ⟨zWd_in 335 rfl rfl, zWd_in 21 (by decide +kernel) rfl, ⟨by decide +kernel, by decide +kernel, by decide +kernel⟩, by decide⟩
abbrev μX0_lateOf : zU := (yX0_lateOf, cX0_lateOf, 2, some .int)
set_option maxRecDepth 20000 in
theorem mkX0_lateOf : zMk μX0_lateOf 1 := ⟨zWd_in 340 rfl rfl, zWd_in 24 (by decide +kernel) rfl, ⟨by decide +kernel, by decide +kernel, by decide +kernel⟩, by decide⟩
abbrev μX2_rivalsOf : zU := (yX2_rivalsOf, cX2_rivalsOf, 4, some .int)
set_option maxRecDepth 20000 in
theorem mkX2_rivalsOf : zMk μX2_rivalsOf 1 := ⟨zWd_in 344 rfl rfl, zWd_in 22 (by decide +kernel) rfl, ⟨by decide +kernel, by decide +kernel, by decide +kernel⟩, by decide⟩
abbrev μX4_bound : zU := (yX4_bound, cX4_bound, 4, some .int)
set_option maxRecDepth 20000 in
theorem mkX4_bound : zMk μX4_bound 2 := ⟨zWd_in 348 rfl rfl, zWd_in 21 (by decide +kernel) rfl, ⟨by decide +kernel, by decide +kernel, by decide +kernel⟩, by decide⟩
abbrev μX0_boundOf : zU := (yX0_boundOf, cX0_boundOf, 2, some .int)
set_option maxRecDepth 20000 in
theorem mkX0_boundOf : zMk μX0_boundOf 1 := ⟨zWd_in 352 rfl rfl, zWd_in 24 (by decide +kernel) rfl, ⟨by decide +kernel, by decide +kernel, by decide +kernel⟩, by decide⟩
abbrev μX4_rounds : zU := (yX4_rounds, cX4_rounds, 1, some .int)
set_option maxRecDepth 20000 in
theorem mkX4_rounds : zMk μX4_rounds 0 := ⟨zWd_in 356 rfl rfl, zWd_in 21 (by decide +kernel) rfl, ⟨by decide +kernel, by decide +kernel, by decide +kernel⟩, by decide⟩
abbrev μX4_meets : zU := (yX4_meets, cX4_meets, 1, some .int)
set_option maxRecDepth 20000 in
theorem mkX4_meets : zMk μX4_meets 0 := ⟨zWd_in 360 rfl rfl, zWd_in 21 (by decide +kernel) rfl, ⟨by decide +kernel, by decide +kernel, by decide +kernel⟩, by decide⟩
abbrev μX0_meetingBits : zU := (yX0_meetingBits, cX0_meetingBits, 4, some .int)
set_option maxRecDepth 20000 in
theorem mkX0_meetingBits : zMk μX0_meetingBits 0 := ⟨zWd_in 364 rfl rfl, zWd_in 24 (by decide +kernel) rfl, ⟨by decide +kernel, by decide +kernel, by decide +kernel⟩, by decide⟩
abbrev μX2_dueBits : zU := (yX2_dueBits, cX2_dueBits, 3, some .int)
set_option maxRecDepth 20000 in
theorem mkX2_dueBits : zMk μX2_dueBits 0 := ⟨zWd_in 368 rfl rfl, zWd_in 22 (by decide +kernel) rfl, ⟨by decide +kernel, by decide +kernel, by decide +kernel⟩, by decide⟩
abbrev μX2_lastOf : zU := (yX2_lastOf, cX2_lastOf, 2, some .int)
set_option maxRecDepth 20000 in
theorem mkX2_lastOf : zMk μX2_lastOf 1 := ⟨zWd_in 372 rfl rfl, zWd_in 22 (by decide +kernel) rfl, ⟨by decide +kernel, by decide +kernel, by decide +kernel⟩, by decide⟩
abbrev μX4_margin : zU := (yX4_margin, cX4_margin, 8, some .int)
set_option maxRecDepth 20000 in
theorem mkX4_margin : zMk μX4_margin 2 := ⟨zWd_in 376 rfl rfl, zWd_in 21 (by decide +kernel) rfl, ⟨by decide +kernel, by decide +kernel, by decide +kernel⟩, by decide⟩
abbrev μX4_better : zU := (yX4_better, cX4_better, 11, some .int)
set_option maxRecDepth 20000 in
theorem mkX4_better : zMk μX4_better 3 := ⟨zWd_in 381 rfl rfl, zWd_in 21 (by decide +kernel) rfl, ⟨by decide +kernel, by decide +kernel, by decide +kernel⟩, by decide⟩
abbrev μX4_run : zU := (yX4_run, cX4_run, 2, some .int)
set_option maxRecDepth 20000 in
theorem mkX4_run : zMk μX4_run 1 := ⟨zWd_in 386 rfl rfl, zWd_in 21 (by decide +kernel) rfl, ⟨by decide +kernel, by decide +kernel, by decide +kernel⟩, by decide⟩
abbrev μX1_go : zU := (yX1_go, cX1_go, 6, none)
set_option maxRecDepth 20000 in
theorem mkX1_go : zMk μX1_go 2 := ⟨zWd_in 390 rfl rfl, zWd_in 25 (by decide +kernel) rfl, ⟨by decide +kernel, by decide +kernel, by decide +kernel⟩, by decide⟩
abbrev μX1_firstReady : zU := (yX1_firstReady, cX1_firstReady, 4, some .int)
set_option maxRecDepth 20000 in
theorem mkX1_firstReady : zMk μX1_firstReady 3 := ⟨zWd_in 393 rfl rfl, zWd_in 25 (by decide +kernel) rfl, ⟨by decide +kernel, by decide +kernel, by decide +kernel⟩, by decide⟩
abbrev μX1_released : zU := (yX1_released, cX1_released, 3, some .int)
set_option maxRecDepth 20000 in
theorem mkX1_released : zMk μX1_released 3 := ⟨zWd_in 397 rfl rfl, zWd_in 25 (by decide +kernel) rfl, ⟨by decide +kernel, by decide +kernel, by decide +kernel⟩, by decide⟩
abbrev μX1_mostUrgent : zU := (yX1_mostUrgent, cX1_mostUrgent, 6, some .int)
set_option maxRecDepth 20000 in
theorem mkX1_mostUrgent : zMk μX1_mostUrgent 3 := ⟨zWd_in 401 rfl rfl, zWd_in 25 (by decide +kernel) rfl, ⟨by decide +kernel, by decide +kernel, by decide +kernel⟩, by decide⟩
abbrev μX1_isReady : zU := (yX1_isReady, cX1_isReady, 5, some .boolean)
set_option maxRecDepth 20000 in
theorem mkX1_isReady : zMk μX1_isReady 3 := ⟨zWd_in 406 rfl rfl, zWd_in 25 (by decide +kernel) rfl, ⟨by decide +kernel, by decide +kernel, by decide +kernel⟩, by decide⟩
abbrev μX1_doTick : zU := (yX1_doTick, cX1_doTick, 7, none)
set_option maxRecDepth 20000 in
theorem mkX1_doTick : zMk μX1_doTick 3 := ⟨zWd_in 410 rfl rfl, zWd_in 25 (by decide +kernel) rfl, ⟨by decide +kernel, by decide +kernel, by decide +kernel⟩, by decide⟩
abbrev μJ9_min_7cf53 : zU := (yJ9_min_7cf53, cJ9_min_7cf53, 2, some .int)
set_option maxRecDepth 20000 in
theorem mkJ9_min_7cf53 : zMk μJ9_min_7cf53 2 := ⟨zWd_in 413 rfl rfl, zWd_in 27 (by decide +kernel) rfl, ⟨by decide +kernel, by decide +kernel, by decide +kernel⟩, by decide⟩
abbrev μX4_seen : zU := (yX4_seen, cX4_seen, 5, some .int)
set_option maxRecDepth 20000 in
theorem mkX4_seen : zMk μX4_seen 3 := ⟨zWd_in 417 rfl rfl, zWd_in 21 (by decide +kernel) rfl, ⟨by decide +kernel, by decide +kernel, by decide +kernel⟩, by decide⟩
abbrev μX1_seenOf : zU := (yX1_seenOf, cX1_seenOf, 3, some .int)
set_option maxRecDepth 20000 in
theorem mkX1_seenOf : zMk μX1_seenOf 2 := ⟨zWd_in 421 rfl rfl, zWd_in 25 (by decide +kernel) rfl, ⟨by decide +kernel, by decide +kernel, by decide +kernel⟩, by decide⟩
abbrev μX4_count : zU := (yX4_count, cX4_count, 2, some .int)
set_option maxRecDepth 20000 in
theorem mkX4_count : zMk μX4_count 1 := ⟨zWd_in 425 rfl rfl, zWd_in 21 (by decide +kernel) rfl, ⟨by decide +kernel, by decide +kernel, by decide +kernel⟩, by decide⟩
abbrev μX4_countOf : zU := (yX4_countOf, cX4_countOf, 2, some .int)
set_option maxRecDepth 20000 in
theorem mkX4_countOf : zMk μX4_countOf 1 := ⟨zWd_in 429 rfl rfl, zWd_in 21 (by decide +kernel) rfl, ⟨by decide +kernel, by decide +kernel, by decide +kernel⟩, by decide⟩
abbrev μX2_stepsInAll : zU := (yX2_stepsInAll, cX2_stepsInAll, 1, some .int)
set_option maxRecDepth 20000 in
theorem mkX2_stepsInAll : zMk μX2_stepsInAll 0 := ⟨zWd_in 433 rfl rfl, zWd_in 22 (by decide +kernel) rfl, ⟨by decide +kernel, by decide +kernel, by decide +kernel⟩, by decide⟩
abbrev μJ6_bitCount_0f7a4 : zU := (yJ6_bitCount_0f7a4, cJ6_bitCount_0f7a4, 1, some .int)
set_option maxRecDepth 20000 in
theorem mkJ6_bitCount_0f7a4 : zMk μJ6_bitCount_0f7a4 1 := ⟨zWd_in 436 rfl rfl, zWd_in 28 (by decide +kernel) rfl, ⟨by decide +kernel, by decide +kernel, by decide +kernel⟩, by decide⟩
abbrev μX2_overloadedSteps : zU := (yX2_overloadedSteps, cX2_overloadedSteps, 3, some .int)
set_option maxRecDepth 20000 in
theorem mkX2_overloadedSteps : zMk μX2_overloadedSteps 0 := ⟨zWd_in 443 rfl rfl, zWd_in 22 (by decide +kernel) rfl, ⟨by decide +kernel, by decide +kernel, by decide +kernel⟩, by decide⟩
abbrev μL_cell : zU := (yL_cell, cL_cell, 2, some .int)
set_option maxRecDepth 20000 in
theorem mkL_cell : zMk μL_cell 2 := ⟨zWd_in 447 rfl rfl, zWd_in 20 (by decide +kernel) rfl, ⟨by decide +kernel, by decide +kernel, by decide +kernel⟩, by decide⟩
abbrev μL_up : zU := (yL_up, cL_up, 2, some .int)
set_option maxRecDepth 20000 in
theorem mkL_up : zMk μL_up 2 := ⟨zWd_in 451 rfl rfl, zWd_in 20 (by decide +kernel) rfl, ⟨by decide +kernel, by decide +kernel, by decide +kernel⟩, by decide⟩
abbrev μL_tells : zU := (yL_tells, cL_tells, 10, some .boolean)
set_option maxRecDepth 20000 in
theorem mkL_tells : zMk μL_tells 4 := ⟨zWd_in 455 rfl rfl, zWd_in 20 (by decide +kernel) rfl, ⟨by decide +kernel, by decide +kernel, by decide +kernel⟩, by decide⟩
abbrev μX4_step : zU := (yX4_step, cX4_step, 6, some .int)
set_option maxRecDepth 20000 in
theorem mkX4_step : zMk μX4_step 5 := ⟨zWd_in 459 rfl rfl, zWd_in 21 (by decide +kernel) rfl, ⟨by decide +kernel, by decide +kernel, by decide +kernel⟩, by decide⟩
abbrev μX4_isMark : zU := (yX4_isMark, cX4_isMark, 3, some .boolean)
set_option maxRecDepth 20000 in
theorem mkX4_isMark : zMk μX4_isMark 2 := ⟨zWd_in 462 rfl rfl, zWd_in 21 (by decide +kernel) rfl, ⟨by decide +kernel, by decide +kernel, by decide +kernel⟩, by decide⟩
abbrev μX2_append : zU := (yX2_append, cX2_append, 8, some .int)
set_option maxRecDepth 20000 in
theorem mkX2_append : zMk μX2_append 5 := ⟨zWd_in 470 rfl rfl, zWd_in 22 (by decide +kernel) rfl, ⟨by decide +kernel, by decide +kernel, by decide +kernel⟩, by decide⟩
abbrev μL_holds : zU := (yL_holds, cL_holds, 14, some .boolean)
set_option maxRecDepth 20000 in
theorem mkL_holds : zMk μL_holds 3 := ⟨zWd_in 473 rfl rfl, zWd_in 20 (by decide +kernel) rfl, ⟨by decide +kernel, by decide +kernel, by decide +kernel⟩, by decide⟩
abbrev μX4_searched : zU := (yX4_searched, cX4_searched, 4, some .int)
set_option maxRecDepth 20000 in
theorem mkX4_searched : zMk μX4_searched 2 := ⟨zWd_in 477 rfl rfl, zWd_in 21 (by decide +kernel) rfl, ⟨by decide +kernel, by decide +kernel, by decide +kernel⟩, by decide⟩
abbrev μX0_searchedOf : zU := (yX0_searchedOf, cX0_searchedOf, 7, some .int)
set_option maxRecDepth 20000 in
theorem mkX0_searchedOf : zMk μX0_searchedOf 1 := ⟨zWd_in 481 rfl rfl, zWd_in 24 (by decide +kernel) rfl, ⟨by decide +kernel, by decide +kernel, by decide +kernel⟩, by decide⟩
abbrev μX4_quick : zU := (yX4_quick, cX4_quick, 4, some .int)
set_option maxRecDepth 20000 in
theorem mkX4_quick : zMk μX4_quick 2 := ⟨zWd_in 485 rfl rfl, zWd_in 21 (by decide +kernel) rfl, ⟨by decide +kernel, by decide +kernel, by decide +kernel⟩, by decide⟩
abbrev μX0_quickOf : zU := (yX0_quickOf, cX0_quickOf, 9, some .int)
set_option maxRecDepth 20000 in
theorem mkX0_quickOf : zMk μX0_quickOf 1 := ⟨zWd_in 489 rfl rfl, zWd_in 24 (by decide +kernel) rfl, ⟨by decide +kernel, by decide +kernel, by decide +kernel⟩, by decide⟩
theorem csL_44 : zSI RL 44 μX4_init := ⟨Or.inl (zWd_in 31 (by decide +kernel) rfl), zWd_in 32 (by decide +kernel) rfl, rfl, rfl⟩
theorem csX4_11 : zSI RX4 11 μX2_init := ⟨Or.inl (zWd_in 39 (by decide +kernel) rfl), zWd_in 40 (by decide +kernel) rfl, rfl, rfl⟩
theorem csX2_23 : zSS RX2 23 μJ7_fill_53178 := ⟨Or.inl (zWd_in 45 (by decide +kernel) rfl), zWd_in 46 (by decide +kernel) rfl⟩
theorem csX4_18 : zSI RX4 18 μX0_init := ⟨Or.inl (zWd_in 69 (by decide +kernel) rfl), zWd_in 70 (by decide +kernel) rfl, rfl, rfl⟩
theorem csX4_30 : zSI RX4 30 μX1_init := ⟨Or.inl (zWd_in 132 (by decide +kernel) rfl), zWd_in 133 (by decide +kernel) rfl, rfl, rfl⟩
theorem csX1_38 : zSV RX1 38 μX1_clear := ⟨zWd_in 137 (by decide +kernel) rfl, zWd_in 139 (by decide +kernel) rfl, zWd_in 0 (by decide +kernel) rfl⟩
theorem csX1_48 : zSS RX1 48 μJ7_fill_53178 := ⟨Or.inl (zWd_in 141 (by decide +kernel) rfl), zWd_in 46 (by decide +kernel) rfl⟩
theorem csX4_41 : zSI RX4 41 μX3_init := ⟨Or.inr ⟨"OffsetChains", zNs_in 179 (by decide +kernel) rfl⟩, zWd_in 180 (by decide +kernel) rfl, rfl, rfl⟩
theorem csL_19 : zSV RL 19 μX4_chain := ⟨zWd_in 214 (by decide +kernel) rfl, zWd_in 215 (by decide +kernel) rfl, zWd_in 216 (by decide +kernel) rfl⟩
theorem csX4_46 : zSS RX4 46 μX4_isChain := ⟨Or.inl (zWd_in 218 (by decide +kernel) rfl), zWd_in 219 (by decide +kernel) rfl⟩
theorem csX4_50 : zSS RX4 50 μX4_within := ⟨Or.inl (zWd_in 221 (by decide +kernel) rfl), zWd_in 222 (by decide +kernel) rfl⟩
theorem csL_67 : zSV RL 67 μX4_has := ⟨zWd_in 228 (by decide +kernel) rfl, zWd_in 229 (by decide +kernel) rfl, zWd_in 230 (by decide +kernel) rfl⟩
theorem csX4_108 : zSV RX4 108 μX4_traitOf := ⟨zWd_in 232 (by decide +kernel) rfl, zWd_in 234 (by decide +kernel) rfl, zWd_in 1 (by decide +kernel) rfl⟩
theorem csL_32 : zSV RL 32 μX4_info := ⟨zWd_in 236 (by decide +kernel) rfl, zWd_in 237 (by decide +kernel) rfl, zWd_in 238 (by decide +kernel) rfl⟩
theorem csX4_80 : zSV RX4 80 μX2_numberOf := ⟨zWd_in 240 (by decide +kernel) rfl, zWd_in 241 (by decide +kernel) rfl, zWd_in 242 (by decide +kernel) rfl⟩
theorem csX2_29 : zSS RX2 29 μX4_isChain := ⟨Or.inr ⟨"OffsetChains", zNs_in 244 (by decide +kernel) rfl⟩, zWd_in 219 (by decide +kernel) rfl⟩
theorem csX2_33 : zSS RX2 33 μX4_within := ⟨Or.inr ⟨"OffsetChains", zNs_in 245 (by decide +kernel) rfl⟩, zWd_in 222 (by decide +kernel) rfl⟩
theorem csX4_111 : zSV RX4 111 μX0_settle := ⟨zWd_in 246 (by decide +kernel) rfl, zWd_in 247 (by decide +kernel) rfl, zWd_in 248 (by decide +kernel) rfl⟩
theorem csX0_57 : zSV RX0 57 μX2_periodOf := ⟨zWd_in 250 (by decide +kernel) rfl, zWd_in 251 (by decide +kernel) rfl, zWd_in 252 (by decide +kernel) rfl⟩
set_option maxRecDepth 20000 in
theorem csX2_37 : Cond.methodLink RX2 37 Lib.Math.max.name ∈ zWd ∧ Cond.static Lib.Math.max.name ∈ zWd ∧ Cond.initialized "java/lang/Math" ∈ zWd ∧ Cond.code Lib.Math.max.name Lib.Math.max.code 2 (some .int) ∈ zWd := ⟨zWd_in 254 (by decide +kernel) rfl, zWd_in 255 (by decide +kernel) rfl, zWd_in 27 (by decide +kernel) rfl, zWd_in 256 rfl rfl⟩
theorem csX0_67 : zSV RX0 67 μX0_boundAll := ⟨zWd_in 257 (by decide +kernel) rfl, zWd_in 259 (by decide +kernel) rfl, zWd_in 2 (by decide +kernel) rfl⟩
theorem csX0_111 : zSV RX0 111 μX0_placeComings := ⟨zWd_in 261 (by decide +kernel) rfl, zWd_in 263 (by decide +kernel) rfl, zWd_in 3 (by decide +kernel) rfl⟩
theorem csX0_114 : zSV RX0 114 μX2_isStep := ⟨zWd_in 265 (by decide +kernel) rfl, zWd_in 266 (by decide +kernel) rfl, zWd_in 267 (by decide +kernel) rfl⟩
theorem csX0_108 : zSV RX0 108 μX2_earliestOf := ⟨zWd_in 269 (by decide +kernel) rfl, zWd_in 270 (by decide +kernel) rfl, zWd_in 271 (by decide +kernel) rfl⟩
theorem csX0_132 : zSS RX0 132 μJ9_floorMod_7cf53 := ⟨Or.inl (zWd_in 273 (by decide +kernel) rfl), zWd_in 274 (by decide +kernel) rfl⟩
theorem csX0_81 : zSV RX0 81 μX0_gatherRivals := ⟨zWd_in 276 (by decide +kernel) rfl, zWd_in 278 (by decide +kernel) rfl, zWd_in 4 (by decide +kernel) rfl⟩
theorem csX0_135 : zSV RX0 135 μX2_isRival := ⟨zWd_in 280 (by decide +kernel) rfl, zWd_in 281 (by decide +kernel) rfl, zWd_in 282 (by decide +kernel) rfl⟩
theorem csX2_43 : zSV RX2 43 μX2_isStep := ⟨zWd_in 284 (by decide +kernel) rfl, zWd_in 266 (by decide +kernel) rfl, zWd_in 267 (by decide +kernel) rfl⟩
theorem csX0_117 : zSV RX0 117 μX2_isOverloaded := ⟨zWd_in 285 (by decide +kernel) rfl, zWd_in 286 (by decide +kernel) rfl, zWd_in 287 (by decide +kernel) rfl⟩
theorem csX2_58 : zSV RX2 58 μX2_loadAbove := ⟨zWd_in 289 (by decide +kernel) rfl, zWd_in 291 (by decide +kernel) rfl, zWd_in 5 (by decide +kernel) rfl⟩
theorem csX2_54 : zSV RX2 54 μX2_loadBelow := ⟨zWd_in 293 (by decide +kernel) rfl, zWd_in 295 (by decide +kernel) rfl, zWd_in 6 (by decide +kernel) rfl⟩
theorem csX2_50 : zSV RX2 50 μX2_periodOf := ⟨zWd_in 297 (by decide +kernel) rfl, zWd_in 251 (by decide +kernel) rfl, zWd_in 252 (by decide +kernel) rfl⟩
theorem csX2_46 : zSV RX2 46 μX2_isRival := ⟨zWd_in 298 (by decide +kernel) rfl, zWd_in 281 (by decide +kernel) rfl, zWd_in 282 (by decide +kernel) rfl⟩
theorem csX0_85 : zSV RX0 85 μX0_findLongest := ⟨zWd_in 299 (by decide +kernel) rfl, zWd_in 301 (by decide +kernel) rfl, zWd_in 7 (by decide +kernel) rfl⟩
theorem csX0_101 : zSV RX0 101 μX0_leastTime := ⟨zWd_in 303 (by decide +kernel) rfl, zWd_in 305 (by decide +kernel) rfl, zWd_in 8 (by decide +kernel) rfl⟩
theorem csX0_143 : zSV RX0 143 μX0_quickNeeded := ⟨zWd_in 307 (by decide +kernel) rfl, zWd_in 309 (by decide +kernel) rfl, zWd_in 9 (by decide +kernel) rfl⟩
theorem csX0_105 : zSV RX0 105 μX0_quickComes := ⟨zWd_in 311 (by decide +kernel) rfl, zWd_in 313 (by decide +kernel) rfl, zWd_in 10 (by decide +kernel) rfl⟩
theorem csX0_146 : zSV RX0 146 μX0_needed := ⟨zWd_in 315 (by decide +kernel) rfl, zWd_in 317 (by decide +kernel) rfl, zWd_in 11 (by decide +kernel) rfl⟩
theorem csX0_139 : zSV RX0 139 μX0_comes := ⟨zWd_in 319 (by decide +kernel) rfl, zWd_in 321 (by decide +kernel) rfl, zWd_in 12 (by decide +kernel) rfl⟩
theorem csX0_149 : zSV RX0 149 μX0_work := ⟨zWd_in 323 (by decide +kernel) rfl, zWd_in 325 (by decide +kernel) rfl, zWd_in 13 (by decide +kernel) rfl⟩
set_option maxRecDepth 20000 in
theorem csX0_92 : Cond.methodLink RX0 92 Lib.Math.max.name ∈ zWd ∧ Cond.static Lib.Math.max.name ∈ zWd ∧ Cond.initialized "java/lang/Math" ∈ zWd ∧ Cond.code Lib.Math.max.name Lib.Math.max.code 2 (some .int) ∈ zWd := ⟨zWd_in 327 (by decide +kernel) rfl, zWd_in 255 (by decide +kernel) rfl, zWd_in 27 (by decide +kernel) rfl, zWd_in 256 rfl rfl⟩
theorem csX0_71 : zSV RX0 71 μX0_passLateness := ⟨zWd_in 328 (by decide +kernel) rfl, zWd_in 330 (by decide +kernel) rfl, zWd_in 14 (by decide +kernel) rfl⟩
theorem csX4_114 : zSV RX4 114 μX4_infoOf := ⟨zWd_in 332 (by decide +kernel) rfl, zWd_in 334 (by decide +kernel) rfl, zWd_in 15 (by decide +kernel) rfl⟩
theorem csX4_211 : zSV RX4 211 μX2_earliestOf := ⟨zWd_in 336 (by decide +kernel) rfl, zWd_in 270 (by decide +kernel) rfl, zWd_in 271 (by decide +kernel) rfl⟩
theorem csX4_214 : zSV RX4 214 μX0_lateOf := ⟨zWd_in 337 (by decide +kernel) rfl, zWd_in 338 (by decide +kernel) rfl, zWd_in 339 (by decide +kernel) rfl⟩
theorem csX4_217 : zSV RX4 217 μX2_rivalsOf := ⟨zWd_in 341 (by decide +kernel) rfl, zWd_in 342 (by decide +kernel) rfl, zWd_in 343 (by decide +kernel) rfl⟩
theorem csL_35 : zSV RL 35 μX4_bound := ⟨zWd_in 345 (by decide +kernel) rfl, zWd_in 346 (by decide +kernel) rfl, zWd_in 347 (by decide +kernel) rfl⟩
theorem csX4_120 : zSV RX4 120 μX0_boundOf := ⟨zWd_in 349 (by decide +kernel) rfl, zWd_in 350 (by decide +kernel) rfl, zWd_in 351 (by decide +kernel) rfl⟩
theorem csL_49 : zSV RL 49 μX4_rounds := ⟨zWd_in 353 (by decide +kernel) rfl, zWd_in 354 (by decide +kernel) rfl, zWd_in 355 (by decide +kernel) rfl⟩
theorem csL_64 : zSV RL 64 μX4_meets := ⟨zWd_in 357 (by decide +kernel) rfl, zWd_in 358 (by decide +kernel) rfl, zWd_in 359 (by decide +kernel) rfl⟩
theorem csX4_135 : zSV RX4 135 μX0_meetingBits := ⟨zWd_in 361 (by decide +kernel) rfl, zWd_in 362 (by decide +kernel) rfl, zWd_in 363 (by decide +kernel) rfl⟩
theorem csX0_74 : zSV RX0 74 μX2_dueBits := ⟨zWd_in 365 (by decide +kernel) rfl, zWd_in 366 (by decide +kernel) rfl, zWd_in 367 (by decide +kernel) rfl⟩
theorem csX0_78 : zSV RX0 78 μX2_lastOf := ⟨zWd_in 369 (by decide +kernel) rfl, zWd_in 370 (by decide +kernel) rfl, zWd_in 371 (by decide +kernel) rfl⟩
theorem csL_70 : zSV RL 70 μX4_margin := ⟨zWd_in 373 (by decide +kernel) rfl, zWd_in 374 (by decide +kernel) rfl, zWd_in 375 (by decide +kernel) rfl⟩
theorem csX4_139 : zSV RX4 139 μX2_dueBits := ⟨zWd_in 377 (by decide +kernel) rfl, zWd_in 366 (by decide +kernel) rfl, zWd_in 367 (by decide +kernel) rfl⟩
theorem csL_73 : zSV RL 73 μX4_better := ⟨zWd_in 378 (by decide +kernel) rfl, zWd_in 379 (by decide +kernel) rfl, zWd_in 380 (by decide +kernel) rfl⟩
theorem csX4_142 : zSV RX4 142 μX2_lastOf := ⟨zWd_in 382 (by decide +kernel) rfl, zWd_in 370 (by decide +kernel) rfl, zWd_in 371 (by decide +kernel) rfl⟩
theorem csL_57 : zSV RL 57 μX4_run := ⟨zWd_in 383 (by decide +kernel) rfl, zWd_in 384 (by decide +kernel) rfl, zWd_in 385 (by decide +kernel) rfl⟩
theorem csX4_145 : zSV RX4 145 μX1_go := ⟨zWd_in 387 (by decide +kernel) rfl, zWd_in 388 (by decide +kernel) rfl, zWd_in 389 (by decide +kernel) rfl⟩
theorem csX1_54 : zSS RX1 54 μX1_firstReady := ⟨Or.inl (zWd_in 391 (by decide +kernel) rfl), zWd_in 392 (by decide +kernel) rfl⟩
set_option maxRecDepth 20000 in
theorem csX1_70 : Cond.methodLink RX1 70 Lib.Math.max.name ∈ zWd ∧ Cond.static Lib.Math.max.name ∈ zWd ∧ Cond.initialized "java/lang/Math" ∈ zWd ∧ Cond.code Lib.Math.max.name Lib.Math.max.code 2 (some .int) ∈ zWd := ⟨zWd_in 394 (by decide +kernel) rfl, zWd_in 255 (by decide +kernel) rfl, zWd_in 27 (by decide +kernel) rfl, zWd_in 256 rfl rfl⟩
theorem csX1_76 : zSS RX1 76 μX1_released := ⟨Or.inl (zWd_in 395 (by decide +kernel) rfl), zWd_in 396 (by decide +kernel) rfl⟩
theorem csX1_58 : zSV RX1 58 μX1_mostUrgent := ⟨zWd_in 398 (by decide +kernel) rfl, zWd_in 400 (by decide +kernel) rfl, zWd_in 16 (by decide +kernel) rfl⟩
theorem csX1_82 : zSV RX1 82 μX2_isStep := ⟨zWd_in 402 (by decide +kernel) rfl, zWd_in 266 (by decide +kernel) rfl, zWd_in 267 (by decide +kernel) rfl⟩
theorem csX1_86 : zSV RX1 86 μX1_isReady := ⟨zWd_in 403 (by decide +kernel) rfl, zWd_in 405 (by decide +kernel) rfl, zWd_in 17 (by decide +kernel) rfl⟩
theorem csX1_61 : zSV RX1 61 μX1_doTick := ⟨zWd_in 407 (by decide +kernel) rfl, zWd_in 409 (by decide +kernel) rfl, zWd_in 18 (by decide +kernel) rfl⟩
set_option maxRecDepth 20000 in
theorem csX1_90 : Cond.methodLink RX1 90 Lib.Math.min.name ∈ zWd ∧ Cond.static Lib.Math.min.name ∈ zWd ∧ Cond.initialized "java/lang/Math" ∈ zWd ∧ Cond.code Lib.Math.min.name Lib.Math.min.code 2 (some .int) ∈ zWd := ⟨zWd_in 411 (by decide +kernel) rfl, zWd_in 412 (by decide +kernel) rfl, zWd_in 27 (by decide +kernel) rfl, zWd_in 413 rfl rfl⟩
theorem csL_29 : zSV RL 29 μX4_seen := ⟨zWd_in 414 (by decide +kernel) rfl, zWd_in 415 (by decide +kernel) rfl, zWd_in 416 (by decide +kernel) rfl⟩
theorem csX4_152 : zSV RX4 152 μX1_seenOf := ⟨zWd_in 418 (by decide +kernel) rfl, zWd_in 419 (by decide +kernel) rfl, zWd_in 420 (by decide +kernel) rfl⟩
theorem csL_53 : zSV RL 53 μX4_count := ⟨zWd_in 422 (by decide +kernel) rfl, zWd_in 423 (by decide +kernel) rfl, zWd_in 424 (by decide +kernel) rfl⟩
theorem csX4_194 : zSV RX4 194 μX4_countOf := ⟨zWd_in 426 (by decide +kernel) rfl, zWd_in 428 (by decide +kernel) rfl, zWd_in 19 (by decide +kernel) rfl⟩
theorem csX4_220 : zSV RX4 220 μX2_stepsInAll := ⟨zWd_in 430 (by decide +kernel) rfl, zWd_in 431 (by decide +kernel) rfl, zWd_in 432 (by decide +kernel) rfl⟩
theorem csX4_223 : zSS RX4 223 μJ6_bitCount_0f7a4 := ⟨Or.inl (zWd_in 434 (by decide +kernel) rfl), zWd_in 435 (by decide +kernel) rfl⟩
theorem kJ6_265 : Cond.constant RJ6 265 (zi (1431655765)) ∈ zWd := zWd_in 437 (by decide +kernel) rfl
theorem kJ6_266 : Cond.constant RJ6 266 (zi (858993459)) ∈ zWd := zWd_in 438 (by decide +kernel) rfl
theorem kJ6_267 : Cond.constant RJ6 267 (zi (252645135)) ∈ zWd := zWd_in 439 (by decide +kernel) rfl
theorem csX4_234 : zSV RX4 234 μX2_overloadedSteps := ⟨zWd_in 440 (by decide +kernel) rfl, zWd_in 441 (by decide +kernel) rfl, zWd_in 442 (by decide +kernel) rfl⟩
theorem csX2_61 : zSV RX2 61 μX2_isOverloaded := ⟨zWd_in 444 (by decide +kernel) rfl, zWd_in 286 (by decide +kernel) rfl, zWd_in 287 (by decide +kernel) rfl⟩
theorem csL_9 : zSS RL 9 μL_cell := ⟨Or.inl (zWd_in 445 (by decide +kernel) rfl), zWd_in 446 (by decide +kernel) rfl⟩
theorem kL_7 : Cond.constant RL 7 (zi (763049417)) ∈ zWd := zWd_in 448 (by decide +kernel) rfl
theorem csL_15 : zSS RL 15 μL_up := ⟨Or.inl (zWd_in 449 (by decide +kernel) rfl), zWd_in 450 (by decide +kernel) rfl⟩
theorem kL_8 : Cond.constant RL 8 (zi (2147483647)) ∈ zWd := zWd_in 452 (by decide +kernel) rfl
theorem csL_45 : zSS RL 45 μL_tells := ⟨Or.inl (zWd_in 453 (by decide +kernel) rfl), zWd_in 454 (by decide +kernel) rfl⟩
theorem csL_25 : zSV RL 25 μX4_step := ⟨zWd_in 456 (by decide +kernel) rfl, zWd_in 457 (by decide +kernel) rfl, zWd_in 458 (by decide +kernel) rfl⟩
theorem csX4_69 : zSS RX4 69 μX4_isMark := ⟨Or.inl (zWd_in 460 (by decide +kernel) rfl), zWd_in 461 (by decide +kernel) rfl⟩
theorem csX4_76 : zSV RX4 76 μX2_append := ⟨zWd_in 467 (by decide +kernel) rfl, zWd_in 468 (by decide +kernel) rfl, zWd_in 469 (by decide +kernel) rfl⟩
theorem csL_60 : zSS RL 60 μL_holds := ⟨Or.inl (zWd_in 471 (by decide +kernel) rfl), zWd_in 472 (by decide +kernel) rfl⟩
theorem csL_38 : zSV RL 38 μX4_searched := ⟨zWd_in 474 (by decide +kernel) rfl, zWd_in 475 (by decide +kernel) rfl, zWd_in 476 (by decide +kernel) rfl⟩
theorem csX4_123 : zSV RX4 123 μX0_searchedOf := ⟨zWd_in 478 (by decide +kernel) rfl, zWd_in 479 (by decide +kernel) rfl, zWd_in 480 (by decide +kernel) rfl⟩
theorem csL_41 : zSV RL 41 μX4_quick := ⟨zWd_in 482 (by decide +kernel) rfl, zWd_in 483 (by decide +kernel) rfl, zWd_in 484 (by decide +kernel) rfl⟩
theorem csX4_126 : zSV RX4 126 μX0_quickOf := ⟨zWd_in 486 (by decide +kernel) rfl, zWd_in 487 (by decide +kernel) rfl, zWd_in 488 (by decide +kernel) rfl⟩
end ZF
