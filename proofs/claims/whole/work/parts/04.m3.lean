section ZM3
variable {σ : zS}
set_option maxHeartbeats 1000000 in
theorem c_X5_in {v a b : Int} (hv : zB64 v) (ha : zB64 a) (hb : zB64 b) : YI 0 μX5_in [.long (zl v), .long (zl a), .long (zl b)] σ (zb (a ≤ v ∧ v ≤ b)) σ := by
  refine YC.of2 (by decide) (Nat.le_of_ble_eq_true rfl) (fun d P hd hP => ?_)
  refine Y.lload_n dX5_in_0 rfl ?_
  refine Y.lload_n dX5_in_1 rfl ?_
  refine Y.lcmp dX5_in_2 (by omega) (by omega) (fun c_2 bc_2 lc_2 ec_2 => ?_)
  refine Y.if_lt 17 dX5_in_3 (by decide) (by omega) (fun h_3 => ?_) (fun h_3 => ?_)
  · refine Y.iconst dX5_in_17 ?_
    exact Y.zret dX5_in_18 rfl (by decide) (hP _ _ ⟨zrI (by first | rw [zb_t (by omega)] | rw [zb_f (by omega)]), rfl⟩)
  · refine Y.lload_n dX5_in_6 rfl ?_
    refine Y.lload dX5_in_7 rfl ?_
    refine Y.lcmp dX5_in_9 (by omega) (by omega) (fun c_9 bc_9 lc_9 ec_9 => ?_)
    refine Y.if_gt 17 dX5_in_10 (by decide) (by omega) (fun h_10 => ?_) (fun h_10 => ?_)
    · refine Y.iconst dX5_in_17 ?_
      exact Y.zret dX5_in_18 rfl (by decide) (hP _ _ ⟨zrI (by first | rw [zb_t (by omega)] | rw [zb_f (by omega)]), rfl⟩)
    · refine Y.iconst dX5_in_13 ?_
      refine Y.goto 18 dX5_in_14 (by decide) ?_
      exact Y.zret dX5_in_18 rfl (by decide) (hP _ _ ⟨zrI (by first | rw [zb_t (by omega)] | rw [zb_f (by omega)]), rfl⟩)
set_option maxHeartbeats 1000000 in
theorem c_X5_isTwo {v : Int} (hv : zB v) : YI 1 μX5_isTwo [.int (zi v)] σ (zb (0 ≤ v ∧ v ≤ 1)) σ := by
  refine YC.of2 (by decide) (Nat.le_of_ble_eq_true rfl) (fun d P hd hP => ?_)
  refine Y.iload_n dX5_isTwo_0 rfl ?_
  refine Y.i2l dX5_isTwo_1 (by omega) ?_
  refine Y.lconst 0 dX5_isTwo_2 rfl ?_
  refine Y.lconst 1 dX5_isTwo_3 rfl ?_
  refine Y.cSI dX5_isTwo_4 mkX5_in csX5_89 (c_X5_in (by omega) (by omega) (by omega)) (by omega) rfl rfl (Nat.le_of_ble_eq_true rfl) ?_
  exact Y.zret dX5_isTwo_7 rfl zb_01 (hP _ _ ⟨rfl, rfl⟩)
set_option maxHeartbeats 1000000 in
theorem c_X5_isSheet {v : Int} (hv : zB v) : YI 1 μX5_isSheet [.int (zi v)] σ (zb (0 ≤ v ∧ v ≤ 3)) σ := by
  refine YC.of2 (by decide) (Nat.le_of_ble_eq_true rfl) (fun d P hd hP => ?_)
  refine Y.iload_n dX5_isSheet_0 rfl ?_
  refine Y.i2l dX5_isSheet_1 (by omega) ?_
  refine Y.lconst 0 dX5_isSheet_2 rfl ?_
  refine Y.ldc2 (3) dX5_isSheet_3 kX5_99 ?_
  refine Y.cSI dX5_isSheet_6 mkX5_in csX5_89 (c_X5_in (by omega) (by omega) (by omega)) (by omega) rfl rfl (Nat.le_of_ble_eq_true rfl) ?_
  exact Y.zret dX5_isSheet_9 rfl zb_01 (hP _ _ ⟨rfl, rfl⟩)
set_option maxHeartbeats 1000000 in
theorem c_X5_isChain {v : Int} (hv : zB v) : YI 1 μX5_isChain [.int (zi v)] σ (zb (0 ≤ v ∧ v ≤ 2)) σ := by
  refine YC.of2 (by decide) (Nat.le_of_ble_eq_true rfl) (fun d P hd hP => ?_)
  refine Y.iload_n dX5_isChain_0 rfl ?_
  refine Y.i2l dX5_isChain_1 (by omega) ?_
  refine Y.lconst 0 dX5_isChain_2 rfl ?_
  refine Y.ldc2 (2) dX5_isChain_3 kX5_105 ?_
  refine Y.cSI dX5_isChain_6 mkX5_in csX5_89 (c_X5_in (by omega) (by omega) (by omega)) (by omega) rfl rfl (Nat.le_of_ble_eq_true rfl) ?_
  exact Y.zret dX5_isChain_9 rfl zb_01 (hP _ _ ⟨rfl, rfl⟩)
set_option maxHeartbeats 1000000 in
theorem c_X5_no {v : Int} (hv : zB v) : YJ 0 μX5_no [.int (zi v)] σ (-9223372036854775808 - v) σ := by
  refine YC.of2 (by decide) (Nat.le_of_ble_eq_true rfl) (fun d P hd hP => ?_)
  refine Y.ldc2 (-9223372036854775808) dX5_no_0 kX5_93 ?_
  refine Y.iload_n dX5_no_3 rfl ?_
  refine Y.i2l dX5_no_4 (by omega) ?_
  refine Y.lsub dX5_no_5 ?_
  exact Y.lret dX5_no_6 rfl (hP _ _ ⟨rfl, rfl⟩)
set_option maxHeartbeats 1000000 in
theorem c_X5_lesser {a b : Int} (ha : zB a) (hb : zB b) : YI 0 μX5_lesser [.int (zi a), .int (zi b)] σ (min a b) σ := by
  refine YC.of2 (by decide) (Nat.le_of_ble_eq_true rfl) (fun d P hd hP => ?_)
  refine Y.iload_n dX5_lesser_0 rfl ?_
  refine Y.iload_n dX5_lesser_1 rfl ?_
  refine Y.icmp_ge 9 dX5_lesser_2 (by decide) (by omega) (by omega) (fun h_2 => ?_) (fun h_2 => ?_)
  · refine Y.iload_n dX5_lesser_9 rfl ?_
    exact Y.iret dX5_lesser_10 rfl (hP _ _ ⟨zrI (by omega), rfl⟩)
  · refine Y.iload_n dX5_lesser_5 rfl ?_
    refine Y.goto 10 dX5_lesser_6 (by decide) ?_
    exact Y.iret dX5_lesser_10 rfl (hP _ _ ⟨zrI (by omega), rfl⟩)
set_option maxHeartbeats 1000000 in
theorem c_X5_greater {a b : Int} (ha : zB a) (hb : zB b) : YI 0 μX5_greater [.int (zi a), .int (zi b)] σ (max a b) σ := by
  refine YC.of2 (by decide) (Nat.le_of_ble_eq_true rfl) (fun d P hd hP => ?_)
  refine Y.iload_n dX5_greater_0 rfl ?_
  refine Y.iload_n dX5_greater_1 rfl ?_
  refine Y.icmp_le 9 dX5_greater_2 (by decide) (by omega) (by omega) (fun h_2 => ?_) (fun h_2 => ?_)
  · refine Y.iload_n dX5_greater_9 rfl ?_
    exact Y.iret dX5_greater_10 rfl (hP _ _ ⟨zrI (by omega), rfl⟩)
  · refine Y.iload_n dX5_greater_5 rfl ?_
    refine Y.goto 10 dX5_greater_6 (by decide) ?_
    exact Y.iret dX5_greater_10 rfl (hP _ _ ⟨zrI (by omega), rfl⟩)
set_option maxHeartbeats 1000000 in
theorem c_X5_finds {f : Int} : YI 0 μX5_finds [.ref 67, .int (zi f)] σ (-10 - f) (zu σ 67 4 f) := by
  refine YC.of2 (by decide) (Nat.le_of_ble_eq_true rfl) (fun d P hd hP => ?_)
  refine Y.aload_n dX5_finds_0 rfl ?_
  refine Y.iload_n dX5_finds_1 rfl ?_
  refine Y.putf 4 dX5_finds_2 fpX5_95 ob67 os67_4 (Nat.le_of_ble_eq_true rfl) (Or.inl rfl) rfl ?_
  refine Y.bipush dX5_finds_5 (by decide +kernel) ?_
  refine Y.iload_n dX5_finds_7 rfl ?_
  refine Y.isub dX5_finds_8 ?_
  exact Y.iret dX5_finds_9 rfl (hP _ _ ⟨rfl, rfl⟩)
def stp (p : zP) (i j : Int) : Prop := 0 ≤ i ∧ i ≤ 2 ∧ 0 ≤ j ∧ j ≤ p 5 i - 1
set_option maxHeartbeats 1000000 in
theorem c_X5_isStep (hp : WP (mP σ)) {i j : Int} (hi : zB i) (hj : zB j) : YI 2 μX5_isStep [.ref 67, .int (zi i), .int (zi j)] σ (zb (stp (mP σ) i j)) σ := by
  refine YC.of2 (by decide) (Nat.le_of_ble_eq_true rfl) (fun d P hd hP => ?_)
  refine Y.iload_n dX5_isStep_0 rfl ?_
  refine Y.cSI dX5_isStep_1 mkX5_isChain csX5_121 (c_X5_isChain (by omega)) (by omega) rfl rfl (Nat.le_of_ble_eq_true rfl) ?_
  refine Y.ifz_eq 29 dX5_isStep_4 (by decide) (fun h_4 => ?_) (fun h_4 => ?_)
  · refine Y.iconst dX5_isStep_29 ?_
    exact Y.zret dX5_isStep_30 rfl (by decide) (hP _ _ ⟨zrI (by first | exact (zb_t (show 0 ≤ i ∧ i ≤ 2 ∧ 0 ≤ j ∧ j ≤ σ.1 77 i - 1 by omega)).symm | exact (zb_f (show ¬ (0 ≤ i ∧ i ≤ 2 ∧ 0 ≤ j ∧ j ≤ σ.1 77 i - 1) by omega)).symm), rfl⟩)
  · have hm := (hp.1 i (by omega) (by omega)).2.2.2.2.2
    simp only [mp0, mp1, mp2, mp3, mp4, mp5, mp6, mp7, mp8, mp9] at hm
    refine Y.iload_n dX5_isStep_7 rfl ?_
    refine Y.i2l dX5_isStep_8 (by omega) ?_
    refine Y.lconst 0 dX5_isStep_9 rfl ?_
    refine Y.aload_n dX5_isStep_10 rfl ?_
    refine Y.getf dX5_isStep_11 flX5_38 ob67 rfl ?_
    refine Y.iload_n dX5_isStep_14 rfl ?_
    refine Y.iald dX5_isStep_15 ia77 (by omega) (by omega) ?_
    refine Y.iconst dX5_isStep_16 ?_
    refine Y.isub dX5_isStep_17 ?_
    refine Y.i2l dX5_isStep_18 (by omega) ?_
    refine Y.cSI dX5_isStep_19 mkX5_in csX5_89 (c_X5_in (by omega) (by omega) (by omega)) (by omega) rfl rfl (Nat.le_of_ble_eq_true rfl) ?_
    refine Y.ifz_eq 29 dX5_isStep_22 (by decide) (fun h_22 => ?_) (fun h_22 => ?_)
    · refine Y.iconst dX5_isStep_29 ?_
      exact Y.zret dX5_isStep_30 rfl (by decide) (hP _ _ ⟨zrI (by first | exact (zb_t (show 0 ≤ i ∧ i ≤ 2 ∧ 0 ≤ j ∧ j ≤ σ.1 77 i - 1 by omega)).symm | exact (zb_f (show ¬ (0 ≤ i ∧ i ≤ 2 ∧ 0 ≤ j ∧ j ≤ σ.1 77 i - 1) by omega)).symm), rfl⟩)
    · refine Y.iconst dX5_isStep_25 ?_
      refine Y.goto 30 dX5_isStep_26 (by decide) ?_
      exact Y.zret dX5_isStep_30 rfl (by decide) (hP _ _ ⟨zrI (by first | exact (zb_t (show 0 ≤ i ∧ i ≤ 2 ∧ 0 ≤ j ∧ j ≤ σ.1 77 i - 1 by omega)).symm | exact (zb_f (show ¬ (0 ≤ i ∧ i ≤ 2 ∧ 0 ≤ j ∧ j ≤ σ.1 77 i - 1) by omega)).symm), rfl⟩)
set_option maxHeartbeats 1000000 in
theorem c_X5_isThere (hp : WP (mP σ)) {x : Int} (h0 : 0 ≤ x) (h9 : x < 9) : YI 0 μX5_isThere [.ref 67, .int (zi x)] σ (zb (th (mP σ) x)) σ := by
  refine YC.of2 (by decide) (Nat.le_of_ble_eq_true rfl) (fun d P hd hP => ?_)
  have hm := (hp.1 (x / 3) (by omega) (by omega)).2.2.2.2.2
  have hk := hp.2.1 x h0 h9
  simp only [mp0, mp1, mp2, mp3, mp4, mp5, mp6, mp7, mp8, mp9] at hm hk
  refine Y.iload_n dX5_isThere_0 rfl ?_
  refine Y.iconst dX5_isThere_1 ?_
  refine Y.iremp dX5_isThere_2 (by omega) (by omega) (by omega) (by omega) ?_
  refine Y.aload_n dX5_isThere_3 rfl ?_
  refine Y.getf dX5_isThere_4 flX5_38 ob67 rfl ?_
  refine Y.iload_n dX5_isThere_7 rfl ?_
  refine Y.iconst dX5_isThere_8 ?_
  refine Y.idivp dX5_isThere_9 (by omega) (by omega) (by omega) (by omega) ?_
  refine Y.iald dX5_isThere_10 ia77 (by omega) (by omega) ?_
  refine Y.icmp_ge 18 dX5_isThere_11 (by decide) (by omega) (by omega) (fun h_11 => ?_) (fun h_11 => ?_)
  · refine Y.iconst dX5_isThere_18 ?_
    exact Y.zret dX5_isThere_19 rfl (by decide) (hP _ _ ⟨zrI (by first | exact (zb_t (show x % 3 < σ.1 77 (x / 3) by omega)).symm | exact (zb_f (show ¬ (x % 3 < σ.1 77 (x / 3)) by omega)).symm), rfl⟩)
  · refine Y.iconst dX5_isThere_14 ?_
    refine Y.goto 19 dX5_isThere_15 (by decide) ?_
    exact Y.zret dX5_isThere_19 rfl (by decide) (hP _ _ ⟨zrI (by first | exact (zb_t (show x % 3 < σ.1 77 (x / 3) by omega)).symm | exact (zb_f (show ¬ (x % 3 < σ.1 77 (x / 3)) by omega)).symm), rfl⟩)
set_option maxHeartbeats 1000000 in
theorem c_X5_hasBy {i : Int} (h0 : 0 ≤ i) (h3 : i < 3) {w : Nat} (hw : w < 6) : YI 0 μX5_hasBy [.ref 67, .int (zi i), .int (zi w)] σ (mP σ w i) σ := by
  refine YC.of2 (by decide) (Nat.le_of_ble_eq_true rfl) (fun d P hd hP => ?_)
  rcases (show w = 0 ∨ w = 1 ∨ w = 2 ∨ w = 3 ∨ w = 4 ∨ w = 5 by omega) with rfl | rfl | rfl | rfl | rfl | rfl
  · refine Y.iload_n dX5_hasBy_0 rfl ?_
    refine Y.tin 36 dX5_hasBy_1 (by omega) (by omega) (by omega) rfl (by decide) ?_
    refine Y.aload_n dX5_hasBy_36 rfl ?_
    refine Y.getf dX5_hasBy_37 flX5_23 ob67 rfl ?_
    refine Y.iload_n dX5_hasBy_40 rfl ?_
    refine Y.iald dX5_hasBy_41 ia72 (by omega) (by omega) ?_
    exact Y.iret dX5_hasBy_42 rfl (hP _ _ ⟨rfl, rfl⟩)
  · refine Y.iload_n dX5_hasBy_0 rfl ?_
    refine Y.tin 43 dX5_hasBy_1 (by omega) (by omega) (by omega) rfl (by decide) ?_
    refine Y.aload_n dX5_hasBy_43 rfl ?_
    refine Y.getf dX5_hasBy_44 flX5_26 ob67 rfl ?_
    refine Y.iload_n dX5_hasBy_47 rfl ?_
    refine Y.iald dX5_hasBy_48 ia73 (by omega) (by omega) ?_
    exact Y.iret dX5_hasBy_49 rfl (hP _ _ ⟨rfl, rfl⟩)
  · refine Y.iload_n dX5_hasBy_0 rfl ?_
    refine Y.tin 50 dX5_hasBy_1 (by omega) (by omega) (by omega) rfl (by decide) ?_
    refine Y.aload_n dX5_hasBy_50 rfl ?_
    refine Y.getf dX5_hasBy_51 flX5_29 ob67 rfl ?_
    refine Y.iload_n dX5_hasBy_54 rfl ?_
    refine Y.iald dX5_hasBy_55 ia74 (by omega) (by omega) ?_
    exact Y.iret dX5_hasBy_56 rfl (hP _ _ ⟨rfl, rfl⟩)
  · refine Y.iload_n dX5_hasBy_0 rfl ?_
    refine Y.tin 57 dX5_hasBy_1 (by omega) (by omega) (by omega) rfl (by decide) ?_
    refine Y.aload_n dX5_hasBy_57 rfl ?_
    refine Y.getf dX5_hasBy_58 flX5_32 ob67 rfl ?_
    refine Y.iload_n dX5_hasBy_61 rfl ?_
    refine Y.iald dX5_hasBy_62 ia75 (by omega) (by omega) ?_
    exact Y.iret dX5_hasBy_63 rfl (hP _ _ ⟨rfl, rfl⟩)
  · refine Y.iload_n dX5_hasBy_0 rfl ?_
    refine Y.tin 64 dX5_hasBy_1 (by omega) (by omega) (by omega) rfl (by decide) ?_
    refine Y.aload_n dX5_hasBy_64 rfl ?_
    refine Y.getf dX5_hasBy_65 flX5_35 ob67 rfl ?_
    refine Y.iload_n dX5_hasBy_68 rfl ?_
    refine Y.iald dX5_hasBy_69 ia76 (by omega) (by omega) ?_
    exact Y.iret dX5_hasBy_70 rfl (hP _ _ ⟨rfl, rfl⟩)
  · refine Y.iload_n dX5_hasBy_0 rfl ?_
    refine Y.tout 71 dX5_hasBy_1 (by omega) (by omega) (by decide) ?_
    refine Y.aload_n dX5_hasBy_71 rfl ?_
    refine Y.getf dX5_hasBy_72 flX5_38 ob67 rfl ?_
    refine Y.iload_n dX5_hasBy_75 rfl ?_
    refine Y.iald dX5_hasBy_76 ia77 (by omega) (by omega) ?_
    exact Y.iret dX5_hasBy_77 rfl (hP _ _ ⟨rfl, rfl⟩)
set_option maxHeartbeats 1000000 in
theorem c_X5_mayChain {w v : Int} (hw : zB w) (hv : zB v) : YI 1 μX5_mayChain [.int (zi w), .int (zi v)] σ (zb (trt w v)) σ := by
  refine YC.of2 (by decide) (Nat.le_of_ble_eq_true rfl) (fun d P hd hP => ?_)
  have e0 : zTi 0 0 = 5 ∧ zTi 0 1 = 0 ∧ zTi 0 2 = 0 ∧ zTi 0 3 = 0 ∧ zTi 0 4 = 0 ∧ zTi 1 0 = 100 ∧ zTi 1 1 = 30 ∧ zTi 1 2 = 200 ∧ zTi 1 3 = 99 ∧ zTi 1 4 = 9 := by decide
  obtain ⟨e1, e2, e3, e4, e5, e6, e7, e8, e9, e10⟩ := e0
  rcases (show w = 0 ∨ w = 1 ∨ w = 2 ∨ w = 3 ∨ w = 4 ∨ (w < 0 ∨ 4 < w) by omega) with rfl | rfl | rfl | rfl | rfl | hq
  · refine Y.iload_n dX5_mayChain_0 rfl ?_
    refine Y.tin 36 dX5_mayChain_1 (by omega) (by omega) (by omega) rfl (by decide) ?_
    refine Y.iload_n dX5_mayChain_36 rfl ?_
    refine Y.i2l dX5_mayChain_37 (by omega) ?_
    refine Y.ldc2 (5) dX5_mayChain_38 kX5_124 ?_
    refine Y.ldc2 (100) dX5_mayChain_41 kX5_126 ?_
    refine Y.cSI dX5_mayChain_44 mkX5_in csX5_89 (c_X5_in (by omega) (by omega) (by omega)) (by omega) rfl rfl (Nat.le_of_ble_eq_true rfl) ?_
    exact Y.zret dX5_mayChain_47 rfl zb_01 (hP _ _ ⟨zrI (by refine zb_c ⟨fun q => ⟨by omega, by omega, by omega, by omega⟩, fun q => ?_⟩; have q1 := q.2.2.1; have q2 := q.2.2.2; omega), rfl⟩)
  · refine Y.iload_n dX5_mayChain_0 rfl ?_
    refine Y.tin 48 dX5_mayChain_1 (by omega) (by omega) (by omega) rfl (by decide) ?_
    refine Y.iload_n dX5_mayChain_48 rfl ?_
    refine Y.i2l dX5_mayChain_49 (by omega) ?_
    refine Y.lconst 0 dX5_mayChain_50 rfl ?_
    refine Y.ldc2 (30) dX5_mayChain_51 kX5_128 ?_
    refine Y.cSI dX5_mayChain_54 mkX5_in csX5_89 (c_X5_in (by omega) (by omega) (by omega)) (by omega) rfl rfl (Nat.le_of_ble_eq_true rfl) ?_
    exact Y.zret dX5_mayChain_57 rfl zb_01 (hP _ _ ⟨zrI (by refine zb_c ⟨fun q => ⟨by omega, by omega, by omega, by omega⟩, fun q => ?_⟩; have q1 := q.2.2.1; have q2 := q.2.2.2; omega), rfl⟩)
  · refine Y.iload_n dX5_mayChain_0 rfl ?_
    refine Y.tin 58 dX5_mayChain_1 (by omega) (by omega) (by omega) rfl (by decide) ?_
    refine Y.iload_n dX5_mayChain_58 rfl ?_
    refine Y.i2l dX5_mayChain_59 (by omega) ?_
    refine Y.lconst 0 dX5_mayChain_60 rfl ?_
    refine Y.ldc2 (200) dX5_mayChain_61 kX5_130 ?_
    refine Y.cSI dX5_mayChain_64 mkX5_in csX5_89 (c_X5_in (by omega) (by omega) (by omega)) (by omega) rfl rfl (Nat.le_of_ble_eq_true rfl) ?_
    exact Y.zret dX5_mayChain_67 rfl zb_01 (hP _ _ ⟨zrI (by refine zb_c ⟨fun q => ⟨by omega, by omega, by omega, by omega⟩, fun q => ?_⟩; have q1 := q.2.2.1; have q2 := q.2.2.2; omega), rfl⟩)
  · refine Y.iload_n dX5_mayChain_0 rfl ?_
    refine Y.tin 68 dX5_mayChain_1 (by omega) (by omega) (by omega) rfl (by decide) ?_
    refine Y.iload_n dX5_mayChain_68 rfl ?_
    refine Y.i2l dX5_mayChain_69 (by omega) ?_
    refine Y.lconst 0 dX5_mayChain_70 rfl ?_
    refine Y.ldc2 (99) dX5_mayChain_71 kX5_132 ?_
    refine Y.cSI dX5_mayChain_74 mkX5_in csX5_89 (c_X5_in (by omega) (by omega) (by omega)) (by omega) rfl rfl (Nat.le_of_ble_eq_true rfl) ?_
    exact Y.zret dX5_mayChain_77 rfl zb_01 (hP _ _ ⟨zrI (by refine zb_c ⟨fun q => ⟨by omega, by omega, by omega, by omega⟩, fun q => ?_⟩; have q1 := q.2.2.1; have q2 := q.2.2.2; omega), rfl⟩)
  · refine Y.iload_n dX5_mayChain_0 rfl ?_
    refine Y.tin 78 dX5_mayChain_1 (by omega) (by omega) (by omega) rfl (by decide) ?_
    refine Y.iload_n dX5_mayChain_78 rfl ?_
    refine Y.i2l dX5_mayChain_79 (by omega) ?_
    refine Y.lconst 0 dX5_mayChain_80 rfl ?_
    refine Y.ldc2 (9) dX5_mayChain_81 kX5_134 ?_
    refine Y.cSI dX5_mayChain_84 mkX5_in csX5_89 (c_X5_in (by omega) (by omega) (by omega)) (by omega) rfl rfl (Nat.le_of_ble_eq_true rfl) ?_
    exact Y.zret dX5_mayChain_87 rfl zb_01 (hP _ _ ⟨zrI (by refine zb_c ⟨fun q => ⟨by omega, by omega, by omega, by omega⟩, fun q => ?_⟩; have q1 := q.2.2.1; have q2 := q.2.2.2; omega), rfl⟩)
  · refine Y.iload_n dX5_mayChain_0 rfl ?_
    refine Y.tout 88 dX5_mayChain_1 (by omega) (by omega) (by decide) ?_
    refine Y.iconst dX5_mayChain_88 ?_
    exact Y.zret dX5_mayChain_89 rfl (by decide) (hP _ _ ⟨zrI (by exact (zb_f (fun q => by have q1 := q.1; have q2 := q.2.1; omega)).symm), rfl⟩)
set_option maxHeartbeats 1000000 in
theorem c_X5_mayStep {w v : Int} (hw : zB w) (hv : zB64 v) : YI 1 μX5_mayStep [.int (zi w), .long (zl v)] σ (zb (mrk w v)) σ := by
  refine YC.of2 (by decide) (Nat.le_of_ble_eq_true rfl) (fun d P hd hP => ?_)
  have e0 : zTi 2 0 = 0 ∧ zTi 2 1 = 1 ∧ zTi 2 2 = 0 ∧ zTi 2 3 = 0 ∧ zTi 3 0 = 1 ∧ zTi 3 1 = 20 ∧ zTi 3 2 = 9 ∧ zTi 3 3 = 20 := by decide
  obtain ⟨e1, e2, e3, e4, e5, e6, e7, e8⟩ := e0
  rcases (show w = 0 ∨ w = 1 ∨ w = 2 ∨ w = 3 ∨ (w < 0 ∨ 3 < w) by omega) with rfl | rfl | rfl | rfl | hq
  · refine Y.iload_n dX5_mayStep_0 rfl ?_
    refine Y.tin 32 dX5_mayStep_1 (by omega) (by omega) (by omega) rfl (by decide) ?_
    refine Y.lload_n dX5_mayStep_32 rfl ?_
    refine Y.lconst 0 dX5_mayStep_33 rfl ?_
    refine Y.lconst 1 dX5_mayStep_34 rfl ?_
    refine Y.cSI dX5_mayStep_35 mkX5_in csX5_89 (c_X5_in (by omega) (by omega) (by omega)) (by omega) rfl rfl (Nat.le_of_ble_eq_true rfl) ?_
    exact Y.zret dX5_mayStep_38 rfl zb_01 (hP _ _ ⟨zrI (by refine zb_c ⟨fun q => ⟨by omega, by omega, by omega, by omega⟩, fun q => ?_⟩; have q1 := q.2.2.1; have q2 := q.2.2.2; omega), rfl⟩)
  · refine Y.iload_n dX5_mayStep_0 rfl ?_
    refine Y.tin 39 dX5_mayStep_1 (by omega) (by omega) (by omega) rfl (by decide) ?_
    refine Y.lload_n dX5_mayStep_39 rfl ?_
    refine Y.lconst 1 dX5_mayStep_40 rfl ?_
    refine Y.ldc2 (20) dX5_mayStep_41 kX5_144 ?_
    refine Y.cSI dX5_mayStep_44 mkX5_in csX5_89 (c_X5_in (by omega) (by omega) (by omega)) (by omega) rfl rfl (Nat.le_of_ble_eq_true rfl) ?_
    exact Y.zret dX5_mayStep_47 rfl zb_01 (hP _ _ ⟨zrI (by refine zb_c ⟨fun q => ⟨by omega, by omega, by omega, by omega⟩, fun q => ?_⟩; have q1 := q.2.2.1; have q2 := q.2.2.2; omega), rfl⟩)
  · refine Y.iload_n dX5_mayStep_0 rfl ?_
    refine Y.tin 48 dX5_mayStep_1 (by omega) (by omega) (by omega) rfl (by decide) ?_
    refine Y.lload_n dX5_mayStep_48 rfl ?_
    refine Y.lconst 0 dX5_mayStep_49 rfl ?_
    refine Y.ldc2 (9) dX5_mayStep_50 kX5_134 ?_
    refine Y.cSI dX5_mayStep_53 mkX5_in csX5_89 (c_X5_in (by omega) (by omega) (by omega)) (by omega) rfl rfl (Nat.le_of_ble_eq_true rfl) ?_
    exact Y.zret dX5_mayStep_56 rfl zb_01 (hP _ _ ⟨zrI (by refine zb_c ⟨fun q => ⟨by omega, by omega, by omega, by omega⟩, fun q => ?_⟩; have q1 := q.2.2.1; have q2 := q.2.2.2; omega), rfl⟩)
  · refine Y.iload_n dX5_mayStep_0 rfl ?_
    refine Y.tin 57 dX5_mayStep_1 (by omega) (by omega) (by omega) rfl (by decide) ?_
    refine Y.lload_n dX5_mayStep_57 rfl ?_
    refine Y.lconst 0 dX5_mayStep_58 rfl ?_
    refine Y.ldc2 (20) dX5_mayStep_59 kX5_144 ?_
    refine Y.cSI dX5_mayStep_62 mkX5_in csX5_89 (c_X5_in (by omega) (by omega) (by omega)) (by omega) rfl rfl (Nat.le_of_ble_eq_true rfl) ?_
    exact Y.zret dX5_mayStep_65 rfl zb_01 (hP _ _ ⟨zrI (by refine zb_c ⟨fun q => ⟨by omega, by omega, by omega, by omega⟩, fun q => ?_⟩; have q1 := q.2.2.1; have q2 := q.2.2.2; omega), rfl⟩)
  · refine Y.iload_n dX5_mayStep_0 rfl ?_
    refine Y.tout 66 dX5_mayStep_1 (by omega) (by omega) (by decide) ?_
    refine Y.iconst dX5_mayStep_66 ?_
    exact Y.zret dX5_mayStep_67 rfl (by decide) (hP _ _ ⟨zrI (by exact (zb_f (fun q => by have q1 := q.1; have q2 := q.2.1; omega)).symm), rfl⟩)
set_option maxHeartbeats 1000000 in
theorem c_X5_toldBy {x : Int} (h0 : 0 ≤ x) (h9 : x < 9) {w : Nat} (hw : w < 4) : YI 0 μX5_toldBy [.ref 67, .int (zi x), .int (zi w)] σ (mP σ (6 + w) x) σ := by
  refine YC.of2 (by decide) (Nat.le_of_ble_eq_true rfl) (fun d P hd hP => ?_)
  rcases (show w = 0 ∨ w = 1 ∨ w = 2 ∨ w = 3 by omega) with rfl | rfl | rfl | rfl
  · refine Y.iload_n dX5_toldBy_0 rfl ?_
    refine Y.if_ne 13 dX5_toldBy_1 (by decide) (by omega) (fun h_1 => ?_) (fun h_1 => ?_)
    · exfalso; omega
    refine Y.aload_n dX5_toldBy_4 rfl ?_
    refine Y.getf dX5_toldBy_5 flX5_41 ob67 rfl ?_
    refine Y.iload_n dX5_toldBy_8 rfl ?_
    refine Y.iald dX5_toldBy_9 ia78 (by omega) (by omega) ?_
    refine Y.goto 47 dX5_toldBy_10 (by decide) ?_
    exact Y.iret dX5_toldBy_47 rfl (hP _ _ ⟨rfl, rfl⟩)
  · refine Y.iload_n dX5_toldBy_0 rfl ?_
    refine Y.if_ne 13 dX5_toldBy_1 (by decide) (by omega) (fun h_1 => ?_) (fun h_1 => ?_)
    rotate_left
    · exfalso; omega
    refine Y.iload_n dX5_toldBy_13 rfl ?_
    refine Y.iconst dX5_toldBy_14 ?_
    refine Y.icmp_ne 27 dX5_toldBy_15 (by decide) (by omega) (by omega) (fun h_15 => ?_) (fun h_15 => ?_)
    · exfalso; omega
    refine Y.aload_n dX5_toldBy_18 rfl ?_
    refine Y.getf dX5_toldBy_19 flX5_44 ob67 rfl ?_
    refine Y.iload_n dX5_toldBy_22 rfl ?_
    refine Y.iald dX5_toldBy_23 ia79 (by omega) (by omega) ?_
    refine Y.goto 47 dX5_toldBy_24 (by decide) ?_
    exact Y.iret dX5_toldBy_47 rfl (hP _ _ ⟨rfl, rfl⟩)
  · refine Y.iload_n dX5_toldBy_0 rfl ?_
    refine Y.if_ne 13 dX5_toldBy_1 (by decide) (by omega) (fun h_1 => ?_) (fun h_1 => ?_)
    rotate_left
    · exfalso; omega
    refine Y.iload_n dX5_toldBy_13 rfl ?_
    refine Y.iconst dX5_toldBy_14 ?_
    refine Y.icmp_ne 27 dX5_toldBy_15 (by decide) (by omega) (by omega) (fun h_15 => ?_) (fun h_15 => ?_)
    rotate_left
    · exfalso; omega
    refine Y.iload_n dX5_toldBy_27 rfl ?_
    refine Y.iconst dX5_toldBy_28 ?_
    refine Y.icmp_ne 41 dX5_toldBy_29 (by decide) (by omega) (by omega) (fun h_29 => ?_) (fun h_29 => ?_)
    · exfalso; omega
    refine Y.aload_n dX5_toldBy_32 rfl ?_
    refine Y.getf dX5_toldBy_33 flX5_47 ob67 rfl ?_
    refine Y.iload_n dX5_toldBy_36 rfl ?_
    refine Y.iald dX5_toldBy_37 ia80 (by omega) (by omega) ?_
    refine Y.goto 47 dX5_toldBy_38 (by decide) ?_
    exact Y.iret dX5_toldBy_47 rfl (hP _ _ ⟨rfl, rfl⟩)
  · refine Y.iload_n dX5_toldBy_0 rfl ?_
    refine Y.if_ne 13 dX5_toldBy_1 (by decide) (by omega) (fun h_1 => ?_) (fun h_1 => ?_)
    rotate_left
    · exfalso; omega
    refine Y.iload_n dX5_toldBy_13 rfl ?_
    refine Y.iconst dX5_toldBy_14 ?_
    refine Y.icmp_ne 27 dX5_toldBy_15 (by decide) (by omega) (by omega) (fun h_15 => ?_) (fun h_15 => ?_)
    rotate_left
    · exfalso; omega
    refine Y.iload_n dX5_toldBy_27 rfl ?_
    refine Y.iconst dX5_toldBy_28 ?_
    refine Y.icmp_ne 41 dX5_toldBy_29 (by decide) (by omega) (by omega) (fun h_29 => ?_) (fun h_29 => ?_)
    rotate_left
    · exfalso; omega
    refine Y.aload_n dX5_toldBy_41 rfl ?_
    refine Y.getf dX5_toldBy_42 flX5_50 ob67 rfl ?_
    refine Y.iload_n dX5_toldBy_45 rfl ?_
    refine Y.iald dX5_toldBy_46 ia81 (by omega) (by omega) ?_
    exact Y.iret dX5_toldBy_47 rfl (hP _ _ ⟨rfl, rfl⟩)
set_option maxHeartbeats 1000000 in
theorem c_X5_tells {x v : Int} (h0 : 0 ≤ x) (h9 : x < 9) {w : Nat} (hw : w < 4) : YV 0 μX5_tells [.ref 67, .int (zi x), .int (zi w), .int (zi v)] σ (zu σ (78 + w) x v) := by
  refine YC.of2 (by decide) (Nat.le_of_ble_eq_true rfl) (fun d P hd hP => ?_)
  rcases (show w = 0 ∨ w = 1 ∨ w = 2 ∨ w = 3 by omega) with rfl | rfl | rfl | rfl
  · refine Y.iload_n dX5_tells_0 rfl ?_
    refine Y.tin 28 dX5_tells_1 (by omega) (by omega) (by omega) rfl (by decide) ?_
    refine Y.aload_n dX5_tells_28 rfl ?_
    refine Y.getf dX5_tells_29 flX5_41 ob67 rfl ?_
    refine Y.iload_n dX5_tells_32 rfl ?_
    refine Y.iload_n dX5_tells_33 rfl ?_
    refine Y.iast dX5_tells_34 ia78 (by omega) (by omega) ?_
    refine Y.goto 65 dX5_tells_35 (by decide) ?_
    exact Y.vret dX5_tells_65 rfl (hP _ _ ⟨rfl, rfl⟩)
  · refine Y.iload_n dX5_tells_0 rfl ?_
    refine Y.tin 38 dX5_tells_1 (by omega) (by omega) (by omega) rfl (by decide) ?_
    refine Y.aload_n dX5_tells_38 rfl ?_
    refine Y.getf dX5_tells_39 flX5_44 ob67 rfl ?_
    refine Y.iload_n dX5_tells_42 rfl ?_
    refine Y.iload_n dX5_tells_43 rfl ?_
    refine Y.iast dX5_tells_44 ia79 (by omega) (by omega) ?_
    refine Y.goto 65 dX5_tells_45 (by decide) ?_
    exact Y.vret dX5_tells_65 rfl (hP _ _ ⟨rfl, rfl⟩)
  · refine Y.iload_n dX5_tells_0 rfl ?_
    refine Y.tin 48 dX5_tells_1 (by omega) (by omega) (by omega) rfl (by decide) ?_
    refine Y.aload_n dX5_tells_48 rfl ?_
    refine Y.getf dX5_tells_49 flX5_47 ob67 rfl ?_
    refine Y.iload_n dX5_tells_52 rfl ?_
    refine Y.iload_n dX5_tells_53 rfl ?_
    refine Y.iast dX5_tells_54 ia80 (by omega) (by omega) ?_
    refine Y.goto 65 dX5_tells_55 (by decide) ?_
    exact Y.vret dX5_tells_65 rfl (hP _ _ ⟨rfl, rfl⟩)
  · refine Y.iload_n dX5_tells_0 rfl ?_
    refine Y.tout 58 dX5_tells_1 (by omega) (by omega) (by decide) ?_
    refine Y.aload_n dX5_tells_58 rfl ?_
    refine Y.getf dX5_tells_59 flX5_50 ob67 rfl ?_
    refine Y.iload_n dX5_tells_62 rfl ?_
    refine Y.iload_n dX5_tells_63 rfl ?_
    refine Y.iast dX5_tells_64 ia81 (by omega) (by omega) ?_
    exact Y.vret dX5_tells_65 rfl (hP _ _ ⟨rfl, rfl⟩)
set_option maxHeartbeats 1000000 in
theorem c_X5_earliest (hp : WP (mP σ)) {x : Int} (h0 : 0 ≤ x) (h9 : x < 9) : YI 0 μX5_earliest [.ref 67, .int (zi x)] σ (ear (mP σ) x) σ := by
  refine YC.of2 (by decide) (Nat.le_of_ble_eq_true rfl) (fun d P hd hP => ?_)
  have hm := (hp.1 (x / 3) (by omega) (by omega)).2.2.2.2.2
  have hk := hp.2.1 x h0 h9
  simp only [mp0, mp1, mp2, mp3, mp4, mp5, mp6, mp7, mp8, mp9] at hm hk
  refine Y.iconst dX5_earliest_0 ?_
  refine Y.istore_n dX5_earliest_1 (by decide) rfl ?_
  refine Y.iload_n dX5_earliest_2 rfl ?_
  refine Y.iconst dX5_earliest_3 ?_
  refine Y.idivp dX5_earliest_4 (by omega) (by omega) (by omega) (by omega) ?_
  refine Y.iconst dX5_earliest_5 ?_
  refine Y.imul dX5_earliest_6 ?_
  refine Y.istore_n dX5_earliest_7 (by decide) rfl ?_
  refine zw2 (fun s y => (x - x % 3 ≤ y ∧ y ≤ x + 1 ∧ s = sm (fun y => mP σ 9 y + mP σ 7 y) (x - x % 3) (min y x - (x - x % 3)).toNat + (if y = x + 1 then mP σ 9 x else 0))) (fun s y => Y d μX5_earliest 8 [some (.ref 67), some (.int (zi x)), some (.int (zi s)), some (.int (zi y))] [] σ P) (fun s y => (x + 1 - y).toNat) ?_ _ _ ⟨by omega, by omega, by rw [show min (x / 3 * 3) x = x - x % 3 by omega, sm_0, if_neg (by omega)]; rfl⟩
  intro s y hI ih
  obtain ⟨i1, i2, i3⟩ := hI
  refine Y.iload_n dX5_earliest_8 rfl ?_
  refine Y.iload_n dX5_earliest_9 rfl ?_
  refine Y.icmp_gt 44 dX5_earliest_10 (by decide) (by omega) (by omega) (fun h_10 => ?_) (fun h_10 => ?_)
  · refine Y.iload_n dX5_earliest_44 rfl ?_
    exact Y.iret dX5_earliest_45 rfl (hP _ _ ⟨zrI (by rw [i3, show y = x + 1 by omega, if_pos rfl, show min (x + 1) x = x by omega]; unfold ear; omega), rfl⟩)
  · refine Y.iload_n dX5_earliest_13 rfl ?_
    refine Y.aload_n dX5_earliest_14 rfl ?_
    refine Y.getf dX5_earliest_15 flX5_50 ob67 rfl ?_
    refine Y.iload_n dX5_earliest_18 rfl ?_
    refine Y.iald dX5_earliest_19 ia81 (by omega) (by omega) ?_
    refine Y.iload_n dX5_earliest_20 rfl ?_
    refine Y.iload_n dX5_earliest_21 rfl ?_
    refine Y.icmp_ge 34 dX5_earliest_22 (by decide) (by omega) (by omega) (fun h_22 => ?_) (fun h_22 => ?_)
    · refine Y.iconst dX5_earliest_34 ?_
      refine Y.iadd dX5_earliest_35 ?_
      refine Y.iadd dX5_earliest_36 ?_
      refine Y.istore_n dX5_earliest_37 (by decide) rfl ?_
      refine Y.iinc dX5_earliest_38 rfl (by decide) rfl ?_
      refine Y.goto 8 dX5_earliest_41 (by decide) ?_
      first
        | (refine ih _ _ ⟨by omega, by omega, ?_⟩ (by omega)
           rw [show min (y + 1) x = y + 1 by omega, sm_s (by omega), if_neg (by omega), i3, show min y x = y by omega, if_neg (by omega)]
           simp only [mp9, mp7]
           omega)
        | (refine ih _ _ ⟨by omega, by omega, ?_⟩ (by omega)
           rw [show min (y + 1) x = x by omega, if_pos (by omega), i3, show min y x = x by omega, if_neg (by omega), show y = x by omega]
           simp only [mp9, mp7]
           omega)
    · refine Y.aload_n dX5_earliest_25 rfl ?_
      refine Y.getf dX5_earliest_26 flX5_44 ob67 rfl ?_
      refine Y.iload_n dX5_earliest_29 rfl ?_
      refine Y.iald dX5_earliest_30 ia79 (by omega) (by omega) ?_
      refine Y.goto 35 dX5_earliest_31 (by decide) ?_
      refine Y.iadd dX5_earliest_35 ?_
      refine Y.iadd dX5_earliest_36 ?_
      refine Y.istore_n dX5_earliest_37 (by decide) rfl ?_
      refine Y.iinc dX5_earliest_38 rfl (by decide) rfl ?_
      refine Y.goto 8 dX5_earliest_41 (by decide) ?_
      first
        | (refine ih _ _ ⟨by omega, by omega, ?_⟩ (by omega)
           rw [show min (y + 1) x = y + 1 by omega, sm_s (by omega), if_neg (by omega), i3, show min y x = y by omega, if_neg (by omega)]
           simp only [mp9, mp7]
           omega)
        | (refine ih _ _ ⟨by omega, by omega, ?_⟩ (by omega)
           rw [show min (y + 1) x = x by omega, if_pos (by omega), i3, show min y x = x by omega, if_neg (by omega), show y = x by omega]
           simp only [mp9, mp7]
           omega)
set_option maxHeartbeats 1000000 in
theorem c_X5_isRival (hp : WP (mP σ)) {x y : Int} (h0 : 0 ≤ x) (h9 : x < 9) (g0 : 0 ≤ y) (g9 : y < 9) : YI 1 μX5_isRival [.ref 67, .int (zi x), .int (zi y)] σ (zb (riv (mP σ) x y)) σ := by
  refine YC.of2 (by decide) (Nat.le_of_ble_eq_true rfl) (fun d P hd hP => ?_)
  have hx := hp.2.1 x h0 h9
  have hy := hp.2.1 y g0 g9
  simp only [mp0, mp1, mp2, mp3, mp4, mp5, mp6, mp7, mp8, mp9] at hx hy
  refine Y.aload_n dX5_isRival_0 rfl ?_
  refine Y.iload_n dX5_isRival_1 rfl ?_
  refine Y.cVI dX5_isRival_2 mkX5_isThere csX5_160 ob67 ⟨_, rfl, rfl⟩ (c_X5_isThere hp (by omega) (by omega)) (by omega) rfl rfl (Nat.le_of_ble_eq_true rfl) ?_
  refine Y.ifz_eq 47 dX5_isRival_5 (by decide) (fun h_5 => ?_) (fun h_5 => ?_)
  · refine Y.iconst dX5_isRival_47 ?_
    exact Y.zret dX5_isRival_48 rfl (by decide) (hP _ _ ⟨zrI (by first | exact (zb_t ⟨by assumption, by omega, show σ.1 78 y = σ.1 78 x by omega, show σ.1 80 x ≤ σ.1 80 y by omega⟩).symm | (refine (zb_f ?_).symm; rintro ⟨q1, q2, q3, q4⟩; have q5 : σ.1 78 y = σ.1 78 x := q3; have q6 : σ.1 80 x ≤ σ.1 80 y := q4; first | omega | exact absurd q1 (by assumption))), rfl⟩)
  · refine Y.iload_n dX5_isRival_8 rfl ?_
    refine Y.iload_n dX5_isRival_9 rfl ?_
    refine Y.icmp_eq 47 dX5_isRival_10 (by decide) (by omega) (by omega) (fun h_10 => ?_) (fun h_10 => ?_)
    · refine Y.iconst dX5_isRival_47 ?_
      exact Y.zret dX5_isRival_48 rfl (by decide) (hP _ _ ⟨zrI (by first | exact (zb_t ⟨by assumption, by omega, show σ.1 78 y = σ.1 78 x by omega, show σ.1 80 x ≤ σ.1 80 y by omega⟩).symm | (refine (zb_f ?_).symm; rintro ⟨q1, q2, q3, q4⟩; have q5 : σ.1 78 y = σ.1 78 x := q3; have q6 : σ.1 80 x ≤ σ.1 80 y := q4; first | omega | exact absurd q1 (by assumption))), rfl⟩)
    · refine Y.aload_n dX5_isRival_13 rfl ?_
      refine Y.getf dX5_isRival_14 flX5_41 ob67 rfl ?_
      refine Y.iload_n dX5_isRival_17 rfl ?_
      refine Y.iald dX5_isRival_18 ia78 (by omega) (by omega) ?_
      refine Y.aload_n dX5_isRival_19 rfl ?_
      refine Y.getf dX5_isRival_20 flX5_41 ob67 rfl ?_
      refine Y.iload_n dX5_isRival_23 rfl ?_
      refine Y.iald dX5_isRival_24 ia78 (by omega) (by omega) ?_
      refine Y.icmp_ne 47 dX5_isRival_25 (by decide) (by omega) (by omega) (fun h_25 => ?_) (fun h_25 => ?_)
      · refine Y.iconst dX5_isRival_47 ?_
        exact Y.zret dX5_isRival_48 rfl (by decide) (hP _ _ ⟨zrI (by first | exact (zb_t ⟨by assumption, by omega, show σ.1 78 y = σ.1 78 x by omega, show σ.1 80 x ≤ σ.1 80 y by omega⟩).symm | (refine (zb_f ?_).symm; rintro ⟨q1, q2, q3, q4⟩; have q5 : σ.1 78 y = σ.1 78 x := q3; have q6 : σ.1 80 x ≤ σ.1 80 y := q4; first | omega | exact absurd q1 (by assumption))), rfl⟩)
      · refine Y.aload_n dX5_isRival_28 rfl ?_
        refine Y.getf dX5_isRival_29 flX5_47 ob67 rfl ?_
        refine Y.iload_n dX5_isRival_32 rfl ?_
        refine Y.iald dX5_isRival_33 ia80 (by omega) (by omega) ?_
        refine Y.aload_n dX5_isRival_34 rfl ?_
        refine Y.getf dX5_isRival_35 flX5_47 ob67 rfl ?_
        refine Y.iload_n dX5_isRival_38 rfl ?_
        refine Y.iald dX5_isRival_39 ia80 (by omega) (by omega) ?_
        refine Y.icmp_lt 47 dX5_isRival_40 (by decide) (by omega) (by omega) (fun h_40 => ?_) (fun h_40 => ?_)
        · refine Y.iconst dX5_isRival_47 ?_
          exact Y.zret dX5_isRival_48 rfl (by decide) (hP _ _ ⟨zrI (by first | exact (zb_t ⟨by assumption, by omega, show σ.1 78 y = σ.1 78 x by omega, show σ.1 80 x ≤ σ.1 80 y by omega⟩).symm | (refine (zb_f ?_).symm; rintro ⟨q1, q2, q3, q4⟩; have q5 : σ.1 78 y = σ.1 78 x := q3; have q6 : σ.1 80 x ≤ σ.1 80 y := q4; first | omega | exact absurd q1 (by assumption))), rfl⟩)
        · refine Y.iconst dX5_isRival_43 ?_
          refine Y.goto 48 dX5_isRival_44 (by decide) ?_
          exact Y.zret dX5_isRival_48 rfl (by decide) (hP _ _ ⟨zrI (by first | exact (zb_t ⟨by assumption, by omega, show σ.1 78 y = σ.1 78 x by omega, show σ.1 80 x ≤ σ.1 80 y by omega⟩).symm | (refine (zb_f ?_).symm; rintro ⟨q1, q2, q3, q4⟩; have q5 : σ.1 78 y = σ.1 78 x := q3; have q6 : σ.1 80 x ≤ σ.1 80 y := q4; first | omega | exact absurd q1 (by assumption))), rfl⟩)
set_option maxHeartbeats 1000000 in
theorem c_X5_rivals (hp : WP (mP σ)) {x : Int} (h0 : 0 ≤ x) (h9 : x < 9) : YI 2 μX5_rivals [.ref 67, .int (zi x)] σ (rvs (mP σ) x) σ := by
  refine YC.of2 (by decide) (Nat.le_of_ble_eq_true rfl) (fun d P hd hP => ?_)
  refine Y.iconst dX5_rivals_0 ?_
  refine Y.istore_n dX5_rivals_1 (by decide) rfl ?_
  refine Y.iconst dX5_rivals_2 ?_
  refine Y.istore_n dX5_rivals_3 (by decide) rfl ?_
  refine zw2 (fun n y => (0 ≤ y ∧ y ≤ 9 ∧ n = sm (fun y => zb (riv (mP σ) x y)) 0 (y - 0).toNat)) (fun n y => Y d μX5_rivals 4 [some (.ref 67), some (.int (zi x)), some (.int (zi n)), some (.int (zi y))] [] σ P) (fun n y => (9 - y).toNat) ?_ _ _ ⟨by omega, by omega, by rw [sm_0]⟩
  intro n y hI ih
  obtain ⟨i1, i2, i3⟩ := hI
  refine Y.iload_n dX5_rivals_4 rfl ?_
  refine Y.bipush dX5_rivals_5 (by decide +kernel) ?_
  refine Y.icmp_ge 33 dX5_rivals_7 (by decide) (by omega) (by omega) (fun h_7 => ?_) (fun h_7 => ?_)
  · refine Y.iload_n dX5_rivals_33 rfl ?_
    exact Y.iret dX5_rivals_34 rfl (hP _ _ ⟨zrI (by rw [i3, show y = 9 by omega]; rfl), rfl⟩)
  · refine Y.iload_n dX5_rivals_10 rfl ?_
    refine Y.aload_n dX5_rivals_11 rfl ?_
    refine Y.iload_n dX5_rivals_12 rfl ?_
    refine Y.iload_n dX5_rivals_13 rfl ?_
    refine Y.cVI dX5_rivals_14 mkX5_isRival csX5_163 ob67 ⟨_, rfl, rfl⟩ (c_X5_isRival hp (by omega) (by omega) (by omega) (by omega)) (by omega) rfl rfl (Nat.le_of_ble_eq_true rfl) ?_
    refine Y.ifz_eq 24 dX5_rivals_17 (by decide) (fun h_17 => ?_) (fun h_17 => ?_)
    · refine Y.iconst dX5_rivals_24 ?_
      refine Y.iadd dX5_rivals_25 ?_
      refine Y.istore_n dX5_rivals_26 (by decide) rfl ?_
      refine Y.iinc dX5_rivals_27 rfl (by decide) rfl ?_
      refine Y.goto 4 dX5_rivals_30 (by decide) ?_
      exact ih _ _ ⟨by omega, by omega, by rw [sm_s (by omega), i3]; first | rw [zb_t (by assumption)] | rw [zb_f (by assumption)]⟩ (by omega)
    · refine Y.iconst dX5_rivals_20 ?_
      refine Y.goto 25 dX5_rivals_21 (by decide) ?_
      refine Y.iadd dX5_rivals_25 ?_
      refine Y.istore_n dX5_rivals_26 (by decide) rfl ?_
      refine Y.iinc dX5_rivals_27 rfl (by decide) rfl ?_
      refine Y.goto 4 dX5_rivals_30 (by decide) ?_
      exact ih _ _ ⟨by omega, by omega, by rw [sm_s (by omega), i3]; first | rw [zb_t (by assumption)] | rw [zb_f (by assumption)]⟩ (by omega)
end ZM3
