section ZM1
variable {σ : zS}
set_option maxHeartbeats 1000000 in
theorem c_X4_within {v a b : Int} (hv : zB64 v) (ha : zB a) (hb : zB b) : YI 0 μX4_within [.long (zl v), .int (zi a), .int (zi b)] σ (zb (a ≤ v ∧ v ≤ b)) σ := by
  refine YC.of2 (by decide) (Nat.le_of_ble_eq_true rfl) (fun d P hd hP => ?_)
  refine Y.lload_n dX4_within_0 rfl ?_
  refine Y.iload_n dX4_within_1 rfl ?_
  refine Y.i2l dX4_within_2 (by omega) ?_
  refine Y.lcmp dX4_within_3 (by omega) (by omega) (fun c_3 bc_3 lc_3 ec_3 => ?_)
  refine Y.if_lt 18 dX4_within_4 (by decide) (by omega) (fun h_4 => ?_) (fun h_4 => ?_)
  · refine Y.iconst dX4_within_18 ?_
    exact Y.zret dX4_within_19 rfl (by decide) (hP _ _ ⟨zrI (by first | rw [zb_t (by omega)] | rw [zb_f (by omega)]), rfl⟩)
  · refine Y.lload_n dX4_within_7 rfl ?_
    refine Y.iload_n dX4_within_8 rfl ?_
    refine Y.i2l dX4_within_9 (by omega) ?_
    refine Y.lcmp dX4_within_10 (by omega) (by omega) (fun c_10 bc_10 lc_10 ec_10 => ?_)
    refine Y.if_gt 18 dX4_within_11 (by decide) (by omega) (fun h_11 => ?_) (fun h_11 => ?_)
    · refine Y.iconst dX4_within_18 ?_
      exact Y.zret dX4_within_19 rfl (by decide) (hP _ _ ⟨zrI (by first | rw [zb_t (by omega)] | rw [zb_f (by omega)]), rfl⟩)
    · refine Y.iconst dX4_within_14 ?_
      refine Y.goto 19 dX4_within_15 (by decide) ?_
      exact Y.zret dX4_within_19 rfl (by decide) (hP _ _ ⟨zrI (by first | rw [zb_t (by omega)] | rw [zb_f (by omega)]), rfl⟩)
set_option maxHeartbeats 1000000 in
theorem c_X4_isChain {v : Int} (hv : zB v) : YI 1 μX4_isChain [.int (zi v)] σ (zb (0 ≤ v ∧ v ≤ 2)) σ := by
  refine YC.of2 (by decide) (Nat.le_of_ble_eq_true rfl) (fun d P hd hP => ?_)
  refine Y.iload_n dX4_isChain_0 rfl ?_
  refine Y.i2l dX4_isChain_1 (by omega) ?_
  refine Y.iconst dX4_isChain_2 ?_
  refine Y.iconst dX4_isChain_3 ?_
  refine Y.cSI dX4_isChain_4 mkX4_within csX4_50 (c_X4_within (by omega) (by omega) (by omega)) (by omega) rfl rfl (Nat.le_of_ble_eq_true rfl) ?_
  exact Y.zret dX4_isChain_7 rfl zb_01 (hP _ _ ⟨rfl, rfl⟩)
def nof (p : zP) (i j : Int) : Int := if 0 ≤ i ∧ i ≤ 2 ∧ 0 ≤ j ∧ j ≤ p 5 i - 1 then i * 3 + j else -1
set_option maxHeartbeats 1000000 in
theorem c_X2_numberOf (hp : WP (cP σ)) {i j : Int} (hi : zB i) (hj : zB j) : YI 2 μX2_numberOf [.ref 1, .int (zi i), .int (zi j)] σ (nof (cP σ) i j) σ := by
  refine YC.of2 (by decide) (Nat.le_of_ble_eq_true rfl) (fun d P hd hP => ?_)
  refine Y.iload_n dX2_numberOf_0 rfl ?_
  refine Y.cSI dX2_numberOf_1 mkX4_isChain csX2_29 (c_X4_isChain (by omega)) (by omega) rfl rfl (Nat.le_of_ble_eq_true rfl) ?_
  refine Y.ifz_eq 24 dX2_numberOf_4 (by decide) (fun h_4 => ?_) (fun h_4 => ?_)
  · refine Y.iconst dX2_numberOf_24 ?_
    exact Y.iret dX2_numberOf_25 rfl (hP _ _ ⟨zrI (by unfold nof; first | rw [if_pos (by simp only [cp0, cp1, cp2, cp3, cp4, cp5, cp6, cp7, cp8, cp9]; omega)] | rw [if_neg (by simp only [cp0, cp1, cp2, cp3, cp4, cp5, cp6, cp7, cp8, cp9]; omega)]), rfl⟩)
  · have hm := (hp.1 i (by omega) (by omega)).2.2.2.2.2
    simp only [cp0, cp1, cp2, cp3, cp4, cp5, cp6, cp7, cp8, cp9] at hm
    refine Y.iload_n dX2_numberOf_7 rfl ?_
    refine Y.i2l dX2_numberOf_8 (by omega) ?_
    refine Y.iconst dX2_numberOf_9 ?_
    refine Y.aload_n dX2_numberOf_10 rfl ?_
    refine Y.getf dX2_numberOf_11 flX2_19 ob1 rfl ?_
    refine Y.iload_n dX2_numberOf_14 rfl ?_
    refine Y.iald dX2_numberOf_15 ia13 (by omega) (by omega) ?_
    refine Y.iconst dX2_numberOf_16 ?_
    refine Y.isub dX2_numberOf_17 ?_
    refine Y.cSI dX2_numberOf_18 mkX4_within csX2_33 (c_X4_within (by omega) (by omega) (by omega)) (by omega) rfl rfl (Nat.le_of_ble_eq_true rfl) ?_
    refine Y.ifz_ne 26 dX2_numberOf_21 (by decide) (fun h_21 => ?_) (fun h_21 => ?_)
    · refine Y.iload_n dX2_numberOf_26 rfl ?_
      refine Y.iconst dX2_numberOf_27 ?_
      refine Y.imul dX2_numberOf_28 ?_
      refine Y.iload_n dX2_numberOf_29 rfl ?_
      refine Y.iadd dX2_numberOf_30 ?_
      exact Y.iret dX2_numberOf_31 rfl (hP _ _ ⟨zrI (by unfold nof; first | rw [if_pos (by simp only [cp0, cp1, cp2, cp3, cp4, cp5, cp6, cp7, cp8, cp9]; omega)] | rw [if_neg (by simp only [cp0, cp1, cp2, cp3, cp4, cp5, cp6, cp7, cp8, cp9]; omega)]), rfl⟩)
    · refine Y.iconst dX2_numberOf_24 ?_
      exact Y.iret dX2_numberOf_25 rfl (hP _ _ ⟨zrI (by unfold nof; first | rw [if_pos (by simp only [cp0, cp1, cp2, cp3, cp4, cp5, cp6, cp7, cp8, cp9]; omega)] | rw [if_neg (by simp only [cp0, cp1, cp2, cp3, cp4, cp5, cp6, cp7, cp8, cp9]; omega)]), rfl⟩)
set_option maxHeartbeats 1000000 in
theorem c_X2_isStep (hp : WP (cP σ)) {x : Int} (h0 : 0 ≤ x) (h9 : x < 9) : YI 0 μX2_isStep [.ref 1, .int (zi x)] σ (zb (th (cP σ) x)) σ := by
  refine YC.of2 (by decide) (Nat.le_of_ble_eq_true rfl) (fun d P hd hP => ?_)
  have hm := (hp.1 (x / 3) (by omega) (by omega)).2.2.2.2.2
  have hk := hp.2.1 x h0 h9
  simp only [cp0, cp1, cp2, cp3, cp4, cp5, cp6, cp7, cp8, cp9] at hm hk
  refine Y.iload_n dX2_isStep_0 rfl ?_
  refine Y.iconst dX2_isStep_1 ?_
  refine Y.iremp dX2_isStep_2 (by omega) (by omega) (by omega) (by omega) ?_
  refine Y.aload_n dX2_isStep_3 rfl ?_
  refine Y.getf dX2_isStep_4 flX2_19 ob1 rfl ?_
  refine Y.iload_n dX2_isStep_7 rfl ?_
  refine Y.iconst dX2_isStep_8 ?_
  refine Y.idivp dX2_isStep_9 (by omega) (by omega) (by omega) (by omega) ?_
  refine Y.iald dX2_isStep_10 ia13 (by omega) (by omega) ?_
  refine Y.icmp_ge 18 dX2_isStep_11 (by decide) (by omega) (by omega) (fun h_11 => ?_) (fun h_11 => ?_)
  · refine Y.iconst dX2_isStep_18 ?_
    exact Y.zret dX2_isStep_19 rfl (by decide) (hP _ _ ⟨zrI (by first | exact (zb_t (show x % 3 < σ.1 13 (x / 3) by omega)).symm | exact (zb_f (show ¬ (x % 3 < σ.1 13 (x / 3)) by omega)).symm), rfl⟩)
  · refine Y.iconst dX2_isStep_14 ?_
    refine Y.goto 19 dX2_isStep_15 (by decide) ?_
    exact Y.zret dX2_isStep_19 rfl (by decide) (hP _ _ ⟨zrI (by first | exact (zb_t (show x % 3 < σ.1 13 (x / 3) by omega)).symm | exact (zb_f (show ¬ (x % 3 < σ.1 13 (x / 3)) by omega)).symm), rfl⟩)
set_option maxHeartbeats 1000000 in
theorem c_X2_lastOf (hp : WP (cP σ)) {i : Int} (h0 : 0 ≤ i) (h3 : i < 3) : YI 0 μX2_lastOf [.ref 1, .int (zi i)] σ (i * 3 + cP σ 5 i - 1) σ := by
  refine YC.of2 (by decide) (Nat.le_of_ble_eq_true rfl) (fun d P hd hP => ?_)
  have hi := hp.1 i h0 h3
  simp only [cp0, cp1, cp2, cp3, cp4, cp5, cp6, cp7, cp8, cp9] at hi
  refine Y.iload_n dX2_lastOf_0 rfl ?_
  refine Y.iconst dX2_lastOf_1 ?_
  refine Y.imul dX2_lastOf_2 ?_
  refine Y.aload_n dX2_lastOf_3 rfl ?_
  refine Y.getf dX2_lastOf_4 flX2_19 ob1 rfl ?_
  refine Y.iload_n dX2_lastOf_7 rfl ?_
  refine Y.iald dX2_lastOf_8 ia13 (by omega) (by omega) ?_
  refine Y.iadd dX2_lastOf_9 ?_
  refine Y.iconst dX2_lastOf_10 ?_
  refine Y.isub dX2_lastOf_11 ?_
  exact Y.iret dX2_lastOf_12 rfl (hP _ _ ⟨rfl, rfl⟩)
set_option maxHeartbeats 1000000 in
theorem c_X2_stepsInAll  : YI 0 μX2_stepsInAll [.ref 1] σ (cP σ 5 0 + cP σ 5 1 + cP σ 5 2) σ := by
  refine YC.of2 (by decide) (Nat.le_of_ble_eq_true rfl) (fun d P hd hP => ?_)
  refine Y.aload_n dX2_stepsInAll_0 rfl ?_
  refine Y.getf dX2_stepsInAll_1 flX2_19 ob1 rfl ?_
  refine Y.iconst dX2_stepsInAll_4 ?_
  refine Y.iald dX2_stepsInAll_5 ia13 (by omega) (by omega) ?_
  refine Y.aload_n dX2_stepsInAll_6 rfl ?_
  refine Y.getf dX2_stepsInAll_7 flX2_19 ob1 rfl ?_
  refine Y.iconst dX2_stepsInAll_10 ?_
  refine Y.iald dX2_stepsInAll_11 ia13 (by omega) (by omega) ?_
  refine Y.iadd dX2_stepsInAll_12 ?_
  refine Y.aload_n dX2_stepsInAll_13 rfl ?_
  refine Y.getf dX2_stepsInAll_14 flX2_19 ob1 rfl ?_
  refine Y.iconst dX2_stepsInAll_17 ?_
  refine Y.iald dX2_stepsInAll_18 ia13 (by omega) (by omega) ?_
  refine Y.iadd dX2_stepsInAll_19 ?_
  exact Y.iret dX2_stepsInAll_20 rfl (hP _ _ ⟨rfl, rfl⟩)
set_option maxHeartbeats 1000000 in
theorem c_X2_periodOf (hp : WP (cP σ)) {i : Int} (h0 : 0 ≤ i) (h3 : i < 3) : YI 1 μX2_periodOf [.ref 1, .int (zi i)] σ (cP σ 0 i) σ := by
  refine YC.of2 (by decide) (Nat.le_of_ble_eq_true rfl) (fun d P hd hP => ?_)
  have hi := hp.1 i h0 h3
  simp only [cp0, cp1, cp2, cp3, cp4, cp5, cp6, cp7, cp8, cp9] at hi
  refine Y.iconst dX2_periodOf_0 ?_
  refine Y.aload_n dX2_periodOf_1 rfl ?_
  refine Y.getf dX2_periodOf_2 flX2_11 ob1 rfl ?_
  refine Y.iconst dX2_periodOf_5 ?_
  refine Y.aald dX2_periodOf_6 ra2 (by decide) (by decide) (by decide) rfl ?_
  refine Y.iload_n dX2_periodOf_7 rfl ?_
  refine Y.iald dX2_periodOf_8 ia3 (by omega) (by omega) ?_
  refine Y.mmax dX2_periodOf_9 csX2_37 (by omega) (Nat.le_of_ble_eq_true rfl) (by omega) (by omega) ?_
  exact Y.iret dX2_periodOf_12 rfl (hP _ _ ⟨zrI (by simp only [cp0, cp1, cp2, cp3, cp4, cp5, cp6, cp7, cp8, cp9]; omega), rfl⟩)
set_option maxHeartbeats 1000000 in
theorem c_X2_earliestOf (hp : WP (cP σ)) {x : Int} (h0 : 0 ≤ x) (h9 : x < 9) : YI 0 μX2_earliestOf [.ref 1, .int (zi x)] σ (ear (cP σ) x) σ := by
  refine YC.of2 (by decide) (Nat.le_of_ble_eq_true rfl) (fun d P hd hP => ?_)
  have hm := (hp.1 (x / 3) (by omega) (by omega)).2.2.2.2.2
  have hk := hp.2.1 x h0 h9
  simp only [cp0, cp1, cp2, cp3, cp4, cp5, cp6, cp7, cp8, cp9] at hm hk
  refine Y.aload_n dX2_earliestOf_0 rfl ?_
  refine Y.getf dX2_earliestOf_1 flX2_16 ob1 rfl ?_
  refine Y.iconst dX2_earliestOf_4 ?_
  refine Y.aald dX2_earliestOf_5 ra8 (by decide) (by decide) (by decide) rfl ?_
  refine Y.iload_n dX2_earliestOf_6 rfl ?_
  refine Y.iald dX2_earliestOf_7 ia12 (by omega) (by omega) ?_
  refine Y.istore_n dX2_earliestOf_8 (by decide) rfl ?_
  refine Y.iload_n dX2_earliestOf_9 rfl ?_
  refine Y.iload_n dX2_earliestOf_10 rfl ?_
  refine Y.iconst dX2_earliestOf_11 ?_
  refine Y.iremp dX2_earliestOf_12 (by omega) (by omega) (by omega) (by omega) ?_
  refine Y.isub dX2_earliestOf_13 ?_
  refine Y.istore_n dX2_earliestOf_14 (by decide) rfl ?_
  refine zw2 (fun s y => (x - x % 3 ≤ y ∧ y ≤ x ∧ s = cP σ 9 x + sm (fun y => cP σ 9 y + cP σ 7 y) (x - x % 3) (y - (x - x % 3)).toNat)) (fun s y => Y d μX2_earliestOf 15 [some (.ref 1), some (.int (zi x)), some (.int (zi s)), some (.int (zi y))] [] σ P) (fun s y => (x - y).toNat) ?_ _ _ ⟨by omega, by omega, by rw [sm_0]; simp only [cp0, cp1, cp2, cp3, cp4, cp5, cp6, cp7, cp8, cp9]; omega⟩
  intro s y hI ih
  obtain ⟨i1, i2, i3⟩ := hI
  refine Y.iload_n dX2_earliestOf_15 rfl ?_
  refine Y.iload_n dX2_earliestOf_16 rfl ?_
  refine Y.icmp_ge 46 dX2_earliestOf_17 (by decide) (by omega) (by omega) (fun h_17 => ?_) (fun h_17 => ?_)
  · refine Y.iload_n dX2_earliestOf_46 rfl ?_
    exact Y.iret dX2_earliestOf_47 rfl (hP _ _ ⟨zrI (by rw [i3, show y = x by omega]; rfl), rfl⟩)
  · refine Y.iload_n dX2_earliestOf_20 rfl ?_
    refine Y.aload_n dX2_earliestOf_21 rfl ?_
    refine Y.getf dX2_earliestOf_22 flX2_16 ob1 rfl ?_
    refine Y.iconst dX2_earliestOf_25 ?_
    refine Y.aald dX2_earliestOf_26 ra8 (by decide) (by decide) (by decide) rfl ?_
    refine Y.iload_n dX2_earliestOf_27 rfl ?_
    refine Y.iald dX2_earliestOf_28 ia12 (by omega) (by omega) ?_
    refine Y.aload_n dX2_earliestOf_29 rfl ?_
    refine Y.getf dX2_earliestOf_30 flX2_16 ob1 rfl ?_
    refine Y.iconst dX2_earliestOf_33 ?_
    refine Y.aald dX2_earliestOf_34 ra8 (by decide) (by decide) (by decide) rfl ?_
    refine Y.iload_n dX2_earliestOf_35 rfl ?_
    refine Y.iald dX2_earliestOf_36 ia10 (by omega) (by omega) ?_
    refine Y.iadd dX2_earliestOf_37 ?_
    refine Y.iadd dX2_earliestOf_38 ?_
    refine Y.istore_n dX2_earliestOf_39 (by decide) rfl ?_
    refine Y.iinc dX2_earliestOf_40 rfl (by decide) rfl ?_
    refine Y.goto 15 dX2_earliestOf_43 (by decide) ?_
    exact ih _ _ ⟨by omega, by omega, by rw [sm_s (by omega)]; simp only [cp0, cp1, cp2, cp3, cp4, cp5, cp6, cp7, cp8, cp9]; rw [i3]; simp only [cp0, cp1, cp2, cp3, cp4, cp5, cp6, cp7, cp8, cp9]; omega⟩ (by omega)
end ZM1
