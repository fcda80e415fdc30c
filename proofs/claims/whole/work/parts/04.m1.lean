section ZM1
variable {σ : zS}
set_option maxHeartbeats 1000000 in
theorem c_X4_within {v a b : Int} (hv : zB64 v) (ha : zB a) (hb : zB b) : YI 0 μX4_within [.long (zl v), .int (zi a), .int (zi b)] σ (zb (a ≤ v ∧ v ≤ b)) σ := by
  refine YC.of (by decide) (Nat.le_of_ble_eq_true rfl) (fun d hd => ?_)
  refine Y.lload_n dX4_within_0 rfl ?_
  refine Y.iload_n dX4_within_1 rfl ?_
  refine Y.i2l dX4_within_2 (by omega) ?_
  refine Y.lcmp dX4_within_3 (by omega) (by omega) (fun c_3 bc_3 lc_3 ec_3 => ?_)
  refine Y.if_lt 18 dX4_within_4 (by decide) (by omega) (fun h_4 => ?_) (fun h_4 => ?_)
  · refine Y.iconst dX4_within_18 ?_
    exact Y.zret dX4_within_19 rfl (by decide) ⟨zrI (by first | rw [zb_t (by omega)] | rw [zb_f (by omega)]), rfl⟩
  · refine Y.lload_n dX4_within_7 rfl ?_
    refine Y.iload_n dX4_within_8 rfl ?_
    refine Y.i2l dX4_within_9 (by omega) ?_
    refine Y.lcmp dX4_within_10 (by omega) (by omega) (fun c_10 bc_10 lc_10 ec_10 => ?_)
    refine Y.if_gt 18 dX4_within_11 (by decide) (by omega) (fun h_11 => ?_) (fun h_11 => ?_)
    · refine Y.iconst dX4_within_18 ?_
      exact Y.zret dX4_within_19 rfl (by decide) ⟨zrI (by first | rw [zb_t (by omega)] | rw [zb_f (by omega)]), rfl⟩
    · refine Y.iconst dX4_within_14 ?_
      refine Y.goto 19 dX4_within_15 (by decide) ?_
      exact Y.zret dX4_within_19 rfl (by decide) ⟨zrI (by first | rw [zb_t (by omega)] | rw [zb_f (by omega)]), rfl⟩
set_option maxHeartbeats 1000000 in
theorem c_X4_isChain {v : Int} (hv : zB v) : YI 1 μX4_isChain [.int (zi v)] σ (zb (0 ≤ v ∧ v ≤ 2)) σ := by
  refine YC.of (by decide) (Nat.le_of_ble_eq_true rfl) (fun d hd => ?_)
  refine Y.iload_n dX4_isChain_0 rfl ?_
  refine Y.i2l dX4_isChain_1 (by omega) ?_
  refine Y.iconst dX4_isChain_2 ?_
  refine Y.iconst dX4_isChain_3 ?_
  refine Y.cSI dX4_isChain_4 mkX4_within csX4_50 (c_X4_within (by omega) (by omega) (by omega)) (by omega) rfl rfl (Nat.le_of_ble_eq_true rfl) ?_
  exact Y.zret dX4_isChain_7 rfl zb_01 ⟨rfl, rfl⟩
set_option maxHeartbeats 1000000 in
theorem c_X4_isSheet {v : Int} (hv : zB v) : YI 1 μX4_isSheet [.int (zi v)] σ (zb (0 ≤ v ∧ v ≤ 3)) σ := by
  refine YC.of (by decide) (Nat.le_of_ble_eq_true rfl) (fun d hd => ?_)
  refine Y.iload_n dX4_isSheet_0 rfl ?_
  refine Y.i2l dX4_isSheet_1 (by omega) ?_
  refine Y.iconst dX4_isSheet_2 ?_
  refine Y.iconst dX4_isSheet_3 ?_
  refine Y.cSI dX4_isSheet_4 mkX4_within csX4_50 (c_X4_within (by omega) (by omega) (by omega)) (by omega) rfl rfl (Nat.le_of_ble_eq_true rfl) ?_
  exact Y.zret dX4_isSheet_7 rfl zb_01 ⟨rfl, rfl⟩
set_option maxHeartbeats 1000000 in
theorem c_X4_isForm {v : Int} (hv : zB v) : YI 1 μX4_isForm [.int (zi v)] σ (zb (0 ≤ v ∧ v ≤ 2)) σ := by
  refine YC.of (by decide) (Nat.le_of_ble_eq_true rfl) (fun d hd => ?_)
  refine Y.iload_n dX4_isForm_0 rfl ?_
  refine Y.i2l dX4_isForm_1 (by omega) ?_
  refine Y.iconst dX4_isForm_2 ?_
  refine Y.iconst dX4_isForm_3 ?_
  refine Y.cSI dX4_isForm_4 mkX4_within csX4_50 (c_X4_within (by omega) (by omega) (by omega)) (by omega) rfl rfl (Nat.le_of_ble_eq_true rfl) ?_
  exact Y.zret dX4_isForm_7 rfl zb_01 ⟨rfl, rfl⟩
end ZM1
