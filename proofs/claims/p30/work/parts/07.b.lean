section ZK1
variable {σ : zS}
theorem k_X2_numberOf {p : zP} (ec : cP σ = p) (hp : WP p) {i j : Int} (hi : zB i) (hj : zB j) : YI 2 μX2_numberOf [.ref 1, .int (zi i), .int (zi j)] σ (nof p i j) σ := by
  subst ec; exact c_X2_numberOf hp hi hj
theorem k_X2_stepsInAll {p : zP} (ec : cP σ = p) (hp : WP p) : YI 0 μX2_stepsInAll [.ref 1] σ (p 5 0 + p 5 1 + p 5 2) σ := by
  subst ec; exact c_X2_stepsInAll
theorem k_X2_rivalsOf {p : zP} (ec : cP σ = p) (hp : WP p) {x : Int} (h0 : 0 ≤ x) (h9 : x < 9) : YI 2 μX2_rivalsOf [.ref 1, .int (zi x)] σ (rvs p x) σ := by
  subst ec; exact c_X2_rivalsOf hp h0 h9
theorem k_X2_overloadedSteps {p : zP} (ec : cP σ = p) (hp : WP p) : YI 5 μX2_overloadedSteps [.ref 1] σ (ovs p) σ := by
  subst ec; exact c_X2_overloadedSteps hp
set_option maxHeartbeats 1000000 in
theorem c_X4_traitOf {p : zP} (ec : cP σ = p) {i : Int} (h0 : 0 ≤ i) (h3 : i < 3) {k : Nat} (hk : k < 6) : YI 0 μX4_traitOf [.ref 0, .int (zi i), .int (zi (k : Int))] σ (p k i) σ := by
  refine YC.of2 (by decide) (Nat.le_of_ble_eq_true rfl) (fun d P hd hP => ?_)
  have hi3 := h3
  rcases (show k = 0 ∨ k = 1 ∨ k = 2 ∨ k = 3 ∨ k = 4 ∨ k = 5 by omega) with rfl | rfl | rfl | rfl | rfl | rfl
  · refine Y.iload_n dX4_traitOf_0 rfl ?_
    refine Y.iconst dX4_traitOf_1 ?_
    refine Y.icmp_ne 17 dX4_traitOf_2 (by decide) (by omega) (by omega) (fun h_2 => ?_) (fun h_2 => ?_)
    rotate_left
    · exfalso; omega
    refine Y.aload_n dX4_traitOf_17 rfl ?_
    refine Y.getf dX4_traitOf_18 flX4_12 ob0 rfl ?_
    refine Y.getf dX4_traitOf_21 flX4_61 ob1 rfl ?_
    refine Y.iload_n dX4_traitOf_24 rfl ?_
    refine Y.aald dX4_traitOf_25 ra2 (by decide) (by decide) (by decide) rfl ?_
    refine Y.iload_n dX4_traitOf_26 rfl ?_
    refine Y.iald dX4_traitOf_27 ia3 (by omega) (by omega) ?_
    exact Y.iret dX4_traitOf_28 rfl (hP _ _ ⟨zrI (by rw [← ec]; rfl), rfl⟩)
  · refine Y.iload_n dX4_traitOf_0 rfl ?_
    refine Y.iconst dX4_traitOf_1 ?_
    refine Y.icmp_ne 17 dX4_traitOf_2 (by decide) (by omega) (by omega) (fun h_2 => ?_) (fun h_2 => ?_)
    rotate_left
    · exfalso; omega
    refine Y.aload_n dX4_traitOf_17 rfl ?_
    refine Y.getf dX4_traitOf_18 flX4_12 ob0 rfl ?_
    refine Y.getf dX4_traitOf_21 flX4_61 ob1 rfl ?_
    refine Y.iload_n dX4_traitOf_24 rfl ?_
    refine Y.aald dX4_traitOf_25 ra2 (by decide) (by decide) (by decide) rfl ?_
    refine Y.iload_n dX4_traitOf_26 rfl ?_
    refine Y.iald dX4_traitOf_27 ia4 (by omega) (by omega) ?_
    exact Y.iret dX4_traitOf_28 rfl (hP _ _ ⟨zrI (by rw [← ec]; rfl), rfl⟩)
  · refine Y.iload_n dX4_traitOf_0 rfl ?_
    refine Y.iconst dX4_traitOf_1 ?_
    refine Y.icmp_ne 17 dX4_traitOf_2 (by decide) (by omega) (by omega) (fun h_2 => ?_) (fun h_2 => ?_)
    rotate_left
    · exfalso; omega
    refine Y.aload_n dX4_traitOf_17 rfl ?_
    refine Y.getf dX4_traitOf_18 flX4_12 ob0 rfl ?_
    refine Y.getf dX4_traitOf_21 flX4_61 ob1 rfl ?_
    refine Y.iload_n dX4_traitOf_24 rfl ?_
    refine Y.aald dX4_traitOf_25 ra2 (by decide) (by decide) (by decide) rfl ?_
    refine Y.iload_n dX4_traitOf_26 rfl ?_
    refine Y.iald dX4_traitOf_27 ia5 (by omega) (by omega) ?_
    exact Y.iret dX4_traitOf_28 rfl (hP _ _ ⟨zrI (by rw [← ec]; rfl), rfl⟩)
  · refine Y.iload_n dX4_traitOf_0 rfl ?_
    refine Y.iconst dX4_traitOf_1 ?_
    refine Y.icmp_ne 17 dX4_traitOf_2 (by decide) (by omega) (by omega) (fun h_2 => ?_) (fun h_2 => ?_)
    rotate_left
    · exfalso; omega
    refine Y.aload_n dX4_traitOf_17 rfl ?_
    refine Y.getf dX4_traitOf_18 flX4_12 ob0 rfl ?_
    refine Y.getf dX4_traitOf_21 flX4_61 ob1 rfl ?_
    refine Y.iload_n dX4_traitOf_24 rfl ?_
    refine Y.aald dX4_traitOf_25 ra2 (by decide) (by decide) (by decide) rfl ?_
    refine Y.iload_n dX4_traitOf_26 rfl ?_
    refine Y.iald dX4_traitOf_27 ia6 (by omega) (by omega) ?_
    exact Y.iret dX4_traitOf_28 rfl (hP _ _ ⟨zrI (by rw [← ec]; rfl), rfl⟩)
  · refine Y.iload_n dX4_traitOf_0 rfl ?_
    refine Y.iconst dX4_traitOf_1 ?_
    refine Y.icmp_ne 17 dX4_traitOf_2 (by decide) (by omega) (by omega) (fun h_2 => ?_) (fun h_2 => ?_)
    rotate_left
    · exfalso; omega
    refine Y.aload_n dX4_traitOf_17 rfl ?_
    refine Y.getf dX4_traitOf_18 flX4_12 ob0 rfl ?_
    refine Y.getf dX4_traitOf_21 flX4_61 ob1 rfl ?_
    refine Y.iload_n dX4_traitOf_24 rfl ?_
    refine Y.aald dX4_traitOf_25 ra2 (by decide) (by decide) (by decide) rfl ?_
    refine Y.iload_n dX4_traitOf_26 rfl ?_
    refine Y.iald dX4_traitOf_27 ia7 (by omega) (by omega) ?_
    exact Y.iret dX4_traitOf_28 rfl (hP _ _ ⟨zrI (by rw [← ec]; rfl), rfl⟩)
  · refine Y.iload_n dX4_traitOf_0 rfl ?_
    refine Y.iconst dX4_traitOf_1 ?_
    refine Y.icmp_ne 17 dX4_traitOf_2 (by decide) (by omega) (by omega) (fun h_2 => ?_) (fun h_2 => ?_)
    · exfalso; omega
    refine Y.aload_n dX4_traitOf_5 rfl ?_
    refine Y.getf dX4_traitOf_6 flX4_12 ob0 rfl ?_
    refine Y.getf dX4_traitOf_9 flX4_73 ob1 rfl ?_
    refine Y.iload_n dX4_traitOf_12 rfl ?_
    refine Y.iald dX4_traitOf_13 ia13 (by omega) (by omega) ?_
    refine Y.goto 28 dX4_traitOf_14 (by decide) ?_
    exact Y.iret dX4_traitOf_28 rfl (hP _ _ ⟨zrI (by rw [← ec]; rfl), rfl⟩)
set_option maxHeartbeats 1000000 in
theorem c_X4_infoOf {p : zP} (ec : cP σ = p) (hp : WP p) {x : Int} (h0 : 0 ≤ x) (h9 : x < 9) (ht : th p x) {k : Nat} (hk : k < 7) (hS : k = 5 → SA 14 σ p) : YI 3 μX4_infoOf [.ref 0, .int (zi x), .int (zi (k : Int))] σ (infA p x k) σ := by
  refine YC.of2 (by decide) (Nat.le_of_ble_eq_true rfl) (fun d P hd hP => ?_)
  rcases (show k = 0 ∨ k = 1 ∨ k = 2 ∨ k = 3 ∨ k = 4 ∨ k = 5 ∨ k = 6 by omega) with rfl | rfl | rfl | rfl | rfl | rfl | rfl
  · refine Y.iload_n dX4_infoOf_0 rfl ?_
    refine Y.tout 55 dX4_infoOf_1 (by omega) (by omega) (by decide) ?_
    refine Y.aload_n dX4_infoOf_55 rfl ?_
    refine Y.getf dX4_infoOf_56 flX4_12 ob0 rfl ?_
    refine Y.getf dX4_infoOf_59 flX4_84 ob1 rfl ?_
    refine Y.iload_n dX4_infoOf_62 rfl ?_
    refine Y.aald dX4_infoOf_63 ra8 (by decide) (by decide) (by decide) rfl ?_
    refine Y.iload_n dX4_infoOf_64 rfl ?_
    refine Y.iald dX4_infoOf_65 ia9 (by omega) (by omega) ?_
    exact Y.iret dX4_infoOf_66 rfl (hP _ _ ⟨zrI (by first | rfl | (rw [← ec]; rfl)), rfl⟩)
  · refine Y.iload_n dX4_infoOf_0 rfl ?_
    refine Y.tout 55 dX4_infoOf_1 (by omega) (by omega) (by decide) ?_
    refine Y.aload_n dX4_infoOf_55 rfl ?_
    refine Y.getf dX4_infoOf_56 flX4_12 ob0 rfl ?_
    refine Y.getf dX4_infoOf_59 flX4_84 ob1 rfl ?_
    refine Y.iload_n dX4_infoOf_62 rfl ?_
    refine Y.aald dX4_infoOf_63 ra8 (by decide) (by decide) (by decide) rfl ?_
    refine Y.iload_n dX4_infoOf_64 rfl ?_
    refine Y.iald dX4_infoOf_65 ia10 (by omega) (by omega) ?_
    exact Y.iret dX4_infoOf_66 rfl (hP _ _ ⟨zrI (by first | rfl | (rw [← ec]; rfl)), rfl⟩)
  · refine Y.iload_n dX4_infoOf_0 rfl ?_
    refine Y.tout 55 dX4_infoOf_1 (by omega) (by omega) (by decide) ?_
    refine Y.aload_n dX4_infoOf_55 rfl ?_
    refine Y.getf dX4_infoOf_56 flX4_12 ob0 rfl ?_
    refine Y.getf dX4_infoOf_59 flX4_84 ob1 rfl ?_
    refine Y.iload_n dX4_infoOf_62 rfl ?_
    refine Y.aald dX4_infoOf_63 ra8 (by decide) (by decide) (by decide) rfl ?_
    refine Y.iload_n dX4_infoOf_64 rfl ?_
    refine Y.iald dX4_infoOf_65 ia11 (by omega) (by omega) ?_
    exact Y.iret dX4_infoOf_66 rfl (hP _ _ ⟨zrI (by first | rfl | (rw [← ec]; rfl)), rfl⟩)
  · refine Y.iload_n dX4_infoOf_0 rfl ?_
    refine Y.tout 55 dX4_infoOf_1 (by omega) (by omega) (by decide) ?_
    refine Y.aload_n dX4_infoOf_55 rfl ?_
    refine Y.getf dX4_infoOf_56 flX4_12 ob0 rfl ?_
    refine Y.getf dX4_infoOf_59 flX4_84 ob1 rfl ?_
    refine Y.iload_n dX4_infoOf_62 rfl ?_
    refine Y.aald dX4_infoOf_63 ra8 (by decide) (by decide) (by decide) rfl ?_
    refine Y.iload_n dX4_infoOf_64 rfl ?_
    refine Y.iald dX4_infoOf_65 ia12 (by omega) (by omega) ?_
    exact Y.iret dX4_infoOf_66 rfl (hP _ _ ⟨zrI (by first | rfl | (rw [← ec]; rfl)), rfl⟩)
  · refine Y.iload_n dX4_infoOf_0 rfl ?_
    refine Y.tin 28 dX4_infoOf_1 (by omega) (by omega) (by omega) rfl (by decide) ?_
    refine Y.aload_n dX4_infoOf_28 rfl ?_
    refine Y.getf dX4_infoOf_29 flX4_12 ob0 rfl ?_
    refine Y.iload_n dX4_infoOf_32 rfl ?_
    refine Y.cVI dX4_infoOf_33 mkX2_earliestOf csX4_211 ob1 ⟨_, rfl, rfl⟩ (k_X2_earliestOf ec hp h0 h9) (by omega) rfl rfl (Nat.le_of_ble_eq_true rfl) ?_
    exact Y.iret dX4_infoOf_36 rfl (hP _ _ ⟨zrI (by first | rfl | (rw [← ec]; rfl)), rfl⟩)
  · refine Y.iload_n dX4_infoOf_0 rfl ?_
    refine Y.tin 37 dX4_infoOf_1 (by omega) (by omega) (by omega) rfl (by decide) ?_
    refine Y.aload_n dX4_infoOf_37 rfl ?_
    refine Y.getf dX4_infoOf_38 flX4_21 ob0 rfl ?_
    refine Y.iload_n dX4_infoOf_41 rfl ?_
    refine Y.cVI dX4_infoOf_42 mkX0_lateOf csX4_214 (obA (Or.inl rfl)) ⟨_, rfl, rfl⟩ (c_X0_lateOf (Or.inl rfl) ec hp (hS rfl) h0 h9 ht) (by omega) rfl rfl (Nat.le_of_ble_eq_true rfl) ?_
    exact Y.iret dX4_infoOf_45 rfl (hP _ _ ⟨zrI (by first | rfl | (rw [← ec]; rfl)), rfl⟩)
  · refine Y.iload_n dX4_infoOf_0 rfl ?_
    refine Y.tin 46 dX4_infoOf_1 (by omega) (by omega) (by omega) rfl (by decide) ?_
    refine Y.aload_n dX4_infoOf_46 rfl ?_
    refine Y.getf dX4_infoOf_47 flX4_12 ob0 rfl ?_
    refine Y.iload_n dX4_infoOf_50 rfl ?_
    refine Y.cVI dX4_infoOf_51 mkX2_rivalsOf csX4_217 ob1 ⟨_, rfl, rfl⟩ (k_X2_rivalsOf ec hp h0 h9) (by omega) rfl rfl (Nat.le_of_ble_eq_true rfl) ?_
    exact Y.iret dX4_infoOf_54 rfl (hP _ _ ⟨zrI (by first | rfl | (rw [← ec]; rfl)), rfl⟩)
set_option maxHeartbeats 2000000 in
theorem c_X4_chain {p : zP} (ec : cP σ = p) {i w v : Int} (hi : zB i) (hw : zB w) (hv : zB v) : YC 2 μX4_chain [.ref 0, .int (zi i), .int (zi w), .int (zi v)] σ (fun r s => (∃ k : Nat, k < 5 ∧ w = (k : Int) ∧ (0 ≤ i ∧ i ≤ 2) ∧ trt w v ∧ r = some (.int (zi (p k i))) ∧ s = zu (zu σ (cC k) i v) 14 17 1) ∨ (¬ ((0 ≤ i ∧ i ≤ 2) ∧ trt w v) ∧ r = some (.int (zi (-2))) ∧ s = σ)) := by
  refine YC.of2 (by decide) (Nat.le_of_ble_eq_true rfl) (fun d P hd hP => ?_)
  have e2 : ((zTl 0 : Nat) : Int) = 5 := rfl
  have e3 : ((zTl 1 : Nat) : Int) = 5 := rfl
  refine Y.iload_n dX4_chain_0 rfl ?_
  refine Y.cSI dX4_chain_1 mkX4_isChain csX4_46 (c_X4_isChain (by omega)) (by omega) rfl rfl (Nat.le_of_ble_eq_true rfl) ?_
  refine Y.ifz_eq 35 dX4_chain_4 (by decide) (fun h_4 => ?_) (fun h_4 => ?_)
  · refine Y.bipush dX4_chain_35 (by decide +kernel) ?_
    exact Y.iret dX4_chain_37 rfl (hP _ _ (by first | exact Or.inr ⟨fun z => absurd z.1 (by assumption), rfl, rfl⟩ | exact Or.inr ⟨fun z => (by assumption : ¬ (0 ≤ w ∧ w ≤ 4)) ⟨z.2.1, by have := z.2.2.1; omega⟩, rfl, rfl⟩ | exact Or.inr ⟨fun z => (by assumption : ¬ (zTi 0 w ≤ v ∧ v ≤ zTi 1 w)) z.2.2.2, rfl, rfl⟩))
  · refine Y.iload_n dX4_chain_7 rfl ?_
    refine Y.i2l dX4_chain_8 (by omega) ?_
    refine Y.iconst dX4_chain_9 ?_
    refine Y.iconst dX4_chain_10 ?_
    refine Y.cSI dX4_chain_11 mkX4_within csX4_50 (c_X4_within (by omega) (by omega) (by omega)) (by omega) rfl rfl (Nat.le_of_ble_eq_true rfl) ?_
    refine Y.ifz_eq 35 dX4_chain_14 (by decide) (fun h_14 => ?_) (fun h_14 => ?_)
    · refine Y.bipush dX4_chain_35 (by decide +kernel) ?_
      exact Y.iret dX4_chain_37 rfl (hP _ _ (by first | exact Or.inr ⟨fun z => absurd z.1 (by assumption), rfl, rfl⟩ | exact Or.inr ⟨fun z => (by assumption : ¬ (0 ≤ w ∧ w ≤ 4)) ⟨z.2.1, by have := z.2.2.1; omega⟩, rfl, rfl⟩ | exact Or.inr ⟨fun z => (by assumption : ¬ (zTi 0 w ≤ v ∧ v ≤ zTi 1 w)) z.2.2.2, rfl, rfl⟩))
    · refine Y.iload_n dX4_chain_17 rfl ?_
      refine Y.i2l dX4_chain_18 (by omega) ?_
      refine Y.gets dX4_chain_19 (by decide) stX4_54 ?_
      refine Y.iload_n dX4_chain_22 rfl ?_
      refine Y.tld dX4_chain_23 (by decide) (by omega) (by omega) ?_
      refine Y.gets dX4_chain_24 (by decide) stX4_58 ?_
      refine Y.iload_n dX4_chain_27 rfl ?_
      refine Y.tld dX4_chain_28 (by decide) (by omega) (by omega) ?_
      refine Y.cSI dX4_chain_29 mkX4_within csX4_50 (c_X4_within (by omega) (zTi_B _ _) (zTi_B _ _)) (by omega) rfl rfl (Nat.le_of_ble_eq_true rfl) ?_
      refine Y.ifz_ne 38 dX4_chain_32 (by decide) (fun h_32 => ?_) (fun h_32 => ?_)
      · obtain ⟨k, rfl⟩ : ∃ k : Nat, w = (k : Int) := ⟨w.toNat, by omega⟩
        have ht : trt (k : Int) v := ⟨by omega, by omega, by assumption⟩
        rcases (show k = 0 ∨ k = 1 ∨ k = 2 ∨ k = 3 ∨ k = 4 by omega) with rfl | rfl | rfl | rfl | rfl
        · refine Y.aload_n dX4_chain_38 rfl ?_
          refine Y.getf dX4_chain_39 flX4_12 ob0 rfl ?_
          refine Y.getf dX4_chain_42 flX4_61 ob1 rfl ?_
          refine Y.iload_n dX4_chain_45 rfl ?_
          refine Y.aald dX4_chain_46 ra2 (by decide) (by decide) (by decide) rfl ?_
          refine Y.iload_n dX4_chain_47 rfl ?_
          refine Y.iald dX4_chain_48 ia3 (by omega) (by omega) ?_
          refine Y.istore dX4_chain_49 (by decide) rfl ?_
          refine Y.aload_n dX4_chain_51 rfl ?_
          refine Y.getf dX4_chain_52 flX4_12 ob0 rfl ?_
          refine Y.getf dX4_chain_55 flX4_61 ob1 rfl ?_
          refine Y.iload_n dX4_chain_58 rfl ?_
          refine Y.aald dX4_chain_59 ra2 (by decide) (by decide) (by decide) rfl ?_
          refine Y.iload_n dX4_chain_60 rfl ?_
          refine Y.iload_n dX4_chain_61 rfl ?_
          refine Y.iast dX4_chain_62 ia3 (by omega) (by omega) ?_
          refine Y.aload_n dX4_chain_63 rfl ?_
          refine Y.getf dX4_chain_64 flX4_21 ob0 rfl ?_
          refine Y.iconst dX4_chain_67 ?_
          refine Y.putf 17 dX4_chain_68 fpX4_65 (obA (Or.inl rfl)) (osA_17 (Or.inl rfl)) (Nat.le_of_ble_eq_true rfl) (Or.inr ⟨rfl, Or.inr rfl⟩) rfl ?_
          refine Y.iload dX4_chain_71 rfl ?_
          exact Y.iret dX4_chain_73 rfl (hP _ _ (Or.inl ⟨0, by omega, rfl, h_4, ht, zrI (by rw [← ec]; rfl), rfl⟩))
        · refine Y.aload_n dX4_chain_38 rfl ?_
          refine Y.getf dX4_chain_39 flX4_12 ob0 rfl ?_
          refine Y.getf dX4_chain_42 flX4_61 ob1 rfl ?_
          refine Y.iload_n dX4_chain_45 rfl ?_
          refine Y.aald dX4_chain_46 ra2 (by decide) (by decide) (by decide) rfl ?_
          refine Y.iload_n dX4_chain_47 rfl ?_
          refine Y.iald dX4_chain_48 ia4 (by omega) (by omega) ?_
          refine Y.istore dX4_chain_49 (by decide) rfl ?_
          refine Y.aload_n dX4_chain_51 rfl ?_
          refine Y.getf dX4_chain_52 flX4_12 ob0 rfl ?_
          refine Y.getf dX4_chain_55 flX4_61 ob1 rfl ?_
          refine Y.iload_n dX4_chain_58 rfl ?_
          refine Y.aald dX4_chain_59 ra2 (by decide) (by decide) (by decide) rfl ?_
          refine Y.iload_n dX4_chain_60 rfl ?_
          refine Y.iload_n dX4_chain_61 rfl ?_
          refine Y.iast dX4_chain_62 ia4 (by omega) (by omega) ?_
          refine Y.aload_n dX4_chain_63 rfl ?_
          refine Y.getf dX4_chain_64 flX4_21 ob0 rfl ?_
          refine Y.iconst dX4_chain_67 ?_
          refine Y.putf 17 dX4_chain_68 fpX4_65 (obA (Or.inl rfl)) (osA_17 (Or.inl rfl)) (Nat.le_of_ble_eq_true rfl) (Or.inr ⟨rfl, Or.inr rfl⟩) rfl ?_
          refine Y.iload dX4_chain_71 rfl ?_
          exact Y.iret dX4_chain_73 rfl (hP _ _ (Or.inl ⟨1, by omega, rfl, h_4, ht, zrI (by rw [← ec]; rfl), rfl⟩))
        · refine Y.aload_n dX4_chain_38 rfl ?_
          refine Y.getf dX4_chain_39 flX4_12 ob0 rfl ?_
          refine Y.getf dX4_chain_42 flX4_61 ob1 rfl ?_
          refine Y.iload_n dX4_chain_45 rfl ?_
          refine Y.aald dX4_chain_46 ra2 (by decide) (by decide) (by decide) rfl ?_
          refine Y.iload_n dX4_chain_47 rfl ?_
          refine Y.iald dX4_chain_48 ia5 (by omega) (by omega) ?_
          refine Y.istore dX4_chain_49 (by decide) rfl ?_
          refine Y.aload_n dX4_chain_51 rfl ?_
          refine Y.getf dX4_chain_52 flX4_12 ob0 rfl ?_
          refine Y.getf dX4_chain_55 flX4_61 ob1 rfl ?_
          refine Y.iload_n dX4_chain_58 rfl ?_
          refine Y.aald dX4_chain_59 ra2 (by decide) (by decide) (by decide) rfl ?_
          refine Y.iload_n dX4_chain_60 rfl ?_
          refine Y.iload_n dX4_chain_61 rfl ?_
          refine Y.iast dX4_chain_62 ia5 (by omega) (by omega) ?_
          refine Y.aload_n dX4_chain_63 rfl ?_
          refine Y.getf dX4_chain_64 flX4_21 ob0 rfl ?_
          refine Y.iconst dX4_chain_67 ?_
          refine Y.putf 17 dX4_chain_68 fpX4_65 (obA (Or.inl rfl)) (osA_17 (Or.inl rfl)) (Nat.le_of_ble_eq_true rfl) (Or.inr ⟨rfl, Or.inr rfl⟩) rfl ?_
          refine Y.iload dX4_chain_71 rfl ?_
          exact Y.iret dX4_chain_73 rfl (hP _ _ (Or.inl ⟨2, by omega, rfl, h_4, ht, zrI (by rw [← ec]; rfl), rfl⟩))
        · refine Y.aload_n dX4_chain_38 rfl ?_
          refine Y.getf dX4_chain_39 flX4_12 ob0 rfl ?_
          refine Y.getf dX4_chain_42 flX4_61 ob1 rfl ?_
          refine Y.iload_n dX4_chain_45 rfl ?_
          refine Y.aald dX4_chain_46 ra2 (by decide) (by decide) (by decide) rfl ?_
          refine Y.iload_n dX4_chain_47 rfl ?_
          refine Y.iald dX4_chain_48 ia6 (by omega) (by omega) ?_
          refine Y.istore dX4_chain_49 (by decide) rfl ?_
          refine Y.aload_n dX4_chain_51 rfl ?_
          refine Y.getf dX4_chain_52 flX4_12 ob0 rfl ?_
          refine Y.getf dX4_chain_55 flX4_61 ob1 rfl ?_
          refine Y.iload_n dX4_chain_58 rfl ?_
          refine Y.aald dX4_chain_59 ra2 (by decide) (by decide) (by decide) rfl ?_
          refine Y.iload_n dX4_chain_60 rfl ?_
          refine Y.iload_n dX4_chain_61 rfl ?_
          refine Y.iast dX4_chain_62 ia6 (by omega) (by omega) ?_
          refine Y.aload_n dX4_chain_63 rfl ?_
          refine Y.getf dX4_chain_64 flX4_21 ob0 rfl ?_
          refine Y.iconst dX4_chain_67 ?_
          refine Y.putf 17 dX4_chain_68 fpX4_65 (obA (Or.inl rfl)) (osA_17 (Or.inl rfl)) (Nat.le_of_ble_eq_true rfl) (Or.inr ⟨rfl, Or.inr rfl⟩) rfl ?_
          refine Y.iload dX4_chain_71 rfl ?_
          exact Y.iret dX4_chain_73 rfl (hP _ _ (Or.inl ⟨3, by omega, rfl, h_4, ht, zrI (by rw [← ec]; rfl), rfl⟩))
        · refine Y.aload_n dX4_chain_38 rfl ?_
          refine Y.getf dX4_chain_39 flX4_12 ob0 rfl ?_
          refine Y.getf dX4_chain_42 flX4_61 ob1 rfl ?_
          refine Y.iload_n dX4_chain_45 rfl ?_
          refine Y.aald dX4_chain_46 ra2 (by decide) (by decide) (by decide) rfl ?_
          refine Y.iload_n dX4_chain_47 rfl ?_
          refine Y.iald dX4_chain_48 ia7 (by omega) (by omega) ?_
          refine Y.istore dX4_chain_49 (by decide) rfl ?_
          refine Y.aload_n dX4_chain_51 rfl ?_
          refine Y.getf dX4_chain_52 flX4_12 ob0 rfl ?_
          refine Y.getf dX4_chain_55 flX4_61 ob1 rfl ?_
          refine Y.iload_n dX4_chain_58 rfl ?_
          refine Y.aald dX4_chain_59 ra2 (by decide) (by decide) (by decide) rfl ?_
          refine Y.iload_n dX4_chain_60 rfl ?_
          refine Y.iload_n dX4_chain_61 rfl ?_
          refine Y.iast dX4_chain_62 ia7 (by omega) (by omega) ?_
          refine Y.aload_n dX4_chain_63 rfl ?_
          refine Y.getf dX4_chain_64 flX4_21 ob0 rfl ?_
          refine Y.iconst dX4_chain_67 ?_
          refine Y.putf 17 dX4_chain_68 fpX4_65 (obA (Or.inl rfl)) (osA_17 (Or.inl rfl)) (Nat.le_of_ble_eq_true rfl) (Or.inr ⟨rfl, Or.inr rfl⟩) rfl ?_
          refine Y.iload dX4_chain_71 rfl ?_
          exact Y.iret dX4_chain_73 rfl (hP _ _ (Or.inl ⟨4, by omega, rfl, h_4, ht, zrI (by rw [← ec]; rfl), rfl⟩))
      · refine Y.bipush dX4_chain_35 (by decide +kernel) ?_
        exact Y.iret dX4_chain_37 rfl (hP _ _ (by first | exact Or.inr ⟨fun z => absurd z.1 (by assumption), rfl, rfl⟩ | exact Or.inr ⟨fun z => (by assumption : ¬ (0 ≤ w ∧ w ≤ 4)) ⟨z.2.1, by have := z.2.2.1; omega⟩, rfl, rfl⟩ | exact Or.inr ⟨fun z => (by assumption : ¬ (zTi 0 w ≤ v ∧ v ≤ zTi 1 w)) z.2.2.2, rfl, rfl⟩))
/-- a step more, in the class's rows; in the model's -/
def apC (σ : zS) (i a b c e : Int) : zS := zu (zu (zu (zu (zu σ 9 (i * 3 + σ.1 13 i) a) 10 (i * 3 + σ.1 13 i) b) 11 (i * 3 + σ.1 13 i) c) 12 (i * 3 + σ.1 13 i) e) 13 i (σ.1 13 i + 1)
def apM (σ : zS) (i a b c e : Int) : zS := zu (zu (zu (zu (zu σ 78 (i * 3 + σ.1 77 i) a) 79 (i * 3 + σ.1 77 i) b) 80 (i * 3 + σ.1 77 i) c) 81 (i * 3 + σ.1 77 i) e) 77 i (σ.1 77 i + 1)
set_option maxHeartbeats 2000000 in
theorem c_X4_step {p : zP} (ec : cP σ = p) (hp : WP p) {i a b c e : Int} (hi : zB i) (ha : zB a) (hb : zB b) (hc : zB c) (he : zB e) : YC 2 μX4_step [.ref 0, .int (zi i), .int (zi a), .int (zi b), .int (zi c), .int (zi e)] σ (fun r s => (((0 ≤ i ∧ i ≤ 2) ∧ mrk 0 a ∧ mrk 1 b ∧ mrk 2 c ∧ mrk 3 e) ∧ p 5 i < 3 ∧ r = some (.int (zi (p 5 i))) ∧ s = apC (zu σ 14 17 1) i a b c e) ∨ (((0 ≤ i ∧ i ≤ 2) ∧ mrk 0 a ∧ mrk 1 b ∧ mrk 2 c ∧ mrk 3 e) ∧ 3 ≤ p 5 i ∧ r = some (.int (zi (-4))) ∧ s = σ) ∨ (¬ ((0 ≤ i ∧ i ≤ 2) ∧ mrk 0 a ∧ mrk 1 b ∧ mrk 2 c ∧ mrk 3 e) ∧ r = some (.int (zi (-2))) ∧ s = σ)) := by
  refine YC.of2 (by decide) (Nat.le_of_ble_eq_true rfl) (fun d P hd hP => ?_)
  have e5 : σ.1 13 = p 5 := by rw [← ec]; rfl
  refine Y.iload_n dX4_step_0 rfl ?_
  refine Y.cSI dX4_step_1 mkX4_isChain csX4_46 (c_X4_isChain (by omega)) (by omega) rfl rfl (Nat.le_of_ble_eq_true rfl) ?_
  refine Y.ifz_eq 45 dX4_step_4 (by decide) (fun h_4 => ?_) (fun h_4 => ?_)
  · refine Y.bipush dX4_step_45 (by decide +kernel) ?_
    exact Y.iret dX4_step_47 rfl (hP _ _ (Or.inr (Or.inr ⟨fun z => by obtain ⟨z1, z2, z3, z4, z5⟩ := z; first | exact absurd z1 (by assumption) | exact absurd z2 (by assumption) | exact absurd z3 (by assumption) | exact absurd z4 (by assumption) | exact absurd z5 (by assumption), rfl, rfl⟩)))
  · refine Y.iconst dX4_step_7 ?_
    refine Y.iload_n dX4_step_8 rfl ?_
    refine Y.i2l dX4_step_9 (by omega) ?_
    refine Y.cSI dX4_step_10 mkX4_isMark csX4_69 (c_X4_isMark (by omega) (by omega) (by omega)) (by omega) rfl rfl (Nat.le_of_ble_eq_true rfl) ?_
    refine Y.ifz_eq 45 dX4_step_13 (by decide) (fun h_13 => ?_) (fun h_13 => ?_)
    · refine Y.bipush dX4_step_45 (by decide +kernel) ?_
      exact Y.iret dX4_step_47 rfl (hP _ _ (Or.inr (Or.inr ⟨fun z => by obtain ⟨z1, z2, z3, z4, z5⟩ := z; first | exact absurd z1 (by assumption) | exact absurd z2 (by assumption) | exact absurd z3 (by assumption) | exact absurd z4 (by assumption) | exact absurd z5 (by assumption), rfl, rfl⟩)))
    · refine Y.iconst dX4_step_16 ?_
      refine Y.iload_n dX4_step_17 rfl ?_
      refine Y.i2l dX4_step_18 (by omega) ?_
      refine Y.cSI dX4_step_19 mkX4_isMark csX4_69 (c_X4_isMark (by omega) (by omega) (by omega)) (by omega) rfl rfl (Nat.le_of_ble_eq_true rfl) ?_
      refine Y.ifz_eq 45 dX4_step_22 (by decide) (fun h_22 => ?_) (fun h_22 => ?_)
      · refine Y.bipush dX4_step_45 (by decide +kernel) ?_
        exact Y.iret dX4_step_47 rfl (hP _ _ (Or.inr (Or.inr ⟨fun z => by obtain ⟨z1, z2, z3, z4, z5⟩ := z; first | exact absurd z1 (by assumption) | exact absurd z2 (by assumption) | exact absurd z3 (by assumption) | exact absurd z4 (by assumption) | exact absurd z5 (by assumption), rfl, rfl⟩)))
      · refine Y.iconst dX4_step_25 ?_
        refine Y.iload dX4_step_26 rfl ?_
        refine Y.i2l dX4_step_28 (by omega) ?_
        refine Y.cSI dX4_step_29 mkX4_isMark csX4_69 (c_X4_isMark (by omega) (by omega) (by omega)) (by omega) rfl rfl (Nat.le_of_ble_eq_true rfl) ?_
        refine Y.ifz_eq 45 dX4_step_32 (by decide) (fun h_32 => ?_) (fun h_32 => ?_)
        · refine Y.bipush dX4_step_45 (by decide +kernel) ?_
          exact Y.iret dX4_step_47 rfl (hP _ _ (Or.inr (Or.inr ⟨fun z => by obtain ⟨z1, z2, z3, z4, z5⟩ := z; first | exact absurd z1 (by assumption) | exact absurd z2 (by assumption) | exact absurd z3 (by assumption) | exact absurd z4 (by assumption) | exact absurd z5 (by assumption), rfl, rfl⟩)))
        · refine Y.iconst dX4_step_35 ?_
          refine Y.iload dX4_step_36 rfl ?_
          refine Y.i2l dX4_step_38 (by omega) ?_
          refine Y.cSI dX4_step_39 mkX4_isMark csX4_69 (c_X4_isMark (by omega) (by omega) (by omega)) (by omega) rfl rfl (Nat.le_of_ble_eq_true rfl) ?_
          refine Y.ifz_ne 48 dX4_step_42 (by decide) (fun h_42 => ?_) (fun h_42 => ?_)
          · have hm := (hp.1 i (by omega) (by omega)).2.2.2.2.2
            have hC : ((0 ≤ i ∧ i ≤ 2) ∧ mrk 0 a ∧ mrk 1 b ∧ mrk 2 c ∧ mrk 3 e) := ⟨by assumption, by assumption, by assumption, by assumption, by assumption⟩
            refine Y.aload_n dX4_step_48 rfl ?_
            refine Y.getf dX4_step_49 flX4_12 ob0 rfl ?_
            refine Y.getf dX4_step_52 flX4_73 ob1 rfl ?_
            refine Y.iload_n dX4_step_55 rfl ?_
            refine Y.iald dX4_step_56 ia13 (by omega) (by omega) ?_
            rw [e5]
            refine Y.iconst dX4_step_57 ?_
            refine Y.icmp_lt 64 dX4_step_58 (by decide) (by omega) (by omega) (fun h_58 => ?_) (fun h_58 => ?_)
            · refine Y.aload_n dX4_step_64 rfl ?_
              refine Y.getf dX4_step_65 flX4_21 ob0 rfl ?_
              refine Y.iconst dX4_step_68 ?_
              refine Y.putf 17 dX4_step_69 fpX4_65 (obA (Or.inl rfl)) (osA_17 (Or.inl rfl)) (Nat.le_of_ble_eq_true rfl) (Or.inr ⟨rfl, Or.inr rfl⟩) rfl ?_
              refine Y.aload_n dX4_step_72 rfl ?_
              refine Y.getf dX4_step_73 flX4_12 ob0 rfl ?_
              refine Y.iload_n dX4_step_76 rfl ?_
              refine Y.iload_n dX4_step_77 rfl ?_
              refine Y.iload_n dX4_step_78 rfl ?_
              refine Y.iload dX4_step_79 rfl ?_
              refine Y.iload dX4_step_81 rfl ?_
              refine Y.cVI dX4_step_83 mkX2_append csX4_76 ob1 ⟨_, rfl, rfl⟩ (c_X2_append (show WP (cP (zu σ 14 17 1)) by rw [cP_c (σ := σ) (fun c q => by rw [zu_nc (by omega)]), ec]; exact hp) (by omega) (by omega) (show (zu σ 14 17 1).1 13 i < 3 by rw [zu_nc (by omega), e5]; omega)) (by omega) rfl rfl (Nat.le_of_ble_eq_true rfl) ?_
              exact Y.iret dX4_step_86 rfl (hP _ _ (Or.inl ⟨hC, by omega, zrI (by rw [← e5]; rfl), rfl⟩))
            · refine Y.bipush dX4_step_61 (by decide +kernel) ?_
              exact Y.iret dX4_step_63 rfl (hP _ _ (Or.inr (Or.inl ⟨hC, by omega, rfl, rfl⟩)))
          · refine Y.bipush dX4_step_45 (by decide +kernel) ?_
            exact Y.iret dX4_step_47 rfl (hP _ _ (Or.inr (Or.inr ⟨fun z => by obtain ⟨z1, z2, z3, z4, z5⟩ := z; first | exact absurd z1 (by assumption) | exact absurd z2 (by assumption) | exact absurd z3 (by assumption) | exact absurd z4 (by assumption) | exact absurd z5 (by assumption), rfl, rfl⟩)))
set_option maxHeartbeats 1000000 in
theorem c_X4_has {p : zP} (ec : cP σ = p) {i w : Int} (hi : zB i) (hw : zB w) : YC 2 μX4_has [.ref 0, .int (zi i), .int (zi w)] σ (fun r s => ((∃ k : Nat, k < 6 ∧ w = (k : Int) ∧ (0 ≤ i ∧ i ≤ 2) ∧ r = some (.int (zi (p k i)))) ∨ (¬ ((0 ≤ i ∧ i ≤ 2) ∧ 0 ≤ w ∧ w ≤ 5) ∧ r = some (.int (zi (-2))))) ∧ s = σ) := by
  refine YC.of2 (by decide) (Nat.le_of_ble_eq_true rfl) (fun d P hd hP => ?_)
  refine Y.iload_n dX4_has_0 rfl ?_
  refine Y.cSI dX4_has_1 mkX4_isChain csX4_46 (c_X4_isChain (by omega)) (by omega) rfl rfl (Nat.le_of_ble_eq_true rfl) ?_
  refine Y.ifz_eq 17 dX4_has_4 (by decide) (fun h_4 => ?_) (fun h_4 => ?_)
  · refine Y.bipush dX4_has_17 (by decide +kernel) ?_
    exact Y.iret dX4_has_19 rfl (hP _ _ ⟨Or.inr ⟨fun z => by first | exact absurd z.1 (by assumption) | exact absurd z.2 (by assumption), rfl⟩, rfl⟩)
  · refine Y.iload_n dX4_has_7 rfl ?_
    refine Y.i2l dX4_has_8 (by omega) ?_
    refine Y.iconst dX4_has_9 ?_
    refine Y.iconst dX4_has_10 ?_
    refine Y.cSI dX4_has_11 mkX4_within csX4_50 (c_X4_within (by omega) (by omega) (by omega)) (by omega) rfl rfl (Nat.le_of_ble_eq_true rfl) ?_
    refine Y.ifz_ne 20 dX4_has_14 (by decide) (fun h_14 => ?_) (fun h_14 => ?_)
    · obtain ⟨k, rfl⟩ : ∃ k : Nat, w = (k : Int) := ⟨w.toNat, by omega⟩
      refine Y.aload_n dX4_has_20 rfl ?_
      refine Y.iload_n dX4_has_21 rfl ?_
      refine Y.iload_n dX4_has_22 rfl ?_
      refine Y.cVI dX4_has_23 mkX4_traitOf csX4_108 ob0 ⟨_, rfl, rfl⟩ (c_X4_traitOf ec (by omega) (by omega) (by omega)) (by omega) rfl rfl (Nat.le_of_ble_eq_true rfl) ?_
      exact Y.iret dX4_has_26 rfl (hP _ _ ⟨Or.inl ⟨k, by omega, rfl, by assumption, rfl⟩, rfl⟩)
    · refine Y.bipush dX4_has_17 (by decide +kernel) ?_
      exact Y.iret dX4_has_19 rfl (hP _ _ ⟨Or.inr ⟨fun z => by first | exact absurd z.1 (by assumption) | exact absurd z.2 (by assumption), rfl⟩, rfl⟩)
set_option maxHeartbeats 2000000 in
theorem c_X4_info {p : zP} (ec : cP σ = p) (hp : WP p) (hs : σ.1 14 17 = 0 ∨ σ.1 14 17 = 1) (hst : σ.1 14 17 = 0 → SA 14 σ p) {i j w : Int} (hi : zB i) (hj : zB j) (hw : zB w) : YC 7 μX4_info [.ref 0, .int (zi i), .int (zi j), .int (zi w)] σ (fun r s => ((∃ k : Nat, k < 7 ∧ w = (k : Int) ∧ stp p i j ∧ r = some (.int (zi (infA p (i * 3 + j) k)))) ∨ (¬ (stp p i j ∧ 0 ≤ w ∧ w ≤ 6) ∧ r = some (.int (zi (-2))))) ∧ EQ σ s ∧ STL s) := by
  refine YC.of2 (by decide) (Nat.le_of_ble_eq_true rfl) (fun d P hd hP => ?_)
  refine Y.aload_n dX4_info_0 rfl ?_
  refine Y.getf dX4_info_1 flX4_12 ob0 rfl ?_
  refine Y.iload_n dX4_info_4 rfl ?_
  refine Y.iload_n dX4_info_5 rfl ?_
  refine Y.cVI dX4_info_6 mkX2_numberOf csX4_80 ob1 ⟨_, rfl, rfl⟩ (k_X2_numberOf ec hp hi hj) (by omega) rfl rfl (Nat.le_of_ble_eq_true rfl) ?_
  rcases nofc hp i j with ⟨s1, s2, s3, s4, s5, s6, s7⟩ | ⟨s1, s2⟩
  · rw [s2]
    refine Y.istore dX4_info_9 (by decide) rfl ?_
    refine Y.iload dX4_info_11 rfl ?_
    refine Y.iconst dX4_info_13 ?_
    refine Y.icmp_eq 28 dX4_info_14 (by decide) (by omega) (by omega) (fun h_14 => ?_) (fun h_14 => ?_)
    · exfalso; omega
    refine Y.iload_n dX4_info_17 rfl ?_
    refine Y.i2l dX4_info_18 (by omega) ?_
    refine Y.iconst dX4_info_19 ?_
    refine Y.bipush dX4_info_20 (by decide +kernel) ?_
    refine Y.cSI dX4_info_22 mkX4_within csX4_50 (c_X4_within (by omega) (by omega) (by omega)) (by omega) rfl rfl (Nat.le_of_ble_eq_true rfl) ?_
    refine Y.ifz_ne 31 dX4_info_25 (by decide) (fun h_25 => ?_) (fun h_25 => ?_)
    · obtain ⟨k, rfl⟩ : ∃ k : Nat, w = (k : Int) := ⟨w.toNat, by omega⟩
      refine Y.iload_n dX4_info_31 rfl ?_
      refine Y.iconst dX4_info_32 ?_
      refine Y.icmp_ne 43 dX4_info_33 (by decide) (by omega) (by omega) (fun h_33 => ?_) (fun h_33 => ?_)
      · refine Y.aload_n dX4_info_43 rfl ?_
        refine Y.iload dX4_info_44 rfl ?_
        refine Y.iload_n dX4_info_46 rfl ?_
        refine Y.cVI dX4_info_47 mkX4_infoOf csX4_114 ob0 ⟨_, rfl, rfl⟩ (c_X4_infoOf (by first | exact ec2 | exact ec) hp s5 s6 s7 (by omega) (fun q => by first | exact a_40 | (exfalso; omega))) (by omega) rfl rfl (Nat.le_of_ble_eq_true rfl) ?_
        exact Y.iret dX4_info_50 rfl (hP _ _ ⟨Or.inl ⟨k, by omega, rfl, s1, rfl⟩, by first | exact ⟨hE, hT⟩ | exact ⟨EQ.rf, hs, fun q => by rw [ec]; exact hst q⟩⟩)
      · refine Y.aload_n dX4_info_36 rfl ?_
        refine Y.getf dX4_info_37 flX4_21 ob0 rfl ?_
        refine Y.callV dX4_info_40 mkX0_settle csX4_111 (obA (Or.inl rfl)) ⟨_, rfl, rfl⟩ (c_X0_settle (Or.inl rfl) ec hp hs hst) (by omega) rfl rfl (Nat.le_of_ble_eq_true rfl) (fun r_40 s_40 p_40 => ?_)
        obtain ⟨rfl, f_40, g_40, a_40⟩ := p_40
        have ec2 := (f_40.cp (Or.inl rfl)).trans ec
        have hE := f_40.eq (Or.inl rfl)
        have hT : STL s_40 := STL.of ec2 g_40 a_40
        refine Y.aload_n dX4_info_43 rfl ?_
        refine Y.iload dX4_info_44 rfl ?_
        refine Y.iload_n dX4_info_46 rfl ?_
        refine Y.cVI dX4_info_47 mkX4_infoOf csX4_114 ob0 ⟨_, rfl, rfl⟩ (c_X4_infoOf (by first | exact ec2 | exact ec) hp s5 s6 s7 (by omega) (fun q => by first | exact a_40 | (exfalso; omega))) (by omega) rfl rfl (Nat.le_of_ble_eq_true rfl) ?_
        exact Y.iret dX4_info_50 rfl (hP _ _ ⟨Or.inl ⟨k, by omega, rfl, s1, rfl⟩, by first | exact ⟨hE, hT⟩ | exact ⟨EQ.rf, hs, fun q => by rw [ec]; exact hst q⟩⟩)
    · refine Y.bipush dX4_info_28 (by decide +kernel) ?_
      exact Y.iret dX4_info_30 rfl (hP _ _ ⟨Or.inr ⟨fun z => absurd z.2 (by assumption), rfl⟩, EQ.rf, hs, fun q => by rw [ec]; exact hst q⟩)
  · rw [s2]
    refine Y.istore dX4_info_9 (by decide) rfl ?_
    refine Y.iload dX4_info_11 rfl ?_
    refine Y.iconst dX4_info_13 ?_
    refine Y.icmp_eq 28 dX4_info_14 (by decide) (by omega) (by omega) (fun h_14 => ?_) (fun h_14 => ?_)
    rotate_left
    · exfalso; omega
    refine Y.bipush dX4_info_28 (by decide +kernel) ?_
    exact Y.iret dX4_info_30 rfl (hP _ _ ⟨Or.inr ⟨fun z => absurd z.1 s1, rfl⟩, EQ.rf, hs, fun q => by rw [ec]; exact hst q⟩)
end ZK1
