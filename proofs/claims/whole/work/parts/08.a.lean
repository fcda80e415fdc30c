section ZL1
variable {σ : zS}
theorem k_X5_isStep {p : zP} (ec : mP σ = p) (hp : WP p) {i j : Int} (hi : zB i) (hj : zB j) : YI 2 μX5_isStep [.ref 67, .int (zi i), .int (zi j)] σ (zb (stp p i j)) σ := by
  subst ec; exact c_X5_isStep hp hi hj
theorem k_X5_rivals {p : zP} (ec : mP σ = p) (hp : WP p) {x : Int} (h0 : 0 ≤ x) (h9 : x < 9) : YI 2 μX5_rivals [.ref 67, .int (zi x)] σ (rvs p x) σ := by
  subst ec; exact c_X5_rivals hp h0 h9
theorem k_X5_toldBy {p : zP} (ec : mP σ = p) {x : Int} (h0 : 0 ≤ x) (h9 : x < 9) {w : Nat} (hw : w < 4) : YI 0 μX5_toldBy [.ref 67, .int (zi x), .int (zi w)] σ (p (6 + w) x) σ := by
  subst ec; exact c_X5_toldBy h0 h9 hw
theorem k_X5_hasBy {p : zP} (ec : mP σ = p) {i : Int} (h0 : 0 ≤ i) (h3 : i < 3) {w : Nat} (hw : w < 6) : YI 0 μX5_hasBy [.ref 67, .int (zi i), .int (zi w)] σ (p w i) σ := by
  subst ec; exact c_X5_hasBy h0 h3 hw
theorem k_X5_loadBy {p : zP} (ec : mP σ = p) (hp : WP p) {x : Int} (h0 : 0 ≤ x) (h9 : x < 9) {w : Int} (hw : zB w) : YC 3 μX5_loadBy [.ref 67, .int (zi x), .int (zi w)] σ (fun r s => r = some (.int (zi (ldp p x w))) ∧ zF2 σ s) := by
  subst ec; exact c_X5_loadBy hp h0 h9 hw
theorem stp_f {p : zP} (hp : WP p) {i j : Int} (h : stp p i j) : 0 ≤ i ∧ i < 3 ∧ 0 ≤ j ∧ 0 ≤ i * 3 + j ∧ i * 3 + j < 9 ∧ 3 * i + j = i * 3 + j ∧ th p (i * 3 + j) := by
  rcases nofc hp i j with ⟨s1, s2, s3, s4, s5, s6, s7⟩ | ⟨s1, s2⟩
  · have := h.2.2.1
    exact ⟨s3, s4, this, s5, s6, by omega, s7⟩
  · exact absurd h s1
set_option maxHeartbeats 1000000 in
theorem c_X5_chain {p : zP} (ec : mP σ = p) {i w v : Int} (hi : zB i) (hw : zB w) (hv : zB v) : YC 2 μX5_chain [.ref 67, .int (zi i), .int (zi w), .int (zi v)] σ (fun r s => (∃ k : Nat, k < 5 ∧ w = (k : Int) ∧ (0 ≤ i ∧ i ≤ 2) ∧ trt w v ∧ r = some (.int (zi (p k i))) ∧ s = zu σ (72 + k) i v) ∨ (¬ ((0 ≤ i ∧ i ≤ 2) ∧ trt w v) ∧ r = some (.int (zi (-2))) ∧ s = σ)) := by
  refine YC.of2 (by decide) (Nat.le_of_ble_eq_true rfl) (fun d P hd hP => ?_)
  refine Y.iload_n dX5_chain_0 rfl ?_
  refine Y.cSI dX5_chain_1 mkX5_isChain csX5_121 (c_X5_isChain (by omega)) (by omega) rfl rfl (Nat.le_of_ble_eq_true rfl) ?_
  refine Y.ifz_eq 15 dX5_chain_4 (by decide) (fun h_4 => ?_) (fun h_4 => ?_)
  · refine Y.bipush dX5_chain_15 (by decide +kernel) ?_
    exact Y.iret dX5_chain_17 rfl (hP _ _ (Or.inr ⟨fun z => by first | exact absurd z.1 (by assumption) | exact absurd z.2 (by assumption), rfl, rfl⟩))
  · refine Y.iload_n dX5_chain_7 rfl ?_
    refine Y.iload_n dX5_chain_8 rfl ?_
    refine Y.cSI dX5_chain_9 mkX5_mayChain csX5_136 (c_X5_mayChain (by omega) (by omega)) (by omega) rfl rfl (Nat.le_of_ble_eq_true rfl) ?_
    refine Y.ifz_ne 18 dX5_chain_12 (by decide) (fun h_12 => ?_) (fun h_12 => ?_)
    · have ht1 := h_12.1
      have ht2 := h_12.2.1
      obtain ⟨k, rfl⟩ : ∃ k : Nat, w = (k : Int) := ⟨w.toNat, by omega⟩
      refine Y.aload_n dX5_chain_18 rfl ?_
      refine Y.iload_n dX5_chain_19 rfl ?_
      refine Y.iload_n dX5_chain_20 rfl ?_
      refine Y.cVI dX5_chain_21 mkX5_hasBy csX5_140 ob67 ⟨_, rfl, rfl⟩ (k_X5_hasBy ec (by omega) (by omega) (by omega)) (by omega) rfl rfl (Nat.le_of_ble_eq_true rfl) ?_
      refine Y.istore dX5_chain_24 (by decide) rfl ?_
      have hk : k < 5 := by omega
      rcases (show k = 0 ∨ k = 1 ∨ k = 2 ∨ k = 3 ∨ k = 4 by omega) with rfl | rfl | rfl | rfl | rfl
      · refine Y.iload_n dX5_chain_26 rfl ?_
        refine Y.tin 56 dX5_chain_27 (by omega) (by omega) (by omega) rfl (by decide) ?_
        refine Y.aload_n dX5_chain_56 rfl ?_
        refine Y.getf dX5_chain_57 flX5_23 ob67 rfl ?_
        refine Y.iload_n dX5_chain_60 rfl ?_
        refine Y.iload_n dX5_chain_61 rfl ?_
        refine Y.iast dX5_chain_62 ia72 (by omega) (by omega) ?_
        refine Y.goto 103 dX5_chain_63 (by decide) ?_
        refine Y.iload dX5_chain_103 rfl ?_
        exact Y.iret dX5_chain_105 rfl (hP _ _ (Or.inl ⟨0, by omega, rfl, h_4, h_12, rfl, rfl⟩))
      · refine Y.iload_n dX5_chain_26 rfl ?_
        refine Y.tin 66 dX5_chain_27 (by omega) (by omega) (by omega) rfl (by decide) ?_
        refine Y.aload_n dX5_chain_66 rfl ?_
        refine Y.getf dX5_chain_67 flX5_26 ob67 rfl ?_
        refine Y.iload_n dX5_chain_70 rfl ?_
        refine Y.iload_n dX5_chain_71 rfl ?_
        refine Y.iast dX5_chain_72 ia73 (by omega) (by omega) ?_
        refine Y.goto 103 dX5_chain_73 (by decide) ?_
        refine Y.iload dX5_chain_103 rfl ?_
        exact Y.iret dX5_chain_105 rfl (hP _ _ (Or.inl ⟨1, by omega, rfl, h_4, h_12, rfl, rfl⟩))
      · refine Y.iload_n dX5_chain_26 rfl ?_
        refine Y.tin 76 dX5_chain_27 (by omega) (by omega) (by omega) rfl (by decide) ?_
        refine Y.aload_n dX5_chain_76 rfl ?_
        refine Y.getf dX5_chain_77 flX5_29 ob67 rfl ?_
        refine Y.iload_n dX5_chain_80 rfl ?_
        refine Y.iload_n dX5_chain_81 rfl ?_
        refine Y.iast dX5_chain_82 ia74 (by omega) (by omega) ?_
        refine Y.goto 103 dX5_chain_83 (by decide) ?_
        refine Y.iload dX5_chain_103 rfl ?_
        exact Y.iret dX5_chain_105 rfl (hP _ _ (Or.inl ⟨2, by omega, rfl, h_4, h_12, rfl, rfl⟩))
      · refine Y.iload_n dX5_chain_26 rfl ?_
        refine Y.tin 86 dX5_chain_27 (by omega) (by omega) (by omega) rfl (by decide) ?_
        refine Y.aload_n dX5_chain_86 rfl ?_
        refine Y.getf dX5_chain_87 flX5_32 ob67 rfl ?_
        refine Y.iload_n dX5_chain_90 rfl ?_
        refine Y.iload_n dX5_chain_91 rfl ?_
        refine Y.iast dX5_chain_92 ia75 (by omega) (by omega) ?_
        refine Y.goto 103 dX5_chain_93 (by decide) ?_
        refine Y.iload dX5_chain_103 rfl ?_
        exact Y.iret dX5_chain_105 rfl (hP _ _ (Or.inl ⟨3, by omega, rfl, h_4, h_12, rfl, rfl⟩))
      · refine Y.iload_n dX5_chain_26 rfl ?_
        refine Y.tout 96 dX5_chain_27 (by omega) (by omega) (by decide) ?_
        refine Y.aload_n dX5_chain_96 rfl ?_
        refine Y.getf dX5_chain_97 flX5_35 ob67 rfl ?_
        refine Y.iload_n dX5_chain_100 rfl ?_
        refine Y.iload_n dX5_chain_101 rfl ?_
        refine Y.iast dX5_chain_102 ia76 (by omega) (by omega) ?_
        refine Y.iload dX5_chain_103 rfl ?_
        exact Y.iret dX5_chain_105 rfl (hP _ _ (Or.inl ⟨4, by omega, rfl, h_4, h_12, rfl, rfl⟩))
    · refine Y.bipush dX5_chain_15 (by decide +kernel) ?_
      exact Y.iret dX5_chain_17 rfl (hP _ _ (Or.inr ⟨fun z => by first | exact absurd z.1 (by assumption) | exact absurd z.2 (by assumption), rfl, rfl⟩))
set_option maxHeartbeats 2000000 in
theorem c_X5_step {p : zP} (ec : mP σ = p) (hp : WP p) {i a b c e : Int} (hi : zB i) (ha : zB a) (hb : zB b) (hc : zB c) (he : zB e) : YC 2 μX5_step [.ref 67, .int (zi i), .int (zi a), .int (zi b), .int (zi c), .int (zi e)] σ (fun r s => (((0 ≤ i ∧ i ≤ 2) ∧ mrk 0 a ∧ mrk 1 b ∧ mrk 2 c ∧ mrk 3 e) ∧ p 5 i < 3 ∧ r = some (.int (zi (p 5 i))) ∧ s = apM σ i a b c e) ∨ (((0 ≤ i ∧ i ≤ 2) ∧ mrk 0 a ∧ mrk 1 b ∧ mrk 2 c ∧ mrk 3 e) ∧ 3 ≤ p 5 i ∧ r = some (.int (zi (-4))) ∧ s = σ) ∨ (¬ ((0 ≤ i ∧ i ≤ 2) ∧ mrk 0 a ∧ mrk 1 b ∧ mrk 2 c ∧ mrk 3 e) ∧ r = some (.int (zi (-2))) ∧ s = σ)) := by
  refine YC.of2 (by decide) (Nat.le_of_ble_eq_true rfl) (fun d P hd hP => ?_)
  have e5 : σ.1 77 = p 5 := by rw [← ec]; rfl
  refine Y.iload_n dX5_step_0 rfl ?_
  refine Y.cSI dX5_step_1 mkX5_isChain csX5_121 (c_X5_isChain (by omega)) (by omega) rfl rfl (Nat.le_of_ble_eq_true rfl) ?_
  refine Y.ifz_eq 45 dX5_step_4 (by decide) (fun h_4 => ?_) (fun h_4 => ?_)
  · refine Y.bipush dX5_step_45 (by decide +kernel) ?_
    exact Y.iret dX5_step_47 rfl (hP _ _ (Or.inr (Or.inr ⟨fun z => by obtain ⟨z1, z2, z3, z4, z5⟩ := z; first | exact absurd z1 (by assumption) | exact absurd z2 (by assumption) | exact absurd z3 (by assumption) | exact absurd z4 (by assumption) | exact absurd z5 (by assumption), rfl, rfl⟩)))
  · refine Y.iconst dX5_step_7 ?_
    refine Y.iload_n dX5_step_8 rfl ?_
    refine Y.i2l dX5_step_9 (by omega) ?_
    refine Y.cSI dX5_step_10 mkX5_mayStep csX5_146 (c_X5_mayStep (by omega) (by omega)) (by omega) rfl rfl (Nat.le_of_ble_eq_true rfl) ?_
    refine Y.ifz_eq 45 dX5_step_13 (by decide) (fun h_13 => ?_) (fun h_13 => ?_)
    · refine Y.bipush dX5_step_45 (by decide +kernel) ?_
      exact Y.iret dX5_step_47 rfl (hP _ _ (Or.inr (Or.inr ⟨fun z => by obtain ⟨z1, z2, z3, z4, z5⟩ := z; first | exact absurd z1 (by assumption) | exact absurd z2 (by assumption) | exact absurd z3 (by assumption) | exact absurd z4 (by assumption) | exact absurd z5 (by assumption), rfl, rfl⟩)))
    · refine Y.iconst dX5_step_16 ?_
      refine Y.iload_n dX5_step_17 rfl ?_
      refine Y.i2l dX5_step_18 (by omega) ?_
      refine Y.cSI dX5_step_19 mkX5_mayStep csX5_146 (c_X5_mayStep (by omega) (by omega)) (by omega) rfl rfl (Nat.le_of_ble_eq_true rfl) ?_
      refine Y.ifz_eq 45 dX5_step_22 (by decide) (fun h_22 => ?_) (fun h_22 => ?_)
      · refine Y.bipush dX5_step_45 (by decide +kernel) ?_
        exact Y.iret dX5_step_47 rfl (hP _ _ (Or.inr (Or.inr ⟨fun z => by obtain ⟨z1, z2, z3, z4, z5⟩ := z; first | exact absurd z1 (by assumption) | exact absurd z2 (by assumption) | exact absurd z3 (by assumption) | exact absurd z4 (by assumption) | exact absurd z5 (by assumption), rfl, rfl⟩)))
      · refine Y.iconst dX5_step_25 ?_
        refine Y.iload dX5_step_26 rfl ?_
        refine Y.i2l dX5_step_28 (by omega) ?_
        refine Y.cSI dX5_step_29 mkX5_mayStep csX5_146 (c_X5_mayStep (by omega) (by omega)) (by omega) rfl rfl (Nat.le_of_ble_eq_true rfl) ?_
        refine Y.ifz_eq 45 dX5_step_32 (by decide) (fun h_32 => ?_) (fun h_32 => ?_)
        · refine Y.bipush dX5_step_45 (by decide +kernel) ?_
          exact Y.iret dX5_step_47 rfl (hP _ _ (Or.inr (Or.inr ⟨fun z => by obtain ⟨z1, z2, z3, z4, z5⟩ := z; first | exact absurd z1 (by assumption) | exact absurd z2 (by assumption) | exact absurd z3 (by assumption) | exact absurd z4 (by assumption) | exact absurd z5 (by assumption), rfl, rfl⟩)))
        · refine Y.iconst dX5_step_35 ?_
          refine Y.iload dX5_step_36 rfl ?_
          refine Y.i2l dX5_step_38 (by omega) ?_
          refine Y.cSI dX5_step_39 mkX5_mayStep csX5_146 (c_X5_mayStep (by omega) (by omega)) (by omega) rfl rfl (Nat.le_of_ble_eq_true rfl) ?_
          refine Y.ifz_ne 48 dX5_step_42 (by decide) (fun h_42 => ?_) (fun h_42 => ?_)
          · have hm := (hp.1 i (by omega) (by omega)).2.2.2.2.2
            have hC : ((0 ≤ i ∧ i ≤ 2) ∧ mrk 0 a ∧ mrk 1 b ∧ mrk 2 c ∧ mrk 3 e) := ⟨by assumption, by assumption, by assumption, by assumption, by assumption⟩
            refine Y.aload_n dX5_step_48 rfl ?_
            refine Y.getf dX5_step_49 flX5_38 ob67 rfl ?_
            refine Y.iload_n dX5_step_52 rfl ?_
            refine Y.iald dX5_step_53 ia77 (by omega) (by omega) ?_
            refine Y.iconst dX5_step_54 ?_
            rw [e5]
            refine Y.icmp_ne 61 dX5_step_55 (by decide) (by omega) (by omega) (fun h_55 => ?_) (fun h_55 => ?_)
            · refine Y.iconst dX5_step_61 ?_
              refine Y.iload_n dX5_step_62 rfl ?_
              refine Y.imul dX5_step_63 ?_
              refine Y.aload_n dX5_step_64 rfl ?_
              refine Y.getf dX5_step_65 flX5_38 ob67 rfl ?_
              refine Y.iload_n dX5_step_68 rfl ?_
              refine Y.iald dX5_step_69 ia77 (by omega) (by omega) ?_
              refine Y.iadd dX5_step_70 ?_
              have e57 := congrFun e5 i
              rw [show 3 * i + σ.1 77 i = i * 3 + σ.1 77 i by omega]
              refine Y.istore dX5_step_71 (by decide) rfl ?_
              refine Y.aload_n dX5_step_73 rfl ?_
              refine Y.iload dX5_step_74 rfl ?_
              refine Y.iconst dX5_step_76 ?_
              refine Y.iload_n dX5_step_77 rfl ?_
              refine Y.cVV dX5_step_78 mkX5_tells csX5_150 ob67 ⟨_, rfl, rfl⟩ (c_X5_tells (w := 0) (by omega) (by omega) (by omega)) (by omega) rfl rfl (Nat.le_of_ble_eq_true rfl) ?_
              refine Y.aload_n dX5_step_81 rfl ?_
              refine Y.iload dX5_step_82 rfl ?_
              refine Y.iconst dX5_step_84 ?_
              refine Y.iload_n dX5_step_85 rfl ?_
              refine Y.cVV dX5_step_86 mkX5_tells csX5_150 ob67 ⟨_, rfl, rfl⟩ (c_X5_tells (w := 1) (by omega) (by omega) (by omega)) (by omega) rfl rfl (Nat.le_of_ble_eq_true rfl) ?_
              refine Y.aload_n dX5_step_89 rfl ?_
              refine Y.iload dX5_step_90 rfl ?_
              refine Y.iconst dX5_step_92 ?_
              refine Y.iload dX5_step_93 rfl ?_
              refine Y.cVV dX5_step_95 mkX5_tells csX5_150 ob67 ⟨_, rfl, rfl⟩ (c_X5_tells (w := 2) (by omega) (by omega) (by omega)) (by omega) rfl rfl (Nat.le_of_ble_eq_true rfl) ?_
              refine Y.aload_n dX5_step_98 rfl ?_
              refine Y.iload dX5_step_99 rfl ?_
              refine Y.iconst dX5_step_101 ?_
              refine Y.iload dX5_step_102 rfl ?_
              refine Y.cVV dX5_step_104 mkX5_tells csX5_150 ob67 ⟨_, rfl, rfl⟩ (c_X5_tells (w := 3) (by omega) (by omega) (by omega)) (by omega) rfl rfl (Nat.le_of_ble_eq_true rfl) ?_
              refine Y.aload_n dX5_step_107 rfl ?_
              refine Y.getf dX5_step_108 flX5_38 ob67 rfl ?_
              refine Y.iload_n dX5_step_111 rfl ?_
              refine Y.dup2 dX5_step_112 rfl rfl ?_
              refine Y.iald dX5_step_113 ia77 (by omega) (by omega) ?_
              refine Y.iconst dX5_step_114 ?_
              refine Y.iadd dX5_step_115 ?_
              refine Y.iast dX5_step_116 ia77 (by omega) (by omega) ?_
              refine Y.aload_n dX5_step_117 rfl ?_
              refine Y.getf dX5_step_118 flX5_38 ob67 rfl ?_
              refine Y.iload_n dX5_step_121 rfl ?_
              refine Y.iald dX5_step_122 ia77 (by omega) (by omega) ?_
              refine Y.iconst dX5_step_123 ?_
              refine Y.isub dX5_step_124 ?_
              exact Y.iret dX5_step_125 rfl (hP _ _ (Or.inl ⟨hC, by omega, zrI (by rw [zu_eq]; show (zu (zu (zu (zu σ 78 _ a) 79 _ b) 80 _ c) 81 _ e).1 77 i + 1 - 1 = _; rw [zu_nc (by omega), zu_nc (by omega), zu_nc (by omega), zu_nc (by omega), e57]; omega), by unfold apM; rw [show (zu (zu (zu (zu σ (78 + 0) (i * 3 + σ.1 77 i) a) (78 + 1) (i * 3 + σ.1 77 i) b) (78 + 2) (i * 3 + σ.1 77 i) c) (78 + 3) (i * 3 + σ.1 77 i) e).1 77 i = σ.1 77 i by rw [zu_nc (by omega), zu_nc (by omega), zu_nc (by omega), zu_nc (by omega)]]⟩))
            · refine Y.bipush dX5_step_58 (by decide +kernel) ?_
              exact Y.iret dX5_step_60 rfl (hP _ _ (Or.inr (Or.inl ⟨hC, by omega, rfl, rfl⟩)))
          · refine Y.bipush dX5_step_45 (by decide +kernel) ?_
            exact Y.iret dX5_step_47 rfl (hP _ _ (Or.inr (Or.inr ⟨fun z => by obtain ⟨z1, z2, z3, z4, z5⟩ := z; first | exact absurd z1 (by assumption) | exact absurd z2 (by assumption) | exact absurd z3 (by assumption) | exact absurd z4 (by assumption) | exact absurd z5 (by assumption), rfl, rfl⟩)))
set_option maxHeartbeats 1000000 in
theorem c_X5_back {p : zP} (ec : mP σ = p) (hp : WP p) {i : Int} (hi : zB i) : YC 2 μX5_back [.ref 67, .int (zi i)] σ (fun r s => ((0 ≤ i ∧ i ≤ 2) ∧ 0 < p 5 i ∧ r = some (.int (zi (p 5 i - 1))) ∧ s = zu σ 77 i (p 5 i - 1)) ∨ ((0 ≤ i ∧ i ≤ 2) ∧ p 5 i = 0 ∧ r = some (.int (zi (-3))) ∧ s = σ) ∨ (¬ (0 ≤ i ∧ i ≤ 2) ∧ r = some (.int (zi (-2))) ∧ s = σ)) := by
  refine YC.of2 (by decide) (Nat.le_of_ble_eq_true rfl) (fun d P hd hP => ?_)
  have e5 : σ.1 77 = p 5 := by rw [← ec]; rfl
  refine Y.iload_n dX5_back_0 rfl ?_
  refine Y.cSI dX5_back_1 mkX5_isChain csX5_121 (c_X5_isChain (by omega)) (by omega) rfl rfl (Nat.le_of_ble_eq_true rfl) ?_
  refine Y.ifz_ne 10 dX5_back_4 (by decide) (fun h_4 => ?_) (fun h_4 => ?_)
  · have hm := (hp.1 i (by omega) (by omega)).2.2.2.2.2
    refine Y.aload_n dX5_back_10 rfl ?_
    refine Y.getf dX5_back_11 flX5_38 ob67 rfl ?_
    refine Y.iload_n dX5_back_14 rfl ?_
    refine Y.iald dX5_back_15 ia77 (by omega) (by omega) ?_
    rw [e5]
    refine Y.if_ne 22 dX5_back_16 (by decide) (by omega) (fun h_16 => ?_) (fun h_16 => ?_)
    · refine Y.aload_n dX5_back_22 rfl ?_
      refine Y.getf dX5_back_23 flX5_38 ob67 rfl ?_
      refine Y.iload_n dX5_back_26 rfl ?_
      refine Y.dup2 dX5_back_27 rfl rfl ?_
      refine Y.iald dX5_back_28 ia77 (by omega) (by omega) ?_
      rw [e5]
      refine Y.iconst dX5_back_29 ?_
      refine Y.isub dX5_back_30 ?_
      refine Y.iast dX5_back_31 ia77 (by omega) (by omega) ?_
      refine Y.aload_n dX5_back_32 rfl ?_
      refine Y.getf dX5_back_33 flX5_38 ob67 rfl ?_
      refine Y.iload_n dX5_back_36 rfl ?_
      refine Y.iald dX5_back_37 ia77 (by omega) (by omega) ?_
      exact Y.iret dX5_back_38 rfl (hP _ _ (Or.inl ⟨by assumption, by omega, zrI (by rw [zu_eq]), rfl⟩))
    · refine Y.bipush dX5_back_19 (by decide +kernel) ?_
      exact Y.iret dX5_back_21 rfl (hP _ _ (Or.inr (Or.inl ⟨by assumption, by omega, rfl, rfl⟩)))
  · refine Y.bipush dX5_back_7 (by decide +kernel) ?_
    exact Y.iret dX5_back_9 rfl (hP _ _ (Or.inr (Or.inr ⟨by assumption, rfl, rfl⟩)))
set_option maxHeartbeats 2000000 in
theorem c_X5_tune {p : zP} (ec : mP σ = p) (hp : WP p) {i j : Int} (hi : zB i) (hj : zB j) {w v : Int} (hw : zB w) (hv : zB v) : YC 3 μX5_tune [.ref 67, .int (zi i), .int (zi j), .int (zi w), .int (zi v)] σ (fun r s => (∃ k : Nat, k < 4 ∧ w = (k : Int) ∧ stp p i j ∧ mrk w v ∧ r = some (.int (zi (p (6 + k) (i * 3 + j)))) ∧ s = zu σ (78 + k) (i * 3 + j) v) ∨ (¬ (stp p i j ∧ mrk w v) ∧ r = some (.int (zi (-2))) ∧ s = σ)) := by
  refine YC.of2 (by decide) (Nat.le_of_ble_eq_true rfl) (fun d P hd hP => ?_)
  refine Y.aload_n dX5_tune_0 rfl ?_
  refine Y.iload_n dX5_tune_1 rfl ?_
  refine Y.iload_n dX5_tune_2 rfl ?_
  refine Y.cVI dX5_tune_3 mkX5_isStep csX5_154 ob67 ⟨_, rfl, rfl⟩ (k_X5_isStep ec hp hi hj) (by omega) rfl rfl (Nat.le_of_ble_eq_true rfl) ?_
  refine Y.ifz_eq 19 dX5_tune_6 (by decide) (fun h_6 => ?_) (fun h_6 => ?_)
  · refine Y.bipush dX5_tune_19 (by decide +kernel) ?_
    exact Y.iret dX5_tune_21 rfl (hP _ _ (Or.inr ⟨fun z => by first | exact absurd z.1 (by assumption) | exact absurd z.2 (by assumption), rfl, rfl⟩))
  · refine Y.iload_n dX5_tune_9 rfl ?_
    refine Y.iload dX5_tune_10 rfl ?_
    refine Y.i2l dX5_tune_12 (by omega) ?_
    refine Y.cSI dX5_tune_13 mkX5_mayStep csX5_146 (c_X5_mayStep (by omega) (by omega)) (by omega) rfl rfl (Nat.le_of_ble_eq_true rfl) ?_
    refine Y.ifz_ne 22 dX5_tune_16 (by decide) (fun h_16 => ?_) (fun h_16 => ?_)
    · obtain ⟨s3, s4, s5, s6, s7, s8, s9⟩ := stp_f hp (by assumption)
      have ht1 := h_16.1
      have ht2 := h_16.2.1
      obtain ⟨k, rfl⟩ : ∃ k : Nat, w = (k : Int) := ⟨w.toNat, by omega⟩
      refine Y.aload_n dX5_tune_22 rfl ?_
      refine Y.iconst dX5_tune_23 ?_
      refine Y.iload_n dX5_tune_24 rfl ?_
      refine Y.imul dX5_tune_25 ?_
      refine Y.iload_n dX5_tune_26 rfl ?_
      refine Y.iadd dX5_tune_27 ?_
      rw [s8]
      refine Y.iload_n dX5_tune_28 rfl ?_
      refine Y.cVI dX5_tune_29 mkX5_toldBy csX5_157 ob67 ⟨_, rfl, rfl⟩ (k_X5_toldBy ec (by omega) (by omega) (by omega)) (by omega) rfl rfl (Nat.le_of_ble_eq_true rfl) ?_
      refine Y.istore dX5_tune_32 (by decide) rfl ?_
      refine Y.aload_n dX5_tune_34 rfl ?_
      refine Y.iconst dX5_tune_35 ?_
      refine Y.iload_n dX5_tune_36 rfl ?_
      refine Y.imul dX5_tune_37 ?_
      refine Y.iload_n dX5_tune_38 rfl ?_
      refine Y.iadd dX5_tune_39 ?_
      rw [s8]
      refine Y.iload_n dX5_tune_40 rfl ?_
      refine Y.iload dX5_tune_41 rfl ?_
      refine Y.cVV dX5_tune_43 mkX5_tells csX5_150 ob67 ⟨_, rfl, rfl⟩ (c_X5_tells (by omega) (by omega) (by omega)) (by omega) rfl rfl (Nat.le_of_ble_eq_true rfl) ?_
      refine Y.iload dX5_tune_46 rfl ?_
      exact Y.iret dX5_tune_48 rfl (hP _ _ (Or.inl ⟨k, by omega, rfl, by assumption, h_16, rfl, rfl⟩))
    · refine Y.bipush dX5_tune_19 (by decide +kernel) ?_
      exact Y.iret dX5_tune_21 rfl (hP _ _ (Or.inr ⟨fun z => by first | exact absurd z.1 (by assumption) | exact absurd z.2 (by assumption), rfl, rfl⟩))
set_option maxHeartbeats 1000000 in
theorem c_X5_has {p : zP} (ec : mP σ = p) {i w : Int} (hi : zB i) (hw : zB w) : YC 2 μX5_has [.ref 67, .int (zi i), .int (zi w)] σ (fun r s => ((∃ k : Nat, k < 6 ∧ w = (k : Int) ∧ (0 ≤ i ∧ i ≤ 2) ∧ r = some (.int (zi (p k i)))) ∨ (¬ ((0 ≤ i ∧ i ≤ 2) ∧ 0 ≤ w ∧ w ≤ 5) ∧ r = some (.int (zi (-2))))) ∧ s = σ) := by
  refine YC.of2 (by decide) (Nat.le_of_ble_eq_true rfl) (fun d P hd hP => ?_)
  refine Y.iload_n dX5_has_0 rfl ?_
  refine Y.cSI dX5_has_1 mkX5_isChain csX5_121 (c_X5_isChain (by omega)) (by omega) rfl rfl (Nat.le_of_ble_eq_true rfl) ?_
  refine Y.ifz_eq 28 dX5_has_4 (by decide) (fun h_4 => ?_) (fun h_4 => ?_)
  · refine Y.bipush dX5_has_28 (by decide +kernel) ?_
    exact Y.iret dX5_has_30 rfl (hP _ _ (by first | exact ⟨Or.inl ⟨k, by omega, rfl, by assumption, rfl⟩, rfl⟩ | exact ⟨Or.inr ⟨fun z => by first | exact absurd z.1 (by assumption) | exact absurd z.2 (by assumption), rfl⟩, rfl⟩))
  · refine Y.iload_n dX5_has_7 rfl ?_
    refine Y.i2l dX5_has_8 (by omega) ?_
    refine Y.lconst 0 dX5_has_9 rfl ?_
    refine Y.ldc2 (5) dX5_has_10 kX5_124 ?_
    refine Y.cSI dX5_has_13 mkX5_in csX5_89 (c_X5_in (by omega) (by omega) (by omega)) (by omega) rfl rfl (Nat.le_of_ble_eq_true rfl) ?_
    refine Y.ifz_eq 28 dX5_has_16 (by decide) (fun h_16 => ?_) (fun h_16 => ?_)
    · refine Y.bipush dX5_has_28 (by decide +kernel) ?_
      exact Y.iret dX5_has_30 rfl (hP _ _ (by first | exact ⟨Or.inl ⟨k, by omega, rfl, by assumption, rfl⟩, rfl⟩ | exact ⟨Or.inr ⟨fun z => by first | exact absurd z.1 (by assumption) | exact absurd z.2 (by assumption), rfl⟩, rfl⟩))
    · obtain ⟨k, rfl⟩ : ∃ k : Nat, w = (k : Int) := ⟨w.toNat, by omega⟩
      refine Y.aload_n dX5_has_19 rfl ?_
      refine Y.iload_n dX5_has_20 rfl ?_
      refine Y.iload_n dX5_has_21 rfl ?_
      refine Y.cVI dX5_has_22 mkX5_hasBy csX5_140 ob67 ⟨_, rfl, rfl⟩ (k_X5_hasBy ec (by omega) (by omega) (by omega)) (by omega) rfl rfl (Nat.le_of_ble_eq_true rfl) ?_
      refine Y.goto 30 dX5_has_25 (by decide) ?_
      exact Y.iret dX5_has_30 rfl (hP _ _ (by first | exact ⟨Or.inl ⟨k, by omega, rfl, by assumption, rfl⟩, rfl⟩ | exact ⟨Or.inr ⟨fun z => by first | exact absurd z.1 (by assumption) | exact absurd z.2 (by assumption), rfl⟩, rfl⟩))
set_option maxHeartbeats 1000000 in
theorem c_X5_load {p : zP} (ec : mP σ = p) (hp : WP p) {i j : Int} (hi : zB i) (hj : zB j) {w : Int} (hw : zB w) : YC 4 μX5_load [.ref 67, .int (zi i), .int (zi j), .int (zi w)] σ (fun r s => RQ (stp p i j ∧ 0 ≤ w ∧ w ≤ 1) (ldp p (i * 3 + j) w) r ∧ EM σ s) := by
  refine YC.of2 (by decide) (Nat.le_of_ble_eq_true rfl) (fun d P hd hP => ?_)
  refine Y.aload_n dX5_load_0 rfl ?_
  refine Y.iload_n dX5_load_1 rfl ?_
  refine Y.iload_n dX5_load_2 rfl ?_
  refine Y.cVI dX5_load_3 mkX5_isStep csX5_154 ob67 ⟨_, rfl, rfl⟩ (k_X5_isStep ec hp hi hj) (by omega) rfl rfl (Nat.le_of_ble_eq_true rfl) ?_
  refine Y.ifz_eq 29 dX5_load_6 (by decide) (fun h_6 => ?_) (fun h_6 => ?_)
  · refine Y.bipush dX5_load_29 (by decide +kernel) ?_
    exact Y.iret dX5_load_31 rfl (hP _ _ (by first | exact ⟨Or.inl ⟨⟨by assumption, by assumption⟩, rfl⟩, f_23.em⟩ | exact ⟨Or.inr ⟨fun z => by first | exact absurd z.1 (by assumption) | exact absurd z.2 (by assumption), rfl⟩, EM.rf⟩))
  · refine Y.iload_n dX5_load_9 rfl ?_
    refine Y.cSI dX5_load_10 mkX5_isTwo csX5_177 (c_X5_isTwo (by omega)) (by omega) rfl rfl (Nat.le_of_ble_eq_true rfl) ?_
    refine Y.ifz_eq 29 dX5_load_13 (by decide) (fun h_13 => ?_) (fun h_13 => ?_)
    · refine Y.bipush dX5_load_29 (by decide +kernel) ?_
      exact Y.iret dX5_load_31 rfl (hP _ _ (by first | exact ⟨Or.inl ⟨⟨by assumption, by assumption⟩, rfl⟩, f_23.em⟩ | exact ⟨Or.inr ⟨fun z => by first | exact absurd z.1 (by assumption) | exact absurd z.2 (by assumption), rfl⟩, EM.rf⟩))
    · obtain ⟨s3, s4, s5, s6, s7, s8, s9⟩ := stp_f hp (by assumption)
      refine Y.aload_n dX5_load_16 rfl ?_
      refine Y.iconst dX5_load_17 ?_
      refine Y.iload_n dX5_load_18 rfl ?_
      refine Y.imul dX5_load_19 ?_
      refine Y.iload_n dX5_load_20 rfl ?_
      refine Y.iadd dX5_load_21 ?_
      rw [s8]
      refine Y.iload_n dX5_load_22 rfl ?_
      refine Y.callV dX5_load_23 mkX5_loadBy csX5_180 ob67 ⟨_, rfl, rfl⟩ (k_X5_loadBy ec hp (by omega) (by omega) (by omega)) (by omega) rfl rfl (Nat.le_of_ble_eq_true rfl) (fun r_23 s_23 p_23 => ?_)
      obtain ⟨rfl, f_23⟩ := p_23
      refine Y.goto 31 dX5_load_26 (by decide) ?_
      exact Y.iret dX5_load_31 rfl (hP _ _ (by first | exact ⟨Or.inl ⟨⟨by assumption, by assumption⟩, rfl⟩, f_23.em⟩ | exact ⟨Or.inr ⟨fun z => by first | exact absurd z.1 (by assumption) | exact absurd z.2 (by assumption), rfl⟩, EM.rf⟩))
set_option maxHeartbeats 1000000 in
theorem c_X5_infoBy {p : zP} (ec : mP σ = p) (hp : WP p) {x : Int} (h0 : 0 ≤ x) (h9 : x < 9) {k : Nat} (hk : k < 7) (hS : k = 5 → MS σ p) : YI 3 μX5_infoBy [.ref 67, .int (zi x), .int (zi (k : Int))] σ (infA p x k) σ := by
  refine YC.of2 (by decide) (Nat.le_of_ble_eq_true rfl) (fun d P hd hP => ?_)
  rcases (show k = 0 ∨ k = 1 ∨ k = 2 ∨ k = 3 ∨ k = 4 ∨ k = 5 ∨ k = 6 by omega) with rfl | rfl | rfl | rfl | rfl | rfl | rfl
  · refine Y.iload_n dX5_infoBy_0 rfl ?_
    refine Y.tout 58 dX5_infoBy_1 (by omega) (by omega) (by decide) ?_
    refine Y.aload_n dX5_infoBy_58 rfl ?_
    refine Y.iload_n dX5_infoBy_59 rfl ?_
    refine Y.iload_n dX5_infoBy_60 rfl ?_
    refine Y.cVI dX5_infoBy_61 mkX5_toldBy csX5_157 ob67 ⟨_, rfl, rfl⟩ (k_X5_toldBy ec (w := 0) h0 h9 (by omega)) (by omega) rfl rfl (Nat.le_of_ble_eq_true rfl) ?_
    exact Y.iret dX5_infoBy_64 rfl (hP _ _ ⟨zrI (by first | rfl | (rw [← ec]; rfl)), rfl⟩)
  · refine Y.iload_n dX5_infoBy_0 rfl ?_
    refine Y.tout 58 dX5_infoBy_1 (by omega) (by omega) (by decide) ?_
    refine Y.aload_n dX5_infoBy_58 rfl ?_
    refine Y.iload_n dX5_infoBy_59 rfl ?_
    refine Y.iload_n dX5_infoBy_60 rfl ?_
    refine Y.cVI dX5_infoBy_61 mkX5_toldBy csX5_157 ob67 ⟨_, rfl, rfl⟩ (k_X5_toldBy ec (w := 1) h0 h9 (by omega)) (by omega) rfl rfl (Nat.le_of_ble_eq_true rfl) ?_
    exact Y.iret dX5_infoBy_64 rfl (hP _ _ ⟨zrI (by first | rfl | (rw [← ec]; rfl)), rfl⟩)
  · refine Y.iload_n dX5_infoBy_0 rfl ?_
    refine Y.tout 58 dX5_infoBy_1 (by omega) (by omega) (by decide) ?_
    refine Y.aload_n dX5_infoBy_58 rfl ?_
    refine Y.iload_n dX5_infoBy_59 rfl ?_
    refine Y.iload_n dX5_infoBy_60 rfl ?_
    refine Y.cVI dX5_infoBy_61 mkX5_toldBy csX5_157 ob67 ⟨_, rfl, rfl⟩ (k_X5_toldBy ec (w := 2) h0 h9 (by omega)) (by omega) rfl rfl (Nat.le_of_ble_eq_true rfl) ?_
    exact Y.iret dX5_infoBy_64 rfl (hP _ _ ⟨zrI (by first | rfl | (rw [← ec]; rfl)), rfl⟩)
  · refine Y.iload_n dX5_infoBy_0 rfl ?_
    refine Y.tout 58 dX5_infoBy_1 (by omega) (by omega) (by decide) ?_
    refine Y.aload_n dX5_infoBy_58 rfl ?_
    refine Y.iload_n dX5_infoBy_59 rfl ?_
    refine Y.iload_n dX5_infoBy_60 rfl ?_
    refine Y.cVI dX5_infoBy_61 mkX5_toldBy csX5_157 ob67 ⟨_, rfl, rfl⟩ (k_X5_toldBy ec (w := 3) h0 h9 (by omega)) (by omega) rfl rfl (Nat.le_of_ble_eq_true rfl) ?_
    exact Y.iret dX5_infoBy_64 rfl (hP _ _ ⟨zrI (by first | rfl | (rw [← ec]; rfl)), rfl⟩)
  · refine Y.iload_n dX5_infoBy_0 rfl ?_
    refine Y.tin 28 dX5_infoBy_1 (by omega) (by omega) (by omega) rfl (by decide) ?_
    refine Y.aload_n dX5_infoBy_28 rfl ?_
    refine Y.iload_n dX5_infoBy_29 rfl ?_
    refine Y.cVI dX5_infoBy_30 mkX5_earliest csX5_183 ob67 ⟨_, rfl, rfl⟩ (k_X5_earliest ec hp h0 h9) (by omega) rfl rfl (Nat.le_of_ble_eq_true rfl) ?_
    exact Y.iret dX5_infoBy_33 rfl (hP _ _ ⟨zrI (by first | rfl | (rw [← ec]; rfl)), rfl⟩)
  · rcases hS rfl with ⟨h, e⟩ | ⟨r, l, h, e, e2, hA, hMV⟩
    · refine Y.iload_n dX5_infoBy_0 rfl ?_
      refine Y.tin 34 dX5_infoBy_1 (by omega) (by omega) (by omega) rfl (by decide) ?_
      refine Y.aload_n dX5_infoBy_34 rfl ?_
      refine Y.getf dX5_infoBy_35 flX5_232 ob67 rfl ?_
      refine Y.if_eq 50 dX5_infoBy_38 (by decide) (by omega) (fun h_38 => ?_) (fun h_38 => ?_)
      rotate_left
      · exfalso; omega
      refine Y.iconst dX5_infoBy_50 ?_
      exact Y.iret dX5_infoBy_51 rfl (hP _ _ ⟨zrI (by show _ = latA p x; rw [latA, sv_n h]), rfl⟩)
    · refine Y.iload_n dX5_infoBy_0 rfl ?_
      refine Y.tin 34 dX5_infoBy_1 (by omega) (by omega) (by omega) rfl (by decide) ?_
      refine Y.aload_n dX5_infoBy_34 rfl ?_
      refine Y.getf dX5_infoBy_35 flX5_232 ob67 rfl ?_
      refine Y.if_eq 50 dX5_infoBy_38 (by decide) (by omega) (fun h_38 => ?_) (fun h_38 => ?_)
      · exfalso; omega
      refine Y.aload_n dX5_infoBy_41 rfl ?_
      refine Y.getf dX5_infoBy_42 flX5_53 ob67 rfl ?_
      refine Y.iload_n dX5_infoBy_45 rfl ?_
      refine Y.iald dX5_infoBy_46 ia82 (by omega) (by omega) ?_
      refine Y.goto 51 dX5_infoBy_47 (by decide) ?_
      exact Y.iret dX5_infoBy_51 rfl (hP _ _ ⟨zrI (by show _ = latA p x; rw [latA, sv_s h]; exact hA.late h0 h9), rfl⟩)
  · refine Y.iload_n dX5_infoBy_0 rfl ?_
    refine Y.tin 52 dX5_infoBy_1 (by omega) (by omega) (by omega) rfl (by decide) ?_
    refine Y.aload_n dX5_infoBy_52 rfl ?_
    refine Y.iload_n dX5_infoBy_53 rfl ?_
    refine Y.cVI dX5_infoBy_54 mkX5_rivals csX5_243 ob67 ⟨_, rfl, rfl⟩ (k_X5_rivals ec hp h0 h9) (by omega) rfl rfl (Nat.le_of_ble_eq_true rfl) ?_
    exact Y.iret dX5_infoBy_57 rfl (hP _ _ ⟨zrI (by first | rfl | (rw [← ec]; rfl)), rfl⟩)
set_option maxHeartbeats 1000000 in
theorem c_X5_info {p : zP} (ec : mP σ = p) (hp : WP p) {i j : Int} (hi : zB i) (hj : zB j) {w : Int} (hw : zB w) : YC 10 μX5_info [.ref 67, .int (zi i), .int (zi j), .int (zi w)] σ (fun r s => ((∃ k : Nat, k < 7 ∧ w = (k : Int) ∧ stp p i j ∧ r = some (.int (zi (infA p (i * 3 + j) k)))) ∨ (¬ (stp p i j ∧ 0 ≤ w ∧ w ≤ 6) ∧ r = some (.int (zi (-2))))) ∧ EM σ s) := by
  refine YC.of2 (by decide) (Nat.le_of_ble_eq_true rfl) (fun d P hd hP => ?_)
  refine Y.aload_n dX5_info_0 rfl ?_
  refine Y.iload_n dX5_info_1 rfl ?_
  refine Y.iload_n dX5_info_2 rfl ?_
  refine Y.cVI dX5_info_3 mkX5_isStep csX5_154 ob67 ⟨_, rfl, rfl⟩ (k_X5_isStep ec hp hi hj) (by omega) rfl rfl (Nat.le_of_ble_eq_true rfl) ?_
  refine Y.ifz_eq 21 dX5_info_6 (by decide) (fun h_6 => ?_) (fun h_6 => ?_)
  · refine Y.bipush dX5_info_21 (by decide +kernel) ?_
    exact Y.iret dX5_info_23 rfl (hP _ _ ⟨Or.inr ⟨fun z => by first | exact absurd z.1 (by assumption) | exact absurd z.2 (by assumption), rfl⟩, EM.rf⟩)
  · refine Y.iload_n dX5_info_9 rfl ?_
    refine Y.i2l dX5_info_10 (by omega) ?_
    refine Y.lconst 0 dX5_info_11 rfl ?_
    refine Y.ldc2 (6) dX5_info_12 kX5_246 ?_
    refine Y.cSI dX5_info_15 mkX5_in csX5_89 (c_X5_in (by omega) (by omega) (by omega)) (by omega) rfl rfl (Nat.le_of_ble_eq_true rfl) ?_
    refine Y.ifz_ne 24 dX5_info_18 (by decide) (fun h_18 => ?_) (fun h_18 => ?_)
    · obtain ⟨s3, s4, s5, s6, s7, s8, s9⟩ := stp_f hp (by assumption)
      obtain ⟨k, rfl⟩ : ∃ k : Nat, w = (k : Int) := ⟨w.toNat, by omega⟩
      refine Y.aload_n dX5_info_24 rfl ?_
      refine Y.callV dX5_info_25 mkX5_settles csX5_248 ob67 ⟨_, rfl, rfl⟩ (c_X5_settles ec hp) (by omega) rfl rfl (Nat.le_of_ble_eq_true rfl) (fun r_25 s_25 p_25 => ?_)
      obtain ⟨rfl, f_25, k_25, g_25⟩ := p_25
      have ec2 := f_25.mp.trans ec
      have hE := f_25.em
      refine Y.aload_n dX5_info_28 rfl ?_
      refine Y.iconst dX5_info_29 ?_
      refine Y.iload_n dX5_info_30 rfl ?_
      refine Y.imul dX5_info_31 ?_
      refine Y.iload_n dX5_info_32 rfl ?_
      refine Y.iadd dX5_info_33 ?_
      rw [s8]
      refine Y.iload_n dX5_info_34 rfl ?_
      refine Y.cVI dX5_info_35 mkX5_infoBy csX5_251 ob67 ⟨_, rfl, rfl⟩ (c_X5_infoBy ec2 hp (by omega) (by omega) (by omega) (fun _ => g_25)) (by omega) rfl rfl (Nat.le_of_ble_eq_true rfl) ?_
      exact Y.iret dX5_info_38 rfl (hP _ _ ⟨Or.inl ⟨k, by omega, rfl, by assumption, rfl⟩, hE⟩)
    · refine Y.bipush dX5_info_21 (by decide +kernel) ?_
      exact Y.iret dX5_info_23 rfl (hP _ _ ⟨Or.inr ⟨fun z => by first | exact absurd z.1 (by assumption) | exact absurd z.2 (by assumption), rfl⟩, EM.rf⟩)
set_option maxHeartbeats 1000000 in
theorem c_X5_bound {p : zP} (ec : mP σ = p) (hp : WP p) {i j : Int} (hi : zB i) (hj : zB j) : YC 10 μX5_bound [.ref 67, .int (zi i), .int (zi j)] σ (fun r s => RQ (stp p i j) (bndA p (i * 3 + j)) r ∧ EM σ s) := by
  refine YC.of2 (by decide) (Nat.le_of_ble_eq_true rfl) (fun d P hd hP => ?_)
  refine Y.aload_n dX5_bound_0 rfl ?_
  refine Y.callV dX5_bound_1 mkX5_settles csX5_248 ob67 ⟨_, rfl, rfl⟩ (c_X5_settles ec hp) (by omega) rfl rfl (Nat.le_of_ble_eq_true rfl) (fun r_1 s_1 p_1 => ?_)
  obtain ⟨rfl, f_1, k_1, g_1⟩ := p_1
  have ec2 := f_1.mp.trans ec
  have hE := f_1.em
  refine Y.aload_n dX5_bound_4 rfl ?_
  refine Y.iload_n dX5_bound_5 rfl ?_
  refine Y.iload_n dX5_bound_6 rfl ?_
  refine Y.cVI dX5_bound_7 mkX5_isStep csX5_154 ob67 ⟨_, rfl, rfl⟩ (k_X5_isStep ec2 hp hi hj) (by omega) rfl rfl (Nat.le_of_ble_eq_true rfl) ?_
  refine Y.ifz_eq 25 dX5_bound_10 (by decide) (fun h_10 => ?_) (fun h_10 => ?_)
  · refine Y.bipush dX5_bound_25 (by decide +kernel) ?_
    exact Y.iret dX5_bound_27 rfl (hP _ _ (by first | exact ⟨Or.inl ⟨by assumption, rfl⟩, hE⟩ | exact ⟨Or.inr ⟨by assumption, rfl⟩, hE⟩))
  · obtain ⟨s3, s4, s5, s6, s7, s8, s9⟩ := stp_f hp (by assumption)
    refine Y.aload_n dX5_bound_13 rfl ?_
    refine Y.iconst dX5_bound_14 ?_
    refine Y.iload_n dX5_bound_15 rfl ?_
    refine Y.imul dX5_bound_16 ?_
    refine Y.iload_n dX5_bound_17 rfl ?_
    refine Y.iadd dX5_bound_18 ?_
    rw [s8]
    refine Y.cVI dX5_bound_19 mkX5_boundBy csX5_254 ob67 ⟨_, rfl, rfl⟩ (c_X5_boundBy ec2 hp g_1 (by omega) (by omega) s9) (by omega) rfl rfl (Nat.le_of_ble_eq_true rfl) ?_
    refine Y.goto 27 dX5_bound_22 (by decide) ?_
    exact Y.iret dX5_bound_27 rfl (hP _ _ (by first | exact ⟨Or.inl ⟨by assumption, rfl⟩, hE⟩ | exact ⟨Or.inr ⟨by assumption, rfl⟩, hE⟩))
set_option maxHeartbeats 1000000 in
theorem c_X5_searched {p : zP} (ec : mP σ = p) (hp : WP p) {i j : Int} (hi : zB i) (hj : zB j) : YC 10 μX5_searched [.ref 67, .int (zi i), .int (zi j)] σ (fun r s => RQ (stp p i j) (srcA p (i * 3 + j)) r ∧ EM σ s) := by
  refine YC.of2 (by decide) (Nat.le_of_ble_eq_true rfl) (fun d P hd hP => ?_)
  refine Y.aload_n dX5_searched_0 rfl ?_
  refine Y.callV dX5_searched_1 mkX5_settles csX5_248 ob67 ⟨_, rfl, rfl⟩ (c_X5_settles ec hp) (by omega) rfl rfl (Nat.le_of_ble_eq_true rfl) (fun r_1 s_1 p_1 => ?_)
  obtain ⟨rfl, f_1, k_1, g_1⟩ := p_1
  have ec2 := f_1.mp.trans ec
  have hE := f_1.em
  refine Y.aload_n dX5_searched_4 rfl ?_
  refine Y.iload_n dX5_searched_5 rfl ?_
  refine Y.iload_n dX5_searched_6 rfl ?_
  refine Y.cVI dX5_searched_7 mkX5_isStep csX5_154 ob67 ⟨_, rfl, rfl⟩ (k_X5_isStep ec2 hp hi hj) (by omega) rfl rfl (Nat.le_of_ble_eq_true rfl) ?_
  refine Y.ifz_eq 25 dX5_searched_10 (by decide) (fun h_10 => ?_) (fun h_10 => ?_)
  · refine Y.bipush dX5_searched_25 (by decide +kernel) ?_
    exact Y.iret dX5_searched_27 rfl (hP _ _ (by first | exact ⟨Or.inl ⟨by assumption, rfl⟩, hE.tr f_19.em⟩ | exact ⟨Or.inr ⟨by assumption, rfl⟩, hE⟩))
  · obtain ⟨s3, s4, s5, s6, s7, s8, s9⟩ := stp_f hp (by assumption)
    refine Y.aload_n dX5_searched_13 rfl ?_
    refine Y.iconst dX5_searched_14 ?_
    refine Y.iload_n dX5_searched_15 rfl ?_
    refine Y.imul dX5_searched_16 ?_
    refine Y.iload_n dX5_searched_17 rfl ?_
    refine Y.iadd dX5_searched_18 ?_
    rw [s8]
    refine Y.callV dX5_searched_19 mkX5_searchedBy csX5_260 ob67 ⟨_, rfl, rfl⟩ (c_X5_searchedBy ec2 hp g_1 k_1 (by omega) (by omega) s9) (by omega) rfl rfl (Nat.le_of_ble_eq_true rfl) (fun r_19 s_19 p_19 => ?_)
    obtain ⟨rfl, f_19, g_19⟩ := p_19
    refine Y.goto 27 dX5_searched_22 (by decide) ?_
    exact Y.iret dX5_searched_27 rfl (hP _ _ (by first | exact ⟨Or.inl ⟨by assumption, rfl⟩, hE.tr f_19.em⟩ | exact ⟨Or.inr ⟨by assumption, rfl⟩, hE⟩))
set_option maxHeartbeats 1000000 in
theorem c_X5_quick {p : zP} (ec : mP σ = p) (hp : WP p) {i j : Int} (hi : zB i) (hj : zB j) : YC 10 μX5_quick [.ref 67, .int (zi i), .int (zi j)] σ (fun r s => RQ (stp p i j) (qckA p (i * 3 + j)) r ∧ EM σ s) := by
  refine YC.of2 (by decide) (Nat.le_of_ble_eq_true rfl) (fun d P hd hP => ?_)
  refine Y.aload_n dX5_quick_0 rfl ?_
  refine Y.callV dX5_quick_1 mkX5_settles csX5_248 ob67 ⟨_, rfl, rfl⟩ (c_X5_settles ec hp) (by omega) rfl rfl (Nat.le_of_ble_eq_true rfl) (fun r_1 s_1 p_1 => ?_)
  obtain ⟨rfl, f_1, k_1, g_1⟩ := p_1
  have ec2 := f_1.mp.trans ec
  have hE := f_1.em
  refine Y.aload_n dX5_quick_4 rfl ?_
  refine Y.iload_n dX5_quick_5 rfl ?_
  refine Y.iload_n dX5_quick_6 rfl ?_
  refine Y.cVI dX5_quick_7 mkX5_isStep csX5_154 ob67 ⟨_, rfl, rfl⟩ (k_X5_isStep ec2 hp hi hj) (by omega) rfl rfl (Nat.le_of_ble_eq_true rfl) ?_
  refine Y.ifz_eq 25 dX5_quick_10 (by decide) (fun h_10 => ?_) (fun h_10 => ?_)
  · refine Y.bipush dX5_quick_25 (by decide +kernel) ?_
    exact Y.iret dX5_quick_27 rfl (hP _ _ (by first | exact ⟨Or.inl ⟨by assumption, rfl⟩, hE⟩ | exact ⟨Or.inr ⟨by assumption, rfl⟩, hE⟩))
  · obtain ⟨s3, s4, s5, s6, s7, s8, s9⟩ := stp_f hp (by assumption)
    refine Y.aload_n dX5_quick_13 rfl ?_
    refine Y.iconst dX5_quick_14 ?_
    refine Y.iload_n dX5_quick_15 rfl ?_
    refine Y.imul dX5_quick_16 ?_
    refine Y.iload_n dX5_quick_17 rfl ?_
    refine Y.iadd dX5_quick_18 ?_
    rw [s8]
    refine Y.cVI dX5_quick_19 mkX5_quickBy csX5_269 ob67 ⟨_, rfl, rfl⟩ (c_X5_quickBy ec2 hp g_1 (by omega) (by omega) s9) (by omega) rfl rfl (Nat.le_of_ble_eq_true rfl) ?_
    refine Y.goto 27 dX5_quick_22 (by decide) ?_
    exact Y.iret dX5_quick_27 rfl (hP _ _ (by first | exact ⟨Or.inl ⟨by assumption, rfl⟩, hE⟩ | exact ⟨Or.inr ⟨by assumption, rfl⟩, hE⟩))
set_option maxHeartbeats 1000000 in
theorem c_X5_rounds {p : zP} (ec : mP σ = p) (hp : WP p) : YC 10 μX5_rounds [.ref 67] σ (fun r s => r = some (.int (zi (rndA p))) ∧ EM σ s) := by
  refine YC.of2 (by decide) (Nat.le_of_ble_eq_true rfl) (fun d P hd hP => ?_)
  refine Y.aload_n dX5_rounds_0 rfl ?_
  refine Y.callV dX5_rounds_1 mkX5_settles csX5_248 ob67 ⟨_, rfl, rfl⟩ (c_X5_settles ec hp) (by omega) rfl rfl (Nat.le_of_ble_eq_true rfl) (fun r_1 s_1 p_1 => ?_)
  obtain ⟨rfl, f_1, k_1, g_1⟩ := p_1
  have ec2 := f_1.mp.trans ec
  have hE := f_1.em
  refine Y.aload_n dX5_rounds_4 rfl ?_
  refine Y.cVI dX5_rounds_5 mkX5_roundsNow csX5_272 ob67 ⟨_, rfl, rfl⟩ (c_X5_roundsNow ec2 hp g_1) (by omega) rfl rfl (Nat.le_of_ble_eq_true rfl) ?_
  exact Y.iret dX5_rounds_8 rfl (hP _ _ ⟨rfl, hE⟩)
set_option maxHeartbeats 1000000 in
theorem c_X5_meets {p : zP} (ec : mP σ = p) (hp : WP p) : YC 10 μX5_meets [.ref 67] σ (fun r s => r = some (.int (zi (bts (metP p)))) ∧ EM σ s) := by
  refine YC.of2 (by decide) (Nat.le_of_ble_eq_true rfl) (fun d P hd hP => ?_)
  refine Y.aload_n dX5_meets_0 rfl ?_
  refine Y.callV dX5_meets_1 mkX5_settles csX5_248 ob67 ⟨_, rfl, rfl⟩ (c_X5_settles ec hp) (by omega) rfl rfl (Nat.le_of_ble_eq_true rfl) (fun r_1 s_1 p_1 => ?_)
  obtain ⟨rfl, f_1, k_1, g_1⟩ := p_1
  have ec2 := f_1.mp.trans ec
  have hE := f_1.em
  refine Y.aload_n dX5_meets_4 rfl ?_
  refine Y.cVI dX5_meets_5 mkX5_meetsNow csX5_285 ob67 ⟨_, rfl, rfl⟩ (c_X5_meetsNow ec2 hp g_1) (by omega) rfl rfl (Nat.le_of_ble_eq_true rfl) ?_
  exact Y.iret dX5_meets_8 rfl (hP _ _ ⟨rfl, hE⟩)
set_option maxHeartbeats 1000000 in
theorem c_X5_worst {p : zP} (ec : mP σ = p) (hp : WP p) {i j : Int} (hi : zB i) (hj : zB j) {w : Int} (hw : zB w) : YC 10 μX5_worst [.ref 67, .int (zi i), .int (zi j), .int (zi w)] σ (fun r s => RQ (stp p i j ∧ 0 ≤ w ∧ w ≤ 2) (wrsA p (i * 3 + j) w) r ∧ EM σ s) := by
  refine YC.of2 (by decide) (Nat.le_of_ble_eq_true rfl) (fun d P hd hP => ?_)
  refine Y.aload_n dX5_worst_0 rfl ?_
  refine Y.callV dX5_worst_1 mkX5_settles csX5_248 ob67 ⟨_, rfl, rfl⟩ (c_X5_settles ec hp) (by omega) rfl rfl (Nat.le_of_ble_eq_true rfl) (fun r_1 s_1 p_1 => ?_)
  obtain ⟨rfl, f_1, k_1, g_1⟩ := p_1
  have ec2 := f_1.mp.trans ec
  have hE := f_1.em
  refine Y.aload_n dX5_worst_4 rfl ?_
  refine Y.iload_n dX5_worst_5 rfl ?_
  refine Y.iload_n dX5_worst_6 rfl ?_
  refine Y.cVI dX5_worst_7 mkX5_isStep csX5_154 ob67 ⟨_, rfl, rfl⟩ (k_X5_isStep ec2 hp hi hj) (by omega) rfl rfl (Nat.le_of_ble_eq_true rfl) ?_
  refine Y.ifz_eq 38 dX5_worst_10 (by decide) (fun h_10 => ?_) (fun h_10 => ?_)
  · refine Y.bipush dX5_worst_38 (by decide +kernel) ?_
    exact Y.iret dX5_worst_40 rfl (hP _ _ (by first | exact ⟨Or.inl ⟨⟨by assumption, by assumption⟩, rfl⟩, hE⟩ | exact ⟨Or.inr ⟨fun z => by first | exact absurd z.1 (by assumption) | exact absurd z.2 (by assumption), rfl⟩, hE⟩))
  · refine Y.iload_n dX5_worst_13 rfl ?_
    refine Y.i2l dX5_worst_14 (by omega) ?_
    refine Y.lconst 0 dX5_worst_15 rfl ?_
    refine Y.ldc2 (2) dX5_worst_16 kX5_105 ?_
    refine Y.cSI dX5_worst_19 mkX5_in csX5_89 (c_X5_in (by omega) (by omega) (by omega)) (by omega) rfl rfl (Nat.le_of_ble_eq_true rfl) ?_
    refine Y.ifz_eq 38 dX5_worst_22 (by decide) (fun h_22 => ?_) (fun h_22 => ?_)
    · refine Y.bipush dX5_worst_38 (by decide +kernel) ?_
      exact Y.iret dX5_worst_40 rfl (hP _ _ (by first | exact ⟨Or.inl ⟨⟨by assumption, by assumption⟩, rfl⟩, hE⟩ | exact ⟨Or.inr ⟨fun z => by first | exact absurd z.1 (by assumption) | exact absurd z.2 (by assumption), rfl⟩, hE⟩))
    · obtain ⟨s3, s4, s5, s6, s7, s8, s9⟩ := stp_f hp (by assumption)
      refine Y.aload_n dX5_worst_25 rfl ?_
      refine Y.iconst dX5_worst_26 ?_
      refine Y.iload_n dX5_worst_27 rfl ?_
      refine Y.imul dX5_worst_28 ?_
      refine Y.iload_n dX5_worst_29 rfl ?_
      refine Y.iadd dX5_worst_30 ?_
      rw [s8]
      refine Y.iload_n dX5_worst_31 rfl ?_
      refine Y.cVI dX5_worst_32 mkX5_worstBy csX5_276 ob67 ⟨_, rfl, rfl⟩ (c_X5_worstBy ec2 hp g_1 (by omega) (by omega) s9 hw) (by omega) rfl rfl (Nat.le_of_ble_eq_true rfl) ?_
      refine Y.goto 40 dX5_worst_35 (by decide) ?_
      exact Y.iret dX5_worst_40 rfl (hP _ _ (by first | exact ⟨Or.inl ⟨⟨by assumption, by assumption⟩, rfl⟩, hE⟩ | exact ⟨Or.inr ⟨fun z => by first | exact absurd z.1 (by assumption) | exact absurd z.2 (by assumption), rfl⟩, hE⟩))
end ZL1
