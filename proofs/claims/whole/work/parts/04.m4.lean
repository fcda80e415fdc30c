section ZM4
variable {σ : zS}
/-- all ints as they were, and all longs but the model's two loads -/
def zF2 (σ s : zS) : Prop := s.1 = σ.1 ∧ ∀ (c : Nat) (i : Int), ¬ (c = 67 ∧ (i = 15 ∨ i = 16)) → s.2 c i = σ.2 c i
theorem zF2.rf {σ : zS} : zF2 σ σ := ⟨rfl, fun _ _ _ => rfl⟩
theorem zF2.up {σ s : zS} {i v : Int} (h : zF2 σ s) (hi : i = 15 ∨ i = 16) : zF2 σ (zul s 67 i v) := by
  refine ⟨h.1, fun c j hj => ?_⟩
  by_cases hc : c = 67
  · subst hc
    rw [zul_ne (fun q => hj ⟨rfl, by omega⟩)]
    exact h.2 67 j hj
  · rw [zul_nc hc]
    exact h.2 c j hj
theorem zF2.tr {σ s u : zS} (h : zF2 σ s) (h2 : zF2 s u) : zF2 σ u := ⟨h2.1.trans h.1, fun c i q => (h2.2 c i q).trans (h.2 c i q)⟩
theorem mP_of {σ s : zS} (h : s.1 = σ.1) : mP s = mP σ := by unfold mP; rw [h]
theorem cP_of {σ s : zS} (h : s.1 = σ.1) : cP s = cP σ := by unfold cP; rw [h]
theorem gd_dvd (p : zP) (x : Int) : (∃ a, la p x = a * gd p x) ∧ ∃ b, lb p = b * gd p x := by
  obtain ⟨a, ha⟩ := Int.gcd_dvd_left (la p x) (lb p)
  obtain ⟨b, hb⟩ := Int.gcd_dvd_right (la p x) (lb p)
  exact ⟨⟨a, by unfold gd; rw [Int.mul_comm]; exact ha⟩, ⟨b, by unfold gd; rw [Int.mul_comm]; exact hb⟩⟩
theorem ovl_g {p : zP} (hp : WP p) (x : Int) : lb p / gd p x < la p x / gd p x ↔ ovl p x := by
  obtain ⟨⟨a, ha⟩, b, hb⟩ := gd_dvd p x
  have hg := gd_b hp x
  have e1 : la p x / gd p x = a := by rw [ha]; exact Int.mul_ediv_cancel a (by omega)
  have e2 : lb p / gd p x = b := by rw [hb]; exact Int.mul_ediv_cancel b (by omega)
  rw [e1, e2]
  unfold ovl
  constructor
  · intro h
    rw [ha, hb]
    exact Int.mul_lt_mul_of_pos_right h (by omega)
  · intro h
    rw [ha, hb] at h
    exact Int.lt_of_mul_lt_mul_right h (by omega)
set_option maxHeartbeats 4000000 in
theorem c_X5_loads (hp : WP (mP σ)) {x : Int} (h0 : 0 ≤ x) (h9 : x < 9) : YC 2 μX5_loads [.ref 67, .int (zi x)] σ (fun r s => r = none ∧ zF2 σ s ∧ s.2 67 15 = la (mP σ) x / gd (mP σ) x ∧ s.2 67 16 = lb (mP σ) / gd (mP σ) x) := by
  refine YC.of2 (by decide) (Nat.le_of_ble_eq_true rfl) (fun d P hd hP => ?_)
  have hl := lb_b hp
  have ha := la_b hp x
  have hg := gd_b hp x
  have ht0 := hp.per (i := 0) (by omega) (by omega)
  have ht1 := hp.per (i := 1) (by omega) (by omega)
  have ht2 := hp.per (i := 2) (by omega) (by omega)
  simp only [mp0, mp1, mp2, mp3, mp4, mp5, mp6, mp7, mp8, mp9] at ht0 ht1 ht2
  have h55 := mul_b ht0.1 ht0.2 ht1.1 ht1.2 (by omega) (by omega)
  refine Y.aload_n dX5_loads_0 rfl ?_
  refine Y.aload_n dX5_loads_1 rfl ?_
  refine Y.getf dX5_loads_2 flX5_23 ob67 rfl ?_
  refine Y.iconst dX5_loads_5 ?_
  refine Y.iald dX5_loads_6 ia72 (by omega) (by omega) ?_
  refine Y.i2l dX5_loads_7 (by omega) ?_
  refine Y.aload_n dX5_loads_8 rfl ?_
  refine Y.getf dX5_loads_9 flX5_23 ob67 rfl ?_
  refine Y.iconst dX5_loads_12 ?_
  refine Y.iald dX5_loads_13 ia72 (by omega) (by omega) ?_
  refine Y.i2l dX5_loads_14 (by omega) ?_
  refine Y.lmul dX5_loads_15 ?_
  refine Y.aload_n dX5_loads_16 rfl ?_
  refine Y.getf dX5_loads_17 flX5_23 ob67 rfl ?_
  refine Y.iconst dX5_loads_20 ?_
  refine Y.iald dX5_loads_21 ia72 (by omega) (by omega) ?_
  refine Y.i2l dX5_loads_22 (by omega) ?_
  refine Y.lmul dX5_loads_23 ?_
  refine Y.putl 16 dX5_loads_24 fpX5_166 ob67 ol67_16 (Nat.le_of_ble_eq_true rfl) rfl ?_
  refine Y.aload_n dX5_loads_27 rfl ?_
  refine Y.lconst 0 dX5_loads_28 rfl ?_
  refine Y.putl 15 dX5_loads_29 fpX5_170 ob67 ol67_15 (Nat.le_of_ble_eq_true rfl) rfl ?_
  refine Y.iconst dX5_loads_32 ?_
  refine Y.istore_n dX5_loads_33 (by decide) rfl ?_
  refine zw2 (fun t y => (0 ≤ y ∧ y ≤ 9 ∧ t.2 67 15 = sm (laf (mP σ) x) 0 (y - 0).toNat ∧ t.2 67 16 = lb (mP σ) ∧ zF2 σ t)) (fun t y => Y d μX5_loads 34 [some (.ref 67), some (.int (zi x)), some (.int (zi y)), none, none, none, none, none, none] [] t P) (fun t y => (9 - y).toNat) ?_ _ _ ⟨by omega, by omega, by rw [zul_eq, sm_0], by rw [zul_ne (by omega), zul_eq]; rfl, (zF2.rf.up (Or.inr rfl)).up (Or.inl rfl)⟩
  intro t y hI ih
  obtain ⟨i1, i2, i3, i4, i5⟩ := hI
  refine Y.iload_n dX5_loads_34 rfl ?_
  refine Y.bipush dX5_loads_35 (by decide +kernel) ?_
  refine Y.icmp_ge 95 dX5_loads_37 (by decide) (by omega) (by omega) (fun h_37 => ?_) (fun h_37 => ?_)
  · refine Y.aload_n dX5_loads_95 rfl ?_
    refine Y.getf dX5_loads_96 flX5_170 ob67 rfl ?_
    refine Y.lstore_n dX5_loads_99 (by decide) rfl ?_
    refine Y.aload_n dX5_loads_100 rfl ?_
    refine Y.getf dX5_loads_101 flX5_166 ob67 rfl ?_
    refine Y.lstore dX5_loads_104 (by decide) rfl ?_
    refine Y.iconst dX5_loads_106 ?_
    refine Y.istore dX5_loads_107 (by decide) rfl ?_
    have y9 : y = 9 := by omega
    subst y9
    have e15 : t.2 67 15 = la (mP σ) x := i3
    refine zw3 (fun a2 b2 i => (0 ≤ i ∧ i ≤ 100 ∧ 0 ≤ a2 ∧ a2 < 2147483648 ∧ 0 ≤ b2 ∧ b2 < 2147483648 ∧ eu (100 - i).toNat a2 b2 = gd (mP σ) x)) (fun a2 b2 i => Y d μX5_loads 109 [some (.ref 67), some (.int (zi x)), some (.long (zl a2)), none, some (.long (zl b2)), none, some (.int (zi i)), none, none] [] t P) (fun a2 b2 i => (100 - i).toNat) ?_ _ _ _ ⟨by omega, by omega, by omega, by omega, by omega, by omega, by rw [e15, i4]; exact eu_G (n := 99) (by omega) (by omega) (by omega) (by omega)⟩
    intro a2 b2 i hI ih
    obtain ⟨j1, j2, j3, j4, j5, j6, j7⟩ := hI
    refine Y.iload dX5_loads_109 rfl ?_
    refine Y.bipush dX5_loads_111 (by decide +kernel) ?_
    refine Y.icmp_ge 142 dX5_loads_113 (by decide) (by omega) (by omega) (fun h_113 => ?_) (fun h_113 => ?_)
    · have e9 : a2 = gd (mP σ) x := by
        have hz : i = 100 ∨ b2 = 0 := by omega
        rcases hz with rfl | rfl
        · exact j7
        · generalize (100 - i).toNat = k at j7
          cases k with
          | zero => exact j7
          | succ k => exact j7
      refine Y.aload_n dX5_loads_142 rfl ?_
      refine Y.dup dX5_loads_143 rfl ?_
      refine Y.getf dX5_loads_144 flX5_170 ob67 rfl ?_
      refine Y.lload_n dX5_loads_147 rfl ?_
      refine Y.ldivp dX5_loads_148 (by omega) (by omega) (by omega) (by omega) ?_
      refine Y.putl 15 dX5_loads_149 fpX5_170 ob67 ol67_15 (Nat.le_of_ble_eq_true rfl) rfl ?_
      refine Y.aload_n dX5_loads_152 rfl ?_
      refine Y.dup dX5_loads_153 rfl ?_
      refine Y.getf dX5_loads_154 flX5_166 ob67 rfl ?_
      refine Y.lload_n dX5_loads_157 rfl ?_
      have e17 : (zul t 67 15 (t.2 67 15 / a2)).2 67 16 = lb (mP σ) := by rw [zul_ne (by omega)]; exact i4
      refine Y.ldivp dX5_loads_158 (by omega) (by omega) (by omega) (by omega) ?_
      refine Y.putl 16 dX5_loads_159 fpX5_166 ob67 ol67_16 (Nat.le_of_ble_eq_true rfl) rfl ?_
      exact Y.vret dX5_loads_162 rfl (hP _ _ ⟨rfl, (i5.up (Or.inl rfl)).up (Or.inr rfl), by rw [zul_ne (by omega), zul_eq, e9, e15], by rw [zul_eq, e9, zul_ne (by omega), i4]⟩)
    · refine Y.lload dX5_loads_116 rfl ?_
      refine Y.lconst 0 dX5_loads_118 rfl ?_
      refine Y.lcmp dX5_loads_119 (by omega) (by omega) (fun c_119 bc_119 lc_119 ec_119 => ?_)
      refine Y.if_eq 142 dX5_loads_120 (by decide) (by omega) (fun h_120 => ?_) (fun h_120 => ?_)
      · have e9 : a2 = gd (mP σ) x := by
          have hz : i = 100 ∨ b2 = 0 := by omega
          rcases hz with rfl | rfl
          · exact j7
          · generalize (100 - i).toNat = k at j7
            cases k with
            | zero => exact j7
            | succ k => exact j7
        refine Y.aload_n dX5_loads_142 rfl ?_
        refine Y.dup dX5_loads_143 rfl ?_
        refine Y.getf dX5_loads_144 flX5_170 ob67 rfl ?_
        refine Y.lload_n dX5_loads_147 rfl ?_
        refine Y.ldivp dX5_loads_148 (by omega) (by omega) (by omega) (by omega) ?_
        refine Y.putl 15 dX5_loads_149 fpX5_170 ob67 ol67_15 (Nat.le_of_ble_eq_true rfl) rfl ?_
        refine Y.aload_n dX5_loads_152 rfl ?_
        refine Y.dup dX5_loads_153 rfl ?_
        refine Y.getf dX5_loads_154 flX5_166 ob67 rfl ?_
        refine Y.lload_n dX5_loads_157 rfl ?_
        have e17 : (zul t 67 15 (t.2 67 15 / a2)).2 67 16 = lb (mP σ) := by rw [zul_ne (by omega)]; exact i4
        refine Y.ldivp dX5_loads_158 (by omega) (by omega) (by omega) (by omega) ?_
        refine Y.putl 16 dX5_loads_159 fpX5_166 ob67 ol67_16 (Nat.le_of_ble_eq_true rfl) rfl ?_
        exact Y.vret dX5_loads_162 rfl (hP _ _ ⟨rfl, (i5.up (Or.inl rfl)).up (Or.inr rfl), by rw [zul_ne (by omega), zul_eq, e9, e15], by rw [zul_eq, e9, zul_ne (by omega), i4]⟩)
      · refine Y.lload_n dX5_loads_123 rfl ?_
        refine Y.lload dX5_loads_124 rfl ?_
        refine Y.lremp dX5_loads_126 (by omega) (by omega) (by omega) (by omega) ?_
        refine Y.lstore dX5_loads_127 (by decide) rfl ?_
        refine Y.lload dX5_loads_129 rfl ?_
        refine Y.lstore_n dX5_loads_131 (by decide) rfl ?_
        refine Y.lload dX5_loads_132 rfl ?_
        refine Y.lstore dX5_loads_134 (by decide) rfl ?_
        refine Y.iinc dX5_loads_136 rfl (by decide) rfl ?_
        refine Y.goto 109 dX5_loads_139 (by decide) ?_
        have e1 : (100 - i).toNat = (100 - (i + 1)).toNat + 1 := by omega
        have hm := Int.emod_nonneg a2 (show b2 ≠ 0 by omega)
        have hm2 := Int.emod_lt_of_pos a2 (show 0 < b2 by omega)
        rw [e1] at j7
        have i8 : (if b2 = 0 then a2 else eu (100 - (i + 1)).toNat b2 (a2 % b2)) = gd (mP σ) x := j7
        rw [if_neg (by omega)] at i8
        exact Y.sub (zs_s (zs_s (zs_s (zs_n (zs_s (zs_n (zs_s (zs_n (zs_n zs_0))))))))) (ih _ _ _ ⟨by omega, by omega, by omega, by omega, by omega, by omega, i8⟩ (by omega))
  · have em := mP_of i5.1
    have hpt : WP (mP t) := by rw [em]; exact hp
    have ht := hpt.per (i := y / 3) (by omega) (by omega)
    have hc := (hpt.2.1 y (by omega) (by omega)).2.1
    simp only [mp0, mp1, mp2, mp3, mp4, mp5, mp6, mp7, mp8, mp9] at ht hc
    refine Y.aload_n dX5_loads_40 rfl ?_
    refine Y.dup dX5_loads_41 rfl ?_
    refine Y.getf dX5_loads_42 flX5_170 ob67 rfl ?_
    refine Y.iload_n dX5_loads_45 rfl ?_
    refine Y.iload_n dX5_loads_46 rfl ?_
    refine Y.icmp_eq 59 dX5_loads_47 (by decide) (by omega) (by omega) (fun h_47 => ?_) (fun h_47 => ?_)
    · refine Y.aload_n dX5_loads_59 rfl ?_
      refine Y.getf dX5_loads_60 flX5_44 ob67 rfl ?_
      refine Y.iload_n dX5_loads_63 rfl ?_
      refine Y.iald dX5_loads_64 ia79 (by omega) (by omega) ?_
      refine Y.i2l dX5_loads_65 (by omega) ?_
      refine Y.aload_n dX5_loads_66 rfl ?_
      refine Y.getf dX5_loads_67 flX5_166 ob67 rfl ?_
      refine Y.aload_n dX5_loads_70 rfl ?_
      refine Y.getf dX5_loads_71 flX5_23 ob67 rfl ?_
      refine Y.iload_n dX5_loads_74 rfl ?_
      refine Y.iconst dX5_loads_75 ?_
      refine Y.idivp dX5_loads_76 (by omega) (by omega) (by omega) (by omega) ?_
      refine Y.iald dX5_loads_77 ia72 (by omega) (by omega) ?_
      refine Y.i2l dX5_loads_78 (by omega) ?_
      refine Y.ldivp dX5_loads_79 (by omega) (by omega) (by omega) (by omega) ?_
      refine Y.lmul dX5_loads_80 ?_
      refine Y.goto 85 dX5_loads_81 (by decide) ?_
      refine Y.ladd dX5_loads_85 ?_
      refine Y.putl 15 dX5_loads_86 fpX5_170 ob67 ol67_15 (Nat.le_of_ble_eq_true rfl) rfl ?_
      refine Y.iinc dX5_loads_89 rfl (by decide) rfl ?_
      refine Y.goto 34 dX5_loads_92 (by decide) ?_
      refine ih _ _ ⟨by omega, by omega, ?_, by rw [zul_ne (by omega)]; exact i4, i5.up (Or.inl rfl)⟩ (by omega)
      rw [zul_eq, sm_s (by omega), ← i3]
      try rw [i4]
      rw [← em]
      unfold laf
      first
        | (rw [if_pos (Or.inl (by omega))]; rfl)
        | (rw [if_pos (Or.inr (by assumption))]; rfl)
        | (rw [if_neg (fun q => q.elim (fun q => by omega) (by assumption))])
    · refine Y.aload_n dX5_loads_50 rfl ?_
      refine Y.iload_n dX5_loads_51 rfl ?_
      refine Y.iload_n dX5_loads_52 rfl ?_
      refine Y.cVI dX5_loads_53 mkX5_isRival csX5_163 ob67 ⟨_, rfl, rfl⟩ (c_X5_isRival hpt (by omega) (by omega) (by omega) (by omega)) (by omega) rfl rfl (Nat.le_of_ble_eq_true rfl) ?_
      refine Y.ifz_eq 84 dX5_loads_56 (by decide) (fun h_56 => ?_) (fun h_56 => ?_)
      · refine Y.lconst 0 dX5_loads_84 rfl ?_
        refine Y.ladd dX5_loads_85 ?_
        refine Y.putl 15 dX5_loads_86 fpX5_170 ob67 ol67_15 (Nat.le_of_ble_eq_true rfl) rfl ?_
        refine Y.iinc dX5_loads_89 rfl (by decide) rfl ?_
        refine Y.goto 34 dX5_loads_92 (by decide) ?_
        refine ih _ _ ⟨by omega, by omega, ?_, by rw [zul_ne (by omega)]; exact i4, i5.up (Or.inl rfl)⟩ (by omega)
        rw [zul_eq, sm_s (by omega), ← i3]
        try rw [i4]
        rw [← em]
        unfold laf
        first
          | (rw [if_pos (Or.inl (by omega))]; rfl)
          | (rw [if_pos (Or.inr (by assumption))]; rfl)
          | (rw [if_neg (fun q => q.elim (fun q => by omega) (by assumption))])
      · refine Y.aload_n dX5_loads_59 rfl ?_
        refine Y.getf dX5_loads_60 flX5_44 ob67 rfl ?_
        refine Y.iload_n dX5_loads_63 rfl ?_
        refine Y.iald dX5_loads_64 ia79 (by omega) (by omega) ?_
        refine Y.i2l dX5_loads_65 (by omega) ?_
        refine Y.aload_n dX5_loads_66 rfl ?_
        refine Y.getf dX5_loads_67 flX5_166 ob67 rfl ?_
        refine Y.aload_n dX5_loads_70 rfl ?_
        refine Y.getf dX5_loads_71 flX5_23 ob67 rfl ?_
        refine Y.iload_n dX5_loads_74 rfl ?_
        refine Y.iconst dX5_loads_75 ?_
        refine Y.idivp dX5_loads_76 (by omega) (by omega) (by omega) (by omega) ?_
        refine Y.iald dX5_loads_77 ia72 (by omega) (by omega) ?_
        refine Y.i2l dX5_loads_78 (by omega) ?_
        refine Y.ldivp dX5_loads_79 (by omega) (by omega) (by omega) (by omega) ?_
        refine Y.lmul dX5_loads_80 ?_
        refine Y.goto 85 dX5_loads_81 (by decide) ?_
        refine Y.ladd dX5_loads_85 ?_
        refine Y.putl 15 dX5_loads_86 fpX5_170 ob67 ol67_15 (Nat.le_of_ble_eq_true rfl) rfl ?_
        refine Y.iinc dX5_loads_89 rfl (by decide) rfl ?_
        refine Y.goto 34 dX5_loads_92 (by decide) ?_
        refine ih _ _ ⟨by omega, by omega, ?_, by rw [zul_ne (by omega)]; exact i4, i5.up (Or.inl rfl)⟩ (by omega)
        rw [zul_eq, sm_s (by omega), ← i3]
        try rw [i4]
        rw [← em]
        unfold laf
        first
          | (rw [if_pos (Or.inl (by omega))]; rfl)
          | (rw [if_pos (Or.inr (by assumption))]; rfl)
          | (rw [if_neg (fun q => q.elim (fun q => by omega) (by assumption))])
set_option maxHeartbeats 1000000 in
theorem c_X5_isOver (hp : WP (mP σ)) {x : Int} (h0 : 0 ≤ x) (h9 : x < 9) : YC 3 μX5_isOver [.ref 67, .int (zi x)] σ (fun r s => r = some (.int (zi (zb (ovl (mP σ) x)))) ∧ zF2 σ s) := by
  refine YC.of2 (by decide) (Nat.le_of_ble_eq_true rfl) (fun d P hd hP => ?_)
  have hl := lb_b hp
  have ha := la_b hp x
  have hg := gd_b hp x
  have hv := ovl_g hp x
  have b1 := Int.ediv_nonneg (a := la (mP σ) x) (b := gd (mP σ) x) (by omega) (by omega)
  have b2 := Int.ediv_le_self (a := la (mP σ) x) (gd (mP σ) x) (by omega)
  have b3 := Int.ediv_nonneg (a := lb (mP σ)) (b := gd (mP σ) x) (by omega) (by omega)
  have b4 := Int.ediv_le_self (a := lb (mP σ)) (gd (mP σ) x) (by omega)
  refine Y.aload_n dX5_isOver_0 rfl ?_
  refine Y.iload_n dX5_isOver_1 rfl ?_
  refine Y.callV dX5_isOver_2 mkX5_loads csX5_173 ob67 ⟨_, rfl, rfl⟩ (c_X5_loads hp (by omega) (by omega)) (by omega) rfl rfl (Nat.le_of_ble_eq_true rfl) (fun r_2 s_2 p_2 => ?_)
  obtain ⟨rfl, f_2, u_2, v_2⟩ := p_2
  refine Y.aload_n dX5_isOver_5 rfl ?_
  refine Y.getf dX5_isOver_6 flX5_170 ob67 rfl ?_
  refine Y.aload_n dX5_isOver_9 rfl ?_
  refine Y.getf dX5_isOver_10 flX5_166 ob67 rfl ?_
  refine Y.lcmp dX5_isOver_13 (by omega) (by omega) (fun c_13 bc_13 lc_13 ec_13 => ?_)
  refine Y.if_le 21 dX5_isOver_14 (by decide) (by omega) (fun h_14 => ?_) (fun h_14 => ?_)
  · refine Y.iconst dX5_isOver_21 ?_
    exact Y.zret dX5_isOver_22 rfl (by decide) (hP _ _ ⟨zrI (by first | exact (zb_t (hv.mp (by omega))).symm | exact (zb_f (fun q => by have := hv.mpr q; omega)).symm), f_2⟩)
  · refine Y.iconst dX5_isOver_17 ?_
    refine Y.goto 22 dX5_isOver_18 (by decide) ?_
    exact Y.zret dX5_isOver_22 rfl (by decide) (hP _ _ ⟨zrI (by first | exact (zb_t (hv.mp (by omega))).symm | exact (zb_f (fun q => by have := hv.mpr q; omega)).symm), f_2⟩)
set_option maxHeartbeats 1000000 in
theorem c_X5_loadBy (hp : WP (mP σ)) {x : Int} (h0 : 0 ≤ x) (h9 : x < 9) {w : Int} (hw : zB w) : YC 3 μX5_loadBy [.ref 67, .int (zi x), .int (zi w)] σ (fun r s => r = some (.int (zi (ldp (mP σ) x w))) ∧ zF2 σ s) := by
  refine YC.of2 (by decide) (Nat.le_of_ble_eq_true rfl) (fun d P hd hP => ?_)
  refine Y.aload_n dX5_loadBy_0 rfl ?_
  refine Y.iload_n dX5_loadBy_1 rfl ?_
  refine Y.callV dX5_loadBy_2 mkX5_loads csX5_173 ob67 ⟨_, rfl, rfl⟩ (c_X5_loads hp (by omega) (by omega)) (by omega) rfl rfl (Nat.le_of_ble_eq_true rfl) (fun r_2 s_2 p_2 => ?_)
  obtain ⟨rfl, f_2, u_2, v_2⟩ := p_2
  refine Y.iload_n dX5_loadBy_5 rfl ?_
  refine Y.if_ne 16 dX5_loadBy_6 (by decide) (by omega) (fun h_6 => ?_) (fun h_6 => ?_)
  · refine Y.aload_n dX5_loadBy_16 rfl ?_
    refine Y.getf dX5_loadBy_17 flX5_166 ob67 rfl ?_
    refine Y.l2i dX5_loadBy_20 ?_
    exact Y.iret dX5_loadBy_21 rfl (hP _ _ ⟨zrI (by unfold ldp; first | (rw [if_pos (by omega)]; exact u_2) | (rw [if_neg (by omega)]; exact v_2)), f_2⟩)
  · refine Y.aload_n dX5_loadBy_9 rfl ?_
    refine Y.getf dX5_loadBy_10 flX5_170 ob67 rfl ?_
    refine Y.goto 20 dX5_loadBy_13 (by decide) ?_
    refine Y.l2i dX5_loadBy_20 ?_
    exact Y.iret dX5_loadBy_21 rfl (hP _ _ ⟨zrI (by unfold ldp; first | (rw [if_pos (by omega)]; exact u_2) | (rw [if_neg (by omega)]; exact v_2)), f_2⟩)
end ZM4
