section ZTM
variable {σ : zS} {d : Nat} {P : Option Value → zS → Prop}
set_option maxHeartbeats 1000000 in
theorem tl_in {a i q m : Int} (hd : 3 ≤ d) (a0 : 0 ≤ a) (a1 : a ≤ 100) (i0 : 0 ≤ i) (i3 : i < 3) (hI : TJ σ i 0 0 m) (k : ∀ (u : zS) (e : Int), TJ u i 3 e m → Y d μL_tells 429 [some (.ref 0), some (.ref 9004), some (.int (zi a)), some (.ref 67), some (.int (zi (i))), none, none, none, none, none] [] u P) : Y d μL_tells 184 [some (.ref 0), some (.ref 9004), some (.int (zi a)), some (.ref 67), some (.int (zi (i))), some (.int (zi (q))), some (.int (zi (0))), some (.int (zi (0))), none, none] [] σ P := by
  refine zw3 (fun t j e => (0 ≤ j ∧ j ≤ 3 ∧ TJ t i j e m)) (fun t j e => Y d μL_tells 184 [some (.ref 0), some (.ref 9004), some (.int (zi a)), some (.ref 67), some (.int (zi (i))), some (.int (zi (q))), some (.int (zi (e))), some (.int (zi (j))), none, none] [] t P) (fun t j e => (3 - j).toNat) ?_ _ _ _ ⟨by omega, by omega, hI⟩
  intro t j e hI ih
  obtain ⟨j0, j3, hJ⟩ := hI
  refine Y.iload dL_tells_184 rfl ?_
  refine Y.iconst dL_tells_186 ?_
  refine Y.icmp_ge 429 dL_tells_187 (by decide) (by omega) (by omega) (fun h_187 => ?_) (fun h_187 => ?_)
  · obtain rfl : j = 3 := by omega
    exact Y.sub (zs_s (zs_s (zs_s (zs_s (zs_s (zs_n (zs_n (zs_n (zs_n (zs_n zs_0)))))))))) (k t e hJ)
  · exact tl_j hd a0 a1 i0 i3 j0 (by omega) hJ (fun u e' hu => ih u (j + 1) e' ⟨by omega, by omega, hu⟩ (by omega))
theorem TJ.k {t : zS} {i e m : Int} (i0 : 0 ≤ i) (h : TJ t i 3 e m) : TK t (i + 1) := by
  obtain ⟨hw, hs, h5, hf, hq, ⟨h3, h6, m0, m3, h13⟩, hx, he⟩ := h
  refine ⟨hw, hs, h5, fun y a b => hf y (by omega) b, fun y a b => ?_⟩
  by_cases z : y = i
  · subst z
    have e1 : t.1 13 y = m := by omega
    exact ⟨h3, by rw [e1]; exact h6, fun j j0 j3 => by rw [e1]; exact hx j j0 j3⟩
  · exact hq y a (by omega)
set_option maxHeartbeats 4000000 in
theorem tl_i {a i : Int} (hd : 3 ≤ d) (a0 : 0 ≤ a) (a1 : a ≤ 100) (i0 : 0 ≤ i) (i3 : i < 3) (hI : TK σ i) (k : ∀ u : zS, TK u (i + 1) → Y d μL_tells 3 [some (.ref 0), some (.ref 9004), some (.int (zi a)), some (.ref 67), some (.int (zi (i + 1))), none, none, none, none, none] [] u P) : Y d μL_tells 9 [some (.ref 0), some (.ref 9004), some (.int (zi a)), some (.ref 67), some (.int (zi (i))), none, none, none, none, none] [] σ P := by
  obtain ⟨hw, hs, h5, hf, hq⟩ := hI
  obtain ⟨f3, f4, f6, f7, f13⟩ := hf i (Int.le_refl _) i3
  have k429 : ∀ (u : zS) (e m : Int), TJ u i 3 e m → Y d μL_tells 429 [some (.ref 0), some (.ref 9004), some (.int (zi a)), some (.ref 67), some (.int (zi (i))), none, none, none, none, none] [] u P := fun u e m hu => by
    refine Y.iinc dL_tells_429 rfl (by decide) rfl ?_
    refine Y.goto 3 dL_tells_432 (by decide) ?_
    exact k u (hu.k i0)
  have k87 : ∀ (q v x1 : Int), (5 ≤ v ∧ v ≤ 100) → (0 ≤ x1 ∧ x1 ≤ 30) → Y d μL_tells 87 [some (.ref 0), some (.ref 9004), some (.int (zi a)), some (.ref 67), some (.int (zi (i))), some (.int (zi (q))), none, none, none, none] [.int (zi x1), .int (zi (3 + i)), .ref 67] (zu σ 67 i v) P := fun q v x1 hv hx1 => by

    refine Y.iast dL_tells_87 ia67 (by omega) (by omega) ?_
    refine Y.aload_n dL_tells_88 rfl ?_
    refine Y.bipush dL_tells_89 (by decide +kernel) ?_
    refine Y.iload dL_tells_91 rfl ?_
    refine Y.iadd dL_tells_93 ?_
    refine Y.iload dL_tells_94 rfl ?_
    refine Y.bipush dL_tells_96 (by decide +kernel) ?_
    refine Y.ishrU dL_tells_98 (fun v98 b98 => ?_)
    refine Y.iconst dL_tells_99 ?_
    refine Y.cSE dL_tells_100 mkL_up csL_15 (c_L_up (by omega) (by omega)) (by omega) rfl rfl (Nat.le_of_ble_eq_true rfl) (fun v100 b100 => ?_)
    refine Y.iast dL_tells_103 ia67 (by omega) (by omega) ?_
    obtain ⟨t, ht⟩ : ∃ t : zS, t = zu (zu (zu σ 67 i v) 67 (3 + i) x1) 67 (6 + i) v100 := ⟨_, rfl⟩
    rw [← ht]
    have r0 : t.1 67 i = v := by rw [ht, zu_ne (by omega), zu_ne (by omega), zu_eq]
    have r3 : t.1 67 (3 + i) = x1 := by rw [ht, zu_ne (by omega), zu_eq]
    have r6 : t.1 67 (6 + i) = v100 := by rw [ht, zu_eq]
    have ro : ∀ y : Int, y ≠ i → y ≠ 3 + i → y ≠ 6 + i → t.1 67 y = σ.1 67 y := fun y z1 z2 z3 => by rw [ht, zu_ne z3, zu_ne z2, zu_ne z1]
    have rc : ∀ z : Nat, z ≠ 67 → t.1 z = σ.1 z := fun z hz => by rw [ht, zu67 hz, zu67 hz, zu67 hz]
    clear ht
    have w0 : WJ (cP t) := by rw [cP_c (fun z hz => rc z (by omega))]; exact hw
    have n0 : cP t 0 i = 20 := by show t.1 3 i = 20; rw [rc 3 (by omega)]; exact f3
    refine Y.aload_n dL_tells_104 rfl ?_
    refine Y.iload dL_tells_105 rfl ?_
    refine Y.iconst dL_tells_107 ?_
    refine Y.aload_n dL_tells_108 rfl ?_
    refine Y.iload dL_tells_109 rfl ?_
    refine Y.iald dL_tells_111 ia67 (by omega) (by omega) ?_
    rw [r0]
    refine Y.cVI dL_tells_112 mkX4_chain csL_19 ob0 ⟨_, rfl, rfl⟩ (k_L_chain 0 i0 i3 (by omega) (trt_i (Or.inl ⟨rfl, by omega, by omega⟩)) (by omega)) (by omega) rfl rfl (Nat.le_of_ble_eq_true rfl) ?_
    rw [n0]
    have w1 := CH_w (i := i) (v := v) w0 (k := 0) (by omega) (trt_i (Or.inl ⟨rfl, by omega, by omega⟩))
    have n1 : cP (CH t 0 i v) 1 i = 0 := by show (CH t 0 i v).1 4 i = 0; rw [CH_o (by decide) (by decide), rc 4 (by omega)]; exact f4
    have n1k : (CH t 0 i v).1 67 (3 + i) = x1 := by rw [CH_o (by decide) (by decide)]; exact r3
    refine Y.bipush dL_tells_115 (by decide +kernel) ?_
    refine Y.icmp_ne 176 dL_tells_117 (by decide) (by omega) (by omega) (fun h_117 => ?_) (fun h_117 => ?_)
    · exfalso; omega
    refine Y.aload_n dL_tells_120 rfl ?_
    refine Y.iload dL_tells_121 rfl ?_
    refine Y.iconst dL_tells_123 ?_
    refine Y.aload_n dL_tells_124 rfl ?_
    refine Y.iconst dL_tells_125 ?_
    refine Y.iload dL_tells_126 rfl ?_
    refine Y.iadd dL_tells_128 ?_
    refine Y.iald dL_tells_129 ia67 (by omega) (by omega) ?_
    rw [n1k]
    refine Y.cVI dL_tells_130 mkX4_chain csL_19 ob0 ⟨_, rfl, rfl⟩ (k_L_chain 1 i0 i3 (by omega) (trt_i (Or.inr (Or.inl ⟨rfl, by omega, by omega⟩))) (by omega)) (by omega) rfl rfl (Nat.le_of_ble_eq_true rfl) ?_
    rw [n1]
    have w2 := CH_w (i := i) (v := x1) w1 (k := 1) (by omega) (trt_i (Or.inr (Or.inl ⟨rfl, by omega, by omega⟩)))
    have n2 : cP (CH (CH t 0 i v) 1 i x1) 3 i = 0 := by show (CH (CH t 0 i v) 1 i x1).1 6 i = 0; rw [CH_o (by decide) (by decide), CH_o (by decide) (by decide), rc 6 (by omega)]; exact f6
    refine Y.if_ne 176 dL_tells_133 (by decide) (by omega) (fun h_133 => ?_) (fun h_133 => ?_)
    · exfalso; omega
    refine Y.aload_n dL_tells_136 rfl ?_
    refine Y.iload dL_tells_137 rfl ?_
    refine Y.iconst dL_tells_139 ?_
    refine Y.iload dL_tells_140 rfl ?_
    refine Y.bipush dL_tells_142 (by decide +kernel) ?_
    refine Y.ishrU dL_tells_144 (fun v144 b144 => ?_)
    refine Y.bipush dL_tells_145 (by decide +kernel) ?_
    refine Y.cSE dL_tells_147 mkL_up csL_15 (c_L_up (by omega) (by omega)) (by omega) rfl rfl (Nat.le_of_ble_eq_true rfl) (fun v147 b147 => ?_)
    refine Y.cVI dL_tells_150 mkX4_chain csL_19 ob0 ⟨_, rfl, rfl⟩ (k_L_chain 3 i0 i3 (by omega) (trt_i (Or.inr (Or.inr (Or.inr (Or.inl ⟨rfl, by omega, by omega⟩))))) (by omega)) (by omega) rfl rfl (Nat.le_of_ble_eq_true rfl) ?_
    rw [n2]
    have w3 := CH_w (i := i) (v := v147) w2 (k := 3) (by omega) (trt_i (Or.inr (Or.inr (Or.inr (Or.inl ⟨rfl, by omega, by omega⟩)))))
    have n3 : cP (CH (CH (CH t 0 i v) 1 i x1) 3 i v147) 4 i = 0 := by show (CH (CH (CH t 0 i v) 1 i x1) 3 i v147).1 7 i = 0; rw [CH_o (by decide) (by decide), CH_o (by decide) (by decide), CH_o (by decide) (by decide), rc 7 (by omega)]; exact f7
    refine Y.if_ne 176 dL_tells_153 (by decide) (by omega) (fun h_153 => ?_) (fun h_153 => ?_)
    · exfalso; omega
    refine Y.aload_n dL_tells_156 rfl ?_
    refine Y.iload dL_tells_157 rfl ?_
    refine Y.iconst dL_tells_159 ?_
    refine Y.iload dL_tells_160 rfl ?_
    refine Y.bipush dL_tells_162 (by decide +kernel) ?_
    refine Y.ishrU dL_tells_164 (fun v164 b164 => ?_)
    refine Y.bipush dL_tells_165 (by decide +kernel) ?_
    refine Y.cSE dL_tells_167 mkL_up csL_15 (c_L_up (by omega) (by omega)) (by omega) rfl rfl (Nat.le_of_ble_eq_true rfl) (fun v167 b167 => ?_)
    refine Y.cVI dL_tells_170 mkX4_chain csL_19 ob0 ⟨_, rfl, rfl⟩ (k_L_chain 4 i0 i3 (by omega) (trt_i (Or.inr (Or.inr (Or.inr (Or.inr ⟨rfl, by omega, by omega⟩))))) (by omega)) (by omega) rfl rfl (Nat.le_of_ble_eq_true rfl) ?_
    rw [n3]
    have w4 := CH_w (i := i) (v := v167) w3 (k := 4) (by omega) (trt_i (Or.inr (Or.inr (Or.inr (Or.inr ⟨rfl, by omega, by omega⟩)))))
    refine Y.if_eq 178 dL_tells_173 (by decide) (by omega) (fun h_173 => ?_) (fun h_173 => ?_)
    rotate_left
    · exfalso; omega
    refine Y.iconst dL_tells_178 ?_
    refine Y.istore dL_tells_179 (by decide) rfl ?_
    refine Y.iconst dL_tells_181 ?_
    refine Y.istore dL_tells_182 (by decide) rfl ?_
    refine tl_in hd a0 a1 i0 i3 (m := v100) ?_ (fun u e hu => k429 u e v100 hu)
    obtain ⟨u, hu⟩ : ∃ u : zS, u = CH (CH (CH (CH t 0 i v) 1 i x1) 3 i v147) 4 i v167 := ⟨_, rfl⟩
    rw [← hu] at w4 ⊢
    have uo : ∀ z : Nat, z ≠ 3 → z ≠ 4 → z ≠ 6 → z ≠ 7 → z ≠ 14 → u.1 z = t.1 z := fun z q1 q2 q3 q4 q5 => by rw [hu, CH_o q4 q5, CH_o q3 q5, CH_o q2 q5, CH_o q1 q5]
    have u3 : ∀ y : Int, y ≠ i → u.1 3 y = t.1 3 y ∧ u.1 4 y = t.1 4 y ∧ u.1 6 y = t.1 6 y ∧ u.1 7 y = t.1 7 y := fun y hy => by
      rw [hu]
      refine ⟨?_, ?_, ?_, ?_⟩
      · rw [CH_o (by decide) (by decide), CH_o (by decide) (by decide), CH_o (by decide) (by decide)]; exact CH_n (k := 0) hy
      · rw [CH_o (by decide) (by decide), CH_o (by decide) (by decide)]; exact (CH_n (k := 1) hy).trans (by rw [CH_o (by decide) (by decide)]; rfl)
      · rw [CH_o (by decide) (by decide)]; exact (CH_n (k := 3) hy).trans (by rw [CH_o (by decide) (by decide), CH_o (by decide) (by decide)]; rfl)
      · exact (CH_n (k := 4) hy).trans (by rw [CH_o (by decide) (by decide), CH_o (by decide) (by decide), CH_o (by decide) (by decide)]; rfl)
    have u4 : u.1 4 i = x1 := by rw [hu, CH_o (by decide) (by decide), CH_o (by decide) (by decide)]; exact CH_1 (k := 1)
    have us : u.1 14 17 = 1 := by rw [hu]; exact CH_s
    clear hu
    refine ⟨w4, us, fun y z0 z3 => by rw [uo 5 (by omega) (by omega) (by omega) (by omega) (by omega), rc 5 (by omega)]; exact h5 y z0 z3, fun y z0 z3 => ?_, fun y z0 z1 => ?_, ⟨by rw [uo 67 (by omega) (by omega) (by omega) (by omega) (by omega), r3, u4], by rw [uo 67 (by omega) (by omega) (by omega) (by omega) (by omega), r6], by omega, by omega, by rw [uo 13 (by omega) (by omega) (by omega) (by omega) (by omega), rc 13 (by omega), f13]; omega⟩, fun y z0 z1 => by omega, by rw [if_pos rfl]⟩
    · obtain ⟨a3, a4, a6, a7⟩ := u3 y (by omega)
      unfold FRS
      rw [a3, a4, a6, a7, uo 13 (by omega) (by omega) (by omega) (by omega) (by omega), rc 3 (by omega), rc 4 (by omega), rc 6 (by omega), rc 7 (by omega), rc 13 (by omega)]
      exact hf y (by omega) z3
    · obtain ⟨a3, a4, a6, a7⟩ := u3 y (by omega)
      have e67 := uo 67 (by omega) (by omega) (by omega) (by omega) (by omega)
      refine (hq y z0 z1).fr z0 (by rw [a4, rc 4 (by omega)]) (by rw [uo 13 (by omega) (by omega) (by omega) (by omega) (by omega), rc 13 (by omega)]) (fun x hx => ?_) (by rw [e67]; exact ro _ (by omega) (by omega) (by omega)) (by rw [e67]; exact ro _ (by omega) (by omega) (by omega)) (fun x hx => ?_)
      · rw [uo 9 (by omega) (by omega) (by omega) (by omega) (by omega), uo 10 (by omega) (by omega) (by omega) (by omega) (by omega), uo 11 (by omega) (by omega) (by omega) (by omega) (by omega), uo 12 (by omega) (by omega) (by omega) (by omega) (by omega), rc 9 (by omega), rc 10 (by omega), rc 11 (by omega), rc 12 (by omega)]
        exact ⟨rfl, rfl, rfl, rfl⟩
      · rw [e67]
        exact ⟨ro _ (by omega) (by omega) (by omega), ro _ (by omega) (by omega) (by omega), ro _ (by omega) (by omega) (by omega), ro _ (by omega) (by omega) (by omega), ro _ (by omega) (by omega) (by omega)⟩
  have k57 : ∀ (q v : Int), (5 ≤ v ∧ v ≤ 100) → Y d μL_tells 57 [some (.ref 0), some (.ref 9004), some (.int (zi a)), some (.ref 67), some (.int (zi (i))), some (.int (zi (q))), none, none, none, none] [.int (zi v), .int (zi i), .ref 67] σ P := fun q v hv => by
    refine Y.iast dL_tells_57 ia67 (by omega) (by omega) ?_
    refine Y.aload_n dL_tells_58 rfl ?_
    refine Y.iconst dL_tells_59 ?_
    refine Y.iload dL_tells_60 rfl ?_
    refine Y.iadd dL_tells_62 ?_
    refine Y.iload dL_tells_63 rfl ?_
    refine Y.bipush dL_tells_65 (by decide +kernel) ?_
    refine Y.ishrU dL_tells_67 (fun v67 b67 => ?_)
    refine Y.iconst dL_tells_68 ?_
    refine Y.iandU dL_tells_69 (fun v69 b69 => ?_)
    refine Y.if_ne 77 dL_tells_70 (by decide) (by omega) (fun h_70 => ?_) (fun h_70 => ?_)
    · refine Y.iload dL_tells_77 rfl ?_
      refine Y.bipush dL_tells_79 (by decide +kernel) ?_
      refine Y.ishrU dL_tells_81 (fun v81 b81 => ?_)
      refine Y.bipush dL_tells_82 (by decide +kernel) ?_
      refine Y.cSE dL_tells_84 mkL_up csL_15 (c_L_up (by omega) (by omega)) (by omega) rfl rfl (Nat.le_of_ble_eq_true rfl) (fun v84 b84 => ?_)
      exact k87 _ _ _ hv (by omega)
    · refine Y.iconst dL_tells_73 ?_
      refine Y.goto 87 dL_tells_74 (by decide) ?_
      exact k87 _ _ _ hv (by omega)
  refine Y.aload_n dL_tells_9 rfl ?_
  refine Y.iload_n dL_tells_10 rfl ?_
  refine Y.iconst dL_tells_11 ?_
  refine Y.iload dL_tells_12 rfl ?_
  refine Y.imul dL_tells_14 ?_
  refine Y.iadd dL_tells_15 ?_
  refine Y.cSE dL_tells_16 mkL_cell csL_9 (c_L_cell (by omega) (by omega)) (by omega) rfl rfl (Nat.le_of_ble_eq_true rfl) (fun v16 b16 => ?_)
  refine Y.istore dL_tells_19 (by decide) rfl ?_
  refine Y.aload_n dL_tells_21 rfl ?_
  refine Y.iload dL_tells_22 rfl ?_
  refine Y.iload dL_tells_24 rfl ?_
  refine Y.iconst dL_tells_26 ?_
  refine Y.iandU dL_tells_27 (fun v27 b27 => ?_)
  refine Y.if_ne 45 dL_tells_28 (by decide) (by omega) (fun h_28 => ?_) (fun h_28 => ?_)
  · refine Y.bipush dL_tells_45 (by decide +kernel) ?_
    refine Y.iload dL_tells_47 rfl ?_
    refine Y.iconst dL_tells_49 ?_
    refine Y.ishrU dL_tells_50 (fun v50 b50 => ?_)
    refine Y.bipush dL_tells_51 (by decide +kernel) ?_
    refine Y.cSE dL_tells_53 mkL_up csL_15 (c_L_up (by omega) (by omega)) (by omega) rfl rfl (Nat.le_of_ble_eq_true rfl) (fun v53 b53 => ?_)
    refine Y.iadd dL_tells_56 ?_
    exact k57 _ _ (by omega)
  · refine Y.iconst dL_tells_31 ?_
    refine Y.iload dL_tells_32 rfl ?_
    refine Y.iconst dL_tells_34 ?_
    refine Y.ishrU dL_tells_35 (fun v35 b35 => ?_)
    refine Y.bipush dL_tells_36 (by decide +kernel) ?_
    refine Y.cSE dL_tells_38 mkL_up csL_15 (c_L_up (by omega) (by omega)) (by omega) rfl rfl (Nat.le_of_ble_eq_true rfl) (fun v38 b38 => ?_)
    refine Y.iadd dL_tells_41 ?_
    refine Y.goto 57 dL_tells_42 (by decide) ?_
    exact k57 _ _ (by omega)
set_option maxHeartbeats 1000000 in
theorem c_L_tells {a : Int} (a0 : 0 ≤ a) (a1 : a ≤ 100) (hI : TK σ 0) : YC 3 μL_tells [.ref 0, .ref 9004, .int (zi a), .ref 67] σ (fun r s => r = some (.int (zi 1)) ∧ TK s 3) := by
  refine YC.of2 (by decide) (Nat.le_of_ble_eq_true rfl) (fun d P hd hP => ?_)
  refine Y.iconst dL_tells_0 ?_
  refine Y.istore dL_tells_1 (by decide) rfl ?_
  refine zw2 (fun t i => (0 ≤ i ∧ i ≤ 3 ∧ TK t i)) (fun t i => Y d μL_tells 3 [some (.ref 0), some (.ref 9004), some (.int (zi a)), some (.ref 67), some (.int (zi (i))), none, none, none, none, none] [] t P) (fun t i => (3 - i).toNat) ?_ _ _ ⟨by omega, by omega, hI⟩
  intro t i hI ih
  obtain ⟨i0, i3, hK⟩ := hI
  refine Y.iload dL_tells_3 rfl ?_
  refine Y.iconst dL_tells_5 ?_
  refine Y.icmp_ge 435 dL_tells_6 (by decide) (by omega) (by omega) (fun h_6 => ?_) (fun h_6 => ?_)
  · obtain rfl : i = 3 := by omega
    refine Y.iconst dL_tells_435 ?_
    exact Y.zret dL_tells_436 rfl (by decide) (hP _ _ ⟨rfl, hK⟩)
  · exact tl_i hd a0 a1 i0 (by omega) hK (fun u hu => ih u (i + 1) ⟨by omega, by omega, hu⟩ (by omega))
/-- k beside the plan, as the law reads it -/
def KF (t : zS) (p : zP) : Prop := (∀ i : Int, 0 ≤ i → i < 3 → t.1 67 (3 + i) = p 1 i ∧ t.1 67 (6 + i) = p 5 i) ∧ ∀ x : Int, 0 ≤ x → x < 9 → (th p x → t.1 67 (9 + x) = p 6 x ∧ t.1 67 (18 + x) = p 7 x ∧ t.1 67 (27 + x) = p 8 x ∧ t.1 67 (36 + x) = p 9 x ∧ t.1 67 (45 + x) = ear p x) ∧ (¬ th p x → t.1 67 (9 + x) = -1)
theorem KQ.ek {t : zS} {i : Int} (i0 : 0 ≤ i) (h : KQ t i) : ∀ j : Int, 0 ≤ j → j < 3 → j < t.1 13 i → t.1 67 (45 + (3 * i + j)) = ear (cP t) (3 * i + j) := by
  have step : ∀ j : Int, 0 ≤ j → j < 3 → j < t.1 13 i → (j ≠ 0 → t.1 67 (45 + (3 * i + (j - 1))) = ear (cP t) (3 * i + (j - 1))) → t.1 67 (45 + (3 * i + j)) = ear (cP t) (3 * i + j) := fun j j0 j3 jm hprev => by
    obtain ⟨k1, k2, k3⟩ := h.2.2 j j0 j3
    have r := k1 (by omega)
    rw [k3, r.2.2.2]
    by_cases q : j = 0
    · rw [if_pos (by omega)]
      unfold ear
      rw [show (3 * i + j) % 3 = 0 by omega, show 3 * i + j - 0 = 3 * i + j by omega, sm_0, Int.add_zero, Int.zero_add]
      rfl
    · have e := ear_s (p := cP t) (x := 3 * i + j) (by omega) (by omega)
      obtain ⟨k1', _, _⟩ := h.2.2 (j - 1) (by omega) (by omega)
      have r' := (k1' (by omega)).2.1
      rw [if_neg (by omega), show 45 + (3 * i + j) - 1 = 45 + (3 * i + (j - 1)) by omega, show 18 + (3 * i + j) - 1 = 18 + (3 * i + (j - 1)) by omega, hprev q, r', e, show 3 * i + j - 1 = 3 * i + (j - 1) by omega]
      rfl
  intro j j0 j3 jm
  have s0 := step 0 (by omega) (by omega) (by omega) (fun q => by omega)
  rcases (show j = 0 ∨ j = 1 ∨ j = 2 by omega) with rfl | rfl | rfl
  · exact s0
  · exact step 1 (by omega) (by omega) jm (fun _ => s0)
  · have s1 := step 1 (by omega) (by omega) (by omega) (fun _ => s0)
    exact step 2 (by omega) (by omega) jm (fun _ => s1)
theorem TK.kf {t : zS} (h : TK t 3) : KF t (cP t) := by
  refine ⟨fun i a b => ⟨(h.2.2.2.2 i a b).1, (h.2.2.2.2 i a b).2.1⟩, fun x a b => ?_⟩
  have hq := h.2.2.2.2 (x / 3) (by omega) (by omega)
  obtain ⟨k1, k2, _⟩ := hq.2.2 (x % 3) (by omega) (by omega)
  have he := hq.ek (by omega) (x % 3) (by omega) (by omega)
  rw [show 3 * (x / 3) + x % 3 = x by omega] at k1 k2 he
  refine ⟨fun ht => ?_, fun ht => ?_⟩
  · have ht' : x % 3 < t.1 13 (x / 3) := ht
    obtain ⟨r1, r2, r3, r4⟩ := k1 ht'
    exact ⟨r1, r2, r3, r4, he ht'⟩
  · have ht' : ¬ x % 3 < t.1 13 (x / 3) := ht
    exact k2 (by omega)
theorem TK.lj {t : zS} (h : TK t 3) : LJ t (cP t) := ⟨rfl, h.1, STL.on h.2.1⟩
end ZTM
