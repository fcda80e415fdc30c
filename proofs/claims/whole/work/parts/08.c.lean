section ZL3
variable {σ : zS}
theorem MS.f2 {s t : zS} {p : zP} (h : MS s p) (hf : zF2 s t) : MS t p := by
  rcases h with ⟨h1, h2⟩ | ⟨r, l, h1, h2, h3, h4, h5⟩
  · exact Or.inl ⟨h1, by rw [hf.1]; exact h2⟩
  · exact Or.inr ⟨r, l, h1, by rw [hf.1]; exact h2, by rw [hf.1]; exact h3, h4.fr (fun c _ _ => by rw [hf.1]), h5.fr (fun c _ _ => by rw [hf.1])⟩
theorem PK.f2 {s t : zS} (h : PK s) (hf : zF2 s t) : PK t := fun i a c => by rw [hf.1]; exact h i a c
/-- what the model's telling of all keeps -/
def MW (p : zP) (σ s : zS) : Prop := EM σ s ∧ MS s p ∧ PK s
theorem MW.tr {p : zP} {s t : zS} (h : MW p σ s) (h2 : MW p s t) : MW p σ t := ⟨h.1.tr h2.1, h2.2⟩
theorem MW.f2 {p : zP} {s t : zS} (h : MW p σ s) (h2 : zF2 s t) : MW p σ t := ⟨h.1.tr h2.em, h.2.1.f2 h2, h.2.2.f2 h2⟩
set_option maxHeartbeats 1000000 in
theorem c_X5_over {p : zP} (ec : mP σ = p) (hp : WP p) : YC 5 μX5_over [.ref 67] σ (fun r s => r = some (.int (zi (ovs p))) ∧ zF2 σ s) := by
  refine YC.of2 (by decide) (Nat.le_of_ble_eq_true rfl) (fun d P hd hP => ?_)
  refine Y.iconst dX5_over_0 ?_
  refine Y.istore_n dX5_over_1 (by decide) rfl ?_
  refine Y.iconst dX5_over_2 ?_
  refine Y.istore_n dX5_over_3 (by decide) rfl ?_
  refine zw3 (fun u n x => (0 ≤ x ∧ x ≤ 9 ∧ zF2 σ u ∧ n = sm (fun x => zb (th p x ∧ ovl p x)) 0 (x - 0).toNat)) (fun u n x => Y d μX5_over 4 [some (.ref 67), some (.int (zi n)), some (.int (zi x))] [] u P) (fun u n x => (9 - x).toNat) ?_ _ _ _ ⟨by omega, by omega, zF2.rf, by rw [sm_0]⟩
  intro u n x hI ih
  obtain ⟨i1, i2, hF, i3⟩ := hI
  have ecu : mP u = p := (mP_of hF.1).trans ec
  refine Y.iload_n dX5_over_4 rfl ?_
  refine Y.bipush dX5_over_5 (by decide +kernel) ?_
  refine Y.icmp_ge 40 dX5_over_7 (by decide) (by omega) (by omega) (fun h_7 => ?_) (fun h_7 => ?_)
  · refine Y.iload_n dX5_over_40 rfl ?_
    exact Y.iret dX5_over_41 rfl (hP _ _ ⟨zrI (by rw [i3, show x = 9 by omega]; rfl), hF⟩)
  · refine Y.iload_n dX5_over_10 rfl ?_
    refine Y.aload_n dX5_over_11 rfl ?_
    refine Y.iload_n dX5_over_12 rfl ?_
    refine Y.cVI dX5_over_13 mkX5_isThere csX5_160 ob67 ⟨_, rfl, rfl⟩ (k_X5_isThere ecu hp (by omega) (by omega)) (by omega) rfl rfl (Nat.le_of_ble_eq_true rfl) ?_
    refine Y.ifz_eq 31 dX5_over_16 (by decide) (fun h_16 => ?_) (fun h_16 => ?_)
    · refine Y.iconst dX5_over_31 ?_
      refine Y.iadd dX5_over_32 ?_
      refine Y.istore_n dX5_over_33 (by decide) rfl ?_
      refine Y.iinc dX5_over_34 rfl (by decide) rfl ?_
      refine Y.goto 4 dX5_over_37 (by decide) ?_
      refine ih _ _ _ ⟨by omega, by omega, by first | exact hF.tr f_21 | exact hF, ?_⟩ (by omega)
      rw [sm_s (by omega), i3]
      first
        | (rw [zb_t ⟨by assumption, by assumption⟩]; done)
        | (rw [zb_f (fun q => absurd q.1 (by assumption))]; done)
        | (rw [zb_f (fun q => absurd q.2 (by assumption))]; done)
    · refine Y.aload_n dX5_over_19 rfl ?_
      refine Y.iload_n dX5_over_20 rfl ?_
      refine Y.callV dX5_over_21 mkX5_isOver csX5_223 ob67 ⟨_, rfl, rfl⟩ (k_X5_isOver ecu hp (by omega) (by omega)) (by omega) rfl rfl (Nat.le_of_ble_eq_true rfl) (fun r_21 s_21 p_21 => ?_)
      obtain ⟨rfl, f_21⟩ := p_21
      refine Y.ifz_eq 31 dX5_over_24 (by decide) (fun h_24 => ?_) (fun h_24 => ?_)
      · refine Y.iconst dX5_over_31 ?_
        refine Y.iadd dX5_over_32 ?_
        refine Y.istore_n dX5_over_33 (by decide) rfl ?_
        refine Y.iinc dX5_over_34 rfl (by decide) rfl ?_
        refine Y.goto 4 dX5_over_37 (by decide) ?_
        refine ih _ _ _ ⟨by omega, by omega, by first | exact hF.tr f_21 | exact hF, ?_⟩ (by omega)
        rw [sm_s (by omega), i3]
        first
          | (rw [zb_t ⟨by assumption, by assumption⟩]; done)
          | (rw [zb_f (fun q => absurd q.1 (by assumption))]; done)
          | (rw [zb_f (fun q => absurd q.2 (by assumption))]; done)
      · refine Y.iconst dX5_over_27 ?_
        refine Y.goto 32 dX5_over_28 (by decide) ?_
        refine Y.iadd dX5_over_32 ?_
        refine Y.istore_n dX5_over_33 (by decide) rfl ?_
        refine Y.iinc dX5_over_34 rfl (by decide) rfl ?_
        refine Y.goto 4 dX5_over_37 (by decide) ?_
        refine ih _ _ _ ⟨by omega, by omega, by first | exact hF.tr f_21 | exact hF, ?_⟩ (by omega)
        rw [sm_s (by omega), i3]
        first
          | (rw [zb_t ⟨by assumption, by assumption⟩]; done)
          | (rw [zb_f (fun q => absurd q.1 (by assumption))]; done)
          | (rw [zb_f (fun q => absurd q.2 (by assumption))]; done)
theorem idle_j (hJ : JD σ) {k : Nat} (hk : k < 2) : sm (fun t => zb (σ.1 93 (300 * (k : Int) + t) = -1)) 0 (σ.1 67 35 - 0).toNat = σ.1 39 k ∧ ∀ t : Int, 0 ≤ t → t < σ.1 67 35 → zB (σ.1 93 (300 * (k : Int) + t)) := by
  obtain ⟨r1, r2, r3, r4, r5⟩ := hJ.2.2.2.1
  obtain ⟨g, h⟩ := r5 k hk
  refine ⟨?_, fun t a c => ?_⟩
  · rw [g.2.2]
    exact sm_c _ (fun i a c => by rw [h i a (by omega)])
  · rw [h t a c]
    have := g.2.1 t a (by omega)
    omega
set_option maxHeartbeats 4000000 in
theorem c_X5_countBy {p : zP} (ec : mP σ = p) (hp : WP p) (hJ : JD σ) (hS : MS σ p) {k : Nat} (hk : k < 9) : YC 6 μX5_countBy [.ref 67, .int (zi (k : Int))] σ (fun r s => r = some (.int (zi (cntA σ p k))) ∧ zF2 σ s) := by
  refine YC.of2 (by decide) (Nat.le_of_ble_eq_true rfl) (fun d P hd hP => ?_)
  obtain ⟨r1, r2, r3, r4, r5⟩ := hJ.2.2.2.1
  have e5 : σ.1 77 = p 5 := by rw [← ec]; rfl
  rcases (show k = 0 ∨ k = 1 ∨ k = 2 ∨ k = 3 ∨ k = 4 ∨ k = 5 ∨ k = 6 ∨ k = 7 ∨ k = 8 by omega) with rfl | rfl | rfl | rfl | rfl | rfl | rfl | rfl | rfl
  · refine Y.iload_n dX5_countBy_0 rfl ?_
    refine Y.tin 52 dX5_countBy_1 (by omega) (by omega) (by omega) rfl (by decide) ?_
    refine Y.aload_n dX5_countBy_52 rfl ?_
    refine Y.getf dX5_countBy_53 flX5_38 ob67 rfl ?_
    refine Y.iconst dX5_countBy_56 ?_
    refine Y.iald dX5_countBy_57 ia77 (by omega) (by omega) ?_
    refine Y.aload_n dX5_countBy_58 rfl ?_
    refine Y.getf dX5_countBy_59 flX5_38 ob67 rfl ?_
    refine Y.iconst dX5_countBy_62 ?_
    refine Y.iald dX5_countBy_63 ia77 (by omega) (by omega) ?_
    refine Y.iadd dX5_countBy_64 ?_
    refine Y.aload_n dX5_countBy_65 rfl ?_
    refine Y.getf dX5_countBy_66 flX5_38 ob67 rfl ?_
    refine Y.iconst dX5_countBy_69 ?_
    refine Y.iald dX5_countBy_70 ia77 (by omega) (by omega) ?_
    refine Y.iadd dX5_countBy_71 ?_
    exact Y.iret dX5_countBy_72 rfl (hP _ _ ⟨zrI (by rw [e5]; rfl), zF2.rf⟩)
  · rcases hS with ⟨h, e⟩ | ⟨r, l, h, e, e2, hA, hMV⟩
    · refine Y.iload_n dX5_countBy_0 rfl ?_
      refine Y.tin 73 dX5_countBy_1 (by omega) (by omega) (by omega) rfl (by decide) ?_
      refine Y.aload_n dX5_countBy_73 rfl ?_
      refine Y.getf dX5_countBy_74 flX5_232 ob67 rfl ?_
      refine Y.if_eq 84 dX5_countBy_77 (by decide) (by omega) (fun h_77 => ?_) (fun h_77 => ?_)
      rotate_left
      · exfalso; omega
      refine Y.iconst dX5_countBy_84 ?_
      exact Y.iret dX5_countBy_85 rfl (hP _ _ ⟨zrI (by show _ = zb (SR p ≠ none); rw [zb_f (fun q => q h)]), zF2.rf⟩)
    · refine Y.iload_n dX5_countBy_0 rfl ?_
      refine Y.tin 73 dX5_countBy_1 (by omega) (by omega) (by omega) rfl (by decide) ?_
      refine Y.aload_n dX5_countBy_73 rfl ?_
      refine Y.getf dX5_countBy_74 flX5_232 ob67 rfl ?_
      refine Y.if_eq 84 dX5_countBy_77 (by decide) (by omega) (fun h_77 => ?_) (fun h_77 => ?_)
      · exfalso; omega
      refine Y.iconst dX5_countBy_80 ?_
      refine Y.goto 85 dX5_countBy_81 (by decide) ?_
      exact Y.iret dX5_countBy_85 rfl (hP _ _ ⟨zrI (by show _ = zb (SR p ≠ none); rw [zb_t (by rw [h]; exact Option.some_ne_none _)]), zF2.rf⟩)
  · refine Y.iload_n dX5_countBy_0 rfl ?_
    refine Y.tin 86 dX5_countBy_1 (by omega) (by omega) (by omega) rfl (by decide) ?_
    refine Y.aload_n dX5_countBy_86 rfl ?_
    refine Y.iconst dX5_countBy_87 ?_
    refine Y.cVI dX5_countBy_88 mkX5_isMet csX5_282 ob67 ⟨_, rfl, rfl⟩ (c_X5_isMet ec hp hS (by omega) (by omega)) (by omega) rfl rfl (Nat.le_of_ble_eq_true rfl) ?_
    refine Y.ifz_eq 98 dX5_countBy_91 (by decide) (fun h_91 => ?_) (fun h_91 => ?_)
    · refine Y.iconst dX5_countBy_98 ?_
      refine Y.aload_n dX5_countBy_99 rfl ?_
      refine Y.iconst dX5_countBy_100 ?_
      refine Y.cVI dX5_countBy_101 mkX5_isMet csX5_282 ob67 ⟨_, rfl, rfl⟩ (c_X5_isMet ec hp hS (by omega) (by omega)) (by omega) rfl rfl (Nat.le_of_ble_eq_true rfl) ?_
      refine Y.ifz_eq 111 dX5_countBy_104 (by decide) (fun h_104 => ?_) (fun h_104 => ?_)
      · refine Y.iconst dX5_countBy_111 ?_
        refine Y.iadd dX5_countBy_112 ?_
        refine Y.aload_n dX5_countBy_113 rfl ?_
        refine Y.iconst dX5_countBy_114 ?_
        refine Y.cVI dX5_countBy_115 mkX5_isMet csX5_282 ob67 ⟨_, rfl, rfl⟩ (c_X5_isMet ec hp hS (by omega) (by omega)) (by omega) rfl rfl (Nat.le_of_ble_eq_true rfl) ?_
        refine Y.ifz_eq 125 dX5_countBy_118 (by decide) (fun h_118 => ?_) (fun h_118 => ?_)
        · refine Y.iconst dX5_countBy_125 ?_
          refine Y.iadd dX5_countBy_126 ?_
          exact Y.iret dX5_countBy_127 rfl (hP _ _ ⟨zrI (by show _ = zb (metP p 0) + zb (metP p 1) + zb (metP p 2); first | (rw [zb_t (by assumption : metP p 0), zb_t (by assumption : metP p 1), zb_t (by assumption : metP p 2)]; done) | (rw [zb_t (by assumption : metP p 0), zb_t (by assumption : metP p 1), zb_f (by assumption : ¬ metP p 2)]; done) | (rw [zb_t (by assumption : metP p 0), zb_f (by assumption : ¬ metP p 1), zb_t (by assumption : metP p 2)]; done) | (rw [zb_t (by assumption : metP p 0), zb_f (by assumption : ¬ metP p 1), zb_f (by assumption : ¬ metP p 2)]; done) | (rw [zb_f (by assumption : ¬ metP p 0), zb_t (by assumption : metP p 1), zb_t (by assumption : metP p 2)]; done) | (rw [zb_f (by assumption : ¬ metP p 0), zb_t (by assumption : metP p 1), zb_f (by assumption : ¬ metP p 2)]; done) | (rw [zb_f (by assumption : ¬ metP p 0), zb_f (by assumption : ¬ metP p 1), zb_t (by assumption : metP p 2)]; done) | (rw [zb_f (by assumption : ¬ metP p 0), zb_f (by assumption : ¬ metP p 1), zb_f (by assumption : ¬ metP p 2)]; done)), zF2.rf⟩)
        · refine Y.iconst dX5_countBy_121 ?_
          refine Y.goto 126 dX5_countBy_122 (by decide) ?_
          refine Y.iadd dX5_countBy_126 ?_
          exact Y.iret dX5_countBy_127 rfl (hP _ _ ⟨zrI (by show _ = zb (metP p 0) + zb (metP p 1) + zb (metP p 2); first | (rw [zb_t (by assumption : metP p 0), zb_t (by assumption : metP p 1), zb_t (by assumption : metP p 2)]; done) | (rw [zb_t (by assumption : metP p 0), zb_t (by assumption : metP p 1), zb_f (by assumption : ¬ metP p 2)]; done) | (rw [zb_t (by assumption : metP p 0), zb_f (by assumption : ¬ metP p 1), zb_t (by assumption : metP p 2)]; done) | (rw [zb_t (by assumption : metP p 0), zb_f (by assumption : ¬ metP p 1), zb_f (by assumption : ¬ metP p 2)]; done) | (rw [zb_f (by assumption : ¬ metP p 0), zb_t (by assumption : metP p 1), zb_t (by assumption : metP p 2)]; done) | (rw [zb_f (by assumption : ¬ metP p 0), zb_t (by assumption : metP p 1), zb_f (by assumption : ¬ metP p 2)]; done) | (rw [zb_f (by assumption : ¬ metP p 0), zb_f (by assumption : ¬ metP p 1), zb_t (by assumption : metP p 2)]; done) | (rw [zb_f (by assumption : ¬ metP p 0), zb_f (by assumption : ¬ metP p 1), zb_f (by assumption : ¬ metP p 2)]; done)), zF2.rf⟩)
      · refine Y.iconst dX5_countBy_107 ?_
        refine Y.goto 112 dX5_countBy_108 (by decide) ?_
        refine Y.iadd dX5_countBy_112 ?_
        refine Y.aload_n dX5_countBy_113 rfl ?_
        refine Y.iconst dX5_countBy_114 ?_
        refine Y.cVI dX5_countBy_115 mkX5_isMet csX5_282 ob67 ⟨_, rfl, rfl⟩ (c_X5_isMet ec hp hS (by omega) (by omega)) (by omega) rfl rfl (Nat.le_of_ble_eq_true rfl) ?_
        refine Y.ifz_eq 125 dX5_countBy_118 (by decide) (fun h_118 => ?_) (fun h_118 => ?_)
        · refine Y.iconst dX5_countBy_125 ?_
          refine Y.iadd dX5_countBy_126 ?_
          exact Y.iret dX5_countBy_127 rfl (hP _ _ ⟨zrI (by show _ = zb (metP p 0) + zb (metP p 1) + zb (metP p 2); first | (rw [zb_t (by assumption : metP p 0), zb_t (by assumption : metP p 1), zb_t (by assumption : metP p 2)]; done) | (rw [zb_t (by assumption : metP p 0), zb_t (by assumption : metP p 1), zb_f (by assumption : ¬ metP p 2)]; done) | (rw [zb_t (by assumption : metP p 0), zb_f (by assumption : ¬ metP p 1), zb_t (by assumption : metP p 2)]; done) | (rw [zb_t (by assumption : metP p 0), zb_f (by assumption : ¬ metP p 1), zb_f (by assumption : ¬ metP p 2)]; done) | (rw [zb_f (by assumption : ¬ metP p 0), zb_t (by assumption : metP p 1), zb_t (by assumption : metP p 2)]; done) | (rw [zb_f (by assumption : ¬ metP p 0), zb_t (by assumption : metP p 1), zb_f (by assumption : ¬ metP p 2)]; done) | (rw [zb_f (by assumption : ¬ metP p 0), zb_f (by assumption : ¬ metP p 1), zb_t (by assumption : metP p 2)]; done) | (rw [zb_f (by assumption : ¬ metP p 0), zb_f (by assumption : ¬ metP p 1), zb_f (by assumption : ¬ metP p 2)]; done)), zF2.rf⟩)
        · refine Y.iconst dX5_countBy_121 ?_
          refine Y.goto 126 dX5_countBy_122 (by decide) ?_
          refine Y.iadd dX5_countBy_126 ?_
          exact Y.iret dX5_countBy_127 rfl (hP _ _ ⟨zrI (by show _ = zb (metP p 0) + zb (metP p 1) + zb (metP p 2); first | (rw [zb_t (by assumption : metP p 0), zb_t (by assumption : metP p 1), zb_t (by assumption : metP p 2)]; done) | (rw [zb_t (by assumption : metP p 0), zb_t (by assumption : metP p 1), zb_f (by assumption : ¬ metP p 2)]; done) | (rw [zb_t (by assumption : metP p 0), zb_f (by assumption : ¬ metP p 1), zb_t (by assumption : metP p 2)]; done) | (rw [zb_t (by assumption : metP p 0), zb_f (by assumption : ¬ metP p 1), zb_f (by assumption : ¬ metP p 2)]; done) | (rw [zb_f (by assumption : ¬ metP p 0), zb_t (by assumption : metP p 1), zb_t (by assumption : metP p 2)]; done) | (rw [zb_f (by assumption : ¬ metP p 0), zb_t (by assumption : metP p 1), zb_f (by assumption : ¬ metP p 2)]; done) | (rw [zb_f (by assumption : ¬ metP p 0), zb_f (by assumption : ¬ metP p 1), zb_t (by assumption : metP p 2)]; done) | (rw [zb_f (by assumption : ¬ metP p 0), zb_f (by assumption : ¬ metP p 1), zb_f (by assumption : ¬ metP p 2)]; done)), zF2.rf⟩)
    · refine Y.iconst dX5_countBy_94 ?_
      refine Y.goto 99 dX5_countBy_95 (by decide) ?_
      refine Y.aload_n dX5_countBy_99 rfl ?_
      refine Y.iconst dX5_countBy_100 ?_
      refine Y.cVI dX5_countBy_101 mkX5_isMet csX5_282 ob67 ⟨_, rfl, rfl⟩ (c_X5_isMet ec hp hS (by omega) (by omega)) (by omega) rfl rfl (Nat.le_of_ble_eq_true rfl) ?_
      refine Y.ifz_eq 111 dX5_countBy_104 (by decide) (fun h_104 => ?_) (fun h_104 => ?_)
      · refine Y.iconst dX5_countBy_111 ?_
        refine Y.iadd dX5_countBy_112 ?_
        refine Y.aload_n dX5_countBy_113 rfl ?_
        refine Y.iconst dX5_countBy_114 ?_
        refine Y.cVI dX5_countBy_115 mkX5_isMet csX5_282 ob67 ⟨_, rfl, rfl⟩ (c_X5_isMet ec hp hS (by omega) (by omega)) (by omega) rfl rfl (Nat.le_of_ble_eq_true rfl) ?_
        refine Y.ifz_eq 125 dX5_countBy_118 (by decide) (fun h_118 => ?_) (fun h_118 => ?_)
        · refine Y.iconst dX5_countBy_125 ?_
          refine Y.iadd dX5_countBy_126 ?_
          exact Y.iret dX5_countBy_127 rfl (hP _ _ ⟨zrI (by show _ = zb (metP p 0) + zb (metP p 1) + zb (metP p 2); first | (rw [zb_t (by assumption : metP p 0), zb_t (by assumption : metP p 1), zb_t (by assumption : metP p 2)]; done) | (rw [zb_t (by assumption : metP p 0), zb_t (by assumption : metP p 1), zb_f (by assumption : ¬ metP p 2)]; done) | (rw [zb_t (by assumption : metP p 0), zb_f (by assumption : ¬ metP p 1), zb_t (by assumption : metP p 2)]; done) | (rw [zb_t (by assumption : metP p 0), zb_f (by assumption : ¬ metP p 1), zb_f (by assumption : ¬ metP p 2)]; done) | (rw [zb_f (by assumption : ¬ metP p 0), zb_t (by assumption : metP p 1), zb_t (by assumption : metP p 2)]; done) | (rw [zb_f (by assumption : ¬ metP p 0), zb_t (by assumption : metP p 1), zb_f (by assumption : ¬ metP p 2)]; done) | (rw [zb_f (by assumption : ¬ metP p 0), zb_f (by assumption : ¬ metP p 1), zb_t (by assumption : metP p 2)]; done) | (rw [zb_f (by assumption : ¬ metP p 0), zb_f (by assumption : ¬ metP p 1), zb_f (by assumption : ¬ metP p 2)]; done)), zF2.rf⟩)
        · refine Y.iconst dX5_countBy_121 ?_
          refine Y.goto 126 dX5_countBy_122 (by decide) ?_
          refine Y.iadd dX5_countBy_126 ?_
          exact Y.iret dX5_countBy_127 rfl (hP _ _ ⟨zrI (by show _ = zb (metP p 0) + zb (metP p 1) + zb (metP p 2); first | (rw [zb_t (by assumption : metP p 0), zb_t (by assumption : metP p 1), zb_t (by assumption : metP p 2)]; done) | (rw [zb_t (by assumption : metP p 0), zb_t (by assumption : metP p 1), zb_f (by assumption : ¬ metP p 2)]; done) | (rw [zb_t (by assumption : metP p 0), zb_f (by assumption : ¬ metP p 1), zb_t (by assumption : metP p 2)]; done) | (rw [zb_t (by assumption : metP p 0), zb_f (by assumption : ¬ metP p 1), zb_f (by assumption : ¬ metP p 2)]; done) | (rw [zb_f (by assumption : ¬ metP p 0), zb_t (by assumption : metP p 1), zb_t (by assumption : metP p 2)]; done) | (rw [zb_f (by assumption : ¬ metP p 0), zb_t (by assumption : metP p 1), zb_f (by assumption : ¬ metP p 2)]; done) | (rw [zb_f (by assumption : ¬ metP p 0), zb_f (by assumption : ¬ metP p 1), zb_t (by assumption : metP p 2)]; done) | (rw [zb_f (by assumption : ¬ metP p 0), zb_f (by assumption : ¬ metP p 1), zb_f (by assumption : ¬ metP p 2)]; done)), zF2.rf⟩)
      · refine Y.iconst dX5_countBy_107 ?_
        refine Y.goto 112 dX5_countBy_108 (by decide) ?_
        refine Y.iadd dX5_countBy_112 ?_
        refine Y.aload_n dX5_countBy_113 rfl ?_
        refine Y.iconst dX5_countBy_114 ?_
        refine Y.cVI dX5_countBy_115 mkX5_isMet csX5_282 ob67 ⟨_, rfl, rfl⟩ (c_X5_isMet ec hp hS (by omega) (by omega)) (by omega) rfl rfl (Nat.le_of_ble_eq_true rfl) ?_
        refine Y.ifz_eq 125 dX5_countBy_118 (by decide) (fun h_118 => ?_) (fun h_118 => ?_)
        · refine Y.iconst dX5_countBy_125 ?_
          refine Y.iadd dX5_countBy_126 ?_
          exact Y.iret dX5_countBy_127 rfl (hP _ _ ⟨zrI (by show _ = zb (metP p 0) + zb (metP p 1) + zb (metP p 2); first | (rw [zb_t (by assumption : metP p 0), zb_t (by assumption : metP p 1), zb_t (by assumption : metP p 2)]; done) | (rw [zb_t (by assumption : metP p 0), zb_t (by assumption : metP p 1), zb_f (by assumption : ¬ metP p 2)]; done) | (rw [zb_t (by assumption : metP p 0), zb_f (by assumption : ¬ metP p 1), zb_t (by assumption : metP p 2)]; done) | (rw [zb_t (by assumption : metP p 0), zb_f (by assumption : ¬ metP p 1), zb_f (by assumption : ¬ metP p 2)]; done) | (rw [zb_f (by assumption : ¬ metP p 0), zb_t (by assumption : metP p 1), zb_t (by assumption : metP p 2)]; done) | (rw [zb_f (by assumption : ¬ metP p 0), zb_t (by assumption : metP p 1), zb_f (by assumption : ¬ metP p 2)]; done) | (rw [zb_f (by assumption : ¬ metP p 0), zb_f (by assumption : ¬ metP p 1), zb_t (by assumption : metP p 2)]; done) | (rw [zb_f (by assumption : ¬ metP p 0), zb_f (by assumption : ¬ metP p 1), zb_f (by assumption : ¬ metP p 2)]; done)), zF2.rf⟩)
        · refine Y.iconst dX5_countBy_121 ?_
          refine Y.goto 126 dX5_countBy_122 (by decide) ?_
          refine Y.iadd dX5_countBy_126 ?_
          exact Y.iret dX5_countBy_127 rfl (hP _ _ ⟨zrI (by show _ = zb (metP p 0) + zb (metP p 1) + zb (metP p 2); first | (rw [zb_t (by assumption : metP p 0), zb_t (by assumption : metP p 1), zb_t (by assumption : metP p 2)]; done) | (rw [zb_t (by assumption : metP p 0), zb_t (by assumption : metP p 1), zb_f (by assumption : ¬ metP p 2)]; done) | (rw [zb_t (by assumption : metP p 0), zb_f (by assumption : ¬ metP p 1), zb_t (by assumption : metP p 2)]; done) | (rw [zb_t (by assumption : metP p 0), zb_f (by assumption : ¬ metP p 1), zb_f (by assumption : ¬ metP p 2)]; done) | (rw [zb_f (by assumption : ¬ metP p 0), zb_t (by assumption : metP p 1), zb_t (by assumption : metP p 2)]; done) | (rw [zb_f (by assumption : ¬ metP p 0), zb_t (by assumption : metP p 1), zb_f (by assumption : ¬ metP p 2)]; done) | (rw [zb_f (by assumption : ¬ metP p 0), zb_f (by assumption : ¬ metP p 1), zb_t (by assumption : metP p 2)]; done) | (rw [zb_f (by assumption : ¬ metP p 0), zb_f (by assumption : ¬ metP p 1), zb_f (by assumption : ¬ metP p 2)]; done)), zF2.rf⟩)
  · refine Y.iload_n dX5_countBy_0 rfl ?_
    refine Y.tin 128 dX5_countBy_1 (by omega) (by omega) (by omega) rfl (by decide) ?_
    refine Y.aload_n dX5_countBy_128 rfl ?_
    refine Y.cVI dX5_countBy_129 mkX5_endedNow csX5_318 ob67 ⟨_, rfl, rfl⟩ c_X5_endedNow (by omega) rfl rfl (Nat.le_of_ble_eq_true rfl) ?_
    exact Y.iret dX5_countBy_132 rfl (hP _ _ ⟨zrI (by show _ = σ.1 38 1; rw [r4]; exact sm_c 9 (fun i a c => (r3 i a (by omega)).2.2)), zF2.rf⟩)
  · refine Y.iload_n dX5_countBy_0 rfl ?_
    refine Y.tin 133 dX5_countBy_1 (by omega) (by omega) (by omega) rfl (by decide) ?_
    refine Y.aload_n dX5_countBy_133 rfl ?_
    refine Y.iconst dX5_countBy_134 ?_
    refine Y.cVI dX5_countBy_135 mkX5_idle csX5_329 ob67 ⟨_, rfl, rfl⟩ (c_X5_idle (by omega) (by omega) r2 (idle_j hJ (k := 0) (by omega)).2) (by omega) rfl rfl (Nat.le_of_ble_eq_true rfl) ?_
    exact Y.iret dX5_countBy_138 rfl (hP _ _ ⟨zrI (idle_j hJ (k := 0) (by omega)).1, zF2.rf⟩)
  · refine Y.iload_n dX5_countBy_0 rfl ?_
    refine Y.tin 139 dX5_countBy_1 (by omega) (by omega) (by omega) rfl (by decide) ?_
    refine Y.aload_n dX5_countBy_139 rfl ?_
    refine Y.iconst dX5_countBy_140 ?_
    refine Y.cVI dX5_countBy_141 mkX5_idle csX5_329 ob67 ⟨_, rfl, rfl⟩ (c_X5_idle (by omega) (by omega) r2 (idle_j hJ (k := 1) (by omega)).2) (by omega) rfl rfl (Nat.le_of_ble_eq_true rfl) ?_
    exact Y.iret dX5_countBy_144 rfl (hP _ _ ⟨zrI (idle_j hJ (k := 1) (by omega)).1, zF2.rf⟩)
  · refine Y.iload_n dX5_countBy_0 rfl ?_
    refine Y.tin 145 dX5_countBy_1 (by omega) (by omega) (by omega) rfl (by decide) ?_
    refine Y.aload_n dX5_countBy_145 rfl ?_
    refine Y.getf dX5_countBy_146 flX5_308 ob67 rfl ?_
    exact Y.iret dX5_countBy_149 rfl (hP _ _ ⟨zrI (by show _ = σ.1 38 0; rw [r1]), zF2.rf⟩)
  · refine Y.iload_n dX5_countBy_0 rfl ?_
    refine Y.tin 150 dX5_countBy_1 (by omega) (by omega) (by omega) rfl (by decide) ?_
    refine Y.aload_n dX5_countBy_150 rfl ?_
    refine Y.callV dX5_countBy_151 mkX5_over csX5_332 ob67 ⟨_, rfl, rfl⟩ (c_X5_over ec hp) (by omega) rfl rfl (Nat.le_of_ble_eq_true rfl) (fun r_151 s_151 p_151 => ?_)
    obtain ⟨rfl, f_151⟩ := p_151
    exact Y.iret dX5_countBy_154 rfl (hP _ _ ⟨rfl, f_151⟩)
  · refine Y.iload_n dX5_countBy_0 rfl ?_
    refine Y.tin 155 dX5_countBy_1 (by omega) (by omega) (by omega) rfl (by decide) ?_
    refine Y.aload_n dX5_countBy_155 rfl ?_
    refine Y.getf dX5_countBy_156 flX5_95 ob67 rfl ?_
    exact Y.iret dX5_countBy_159 rfl (hP _ _ ⟨zrI (by show _ = σ.1 0 5; rw [hJ.2.2.2.2]), zF2.rf⟩)
set_option maxHeartbeats 1000000 in
theorem c_X5_countBy0 {w : Int} (hw : zB w) (hq : w < 0 ∨ 8 < w) : YI 0 μX5_countBy [.ref 67, .int (zi w)] σ (-2) σ := by
  refine YC.of2 (by decide) (Nat.le_of_ble_eq_true rfl) (fun d P hd hP => ?_)
  refine Y.iload_n dX5_countBy_0 rfl ?_
  refine Y.tout 160 dX5_countBy_1 (by omega) (by omega) (by decide) ?_
  refine Y.bipush dX5_countBy_160 (by decide +kernel) ?_
  exact Y.iret dX5_countBy_162 rfl (hP _ _ ⟨rfl, rfl⟩)
set_option maxHeartbeats 1000000 in
theorem c_X5_count {p : zP} (ec : mP σ = p) (hp : WP p) (hJ : JD σ) {w : Int} (hw : zB w) : YC 10 μX5_count [.ref 67, .int (zi w)] σ (fun r s => RQ (0 ≤ w ∧ w ≤ 8) (cntA σ p w.toNat) r ∧ EM σ s) := by
  refine YC.of2 (by decide) (Nat.le_of_ble_eq_true rfl) (fun d P hd hP => ?_)
  refine Y.aload_n dX5_count_0 rfl ?_
  refine Y.callV dX5_count_1 mkX5_settles csX5_248 ob67 ⟨_, rfl, rfl⟩ (c_X5_settles ec hp) (by omega) rfl rfl (Nat.le_of_ble_eq_true rfl) (fun r_1 s_1 p_1 => ?_)
  obtain ⟨rfl, f_1, k_1, g_1⟩ := p_1
  have ec2 := f_1.mp.trans ec
  have hE := f_1.em
  by_cases hq : 0 ≤ w ∧ w ≤ 8
  · obtain ⟨k, rfl⟩ : ∃ k : Nat, w = (k : Int) := ⟨w.toNat, by omega⟩
    refine Y.aload_n dX5_count_4 rfl ?_
    refine Y.iload_n dX5_count_5 rfl ?_
    refine Y.callV dX5_count_6 mkX5_countBy csX5_335 ob67 ⟨_, rfl, rfl⟩ (c_X5_countBy ec2 hp (hE.1.jd hJ) g_1 (by omega)) (by omega) rfl rfl (Nat.le_of_ble_eq_true rfl) (fun r_6 s_6 p_6 => ?_)
    obtain ⟨rfl, f_6⟩ := p_6
    exact Y.iret dX5_count_9 rfl (hP _ _ ⟨Or.inl ⟨hq, zrI (cntA_e hE.1 _)⟩, hE.tr f_6.em⟩)
  · skip
    refine Y.aload_n dX5_count_4 rfl ?_
    refine Y.iload_n dX5_count_5 rfl ?_
    refine Y.cVI dX5_count_6 mkX5_countBy csX5_335 ob67 ⟨_, rfl, rfl⟩ (c_X5_countBy0 hw (by omega)) (by omega) rfl rfl (Nat.le_of_ble_eq_true rfl) ?_
    exact Y.iret dX5_count_9 rfl (hP _ _ ⟨Or.inr ⟨hq, rfl⟩, hE⟩)
set_option maxHeartbeats 2000000 in
theorem mt_148 (hJ : JD σ) {d : Nat} {P : Option Value → zS → Prop} (hd : 9 ≤ d) {h g x : Int} (h0 : 0 ≤ x) (h9 : x < 9) (hk : P (some (.long (zl (dgf (fun w h => dg h (snA σ x w)) 3 g)))) σ) : Y d μX5_stepTells 148 [some (.ref 67), some (.long (zl h)), none, some (.int (zi x)), some (.long (zl g)), none, some (.int (zi 0))] [] σ P := by
  have hr := hJ.2.2.2.1.2.2.1 x h0 h9
  refine zw1 (fun w => (0 ≤ w ∧ w ≤ 3)) (fun w => Y d μX5_stepTells 148 [some (.ref 67), some (.long (zl h)), none, some (.int (zi x)), some (.long (zl (dgf (fun w h => dg h (snA σ x w)) (w - 0).toNat g))), none, some (.int (zi w))] [] σ P) (fun w => (3 - w).toNat) ?_ 0 ⟨by omega, by omega⟩
  intro w hI ih
  obtain ⟨i1, i2⟩ := hI
  refine Y.iload dX5_stepTells_148 rfl ?_
  refine Y.iconst dX5_stepTells_150 ?_
  refine Y.icmp_ge 177 dX5_stepTells_151 (by decide) (by omega) (by omega) (fun h_151 => ?_) (fun h_151 => ?_)
  · refine Y.lload dX5_stepTells_177 rfl ?_
    exact Y.lret dX5_stepTells_179 rfl (by rw [show w = 3 by omega, show ((3 : Int) - 0).toNat = 3 from rfl]; exact hk)
  · refine Y.ldc2 (31) dX5_stepTells_154 kX5_338 ?_
    refine Y.lload dX5_stepTells_157 rfl ?_
    refine Y.lmul dX5_stepTells_159 ?_
    refine Y.aload_n dX5_stepTells_160 rfl ?_
    refine Y.iload_n dX5_stepTells_161 rfl ?_
    refine Y.iload dX5_stepTells_162 rfl ?_
    refine Y.cVI dX5_stepTells_164 mkX5_seenBy csX5_321 ob67 ⟨_, rfl, rfl⟩ (c_X5_seenBy h0 h9 (by omega)) (by omega) rfl rfl (Nat.le_of_ble_eq_true rfl) ?_
    rw [show (if w = 0 then σ.1 90 x else if w = 1 then σ.1 91 x else σ.1 92 x) = snA σ x w by unfold snA; rw [hr.1, hr.2.1, hr.2.2]]
    refine Y.i2lw dX5_stepTells_167 ?_
    refine Y.ladd dX5_stepTells_168 ?_
    refine Y.lstore dX5_stepTells_169 (by decide) rfl ?_
    refine Y.iinc dX5_stepTells_171 rfl (by decide) rfl ?_
    refine Y.goto 148 dX5_stepTells_174 (by decide) ?_
    rw [show 31 * (dgf (fun w h => dg h (snA σ x w)) (w - 0).toNat g) + wi (snA σ x w) = dgf (fun w h => dg h (snA σ x w)) (w + 1 - 0).toNat g from (dgf_s (F := fun w h => dg h (snA σ x w)) i1).symm]
    exact ih _ ⟨by omega, by omega⟩ (by omega)
set_option maxHeartbeats 2000000 in
theorem mt_116 {p : zP} (ec : mP σ = p) (hp : WP p) (hS : MS σ p) {d : Nat} {P : Option Value → zS → Prop} (hd : 9 ≤ d) {h g x : Int} (h0 : 0 ≤ x) (h9 : x < 9) (ht : th p x) (hk : Y d μX5_stepTells 145 [some (.ref 67), some (.long (zl h)), none, some (.int (zi x)), some (.long (zl (dgf (fun w h => dg h (wrsA p x w)) 3 g))), none, some (.int (zi 3))] [] σ P) : Y d μX5_stepTells 116 [some (.ref 67), some (.long (zl h)), none, some (.int (zi x)), some (.long (zl g)), none, some (.int (zi 0))] [] σ P := by
  refine zw1 (fun w => (0 ≤ w ∧ w ≤ 3)) (fun w => Y d μX5_stepTells 116 [some (.ref 67), some (.long (zl h)), none, some (.int (zi x)), some (.long (zl (dgf (fun w h => dg h (wrsA p x w)) (w - 0).toNat g))), none, some (.int (zi w))] [] σ P) (fun w => (3 - w).toNat) ?_ 0 ⟨by omega, by omega⟩
  intro w hI ih
  obtain ⟨i1, i2⟩ := hI
  refine Y.iload dX5_stepTells_116 rfl ?_
  refine Y.iconst dX5_stepTells_118 ?_
  refine Y.icmp_ge 145 dX5_stepTells_119 (by decide) (by omega) (by omega) (fun h_119 => ?_) (fun h_119 => ?_)
  · rw [show w = 3 by omega, show ((3 : Int) - 0).toNat = 3 from rfl]
    exact hk
  · refine Y.ldc2 (31) dX5_stepTells_122 kX5_338 ?_
    refine Y.lload dX5_stepTells_125 rfl ?_
    refine Y.lmul dX5_stepTells_127 ?_
    refine Y.aload_n dX5_stepTells_128 rfl ?_
    refine Y.iload_n dX5_stepTells_129 rfl ?_
    refine Y.iload dX5_stepTells_130 rfl ?_
    refine Y.cVI dX5_stepTells_132 mkX5_worstBy csX5_276 ob67 ⟨_, rfl, rfl⟩ (c_X5_worstBy ec hp hS h0 h9 ht (by omega)) (by omega) rfl rfl (Nat.le_of_ble_eq_true rfl) ?_
    refine Y.i2lw dX5_stepTells_135 ?_
    refine Y.ladd dX5_stepTells_136 ?_
    refine Y.lstore dX5_stepTells_137 (by decide) rfl ?_
    refine Y.iinc dX5_stepTells_139 rfl (by decide) rfl ?_
    refine Y.goto 116 dX5_stepTells_142 (by decide) ?_
    rw [show 31 * (dgf (fun w h => dg h (wrsA p x w)) (w - 0).toNat g) + wi (wrsA p x w) = dgf (fun w h => dg h (wrsA p x w)) (w + 1 - 0).toNat g from (dgf_s (F := fun w h => dg h (wrsA p x w)) i1).symm]
    exact ih _ ⟨by omega, by omega⟩ (by omega)
set_option maxHeartbeats 2000000 in
theorem mt_6 {p : zP} (ec : mP σ = p) (hp : WP p) (hS : MS σ p) {d : Nat} {P : Option Value → zS → Prop} (hd : 9 ≤ d) {h g x : Int} (h0 : 0 ≤ x) (h9 : x < 9) (ht : th p x) (hk : Y d μX5_stepTells 36 [some (.ref 67), some (.long (zl h)), none, some (.int (zi x)), some (.long (zl (dgf (fun w h => dg h (infA p x w.toNat)) 7 g))), none, some (.int (zi 7))] [] σ P) : Y d μX5_stepTells 6 [some (.ref 67), some (.long (zl h)), none, some (.int (zi x)), some (.long (zl g)), none, some (.int (zi 0))] [] σ P := by
  refine zw1 (fun w => (0 ≤ w ∧ w ≤ 7)) (fun w => Y d μX5_stepTells 6 [some (.ref 67), some (.long (zl h)), none, some (.int (zi x)), some (.long (zl (dgf (fun w h => dg h (infA p x w.toNat)) (w - 0).toNat g))), none, some (.int (zi w))] [] σ P) (fun w => (7 - w).toNat) ?_ 0 ⟨by omega, by omega⟩
  intro w hI ih
  obtain ⟨i1, i2⟩ := hI
  refine Y.iload dX5_stepTells_6 rfl ?_
  refine Y.bipush dX5_stepTells_8 (by decide +kernel) ?_
  refine Y.icmp_ge 36 dX5_stepTells_10 (by decide) (by omega) (by omega) (fun h_10 => ?_) (fun h_10 => ?_)
  · rw [show w = 7 by omega, show ((7 : Int) - 0).toNat = 7 from rfl]
    exact hk
  · refine Y.ldc2 (31) dX5_stepTells_13 kX5_338 ?_
    refine Y.lload dX5_stepTells_16 rfl ?_
    refine Y.lmul dX5_stepTells_18 ?_
    refine Y.aload_n dX5_stepTells_19 rfl ?_
    refine Y.iload_n dX5_stepTells_20 rfl ?_
    refine Y.iload dX5_stepTells_21 rfl ?_
    obtain ⟨k, rfl⟩ : ∃ k : Nat, w = (k : Int) := ⟨w.toNat, by omega⟩
    refine Y.cVI dX5_stepTells_23 mkX5_infoBy csX5_251 ob67 ⟨_, rfl, rfl⟩ (c_X5_infoBy ec hp h0 h9 (by omega) (fun _ => hS)) (by omega) rfl rfl (Nat.le_of_ble_eq_true rfl) ?_
    rw [show infA p x k = infA p x ((k : Int)).toNat from rfl]
    refine Y.i2lw dX5_stepTells_26 ?_
    refine Y.ladd dX5_stepTells_27 ?_
    refine Y.lstore dX5_stepTells_28 (by decide) rfl ?_
    refine Y.iinc dX5_stepTells_30 rfl (by decide) rfl ?_
    refine Y.goto 6 dX5_stepTells_33 (by decide) ?_
    rw [show 31 * (dgf (fun w h => dg h (infA p x w.toNat)) ((k : Int) - 0).toNat g) + wi (infA p x ((k : Int)).toNat) = dgf (fun w h => dg h (infA p x w.toNat)) ((k : Int) + 1 - 0).toNat g from (dgf_s (F := fun w h => dg h (infA p x w.toNat)) i1).symm]
    exact ih _ ⟨by omega, by omega⟩ (by omega)
set_option maxHeartbeats 2000000 in
theorem mt_36 {p : zP} (ec : mP σ = p) (hp : WP p) (hS : MS σ p) (hpk : PK σ) {d : Nat} {P : Option Value → zS → Prop} (hd : 9 ≤ d) {h g x w : Int} (h0 : 0 ≤ x) (h9 : x < 9) (ht : th p x) (hk : ∀ s : zS, MW p σ s → mP s = p → Y d μX5_stepTells 145 [some (.ref 67), some (.long (zl h)), none, some (.int (zi x)), some (.long (zl (dgf (fun w h => dg h (wrsA p x w)) 3 (dg (dg (dg (dg (dg g (ldp p x 0)) (ldp p x 1)) (bndA p x)) (srcA p x)) (qckA p x))))), none, some (.int (zi 3))] [] s P) : Y d μX5_stepTells 36 [some (.ref 67), some (.long (zl h)), none, some (.int (zi x)), some (.long (zl g)), none, some (.int (zi w))] [] σ P := by
  have hW : MW p σ σ := ⟨EM.rf, hS, hpk⟩
  refine Y.ldc2 (31) dX5_stepTells_36 kX5_338 ?_
  refine Y.lload dX5_stepTells_39 rfl ?_
  refine Y.lmul dX5_stepTells_41 ?_
  refine Y.aload_n dX5_stepTells_42 rfl ?_
  refine Y.iload_n dX5_stepTells_43 rfl ?_
  refine Y.iconst dX5_stepTells_44 ?_
  refine Y.callV dX5_stepTells_45 mkX5_loadBy csX5_180 ob67 ⟨_, rfl, rfl⟩ (k_X5_loadBy ec hp h0 h9 (by omega)) (by omega) rfl rfl (Nat.le_of_ble_eq_true rfl) (fun r_45 s_45 p_45 => ?_)
  obtain ⟨rfl, f_45⟩ := p_45
  have hW1 := hW.f2 f_45
  have ec1 : mP s_45 = p := f_45.em.1.mp.trans ec
  refine Y.i2lw dX5_stepTells_48 ?_
  refine Y.ladd dX5_stepTells_49 ?_
  refine Y.lstore dX5_stepTells_50 (by decide) rfl ?_
  refine Y.ldc2 (31) dX5_stepTells_52 kX5_338 ?_
  refine Y.lload dX5_stepTells_55 rfl ?_
  refine Y.lmul dX5_stepTells_57 ?_
  refine Y.aload_n dX5_stepTells_58 rfl ?_
  refine Y.iload_n dX5_stepTells_59 rfl ?_
  refine Y.iconst dX5_stepTells_60 ?_
  refine Y.callV dX5_stepTells_61 mkX5_loadBy csX5_180 ob67 ⟨_, rfl, rfl⟩ (k_X5_loadBy ec1 hp h0 h9 (by omega)) (by omega) rfl rfl (Nat.le_of_ble_eq_true rfl) (fun r_61 s_61 p_61 => ?_)
  obtain ⟨rfl, f_61⟩ := p_61
  have hW2 := hW1.f2 f_61
  have ec2 : mP s_61 = p := f_61.em.1.mp.trans ec1
  refine Y.i2lw dX5_stepTells_64 ?_
  refine Y.ladd dX5_stepTells_65 ?_
  refine Y.lstore dX5_stepTells_66 (by decide) rfl ?_
  refine Y.ldc2 (31) dX5_stepTells_68 kX5_338 ?_
  refine Y.lload dX5_stepTells_71 rfl ?_
  refine Y.lmul dX5_stepTells_73 ?_
  refine Y.aload_n dX5_stepTells_74 rfl ?_
  refine Y.iload_n dX5_stepTells_75 rfl ?_
  refine Y.cVI dX5_stepTells_76 mkX5_boundBy csX5_254 ob67 ⟨_, rfl, rfl⟩ (c_X5_boundBy ec2 hp hW2.2.1 h0 h9 ht) (by omega) rfl rfl (Nat.le_of_ble_eq_true rfl) ?_
  refine Y.i2lw dX5_stepTells_79 ?_
  refine Y.ladd dX5_stepTells_80 ?_
  refine Y.lstore dX5_stepTells_81 (by decide) rfl ?_
  refine Y.ldc2 (31) dX5_stepTells_83 kX5_338 ?_
  refine Y.lload dX5_stepTells_86 rfl ?_
  refine Y.lmul dX5_stepTells_88 ?_
  refine Y.aload_n dX5_stepTells_89 rfl ?_
  refine Y.iload_n dX5_stepTells_90 rfl ?_
  refine Y.callV dX5_stepTells_91 mkX5_searchedBy csX5_260 ob67 ⟨_, rfl, rfl⟩ (c_X5_searchedBy ec2 hp hW2.2.1 hW2.2.2 h0 h9 ht) (by omega) rfl rfl (Nat.le_of_ble_eq_true rfl) (fun r_91 s_91 p_91 => ?_)
  obtain ⟨rfl, f_91, g_91⟩ := p_91
  have hW3 : MW p σ s_91 := ⟨hW2.1.tr f_91.em, hW2.2.1.fr f_91, g_91⟩
  have ec3 : mP s_91 = p := f_91.em.1.mp.trans ec2
  refine Y.i2lw dX5_stepTells_94 ?_
  refine Y.ladd dX5_stepTells_95 ?_
  refine Y.lstore dX5_stepTells_96 (by decide) rfl ?_
  refine Y.ldc2 (31) dX5_stepTells_98 kX5_338 ?_
  refine Y.lload dX5_stepTells_101 rfl ?_
  refine Y.lmul dX5_stepTells_103 ?_
  refine Y.aload_n dX5_stepTells_104 rfl ?_
  refine Y.iload_n dX5_stepTells_105 rfl ?_
  refine Y.cVI dX5_stepTells_106 mkX5_quickBy csX5_269 ob67 ⟨_, rfl, rfl⟩ (c_X5_quickBy ec3 hp hW3.2.1 h0 h9 ht) (by omega) rfl rfl (Nat.le_of_ble_eq_true rfl) ?_
  refine Y.i2lw dX5_stepTells_109 ?_
  refine Y.ladd dX5_stepTells_110 ?_
  refine Y.lstore dX5_stepTells_111 (by decide) rfl ?_
  refine Y.iconst dX5_stepTells_113 ?_
  refine Y.istore dX5_stepTells_114 (by decide) rfl ?_
  exact mt_116 ec3 hp hW3.2.1 hd h0 h9 ht (hk _ hW3 ec3)
set_option maxHeartbeats 4000000 in
theorem c_X5_stepTells {p : zP} (ec : mP σ = p) (hp : WP p) (hJ : JD σ) (hS : MS σ p) (hpk : PK σ) {h x : Int} (h0 : 0 ≤ x) (h9 : x < 9) (ht : th p x) : YC 9 μX5_stepTells [.ref 67, .long (zl h), .int (zi x)] σ (fun r s => r = some (.long (zl (stT σ p x h))) ∧ MW p σ s) := by
  refine YC.of2 (by decide) (Nat.le_of_ble_eq_true rfl) (fun d P hd hP => ?_)
  refine Y.lload_n dX5_stepTells_0 rfl ?_
  refine Y.lstore dX5_stepTells_1 (by decide) rfl ?_
  refine Y.iconst dX5_stepTells_3 ?_
  refine Y.istore dX5_stepTells_4 (by decide) rfl ?_
  refine mt_6 ec hp hS hd h0 h9 ht ?_
  refine mt_36 ec hp hS hpk hd h0 h9 ht (fun s hW ec3 => ?_)
  refine Y.iconst dX5_stepTells_145 ?_
  refine Y.istore dX5_stepTells_146 (by decide) rfl ?_
  refine mt_148 (hW.1.1.jd hJ) hd h0 h9 (hP _ _ ⟨?_, hW⟩)
  simp only [snA_e hW.1.1]
  rfl
set_option maxHeartbeats 2000000 in
theorem mgs_134 (hJ : JD σ) {d : Nat} {P : Option Value → zS → Prop} (hd : 10 ≤ d) {g : Int} (hk : P (some (.long (zl (dgf (fun t h => dg (dg h (σ.1 41 t)) (σ.1 42 t)) 60 g)))) σ) : Y d μX5_digest 134 [some (.ref 67), some (.long (zl g)), none, some (.int (zi 0)), none] [] σ P := by
  have hr := hJ.2.2.2.1.2.1
  refine zw1 (fun t => (0 ≤ t ∧ t ≤ 60)) (fun t => Y d μX5_digest 134 [some (.ref 67), some (.long (zl (dgf (fun t h => dg (dg h (σ.1 41 t)) (σ.1 42 t)) (t - 0).toNat g))), none, some (.int (zi t)), none] [] σ P) (fun t => (60 - t).toNat) ?_ 0 ⟨by omega, by omega⟩
  intro t hI ih
  obtain ⟨t1, t2⟩ := hI
  refine Y.iload_n dX5_digest_134 rfl ?_
  refine Y.bipush dX5_digest_135 (by decide +kernel) ?_
  refine Y.icmp_ge 174 dX5_digest_137 (by decide) (by omega) (by omega) (fun h_137 => ?_) (fun h_137 => ?_)
  · refine Y.lload_n dX5_digest_174 rfl ?_
    exact Y.lret dX5_digest_175 rfl (by rw [show t = 60 by omega, show ((60 : Int) - 0).toNat = 60 from rfl]; exact hk)
  · refine Y.ldc2 (31) dX5_digest_140 kX5_338 ?_
    refine Y.lload_n dX5_digest_143 rfl ?_
    refine Y.lmul dX5_digest_144 ?_
    refine Y.aload_n dX5_digest_145 rfl ?_
    refine Y.iconst dX5_digest_146 ?_
    refine Y.iload_n dX5_digest_147 rfl ?_
    refine Y.cVI dX5_digest_148 mkX5_tickBy csX5_326 ob67 ⟨_, rfl, rfl⟩ (c_X5_tickBy (by omega) (by omega) (by omega) (by omega) hr) (by omega) rfl rfl (Nat.le_of_ble_eq_true rfl) ?_
    rw [show (300 * (0 : Int) + t) = 300 * ((0 : Nat) : Int) + t from rfl, tick_j hJ (k := 0) (by omega) (by omega) (by omega), show 41 + 0 = 41 from rfl]
    refine Y.i2lw dX5_digest_151 ?_
    refine Y.ladd dX5_digest_152 ?_
    refine Y.lstore_n dX5_digest_153 (by decide) rfl ?_
    refine Y.ldc2 (31) dX5_digest_154 kX5_338 ?_
    refine Y.lload_n dX5_digest_157 rfl ?_
    refine Y.lmul dX5_digest_158 ?_
    refine Y.aload_n dX5_digest_159 rfl ?_
    refine Y.iconst dX5_digest_160 ?_
    refine Y.iload_n dX5_digest_161 rfl ?_
    refine Y.cVI dX5_digest_162 mkX5_tickBy csX5_326 ob67 ⟨_, rfl, rfl⟩ (c_X5_tickBy (by omega) (by omega) (by omega) (by omega) hr) (by omega) rfl rfl (Nat.le_of_ble_eq_true rfl) ?_
    rw [show (300 * (1 : Int) + t) = 300 * ((1 : Nat) : Int) + t from rfl, tick_j hJ (k := 1) (by omega) (by omega) (by omega), show 41 + 1 = 42 from rfl]
    refine Y.i2lw dX5_digest_165 ?_
    refine Y.ladd dX5_digest_166 ?_
    refine Y.lstore_n dX5_digest_167 (by decide) rfl ?_
    refine Y.iinc dX5_digest_168 rfl (by decide) rfl ?_
    refine Y.goto 134 dX5_digest_171 (by decide) ?_
    rw [show 31 * (31 * (dgf (fun t h => dg (dg h (σ.1 41 t)) (σ.1 42 t)) (t - 0).toNat g) + wi (σ.1 41 t)) + wi (σ.1 42 t) = dgf (fun t h => dg (dg h (σ.1 41 t)) (σ.1 42 t)) (t + 1 - 0).toNat g from (dgf_s (F := fun t h => dg (dg h (σ.1 41 t)) (σ.1 42 t)) t1).symm]
    exact ih _ ⟨by omega, by omega⟩ (by omega)
set_option maxHeartbeats 2000000 in
theorem mgs_105 {p : zP} (ec : mP σ = p) (hp : WP p) (hJ : JD σ) (hS : MS σ p) (hpk : PK σ) {d : Nat} {P : Option Value → zS → Prop} (hd : 10 ≤ d) {g : Int} (hk : ∀ u : zS, MW p σ u → Y d μX5_digest 132 [some (.ref 67), some (.long (zl (dgf (fun x h => @ite _ (th p x) (Classical.propDecidable _) (stT σ p x h) h) 9 g))), none, some (.int (zi 9)), none] [] u P) : Y d μX5_digest 105 [some (.ref 67), some (.long (zl g)), none, some (.int (zi 0)), none] [] σ P := by
  refine zw2 (fun u x => (0 ≤ x ∧ x ≤ 9 ∧ MW p σ u)) (fun u x => Y d μX5_digest 105 [some (.ref 67), some (.long (zl (dgf (fun x h => @ite _ (th p x) (Classical.propDecidable _) (stT σ p x h) h) (x - 0).toNat g))), none, some (.int (zi x)), none] [] u P) (fun u x => (9 - x).toNat) ?_ σ 0 ⟨by omega, by omega, ⟨EM.rf, hS, hpk⟩⟩
  intro u x hI ih
  obtain ⟨x1, x2, hW⟩ := hI
  have ecu : mP u = p := hW.1.1.mp.trans ec
  have est : ∀ h : Int, stT u p x h = stT σ p x h := fun h => by unfold stT; simp only [snA_e hW.1.1]
  refine Y.iload_n dX5_digest_105 rfl ?_
  refine Y.bipush dX5_digest_106 (by decide +kernel) ?_
  refine Y.icmp_ge 132 dX5_digest_108 (by decide) (by omega) (by omega) (fun h_108 => ?_) (fun h_108 => ?_)
  · rw [show x = 9 by omega, show ((9 : Int) - 0).toNat = 9 from rfl]
    exact hk u hW
  · refine Y.aload_n dX5_digest_111 rfl ?_
    refine Y.iload_n dX5_digest_112 rfl ?_
    refine Y.cVI dX5_digest_113 mkX5_isThere csX5_160 ob67 ⟨_, rfl, rfl⟩ (k_X5_isThere ecu hp (by omega) (by omega)) (by omega) rfl rfl (Nat.le_of_ble_eq_true rfl) ?_
    refine Y.ifz_eq 126 dX5_digest_116 (by decide) (fun h_116 => ?_) (fun h_116 => ?_)
    · refine Y.iinc dX5_digest_126 rfl (by decide) rfl ?_
      refine Y.goto 105 dX5_digest_129 (by decide) ?_
      refine Y.sub (zs_s (zs_s (zs_n (zs_s (zs_n zs_0))))) ?_
      first
        | (have e9 : dgf (fun x h => @ite _ (th p x) (Classical.propDecidable _) (stT σ p x h) h) (x + 1 - 0).toNat g = (dgf (fun x h => @ite _ (th p x) (Classical.propDecidable _) (stT σ p x h) h) (x - 0).toNat g) := by rw [dgf_s x1, if_neg (by assumption)]
           rw [← e9]
           exact ih _ _ ⟨by omega, by omega, hW⟩ (by omega))
        | (have e9 : dgf (fun x h => @ite _ (th p x) (Classical.propDecidable _) (stT σ p x h) h) (x + 1 - 0).toNat g = stT u p x (dgf (fun x h => @ite _ (th p x) (Classical.propDecidable _) (stT σ p x h) h) (x - 0).toNat g) := by rw [dgf_s x1, if_pos (by assumption), est]
           rw [← e9]
           exact ih _ _ ⟨by omega, by omega, hW.tr f_122⟩ (by omega))
    · refine Y.aload_n dX5_digest_119 rfl ?_
      refine Y.lload_n dX5_digest_120 rfl ?_
      refine Y.iload_n dX5_digest_121 rfl ?_
      refine Y.callV dX5_digest_122 mkX5_stepTells csX5_342 ob67 ⟨_, rfl, rfl⟩ (c_X5_stepTells ecu hp (hW.1.1.jd hJ) hW.2.1 hW.2.2 (by omega) (by omega) (by assumption)) (by omega) rfl rfl (Nat.le_of_ble_eq_true rfl) (fun r_122 s_122 p_122 => ?_)
      obtain ⟨rfl, f_122⟩ := p_122
      refine Y.lstore_n dX5_digest_125 (by decide) rfl ?_
      refine Y.iinc dX5_digest_126 rfl (by decide) rfl ?_
      refine Y.goto 105 dX5_digest_129 (by decide) ?_
      refine Y.sub (zs_s (zs_s (zs_n (zs_s (zs_n zs_0))))) ?_
      first
        | (have e9 : dgf (fun x h => @ite _ (th p x) (Classical.propDecidable _) (stT σ p x h) h) (x + 1 - 0).toNat g = (dgf (fun x h => @ite _ (th p x) (Classical.propDecidable _) (stT σ p x h) h) (x - 0).toNat g) := by rw [dgf_s x1, if_neg (by assumption)]
           rw [← e9]
           exact ih _ _ ⟨by omega, by omega, hW⟩ (by omega))
        | (have e9 : dgf (fun x h => @ite _ (th p x) (Classical.propDecidable _) (stT σ p x h) h) (x + 1 - 0).toNat g = stT u p x (dgf (fun x h => @ite _ (th p x) (Classical.propDecidable _) (stT σ p x h) h) (x - 0).toNat g) := by rw [dgf_s x1, if_pos (by assumption), est]
           rw [← e9]
           exact ih _ _ ⟨by omega, by omega, hW.tr f_122⟩ (by omega))
set_option maxHeartbeats 2000000 in
theorem mgs_61 {p : zP} (ec : mP σ = p) {d : Nat} {P : Option Value → zS → Prop} (hd : 10 ≤ d) {g : Int} (hk : Y d μX5_digest 103 [some (.ref 67), some (.long (zl (dgf (fun i h => dgf (fun w h => dg h (p w.toNat i)) 6 h) 3 g))), none, some (.int (zi 3)), none] [] σ P) : Y d μX5_digest 61 [some (.ref 67), some (.long (zl g)), none, some (.int (zi 0)), none] [] σ P := by
  refine zw1 (fun i => (0 ≤ i ∧ i ≤ 3)) (fun i => Y d μX5_digest 61 [some (.ref 67), some (.long (zl (dgf (fun i h => dgf (fun w h => dg h (p w.toNat i)) 6 h) (i - 0).toNat g))), none, some (.int (zi i)), none] [] σ P) (fun i => (3 - i).toNat) ?_ 0 ⟨by omega, by omega⟩
  intro i hI ih
  obtain ⟨i1, i2⟩ := hI
  refine Y.iload_n dX5_digest_61 rfl ?_
  refine Y.iconst dX5_digest_62 ?_
  refine Y.icmp_ge 103 dX5_digest_63 (by decide) (by omega) (by omega) (fun h_63 => ?_) (fun h_63 => ?_)
  · rw [show i = 3 by omega, show ((3 : Int) - 0).toNat = 3 from rfl]
    exact hk
  · refine Y.iconst dX5_digest_66 ?_
    refine Y.istore dX5_digest_67 (by decide) rfl ?_
    refine zw1 (fun w => (0 ≤ w ∧ w ≤ 6)) (fun w => Y d μX5_digest 69 [some (.ref 67), some (.long (zl (dgf (fun w h => dg h (p w.toNat i)) (w - 0).toNat (dgf (fun i h => dgf (fun w h => dg h (p w.toNat i)) 6 h) (i - 0).toNat g)))), none, some (.int (zi i)), some (.int (zi w))] [] σ P) (fun w => (6 - w).toNat) ?_ 0 ⟨by omega, by omega⟩
    intro w hI ih2
    obtain ⟨w1, w2⟩ := hI
    refine Y.iload dX5_digest_69 rfl ?_
    refine Y.bipush dX5_digest_71 (by decide +kernel) ?_
    refine Y.icmp_ge 97 dX5_digest_73 (by decide) (by omega) (by omega) (fun h_73 => ?_) (fun h_73 => ?_)
    · refine Y.iinc dX5_digest_97 rfl (by decide) rfl ?_
      refine Y.goto 61 dX5_digest_100 (by decide) ?_
      rw [show w = 6 by omega, show ((6 : Int) - 0).toNat = 6 from rfl, show dgf (fun w h => dg h (p w.toNat i)) 6 (dgf (fun i h => dgf (fun w h => dg h (p w.toNat i)) 6 h) (i - 0).toNat g) = dgf (fun i h => dgf (fun w h => dg h (p w.toNat i)) 6 h) (i + 1 - 0).toNat g from (dgf_s (F := fun i h => dgf (fun w h => dg h (p w.toNat i)) 6 h) i1).symm]
      exact Y.sub (zs_s (zs_s (zs_n (zs_s (zs_n zs_0))))) (ih _ ⟨by omega, by omega⟩ (by omega))
    · refine Y.ldc2 (31) dX5_digest_76 kX5_338 ?_
      refine Y.lload_n dX5_digest_79 rfl ?_
      refine Y.lmul dX5_digest_80 ?_
      refine Y.aload_n dX5_digest_81 rfl ?_
      refine Y.iload_n dX5_digest_82 rfl ?_
      refine Y.iload dX5_digest_83 rfl ?_
      obtain ⟨k, rfl⟩ : ∃ k : Nat, w = (k : Int) := ⟨w.toNat, by omega⟩
      refine Y.cVI dX5_digest_85 mkX5_hasBy csX5_140 ob67 ⟨_, rfl, rfl⟩ (k_X5_hasBy ec (by omega) (by omega) (by omega)) (by omega) rfl rfl (Nat.le_of_ble_eq_true rfl) ?_
      refine Y.i2lw dX5_digest_88 ?_
      refine Y.ladd dX5_digest_89 ?_
      refine Y.lstore_n dX5_digest_90 (by decide) rfl ?_
      refine Y.iinc dX5_digest_91 rfl (by decide) rfl ?_
      refine Y.goto 69 dX5_digest_94 (by decide) ?_
      rw [show 31 * (dgf (fun w h => dg h (p w.toNat i)) ((k : Int) - 0).toNat (dgf (fun i h => dgf (fun w h => dg h (p w.toNat i)) 6 h) (i - 0).toNat g)) + wi (p k i) = dgf (fun w h => dg h (p w.toNat i)) ((k : Int) + 1 - 0).toNat (dgf (fun i h => dgf (fun w h => dg h (p w.toNat i)) 6 h) (i - 0).toNat g) from (dgf_s (F := fun w h => dg h (p w.toNat i)) w1).symm]
      exact ih2 _ ⟨by omega, by omega⟩ (by omega)
set_option maxHeartbeats 2000000 in
theorem mgs_10 {p : zP} (ec : mP σ = p) (hp : WP p) (hJ : JD σ) (hS : MS σ p) (hpk : PK σ) {d : Nat} {P : Option Value → zS → Prop} (hd : 10 ≤ d) {g : Int} (hk : ∀ u : zS, MW p σ u → Y d μX5_digest 35 [some (.ref 67), some (.long (zl (dgf (fun w h => dg h (cntA σ p w.toNat)) 8 g))), none, some (.int (zi 8)), none] [] u P) : Y d μX5_digest 10 [some (.ref 67), some (.long (zl g)), none, some (.int (zi 0)), none] [] σ P := by
  refine zw2 (fun u w => (0 ≤ w ∧ w ≤ 8 ∧ MW p σ u)) (fun u w => Y d μX5_digest 10 [some (.ref 67), some (.long (zl (dgf (fun w h => dg h (cntA σ p w.toNat)) (w - 0).toNat g))), none, some (.int (zi w)), none] [] u P) (fun u w => (8 - w).toNat) ?_ σ 0 ⟨by omega, by omega, ⟨EM.rf, hS, hpk⟩⟩
  intro u w hI ih
  obtain ⟨w1, w2, hW⟩ := hI
  have ecu : mP u = p := hW.1.1.mp.trans ec
  refine Y.iload_n dX5_digest_10 rfl ?_
  refine Y.bipush dX5_digest_11 (by decide +kernel) ?_
  refine Y.icmp_ge 35 dX5_digest_13 (by decide) (by omega) (by omega) (fun h_13 => ?_) (fun h_13 => ?_)
  · rw [show w = 8 by omega, show ((8 : Int) - 0).toNat = 8 from rfl]
    exact hk u hW
  · refine Y.ldc2 (31) dX5_digest_16 kX5_338 ?_
    refine Y.lload_n dX5_digest_19 rfl ?_
    refine Y.lmul dX5_digest_20 ?_
    refine Y.aload_n dX5_digest_21 rfl ?_
    refine Y.iload_n dX5_digest_22 rfl ?_
    obtain ⟨k, rfl⟩ : ∃ k : Nat, w = (k : Int) := ⟨w.toNat, by omega⟩
    refine Y.callV dX5_digest_23 mkX5_countBy csX5_335 ob67 ⟨_, rfl, rfl⟩ (c_X5_countBy ecu hp (hW.1.1.jd hJ) hW.2.1 (by omega)) (by omega) rfl rfl (Nat.le_of_ble_eq_true rfl) (fun r_23 s_23 p_23 => ?_)
    obtain ⟨rfl, f_23⟩ := p_23
    refine Y.i2lw dX5_digest_26 ?_
    refine Y.ladd dX5_digest_27 ?_
    refine Y.lstore_n dX5_digest_28 (by decide) rfl ?_
    refine Y.iinc dX5_digest_29 rfl (by decide) rfl ?_
    refine Y.goto 10 dX5_digest_32 (by decide) ?_
    rw [cntA_e hW.1.1, show 31 * (dgf (fun w h => dg h (cntA σ p w.toNat)) ((k : Int) - 0).toNat g) + wi (cntA σ p k) = dgf (fun w h => dg h (cntA σ p w.toNat)) ((k : Int) + 1 - 0).toNat g from (dgf_s (F := fun w h => dg h (cntA σ p w.toNat)) w1).symm]
    exact ih _ _ ⟨by omega, by omega, hW.f2 f_23⟩ (by omega)
set_option maxHeartbeats 8000000 in
theorem c_X5_digest {p : zP} (ec : mP σ = p) (hp : WP p) (hJ : JD σ) : YC 10 μX5_digest [.ref 67] σ (fun r s => r = some (.long (zl (dgA σ p))) ∧ EM σ s) := by
  refine YC.of2 (by decide) (Nat.le_of_ble_eq_true rfl) (fun d P hd hP => ?_)
  refine Y.ldc2 (17) dX5_digest_0 kX5_340 ?_
  refine Y.lstore_n dX5_digest_3 (by decide) rfl ?_
  refine Y.aload_n dX5_digest_4 rfl ?_
  refine Y.callV dX5_digest_5 mkX5_settles csX5_248 ob67 ⟨_, rfl, rfl⟩ (c_X5_settles ec hp) (by omega) rfl rfl (Nat.le_of_ble_eq_true rfl) (fun r_5 s_5 p_5 => ?_)
  obtain ⟨rfl, f_5, k_5, g_5⟩ := p_5
  have ec2 := f_5.mp.trans ec
  have hE := f_5.em
  refine Y.iconst dX5_digest_8 ?_
  refine Y.istore_n dX5_digest_9 (by decide) rfl ?_
  refine mgs_10 ec2 hp (hE.1.jd hJ) g_5 k_5 hd (fun u hW => ?_)
  have ecu : mP u = p := hW.1.1.mp.trans ec2
  refine Y.ldc2 (31) dX5_digest_35 kX5_338 ?_
  refine Y.lload_n dX5_digest_38 rfl ?_
  refine Y.lmul dX5_digest_39 ?_
  refine Y.aload_n dX5_digest_40 rfl ?_
  refine Y.cVI dX5_digest_41 mkX5_roundsNow csX5_272 ob67 ⟨_, rfl, rfl⟩ (c_X5_roundsNow ecu hp hW.2.1) (by omega) rfl rfl (Nat.le_of_ble_eq_true rfl) ?_
  refine Y.i2lw dX5_digest_44 ?_
  refine Y.ladd dX5_digest_45 ?_
  refine Y.lstore_n dX5_digest_46 (by decide) rfl ?_
  refine Y.ldc2 (31) dX5_digest_47 kX5_338 ?_
  refine Y.lload_n dX5_digest_50 rfl ?_
  refine Y.lmul dX5_digest_51 ?_
  refine Y.aload_n dX5_digest_52 rfl ?_
  refine Y.cVI dX5_digest_53 mkX5_meetsNow csX5_285 ob67 ⟨_, rfl, rfl⟩ (c_X5_meetsNow ecu hp hW.2.1) (by omega) rfl rfl (Nat.le_of_ble_eq_true rfl) ?_
  refine Y.i2lw dX5_digest_56 ?_
  refine Y.ladd dX5_digest_57 ?_
  refine Y.lstore_n dX5_digest_58 (by decide) rfl ?_
  refine Y.iconst dX5_digest_59 ?_
  refine Y.istore_n dX5_digest_60 (by decide) rfl ?_
  refine mgs_61 ecu hd ?_
  refine Y.iconst dX5_digest_103 ?_
  refine Y.istore_n dX5_digest_104 (by decide) rfl ?_
  refine mgs_105 ecu hp ((hE.tr hW.1).1.jd hJ) hW.2.1 hW.2.2 hd (fun v hW2 => ?_)
  have hE9 : EM σ v := (hE.tr hW.1).tr hW2.1
  refine Y.iconst dX5_digest_132 ?_
  refine Y.istore_n dX5_digest_133 (by decide) rfl ?_
  refine mgs_134 (hE9.1.jd hJ) hd (hP _ _ ⟨?_, hE9⟩)
  have q0 : EQ σ v := hE9.1
  have q4 : EQ s_5 v := (hW.tr hW2).1.1
  have q5 : EQ u v := hW2.1.1
  unfold dgA
  rw [q0.2.1 41 (by omega) (by omega) (by omega), q0.2.1 42 (by omega) (by omega) (by omega)]
  have q1 : (fun (w h : Int) => dg h (cntA s_5 p w.toNat)) = fun w h => dg h (cntA σ p w.toNat) := by funext w h; rw [cntA_e hE.1]
  have q2 : (fun (x h : Int) => @ite _ (th p x) (Classical.propDecidable _) (stT u p x h) h) = fun x h => @ite _ (th p x) (Classical.propDecidable _) (stT σ p x h) h := by
    funext x h
    have : stT u p x h = stT σ p x h := by unfold stT; simp only [snA_e (hE.tr hW.1).1]
    rw [this]
  rw [q1, q2]
  rfl
end ZL3
