section ZM2
variable {σ : zS}
set_option maxHeartbeats 1000000 in
theorem c_X2_isRival (hp : WP (cP σ)) {x y : Int} (h0 : 0 ≤ x) (h9 : x < 9) (g0 : 0 ≤ y) (g9 : y < 9) : YI 1 μX2_isRival [.ref 1, .int (zi x), .int (zi y)] σ (zb (riv (cP σ) x y)) σ := by
  refine YC.of2 (by decide) (Nat.le_of_ble_eq_true rfl) (fun d P hd hP => ?_)
  have hx := hp.2.1 x h0 h9
  have hy := hp.2.1 y g0 g9
  simp only [cp0, cp1, cp2, cp3, cp4, cp5, cp6, cp7, cp8, cp9] at hx hy
  refine Y.iload_n dX2_isRival_0 rfl ?_
  refine Y.iload_n dX2_isRival_1 rfl ?_
  refine Y.icmp_eq 55 dX2_isRival_2 (by decide) (by omega) (by omega) (fun h_2 => ?_) (fun h_2 => ?_)
  · refine Y.iconst dX2_isRival_55 ?_
    exact Y.zret dX2_isRival_56 rfl (by decide) (hP _ _ ⟨zrI (by first | exact (zb_t ⟨by assumption, by omega, show σ.1 9 y = σ.1 9 x by omega, show σ.1 11 x ≤ σ.1 11 y by omega⟩).symm | (refine (zb_f ?_).symm; rintro ⟨q1, q2, q3, q4⟩; have q5 : σ.1 9 y = σ.1 9 x := q3; have q6 : σ.1 11 x ≤ σ.1 11 y := q4; first | omega | exact absurd q1 (by assumption))), rfl⟩)
  · refine Y.aload_n dX2_isRival_5 rfl ?_
    refine Y.iload_n dX2_isRival_6 rfl ?_
    refine Y.cVI dX2_isRival_7 mkX2_isStep csX2_43 ob1 ⟨_, rfl, rfl⟩ (c_X2_isStep hp (by omega) (by omega)) (by omega) rfl rfl (Nat.le_of_ble_eq_true rfl) ?_
    refine Y.ifz_eq 55 dX2_isRival_10 (by decide) (fun h_10 => ?_) (fun h_10 => ?_)
    · refine Y.iconst dX2_isRival_55 ?_
      exact Y.zret dX2_isRival_56 rfl (by decide) (hP _ _ ⟨zrI (by first | exact (zb_t ⟨by assumption, by omega, show σ.1 9 y = σ.1 9 x by omega, show σ.1 11 x ≤ σ.1 11 y by omega⟩).symm | (refine (zb_f ?_).symm; rintro ⟨q1, q2, q3, q4⟩; have q5 : σ.1 9 y = σ.1 9 x := q3; have q6 : σ.1 11 x ≤ σ.1 11 y := q4; first | omega | exact absurd q1 (by assumption))), rfl⟩)
    · refine Y.aload_n dX2_isRival_13 rfl ?_
      refine Y.getf dX2_isRival_14 flX2_16 ob1 rfl ?_
      refine Y.iconst dX2_isRival_17 ?_
      refine Y.aald dX2_isRival_18 ra8 (by decide) (by decide) (by decide) rfl ?_
      refine Y.iload_n dX2_isRival_19 rfl ?_
      refine Y.iald dX2_isRival_20 ia9 (by omega) (by omega) ?_
      refine Y.aload_n dX2_isRival_21 rfl ?_
      refine Y.getf dX2_isRival_22 flX2_16 ob1 rfl ?_
      refine Y.iconst dX2_isRival_25 ?_
      refine Y.aald dX2_isRival_26 ra8 (by decide) (by decide) (by decide) rfl ?_
      refine Y.iload_n dX2_isRival_27 rfl ?_
      refine Y.iald dX2_isRival_28 ia9 (by omega) (by omega) ?_
      refine Y.icmp_ne 55 dX2_isRival_29 (by decide) (by omega) (by omega) (fun h_29 => ?_) (fun h_29 => ?_)
      · refine Y.iconst dX2_isRival_55 ?_
        exact Y.zret dX2_isRival_56 rfl (by decide) (hP _ _ ⟨zrI (by first | exact (zb_t ⟨by assumption, by omega, show σ.1 9 y = σ.1 9 x by omega, show σ.1 11 x ≤ σ.1 11 y by omega⟩).symm | (refine (zb_f ?_).symm; rintro ⟨q1, q2, q3, q4⟩; have q5 : σ.1 9 y = σ.1 9 x := q3; have q6 : σ.1 11 x ≤ σ.1 11 y := q4; first | omega | exact absurd q1 (by assumption))), rfl⟩)
      · refine Y.aload_n dX2_isRival_32 rfl ?_
        refine Y.getf dX2_isRival_33 flX2_16 ob1 rfl ?_
        refine Y.iconst dX2_isRival_36 ?_
        refine Y.aald dX2_isRival_37 ra8 (by decide) (by decide) (by decide) rfl ?_
        refine Y.iload_n dX2_isRival_38 rfl ?_
        refine Y.iald dX2_isRival_39 ia11 (by omega) (by omega) ?_
        refine Y.aload_n dX2_isRival_40 rfl ?_
        refine Y.getf dX2_isRival_41 flX2_16 ob1 rfl ?_
        refine Y.iconst dX2_isRival_44 ?_
        refine Y.aald dX2_isRival_45 ra8 (by decide) (by decide) (by decide) rfl ?_
        refine Y.iload_n dX2_isRival_46 rfl ?_
        refine Y.iald dX2_isRival_47 ia11 (by omega) (by omega) ?_
        refine Y.icmp_lt 55 dX2_isRival_48 (by decide) (by omega) (by omega) (fun h_48 => ?_) (fun h_48 => ?_)
        · refine Y.iconst dX2_isRival_55 ?_
          exact Y.zret dX2_isRival_56 rfl (by decide) (hP _ _ ⟨zrI (by first | exact (zb_t ⟨by assumption, by omega, show σ.1 9 y = σ.1 9 x by omega, show σ.1 11 x ≤ σ.1 11 y by omega⟩).symm | (refine (zb_f ?_).symm; rintro ⟨q1, q2, q3, q4⟩; have q5 : σ.1 9 y = σ.1 9 x := q3; have q6 : σ.1 11 x ≤ σ.1 11 y := q4; first | omega | exact absurd q1 (by assumption))), rfl⟩)
        · refine Y.iconst dX2_isRival_51 ?_
          refine Y.goto 56 dX2_isRival_52 (by decide) ?_
          exact Y.zret dX2_isRival_56 rfl (by decide) (hP _ _ ⟨zrI (by first | exact (zb_t ⟨by assumption, by omega, show σ.1 9 y = σ.1 9 x by omega, show σ.1 11 x ≤ σ.1 11 y by omega⟩).symm | (refine (zb_f ?_).symm; rintro ⟨q1, q2, q3, q4⟩; have q5 : σ.1 9 y = σ.1 9 x := q3; have q6 : σ.1 11 x ≤ σ.1 11 y := q4; first | omega | exact absurd q1 (by assumption))), rfl⟩)
set_option maxHeartbeats 1000000 in
theorem c_X2_rivalsOf (hp : WP (cP σ)) {x : Int} (h0 : 0 ≤ x) (h9 : x < 9) : YI 2 μX2_rivalsOf [.ref 1, .int (zi x)] σ (rvs (cP σ) x) σ := by
  refine YC.of2 (by decide) (Nat.le_of_ble_eq_true rfl) (fun d P hd hP => ?_)
  refine Y.iconst dX2_rivalsOf_0 ?_
  refine Y.istore_n dX2_rivalsOf_1 (by decide) rfl ?_
  refine Y.iconst dX2_rivalsOf_2 ?_
  refine Y.istore_n dX2_rivalsOf_3 (by decide) rfl ?_
  refine zw2 (fun n y => (0 ≤ y ∧ y ≤ 9 ∧ n = sm (fun y => zb (riv (cP σ) x y)) 0 (y - 0).toNat)) (fun n y => Y d μX2_rivalsOf 4 [some (.ref 1), some (.int (zi x)), some (.int (zi n)), some (.int (zi y))] [] σ P) (fun n y => (9 - y).toNat) ?_ _ _ ⟨by omega, by omega, by rw [sm_0]⟩
  intro n y hI ih
  obtain ⟨i1, i2, i3⟩ := hI
  refine Y.iload_n dX2_rivalsOf_4 rfl ?_
  refine Y.bipush dX2_rivalsOf_5 (by decide +kernel) ?_
  refine Y.icmp_ge 28 dX2_rivalsOf_7 (by decide) (by omega) (by omega) (fun h_7 => ?_) (fun h_7 => ?_)
  · refine Y.iload_n dX2_rivalsOf_28 rfl ?_
    exact Y.iret dX2_rivalsOf_29 rfl (hP _ _ ⟨zrI (by rw [i3, show y = 9 by omega]; rfl), rfl⟩)
  · refine Y.aload_n dX2_rivalsOf_10 rfl ?_
    refine Y.iload_n dX2_rivalsOf_11 rfl ?_
    refine Y.iload_n dX2_rivalsOf_12 rfl ?_
    refine Y.cVI dX2_rivalsOf_13 mkX2_isRival csX2_46 ob1 ⟨_, rfl, rfl⟩ (c_X2_isRival hp (by omega) (by omega) (by omega) (by omega)) (by omega) rfl rfl (Nat.le_of_ble_eq_true rfl) ?_
    refine Y.ifz_eq 22 dX2_rivalsOf_16 (by decide) (fun h_16 => ?_) (fun h_16 => ?_)
    · refine Y.iinc dX2_rivalsOf_22 rfl (by decide) rfl ?_
      refine Y.goto 4 dX2_rivalsOf_25 (by decide) ?_
      exact ih _ _ ⟨by omega, by omega, by rw [sm_s (by omega), i3]; first | rw [zb_t (by assumption)] | (rw [zb_f (by assumption)]; omega)⟩ (by omega)
    · refine Y.iinc dX2_rivalsOf_19 rfl (by decide) rfl ?_
      refine Y.iinc dX2_rivalsOf_22 rfl (by decide) rfl ?_
      refine Y.goto 4 dX2_rivalsOf_25 (by decide) ?_
      exact ih _ _ ⟨by omega, by omega, by rw [sm_s (by omega), i3]; first | rw [zb_t (by assumption)] | (rw [zb_f (by assumption)]; omega)⟩ (by omega)
set_option maxHeartbeats 1000000 in
theorem c_X2_loadBelow (hp : WP (cP σ)) : YI 2 μX2_loadBelow [.ref 1] σ (lb (cP σ)) σ := by
  refine YC.of2 (by decide) (Nat.le_of_ble_eq_true rfl) (fun d P hd hP => ?_)
  refine Y.aload_n dX2_loadBelow_0 rfl ?_
  refine Y.iconst dX2_loadBelow_1 ?_
  refine Y.cVI dX2_loadBelow_2 mkX2_periodOf csX2_50 ob1 ⟨_, rfl, rfl⟩ (c_X2_periodOf hp (by omega) (by omega)) (by omega) rfl rfl (Nat.le_of_ble_eq_true rfl) ?_
  refine Y.aload_n dX2_loadBelow_5 rfl ?_
  refine Y.iconst dX2_loadBelow_6 ?_
  refine Y.cVI dX2_loadBelow_7 mkX2_periodOf csX2_50 ob1 ⟨_, rfl, rfl⟩ (c_X2_periodOf hp (by omega) (by omega)) (by omega) rfl rfl (Nat.le_of_ble_eq_true rfl) ?_
  refine Y.imul dX2_loadBelow_10 ?_
  refine Y.aload_n dX2_loadBelow_11 rfl ?_
  refine Y.iconst dX2_loadBelow_12 ?_
  refine Y.cVI dX2_loadBelow_13 mkX2_periodOf csX2_50 ob1 ⟨_, rfl, rfl⟩ (c_X2_periodOf hp (by omega) (by omega)) (by omega) rfl rfl (Nat.le_of_ble_eq_true rfl) ?_
  refine Y.imul dX2_loadBelow_16 ?_
  exact Y.iret dX2_loadBelow_17 rfl (hP _ _ ⟨rfl, rfl⟩)
set_option maxHeartbeats 1000000 in
theorem c_X2_loadAbove (hp : WP (cP σ)) {x : Int} (h0 : 0 ≤ x) (h9 : x < 9) : YI 3 μX2_loadAbove [.ref 1, .int (zi x)] σ (la (cP σ) x) σ := by
  refine YC.of2 (by decide) (Nat.le_of_ble_eq_true rfl) (fun d P hd hP => ?_)
  have hl := lb_b hp
  refine Y.aload_n dX2_loadAbove_0 rfl ?_
  refine Y.cVI dX2_loadAbove_1 mkX2_loadBelow csX2_54 ob1 ⟨_, rfl, rfl⟩ (c_X2_loadBelow hp) (by omega) rfl rfl (Nat.le_of_ble_eq_true rfl) ?_
  refine Y.istore_n dX2_loadAbove_4 (by decide) rfl ?_
  refine Y.iconst dX2_loadAbove_5 ?_
  refine Y.istore_n dX2_loadAbove_6 (by decide) rfl ?_
  refine Y.iconst dX2_loadAbove_7 ?_
  refine Y.istore dX2_loadAbove_8 (by decide) rfl ?_
  refine zw2 (fun s y => (0 ≤ y ∧ y ≤ 9 ∧ s = sm (laf (cP σ) x) 0 (y - 0).toNat)) (fun s y => Y d μX2_loadAbove 10 [some (.ref 1), some (.int (zi x)), some (.int (zi (lb (cP σ)))), some (.int (zi s)), some (.int (zi y))] [] σ P) (fun s y => (9 - y).toNat) ?_ _ _ ⟨by omega, by omega, by rw [sm_0]⟩
  intro s y hI ih
  obtain ⟨i1, i2, i3⟩ := hI
  refine Y.iload dX2_loadAbove_10 rfl ?_
  refine Y.bipush dX2_loadAbove_12 (by decide +kernel) ?_
  refine Y.icmp_ge 62 dX2_loadAbove_14 (by decide) (by omega) (by omega) (fun h_14 => ?_) (fun h_14 => ?_)
  · refine Y.iload_n dX2_loadAbove_62 rfl ?_
    exact Y.iret dX2_loadAbove_63 rfl (hP _ _ ⟨zrI (by rw [i3, show y = 9 by omega]; rfl), rfl⟩)
  · have ht := hp.per (i := y / 3) (by omega) (by omega)
    refine Y.iload dX2_loadAbove_17 rfl ?_
    refine Y.iload_n dX2_loadAbove_19 rfl ?_
    refine Y.icmp_eq 33 dX2_loadAbove_20 (by decide) (by omega) (by omega) (fun h_20 => ?_) (fun h_20 => ?_)
    · refine Y.iload_n dX2_loadAbove_33 rfl ?_
      refine Y.aload_n dX2_loadAbove_34 rfl ?_
      refine Y.getf dX2_loadAbove_35 flX2_16 ob1 rfl ?_
      refine Y.iconst dX2_loadAbove_38 ?_
      refine Y.aald dX2_loadAbove_39 ra8 (by decide) (by decide) (by decide) rfl ?_
      refine Y.iload dX2_loadAbove_40 rfl ?_
      refine Y.iald dX2_loadAbove_42 ia10 (by omega) (by omega) ?_
      refine Y.iload_n dX2_loadAbove_43 rfl ?_
      refine Y.aload_n dX2_loadAbove_44 rfl ?_
      refine Y.iload dX2_loadAbove_45 rfl ?_
      refine Y.iconst dX2_loadAbove_47 ?_
      refine Y.idivp dX2_loadAbove_48 (by omega) (by omega) (by omega) (by omega) ?_
      refine Y.cVI dX2_loadAbove_49 mkX2_periodOf csX2_50 ob1 ⟨_, rfl, rfl⟩ (c_X2_periodOf hp (by omega) (by omega)) (by omega) rfl rfl (Nat.le_of_ble_eq_true rfl) ?_
      refine Y.idivp dX2_loadAbove_52 (by omega) (by omega) (by omega) (by omega) ?_
      refine Y.imul dX2_loadAbove_53 ?_
      refine Y.iadd dX2_loadAbove_54 ?_
      refine Y.istore_n dX2_loadAbove_55 (by decide) rfl ?_
      refine Y.iinc dX2_loadAbove_56 rfl (by decide) rfl ?_
      refine Y.goto 10 dX2_loadAbove_59 (by decide) ?_
      exact ih _ _ ⟨by omega, by omega, by rw [sm_s (by omega), i3]; unfold laf; first | (rw [if_pos (Or.inl (by omega))]; rfl) | (rw [if_pos (Or.inr (by assumption))]; rfl) | (rw [if_neg (fun q => q.elim (fun q => by omega) (by assumption))]; omega)⟩ (by omega)
    · refine Y.aload_n dX2_loadAbove_23 rfl ?_
      refine Y.iload_n dX2_loadAbove_24 rfl ?_
      refine Y.iload dX2_loadAbove_25 rfl ?_
      refine Y.cVI dX2_loadAbove_27 mkX2_isRival csX2_46 ob1 ⟨_, rfl, rfl⟩ (c_X2_isRival hp (by omega) (by omega) (by omega) (by omega)) (by omega) rfl rfl (Nat.le_of_ble_eq_true rfl) ?_
      refine Y.ifz_eq 56 dX2_loadAbove_30 (by decide) (fun h_30 => ?_) (fun h_30 => ?_)
      · refine Y.iinc dX2_loadAbove_56 rfl (by decide) rfl ?_
        refine Y.goto 10 dX2_loadAbove_59 (by decide) ?_
        exact ih _ _ ⟨by omega, by omega, by rw [sm_s (by omega), i3]; unfold laf; first | (rw [if_pos (Or.inl (by omega))]; rfl) | (rw [if_pos (Or.inr (by assumption))]; rfl) | (rw [if_neg (fun q => q.elim (fun q => by omega) (by assumption))]; omega)⟩ (by omega)
      · refine Y.iload_n dX2_loadAbove_33 rfl ?_
        refine Y.aload_n dX2_loadAbove_34 rfl ?_
        refine Y.getf dX2_loadAbove_35 flX2_16 ob1 rfl ?_
        refine Y.iconst dX2_loadAbove_38 ?_
        refine Y.aald dX2_loadAbove_39 ra8 (by decide) (by decide) (by decide) rfl ?_
        refine Y.iload dX2_loadAbove_40 rfl ?_
        refine Y.iald dX2_loadAbove_42 ia10 (by omega) (by omega) ?_
        refine Y.iload_n dX2_loadAbove_43 rfl ?_
        refine Y.aload_n dX2_loadAbove_44 rfl ?_
        refine Y.iload dX2_loadAbove_45 rfl ?_
        refine Y.iconst dX2_loadAbove_47 ?_
        refine Y.idivp dX2_loadAbove_48 (by omega) (by omega) (by omega) (by omega) ?_
        refine Y.cVI dX2_loadAbove_49 mkX2_periodOf csX2_50 ob1 ⟨_, rfl, rfl⟩ (c_X2_periodOf hp (by omega) (by omega)) (by omega) rfl rfl (Nat.le_of_ble_eq_true rfl) ?_
        refine Y.idivp dX2_loadAbove_52 (by omega) (by omega) (by omega) (by omega) ?_
        refine Y.imul dX2_loadAbove_53 ?_
        refine Y.iadd dX2_loadAbove_54 ?_
        refine Y.istore_n dX2_loadAbove_55 (by decide) rfl ?_
        refine Y.iinc dX2_loadAbove_56 rfl (by decide) rfl ?_
        refine Y.goto 10 dX2_loadAbove_59 (by decide) ?_
        exact ih _ _ ⟨by omega, by omega, by rw [sm_s (by omega), i3]; unfold laf; first | (rw [if_pos (Or.inl (by omega))]; rfl) | (rw [if_pos (Or.inr (by assumption))]; rfl) | (rw [if_neg (fun q => q.elim (fun q => by omega) (by assumption))]; omega)⟩ (by omega)
set_option maxHeartbeats 1000000 in
theorem c_X2_isOverloaded (hp : WP (cP σ)) {x : Int} (h0 : 0 ≤ x) (h9 : x < 9) : YI 4 μX2_isOverloaded [.ref 1, .int (zi x)] σ (zb (ovl (cP σ) x)) σ := by
  refine YC.of2 (by decide) (Nat.le_of_ble_eq_true rfl) (fun d P hd hP => ?_)
  have hl := lb_b hp
  have ha := la_b hp x
  refine Y.aload_n dX2_isOverloaded_0 rfl ?_
  refine Y.iload_n dX2_isOverloaded_1 rfl ?_
  refine Y.cVI dX2_isOverloaded_2 mkX2_loadAbove csX2_58 ob1 ⟨_, rfl, rfl⟩ (c_X2_loadAbove hp (by omega) (by omega)) (by omega) rfl rfl (Nat.le_of_ble_eq_true rfl) ?_
  refine Y.aload_n dX2_isOverloaded_5 rfl ?_
  refine Y.cVI dX2_isOverloaded_6 mkX2_loadBelow csX2_54 ob1 ⟨_, rfl, rfl⟩ (c_X2_loadBelow hp) (by omega) rfl rfl (Nat.le_of_ble_eq_true rfl) ?_
  refine Y.icmp_le 16 dX2_isOverloaded_9 (by decide) (by omega) (by omega) (fun h_9 => ?_) (fun h_9 => ?_)
  · refine Y.iconst dX2_isOverloaded_16 ?_
    exact Y.zret dX2_isOverloaded_17 rfl (by decide) (hP _ _ ⟨zrI (by first | exact (zb_t (show lb (cP σ) < la (cP σ) x by omega)).symm | exact (zb_f (show ¬ (lb (cP σ) < la (cP σ) x) by omega)).symm), rfl⟩)
  · refine Y.iconst dX2_isOverloaded_12 ?_
    refine Y.goto 17 dX2_isOverloaded_13 (by decide) ?_
    exact Y.zret dX2_isOverloaded_17 rfl (by decide) (hP _ _ ⟨zrI (by first | exact (zb_t (show lb (cP σ) < la (cP σ) x by omega)).symm | exact (zb_f (show ¬ (lb (cP σ) < la (cP σ) x) by omega)).symm), rfl⟩)
set_option maxHeartbeats 1000000 in
theorem c_X2_overloadedSteps (hp : WP (cP σ)) : YI 5 μX2_overloadedSteps [.ref 1] σ (ovs (cP σ)) σ := by
  refine YC.of2 (by decide) (Nat.le_of_ble_eq_true rfl) (fun d P hd hP => ?_)
  refine Y.iconst dX2_overloadedSteps_0 ?_
  refine Y.istore_n dX2_overloadedSteps_1 (by decide) rfl ?_
  refine Y.iconst dX2_overloadedSteps_2 ?_
  refine Y.istore_n dX2_overloadedSteps_3 (by decide) rfl ?_
  refine zw2 (fun n y => (0 ≤ y ∧ y ≤ 9 ∧ n = sm (fun x => zb (th (cP σ) x ∧ ovl (cP σ) x)) 0 (y - 0).toNat)) (fun n y => Y d μX2_overloadedSteps 4 [some (.ref 1), some (.int (zi n)), some (.int (zi y))] [] σ P) (fun n y => (9 - y).toNat) ?_ _ _ ⟨by omega, by omega, by rw [sm_0]⟩
  intro n y hI ih
  obtain ⟨i1, i2, i3⟩ := hI
  refine Y.iload_n dX2_overloadedSteps_4 rfl ?_
  refine Y.bipush dX2_overloadedSteps_5 (by decide +kernel) ?_
  refine Y.icmp_ge 35 dX2_overloadedSteps_7 (by decide) (by omega) (by omega) (fun h_7 => ?_) (fun h_7 => ?_)
  · refine Y.iload_n dX2_overloadedSteps_35 rfl ?_
    exact Y.iret dX2_overloadedSteps_36 rfl (hP _ _ ⟨zrI (by rw [i3, show y = 9 by omega]; rfl), rfl⟩)
  · refine Y.aload_n dX2_overloadedSteps_10 rfl ?_
    refine Y.iload_n dX2_overloadedSteps_11 rfl ?_
    refine Y.cVI dX2_overloadedSteps_12 mkX2_isStep csX2_43 ob1 ⟨_, rfl, rfl⟩ (c_X2_isStep hp (by omega) (by omega)) (by omega) rfl rfl (Nat.le_of_ble_eq_true rfl) ?_
    refine Y.ifz_eq 29 dX2_overloadedSteps_15 (by decide) (fun h_15 => ?_) (fun h_15 => ?_)
    · refine Y.iinc dX2_overloadedSteps_29 rfl (by decide) rfl ?_
      refine Y.goto 4 dX2_overloadedSteps_32 (by decide) ?_
      exact ih _ _ ⟨by omega, by omega, by rw [sm_s (by omega), i3]; first | rw [zb_t ⟨by assumption, by assumption⟩] | (rw [zb_f (fun q => absurd q.1 (by assumption))]; omega) | (rw [zb_f (fun q => absurd q.2 (by assumption))]; omega)⟩ (by omega)
    · refine Y.aload_n dX2_overloadedSteps_18 rfl ?_
      refine Y.iload_n dX2_overloadedSteps_19 rfl ?_
      refine Y.cVI dX2_overloadedSteps_20 mkX2_isOverloaded csX2_61 ob1 ⟨_, rfl, rfl⟩ (c_X2_isOverloaded hp (by omega) (by omega)) (by omega) rfl rfl (Nat.le_of_ble_eq_true rfl) ?_
      refine Y.ifz_eq 29 dX2_overloadedSteps_23 (by decide) (fun h_23 => ?_) (fun h_23 => ?_)
      · refine Y.iinc dX2_overloadedSteps_29 rfl (by decide) rfl ?_
        refine Y.goto 4 dX2_overloadedSteps_32 (by decide) ?_
        exact ih _ _ ⟨by omega, by omega, by rw [sm_s (by omega), i3]; first | rw [zb_t ⟨by assumption, by assumption⟩] | (rw [zb_f (fun q => absurd q.1 (by assumption))]; omega) | (rw [zb_f (fun q => absurd q.2 (by assumption))]; omega)⟩ (by omega)
      · refine Y.iinc dX2_overloadedSteps_26 rfl (by decide) rfl ?_
        refine Y.iinc dX2_overloadedSteps_29 rfl (by decide) rfl ?_
        refine Y.goto 4 dX2_overloadedSteps_32 (by decide) ?_
        exact ih _ _ ⟨by omega, by omega, by rw [sm_s (by omega), i3]; first | rw [zb_t ⟨by assumption, by assumption⟩] | (rw [zb_f (fun q => absurd q.1 (by assumption))]; omega) | (rw [zb_f (fun q => absurd q.2 (by assumption))]; omega)⟩ (by omega)
def due (p : zP) (i : Int) : Prop := 0 < p 5 i ∧ 0 < p 2 i
set_option maxHeartbeats 1000000 in
theorem c_X2_dueBits (hp : WP (cP σ)) : YI 0 μX2_dueBits [.ref 1] σ (bts (due (cP σ))) σ := by
  refine YC.of2 (by decide) (Nat.le_of_ble_eq_true rfl) (fun d P hd hP => ?_)
  refine Y.iconst dX2_dueBits_0 ?_
  refine Y.istore_n dX2_dueBits_1 (by decide) rfl ?_
  refine Y.iconst dX2_dueBits_2 ?_
  refine Y.istore_n dX2_dueBits_3 (by decide) rfl ?_
  refine zw2 (fun s i => (0 ≤ i ∧ i ≤ 3 ∧ 0 ≤ s ∧ s < pw i ∧ s = sm (fun i => zb (due (cP σ) i) * pw i) 0 (i - 0).toNat)) (fun s i => Y d μX2_dueBits 4 [some (.ref 1), some (.int (zi s)), some (.int (zi i))] [] σ P) (fun s i => (3 - i).toNat) ?_ _ _ ⟨by omega, by omega, by omega, by decide, by rw [sm_0]⟩
  intro s i hI ih
  obtain ⟨i1, i2, i3, i4, i5⟩ := hI
  refine Y.iload_n dX2_dueBits_4 rfl ?_
  refine Y.iconst dX2_dueBits_5 ?_
  refine Y.icmp_ge 41 dX2_dueBits_6 (by decide) (by omega) (by omega) (fun h_6 => ?_) (fun h_6 => ?_)
  · refine Y.iload_n dX2_dueBits_41 rfl ?_
    exact Y.iret dX2_dueBits_42 rfl (hP _ _ ⟨zrI (by rw [i5, show i = 3 by omega]; rfl), rfl⟩)
  · have hi := hp.1 i (by omega) (by omega)
    have hw := pw_3 (i := i) (by omega) (by omega)
    simp only [cp0, cp1, cp2, cp3, cp4, cp5, cp6, cp7, cp8, cp9] at hi
    refine Y.aload_n dX2_dueBits_9 rfl ?_
    refine Y.getf dX2_dueBits_10 flX2_19 ob1 rfl ?_
    refine Y.iload_n dX2_dueBits_13 rfl ?_
    refine Y.iald dX2_dueBits_14 ia13 (by omega) (by omega) ?_
    refine Y.if_le 35 dX2_dueBits_15 (by decide) (by omega) (fun h_15 => ?_) (fun h_15 => ?_)
    · refine Y.iinc dX2_dueBits_35 rfl (by decide) rfl ?_
      refine Y.goto 4 dX2_dueBits_38 (by decide) ?_
      exact ih _ _ ⟨by omega, by omega, by omega, by omega, by rw [sm_s (by omega), ← i5]; first | rw [zb_t ⟨show 0 < σ.1 13 i by omega, show 0 < σ.1 5 i by omega⟩, Int.one_mul] | (rw [zb_f (fun q => by have q1 : 0 < σ.1 13 i := q.1; have q2 : 0 < σ.1 5 i := q.2; omega), Int.zero_mul]; omega)⟩ (by omega)
    · refine Y.aload_n dX2_dueBits_18 rfl ?_
      refine Y.getf dX2_dueBits_19 flX2_11 ob1 rfl ?_
      refine Y.iconst dX2_dueBits_22 ?_
      refine Y.aald dX2_dueBits_23 ra2 (by decide) (by decide) (by decide) rfl ?_
      refine Y.iload_n dX2_dueBits_24 rfl ?_
      refine Y.iald dX2_dueBits_25 ia5 (by omega) (by omega) ?_
      refine Y.if_le 35 dX2_dueBits_26 (by decide) (by omega) (fun h_26 => ?_) (fun h_26 => ?_)
      · refine Y.iinc dX2_dueBits_35 rfl (by decide) rfl ?_
        refine Y.goto 4 dX2_dueBits_38 (by decide) ?_
        exact ih _ _ ⟨by omega, by omega, by omega, by omega, by rw [sm_s (by omega), ← i5]; first | rw [zb_t ⟨show 0 < σ.1 13 i by omega, show 0 < σ.1 5 i by omega⟩, Int.one_mul] | (rw [zb_f (fun q => by have q1 : 0 < σ.1 13 i := q.1; have q2 : 0 < σ.1 5 i := q.2; omega), Int.zero_mul]; omega)⟩ (by omega)
      · refine Y.iload_n dX2_dueBits_29 rfl ?_
        refine Y.iconst dX2_dueBits_30 ?_
        refine Y.iload_n dX2_dueBits_31 rfl ?_
        refine Y.ishl1 dX2_dueBits_32 (by omega) (by omega) ?_
        refine Y.ior1 dX2_dueBits_33 (by omega) (by omega) (by omega) (by omega) ?_
        refine Y.istore_n dX2_dueBits_34 (by decide) rfl ?_
        refine Y.iinc dX2_dueBits_35 rfl (by decide) rfl ?_
        refine Y.goto 4 dX2_dueBits_38 (by decide) ?_
        exact ih _ _ ⟨by omega, by omega, by omega, by omega, by rw [sm_s (by omega), ← i5]; first | rw [zb_t ⟨show 0 < σ.1 13 i by omega, show 0 < σ.1 5 i by omega⟩, Int.one_mul] | (rw [zb_f (fun q => by have q1 : 0 < σ.1 13 i := q.1; have q2 : 0 < σ.1 5 i := q.2; omega), Int.zero_mul]; omega)⟩ (by omega)
set_option maxHeartbeats 1000000 in
theorem c_X2_append (hp : WP (cP σ)) {i a b c e : Int} (h0 : 0 ≤ i) (h3 : i < 3) (hm : cP σ 5 i < 3) : YI 0 μX2_append [.ref 1, .int (zi i), .int (zi a), .int (zi b), .int (zi c), .int (zi e)] σ (cP σ 5 i) (zu (zu (zu (zu (zu σ 9 (i * 3 + cP σ 5 i) a) 10 (i * 3 + cP σ 5 i) b) 11 (i * 3 + cP σ 5 i) c) 12 (i * 3 + cP σ 5 i) e) 13 i (cP σ 5 i + 1)) := by
  refine YC.of2 (by decide) (Nat.le_of_ble_eq_true rfl) (fun d P hd hP => ?_)
  have hi := hp.1 i h0 h3
  simp only [cp0, cp1, cp2, cp3, cp4, cp5, cp6, cp7, cp8, cp9] at hi hm
  refine Y.aload_n dX2_append_0 rfl ?_
  refine Y.getf dX2_append_1 flX2_19 ob1 rfl ?_
  refine Y.iload_n dX2_append_4 rfl ?_
  refine Y.iald dX2_append_5 ia13 (by omega) (by omega) ?_
  refine Y.istore dX2_append_6 (by decide) rfl ?_
  refine Y.iload_n dX2_append_8 rfl ?_
  refine Y.iconst dX2_append_9 ?_
  refine Y.imul dX2_append_10 ?_
  refine Y.iload dX2_append_11 rfl ?_
  refine Y.iadd dX2_append_13 ?_
  refine Y.istore dX2_append_14 (by decide) rfl ?_
  refine Y.aload_n dX2_append_16 rfl ?_
  refine Y.getf dX2_append_17 flX2_16 ob1 rfl ?_
  refine Y.iconst dX2_append_20 ?_
  refine Y.aald dX2_append_21 ra8 (by decide) (by decide) (by decide) rfl ?_
  refine Y.iload dX2_append_22 rfl ?_
  refine Y.iload_n dX2_append_24 rfl ?_
  refine Y.iast dX2_append_25 ia9 (by omega) (by omega) ?_
  refine Y.aload_n dX2_append_26 rfl ?_
  refine Y.getf dX2_append_27 flX2_16 ob1 rfl ?_
  refine Y.iconst dX2_append_30 ?_
  refine Y.aald dX2_append_31 ra8 (by decide) (by decide) (by decide) rfl ?_
  refine Y.iload dX2_append_32 rfl ?_
  refine Y.iload_n dX2_append_34 rfl ?_
  refine Y.iast dX2_append_35 ia10 (by omega) (by omega) ?_
  refine Y.aload_n dX2_append_36 rfl ?_
  refine Y.getf dX2_append_37 flX2_16 ob1 rfl ?_
  refine Y.iconst dX2_append_40 ?_
  refine Y.aald dX2_append_41 ra8 (by decide) (by decide) (by decide) rfl ?_
  refine Y.iload dX2_append_42 rfl ?_
  refine Y.iload dX2_append_44 rfl ?_
  refine Y.iast dX2_append_46 ia11 (by omega) (by omega) ?_
  refine Y.aload_n dX2_append_47 rfl ?_
  refine Y.getf dX2_append_48 flX2_16 ob1 rfl ?_
  refine Y.iconst dX2_append_51 ?_
  refine Y.aald dX2_append_52 ra8 (by decide) (by decide) (by decide) rfl ?_
  refine Y.iload dX2_append_53 rfl ?_
  refine Y.iload dX2_append_55 rfl ?_
  refine Y.iast dX2_append_57 ia12 (by omega) (by omega) ?_
  refine Y.aload_n dX2_append_58 rfl ?_
  refine Y.getf dX2_append_59 flX2_19 ob1 rfl ?_
  refine Y.iload_n dX2_append_62 rfl ?_
  refine Y.iload dX2_append_63 rfl ?_
  refine Y.iconst dX2_append_65 ?_
  refine Y.iadd dX2_append_66 ?_
  refine Y.iast dX2_append_67 ia13 (by omega) (by omega) ?_
  refine Y.iload dX2_append_68 rfl ?_
  exact Y.iret dX2_append_70 rfl (hP _ _ ⟨rfl, rfl⟩)
/-- what may stand as a mark, a trait -/
def mrk (w v : Int) : Prop := 0 ≤ w ∧ w < 4 ∧ zTi 2 w ≤ v ∧ v ≤ zTi 3 w
def trt (w v : Int) : Prop := 0 ≤ w ∧ w < 5 ∧ zTi 0 w ≤ v ∧ v ≤ zTi 1 w
theorem zTi_B (t : Nat) (i : Int) : zB (zTi t i) := ⟨Int32.le_toInt _, Int32.toInt_lt _⟩
set_option maxHeartbeats 1000000 in
theorem c_X4_isMark {w v : Int} (h0 : 0 ≤ w) (h4 : w < 4) (hv : zB64 v) : YI 1 μX4_isMark [.int (zi w), .long (zl v)] σ (zb (mrk w v)) σ := by
  refine YC.of2 (by decide) (Nat.le_of_ble_eq_true rfl) (fun d P hd hP => ?_)
  have e2 : ((zTl 2 : Nat) : Int) = 4 := rfl
  have e3 : ((zTl 3 : Nat) : Int) = 4 := rfl
  refine Y.lload_n dX4_isMark_0 rfl ?_
  refine Y.gets dX4_isMark_1 (by decide) stX4_205 ?_
  refine Y.iload_n dX4_isMark_4 rfl ?_
  refine Y.tld dX4_isMark_5 (by decide) (by omega) (by omega) ?_
  refine Y.gets dX4_isMark_6 (by decide) stX4_208 ?_
  refine Y.iload_n dX4_isMark_9 rfl ?_
  refine Y.tld dX4_isMark_10 (by decide) (by omega) (by omega) ?_
  refine Y.cSI dX4_isMark_11 mkX4_within csX4_50 (c_X4_within hv (zTi_B _ _) (zTi_B _ _)) (by omega) rfl rfl (Nat.le_of_ble_eq_true rfl) ?_
  exact Y.zret dX4_isMark_14 rfl zb_01 (hP _ _ ⟨zrI (by exact zb_c ⟨fun q => ⟨h0, h4, q⟩, fun q => q.2.2⟩), rfl⟩)
end ZM2
