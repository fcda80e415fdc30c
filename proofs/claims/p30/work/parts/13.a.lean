section ZW1
variable {nm ds : String} {X : State → (Nat → Nat) → (Nat → Prop) → Nat → Prop} {mc ms kc ks d : Nat} {P : Option Value → zH → Prop} {σ : zS} {p : zP} {t : Int}
abbrev μL (nm ds : String) : zU := (⟨RL, nm, ds⟩, cL_law, 13, some .boolean)
/-- a static call that answers v, and changes no more than what is found again -/
theorem YX.cSQ {hd idx n : Nat} {μ ν : zU} {pc : Nat} {L : List (Option Value)} {st : List Value} {As rest : List Value} {v : Int} (hk : kc ≤ mc ∧ ks ≤ ms) (hdg : decode μ.2.1 pc = .ok (.invokestatic idx, 3)) (hm : zMk ν n) (hs : zSS μ.1.cls idx ν) (hc : YQ hd ν As σ v) (hd1 : hd + 1 ≤ d) (hAn : As.length = n) (hst : st = As.reverse ++ rest) (hcat : (rest.map fun v => v.category).sum ≤ 8) (k : ∀ s : zS, EQ σ s → STL s → YX X mc ms kc ks d μ (pc + 3) L (.int (zi v) :: rest) s P) : YX X mc ms kc ks d μ pc L st σ P :=
  YX.callS hk hdg hm hs hc hd1 hAn hst hcat (fun r s h => by rw [h.1]; exact k s h.2.1 h.2.2)
theorem KF.spl {q : zP} {u : zS} (h : KF u p) (hS : SPL p q) : KF u q := by
  unfold KF
  rw [hS.e_th, hS.e_ear, hS.2.1, hS.2.2.1, hS.2.2.2.1, hS.2.2.2.2.1, hS.2.2.2.2.2.1, hS.2.2.2.2.2.2]
  exact h
theorem LJ.ch {k : Nat} {i v : Int} (hJ : LJ σ p) (hk : k < 5) (hv : trt (k : Int) v) : LJ (CH σ k i v) (pu p k i v) := by
  refine ⟨by rw [CH_p (by omega), hJ.1], ?_, STL.on CH_s⟩
  have := CH_w (σ := σ) (i := i) (by rw [hJ.1]; exact hJ.2.1) hk hv
  rw [CH_p (by omega), hJ.1] at this
  exact this
theorem SPL.pu {k : Nat} {i v : Int} (hk : k = 2 ∨ k = 3 ∨ k = 4) : SPL p (pu p k i v) :=
  ⟨pu_nc (by omega), pu_nc (by omega), pu_nc (by omega), pu_nc (by omega), pu_nc (by omega), pu_nc (by omega), pu_nc (by omega)⟩
theorem KF.ch {k : Nat} {i v : Int} (h : KF σ p) (hk : k = 2 ∨ k = 3 ∨ k = 4) : KF (CH σ k i v) (pu p k i v) := by
  have h1 : KF (CH σ k i v) p := by
    unfold KF
    rw [CH_o (by rcases hk with rfl | rfl | rfl <;> decide) (by decide)]
    exact h
  exact h1.spl (SPL.pu hk)
set_option maxHeartbeats 4000000 in
theorem lw_35 (hd : 10 ≤ d) (hk : kc ≤ mc ∧ ks ≤ ms) (hJ : LJ σ p) (k100 : ∀ s : zS, EQ σ s → STL s → YX X mc ms kc ks d (μL nm ds) 100 [some (.ref 9004), some (.ref 67), some (.int (zi (t))), some (.ref 0), some (.int (zi (zb (SR p ≠ none)))), none, none, none, none, none, none, none, none] [] s P) : YX X mc ms kc ks d (μL nm ds) 35 [some (.ref 9004), some (.ref 67), some (.int (zi (t))), some (.ref 0), none, none, none, none, none, none, none, none, none] [] σ P := by
  by_cases hs : SR p = none
  · have hz : zb (SR p ≠ none) = 0 := zb_f (fun z => z hs)
    rw [hz] at k100
    have hr : rndA p = -1 := by rw [rndA, sv_n hs]

    refine YX.aload_n dL_law_35 rfl ?_
    refine YX.cVQ hk dL_law_36 mkX4_rounds csL_49 ob0 ⟨_, rfl, rfl⟩ (k_L_rounds hJ ) (by omega) rfl rfl (Nat.le_of_ble_eq_true rfl) (fun s36 e36 t36 => ?_)
    have j36 := LJ.q hJ e36 t36
    have q36 := EQ.tr EQ.rf e36
    refine YX.if_le 46 dL_law_39 (by decide) (by omega) (fun h_39 => ?_) (fun h_39 => ?_)
    rotate_left
    · exfalso; omega
    refine YX.iconst dL_law_46 ?_
    refine YX.istore dL_law_47 (Nat.le_of_ble_eq_true rfl) rfl ?_
    refine YX.iload dL_law_49 rfl ?_
    refine YX.aload_n dL_law_51 rfl ?_
    refine YX.iconst dL_law_52 ?_
    refine YX.cVQ hk dL_law_53 mkX4_count csL_53 ob0 ⟨_, rfl, rfl⟩ (k_L_count 1 j36 (by omega)) (by omega) rfl rfl (Nat.le_of_ble_eq_true rfl) (fun s53 e53 t53 => ?_)
    have j53 := LJ.q j36 e53 t53
    have q53 := EQ.tr q36 e53
    have c1 : cntA s36 p 1 = 0 := hz
    rw [c1]
    refine YX.iconst dL_law_56 ?_
    refine YX.icmp_ne 64 dL_law_57 (by decide) (by omega) (by omega) (fun h_57 => ?_) (fun h_57 => ?_)
    rotate_left
    · exfalso; omega
    refine YX.iconst dL_law_64 ?_
    refine YX.icmp_ne 98 dL_law_65 (by decide) (by omega) (by omega) (fun h_65 => ?_) (fun h_65 => ?_)
    · exfalso; omega
    refine YX.aload_n dL_law_68 rfl ?_
    refine YX.cVQ hk dL_law_69 mkX4_rounds csL_49 ob0 ⟨_, rfl, rfl⟩ (k_L_rounds j53 ) (by omega) rfl rfl (Nat.le_of_ble_eq_true rfl) (fun s69 e69 t69 => ?_)
    have j69 := LJ.q j53 e69 t69
    have q69 := EQ.tr q53 e69
    refine YX.if_eq 98 dL_law_72 (by decide) (by omega) (fun h_72 => ?_) (fun h_72 => ?_)
    · exfalso; omega
    refine YX.aload_n dL_law_75 rfl ?_
    refine YX.cVQ hk dL_law_76 mkX4_rounds csL_49 ob0 ⟨_, rfl, rfl⟩ (k_L_rounds j69 ) (by omega) rfl rfl (Nat.le_of_ble_eq_true rfl) (fun s76 e76 t76 => ?_)
    have j76 := LJ.q j69 e76 t76
    have q76 := EQ.tr q69 e76
    refine YX.bipush dL_law_79 (by decide +kernel) ?_
    refine YX.icmp_gt 98 dL_law_81 (by decide) (by omega) (by omega) (fun h_81 => ?_) (fun h_81 => ?_)
    · exfalso; omega
    refine YX.iload dL_law_84 rfl ?_
    refine YX.if_eq 100 dL_law_86 (by decide) (by omega) (fun h_86 => ?_) (fun h_86 => ?_)
    rotate_left
    · exfalso; omega
    exact k100 _ q76 (by assumption)
  · have hz : zb (SR p ≠ none) = 1 := zb_t hs
    rw [hz] at k100
    have hr : 1 ≤ rndA p ∧ rndA p ≤ 20 := by
      cases hq : SR p with
      | none => exact absurd hq hs
      | some q =>
        obtain ⟨r, l⟩ := q
        have := (SR_b hJ.wp hq).2.2
        rw [rndA, sv_s hq]
        exact this
    have ov : ovs p = 0 := by
      cases hq : SR p with
      | none => exact absurd hq hs
      | some q => exact ovs_0 (SR_std hJ.wp (r := q.1) (l := q.2) hq)
    refine YX.aload_n dL_law_35 rfl ?_
    refine YX.cVQ hk dL_law_36 mkX4_rounds csL_49 ob0 ⟨_, rfl, rfl⟩ (k_L_rounds hJ ) (by omega) rfl rfl (Nat.le_of_ble_eq_true rfl) (fun s36 e36 t36 => ?_)
    have j36 := LJ.q hJ e36 t36
    have q36 := EQ.tr EQ.rf e36
    refine YX.if_le 46 dL_law_39 (by decide) (by omega) (fun h_39 => ?_) (fun h_39 => ?_)
    · exfalso; omega
    refine YX.iconst dL_law_42 ?_
    refine YX.goto 47 dL_law_43 (by decide) ?_
    refine YX.istore dL_law_47 (Nat.le_of_ble_eq_true rfl) rfl ?_
    refine YX.iload dL_law_49 rfl ?_
    refine YX.aload_n dL_law_51 rfl ?_
    refine YX.iconst dL_law_52 ?_
    refine YX.cVQ hk dL_law_53 mkX4_count csL_53 ob0 ⟨_, rfl, rfl⟩ (k_L_count 1 j36 (by omega)) (by omega) rfl rfl (Nat.le_of_ble_eq_true rfl) (fun s53 e53 t53 => ?_)
    have j53 := LJ.q j36 e53 t53
    have q53 := EQ.tr q36 e53
    have c1 : cntA s36 p 1 = 1 := hz
    rw [c1]
    refine YX.iconst dL_law_56 ?_
    refine YX.icmp_ne 64 dL_law_57 (by decide) (by omega) (by omega) (fun h_57 => ?_) (fun h_57 => ?_)
    · exfalso; omega
    refine YX.iconst dL_law_60 ?_
    refine YX.goto 65 dL_law_61 (by decide) ?_
    refine YX.icmp_ne 98 dL_law_65 (by decide) (by omega) (by omega) (fun h_65 => ?_) (fun h_65 => ?_)
    · exfalso; omega
    refine YX.aload_n dL_law_68 rfl ?_
    refine YX.cVQ hk dL_law_69 mkX4_rounds csL_49 ob0 ⟨_, rfl, rfl⟩ (k_L_rounds j53 ) (by omega) rfl rfl (Nat.le_of_ble_eq_true rfl) (fun s69 e69 t69 => ?_)
    have j69 := LJ.q j53 e69 t69
    have q69 := EQ.tr q53 e69
    refine YX.if_eq 98 dL_law_72 (by decide) (by omega) (fun h_72 => ?_) (fun h_72 => ?_)
    · exfalso; omega
    refine YX.aload_n dL_law_75 rfl ?_
    refine YX.cVQ hk dL_law_76 mkX4_rounds csL_49 ob0 ⟨_, rfl, rfl⟩ (k_L_rounds j69 ) (by omega) rfl rfl (Nat.le_of_ble_eq_true rfl) (fun s76 e76 t76 => ?_)
    have j76 := LJ.q j69 e76 t76
    have q76 := EQ.tr q69 e76
    refine YX.bipush dL_law_79 (by decide +kernel) ?_
    refine YX.icmp_gt 98 dL_law_81 (by decide) (by omega) (by omega) (fun h_81 => ?_) (fun h_81 => ?_)
    · exfalso; omega
    refine YX.iload dL_law_84 rfl ?_
    refine YX.if_eq 100 dL_law_86 (by decide) (by omega) (fun h_86 => ?_) (fun h_86 => ?_)
    · exfalso; omega
    refine YX.aload_n dL_law_89 rfl ?_
    refine YX.bipush dL_law_90 (by decide +kernel) ?_
    refine YX.cVQ hk dL_law_92 mkX4_count csL_53 ob0 ⟨_, rfl, rfl⟩ (k_L_count 7 j76 (by omega)) (by omega) rfl rfl (Nat.le_of_ble_eq_true rfl) (fun s92 e92 t92 => ?_)
    have j92 := LJ.q j76 e92 t92
    have q92 := EQ.tr q76 e92
    have c7 : cntA s76 p 7 = 0 := ov
    rw [c7]
    refine YX.if_le 100 dL_law_95 (by decide) (by omega) (fun h_95 => ?_) (fun h_95 => ?_)
    rotate_left
    · exfalso; omega
    exact k100 _ q92 (by assumption)
set_option maxHeartbeats 4000000 in
theorem lw_100 {v4 : Int} (hd : 10 ≤ d) (hk : kc ≤ mc ∧ ks ≤ ms) (t0 : 0 ≤ t) (t2 : t ≤ 2) (hJ : LJ σ p) (hK : KF σ p) (h2 : ∀ y : Int, 0 ≤ y → y < 3 → p 2 y = 0) (k149 : ∀ (u : zS) (q : zP), LJ u q → SPL p q → KF u q → (∀ y : Int, 0 ≤ y → y < 3 → 1 ≤ q 2 y ∧ q 2 y ≤ 200) → YX X mc ms kc ks d (μL nm ds) 149 [some (.ref 9004), some (.ref 67), some (.int (zi (t))), some (.ref 0), some (.int (zi (v4))), none, none, none, none, none, none, none, none] [] u P) : YX X mc ms kc ks d (μL nm ds) 100 [some (.ref 9004), some (.ref 67), some (.int (zi (t))), some (.ref 0), some (.int (zi (v4))), none, none, none, none, none, none, none, none] [] σ P := by
  refine YX.iconst dL_law_100 ?_
  refine YX.istore dL_law_101 (Nat.le_of_ble_eq_true rfl) rfl ?_
  refine zw3 (fun u q i => (0 ≤ i ∧ i ≤ 3 ∧ LJ u q ∧ SPL p q ∧ KF u q ∧ (∀ y : Int, i ≤ y → y < 3 → q 2 y = 0) ∧ ∀ y : Int, 0 ≤ y → y < i → 1 ≤ q 2 y ∧ q 2 y ≤ 200)) (fun u q i => YX X mc ms kc ks d (μL nm ds) 103 [some (.ref 9004), some (.ref 67), some (.int (zi (t))), some (.ref 0), some (.int (zi (v4))), some (.int (zi (i))), none, none, none, none, none, none, none] [] u P) (fun u q i => (3 - i).toNat) ?_ _ p _ ⟨by omega, by omega, hJ, SPL.rf, hK, fun y a c => h2 y a c, fun y a c => by omega⟩
  intro u q i hI ih
  obtain ⟨i0, i3, uJ, uS, uK, u0, u1⟩ := hI
  refine YX.iload dL_law_103 rfl ?_
  refine YX.iconst dL_law_105 ?_
  refine YX.icmp_ge 149 dL_law_106 (by decide) (by omega) (by omega) (fun h_106 => ?_) (fun h_106 => ?_)
  · exact YX.sub (zs_s (zs_s (zs_s (zs_s (zs_s (zs_n (zs_n (zs_n (zs_n (zs_n (zs_n (zs_n (zs_n zs_0))))))))))))) (k149 u q uJ uS uK (fun y a c => u1 y a (by omega)))
  · refine YX.aload_n dL_law_109 rfl ?_
    refine YX.iload dL_law_110 rfl ?_
    refine YX.iconst dL_law_112 ?_
    refine YX.iconst dL_law_113 ?_
    refine YX.aload_n dL_law_114 rfl ?_
    refine YX.bipush dL_law_115 (by decide +kernel) ?_
    refine YX.iload_n dL_law_117 rfl ?_
    refine YX.iadd dL_law_118 ?_
    refine YX.cSE hk dL_law_119 mkL_cell csL_9 (c_L_cell (by omega) (by omega)) (by omega) rfl rfl (Nat.le_of_ble_eq_true rfl) (fun v119 b119 => ?_)
    refine YX.bipush dL_law_122 (by decide +kernel) ?_
    refine YX.iload dL_law_124 rfl ?_
    refine YX.imul dL_law_126 ?_
    refine YX.ishrU dL_law_127 (fun v127 b127 => ?_)
    refine YX.sipush dL_law_128 (by decide +kernel) ?_
    refine YX.cSE hk dL_law_131 mkL_up csL_15 (c_L_up (by omega) (by omega)) (by omega) rfl rfl (Nat.le_of_ble_eq_true rfl) (fun v131 b131 => ?_)
    refine YX.iadd dL_law_134 ?_
    refine YX.cVI hk dL_law_135 mkX4_chain csL_19 ob0 ⟨_, rfl, rfl⟩ (k_L_chain 2 i0 (by omega) (by omega) (trt_i (Or.inr (Or.inr (Or.inl ⟨rfl, by omega, by omega⟩)))) (by omega)) (by omega) rfl rfl (Nat.le_of_ble_eq_true rfl) ?_
    have c2 : cP u 2 i = 0 := by rw [uJ.1]; exact u0 i (Int.le_refl _) (by omega)
    rw [c2]
    refine YX.if_eq 143 dL_law_138 (by decide) (by omega) (fun h_138 => ?_) (fun h_138 => ?_)
    rotate_left
    · exfalso; omega
    refine YX.iinc dL_law_143 rfl (Nat.le_of_ble_eq_true rfl) rfl ?_
    refine YX.goto 103 dL_law_146 (by decide) ?_
    exact ih _ _ _ ⟨by omega, by omega, uJ.ch (k := 2) (by omega) (trt_i (Or.inr (Or.inr (Or.inl ⟨rfl, by omega, by omega⟩)))), uS.tr (SPL.pu (Or.inl rfl)), uK.ch (Or.inl rfl), fun y a c => by rw [pu_ne (by omega)]; exact u0 y (by omega) c, fun y a c => by
      by_cases z : y = i
      · rw [z, pu_eq]; omega
      · rw [pu_ne z]; exact u1 y a (by omega)⟩ (by omega)
end ZW1
