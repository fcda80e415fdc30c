section ZK2
variable {σ : zS}
set_option maxHeartbeats 1000000 in
theorem c_X4_bound {p : zP} (ec : cP σ = p) (hp : WP p) (hs : σ.1 14 17 = 0 ∨ σ.1 14 17 = 1) (hst : σ.1 14 17 = 0 → SA 14 σ p) {i j : Int} (hi : zB i) (hj : zB j) : YC 7 μX4_bound [.ref 0, .int (zi i), .int (zi j)] σ (fun r s => RQ (stp p i j) (bndA p (i * 3 + j)) r ∧ EQ σ s ∧ STL s) := by
  refine YC.of2 (by decide) (Nat.le_of_ble_eq_true rfl) (fun d P hd hP => ?_)
  refine Y.aload_n dX4_bound_0 rfl ?_
  refine Y.getf dX4_bound_1 flX4_12 ob0 rfl ?_
  refine Y.iload_n dX4_bound_4 rfl ?_
  refine Y.iload_n dX4_bound_5 rfl ?_
  refine Y.cVI dX4_bound_6 mkX2_numberOf csX4_80 ob1 ⟨_, rfl, rfl⟩ (k_X2_numberOf ec hp hi hj) (by omega) rfl rfl (Nat.le_of_ble_eq_true rfl) ?_
  rcases nofc hp i j with ⟨s1, s2, s3, s4, s5, s6, s7⟩ | ⟨s1, s2⟩
  · rw [s2]
    refine Y.istore_n dX4_bound_9 (by decide) rfl ?_
    refine Y.iload_n dX4_bound_10 rfl ?_
    refine Y.iconst dX4_bound_11 ?_
    refine Y.icmp_ne 18 dX4_bound_12 (by decide) (by omega) (by omega) (fun h_12 => ?_) (fun h_12 => ?_)
    rotate_left
    · exfalso; omega
    refine Y.aload_n dX4_bound_18 rfl ?_
    refine Y.getf dX4_bound_19 flX4_21 ob0 rfl ?_
    refine Y.callV dX4_bound_22 mkX0_settle csX4_111 (obA (Or.inl rfl)) ⟨_, rfl, rfl⟩ (c_X0_settle (Or.inl rfl) ec hp hs hst) (by omega) rfl rfl (Nat.le_of_ble_eq_true rfl) (fun r_22 s_22 p_22 => ?_)
    obtain ⟨rfl, f_22, g_22, a_22⟩ := p_22
    have ec2 := (f_22.cp (Or.inl rfl)).trans ec
    have hE := f_22.eq (Or.inl rfl)
    have hT : STL s_22 := STL.of ec2 g_22 a_22
    refine Y.aload_n dX4_bound_25 rfl ?_
    refine Y.getf dX4_bound_26 flX4_21 ob0 rfl ?_
    refine Y.iload_n dX4_bound_29 rfl ?_
    refine Y.cVI dX4_bound_30 mkX0_boundOf csX4_120 (obA (Or.inl rfl)) ⟨_, rfl, rfl⟩ (c_X0_boundOf (Or.inl rfl) ec2 hp a_22 s5 s6 s7) (by omega) rfl rfl (Nat.le_of_ble_eq_true rfl) ?_
    exact Y.iret dX4_bound_33 rfl (hP _ _ ⟨Or.inl ⟨s1, rfl⟩, hE, hT⟩)
  · rw [s2]
    refine Y.istore_n dX4_bound_9 (by decide) rfl ?_
    refine Y.iload_n dX4_bound_10 rfl ?_
    refine Y.iconst dX4_bound_11 ?_
    refine Y.icmp_ne 18 dX4_bound_12 (by decide) (by omega) (by omega) (fun h_12 => ?_) (fun h_12 => ?_)
    · exfalso; omega
    refine Y.bipush dX4_bound_15 (by decide +kernel) ?_
    exact Y.iret dX4_bound_17 rfl (hP _ _ ⟨Or.inr ⟨fun z => absurd z s1, rfl⟩, EQ.rf, hs, fun q => by rw [ec]; exact hst q⟩)
set_option maxHeartbeats 1000000 in
theorem c_X4_searched {p : zP} (ec : cP σ = p) (hp : WP p) (hs : σ.1 14 17 = 0 ∨ σ.1 14 17 = 1) (hst : σ.1 14 17 = 0 → SA 14 σ p) {i j : Int} (hi : zB i) (hj : zB j) : YC 7 μX4_searched [.ref 0, .int (zi i), .int (zi j)] σ (fun r s => RQ (stp p i j) (srcA p (i * 3 + j)) r ∧ EQ σ s ∧ STL s) := by
  refine YC.of2 (by decide) (Nat.le_of_ble_eq_true rfl) (fun d P hd hP => ?_)
  refine Y.aload_n dX4_searched_0 rfl ?_
  refine Y.getf dX4_searched_1 flX4_12 ob0 rfl ?_
  refine Y.iload_n dX4_searched_4 rfl ?_
  refine Y.iload_n dX4_searched_5 rfl ?_
  refine Y.cVI dX4_searched_6 mkX2_numberOf csX4_80 ob1 ⟨_, rfl, rfl⟩ (k_X2_numberOf ec hp hi hj) (by omega) rfl rfl (Nat.le_of_ble_eq_true rfl) ?_
  rcases nofc hp i j with ⟨s1, s2, s3, s4, s5, s6, s7⟩ | ⟨s1, s2⟩
  · rw [s2]
    refine Y.istore_n dX4_searched_9 (by decide) rfl ?_
    refine Y.iload_n dX4_searched_10 rfl ?_
    refine Y.iconst dX4_searched_11 ?_
    refine Y.icmp_ne 18 dX4_searched_12 (by decide) (by omega) (by omega) (fun h_12 => ?_) (fun h_12 => ?_)
    rotate_left
    · exfalso; omega
    refine Y.aload_n dX4_searched_18 rfl ?_
    refine Y.getf dX4_searched_19 flX4_21 ob0 rfl ?_
    refine Y.callV dX4_searched_22 mkX0_settle csX4_111 (obA (Or.inl rfl)) ⟨_, rfl, rfl⟩ (c_X0_settle (Or.inl rfl) ec hp hs hst) (by omega) rfl rfl (Nat.le_of_ble_eq_true rfl) (fun r_22 s_22 p_22 => ?_)
    obtain ⟨rfl, f_22, g_22, a_22⟩ := p_22
    have ec2 := (f_22.cp (Or.inl rfl)).trans ec
    have hE := f_22.eq (Or.inl rfl)
    have hT : STL s_22 := STL.of ec2 g_22 a_22
    refine Y.aload_n dX4_searched_25 rfl ?_
    refine Y.getf dX4_searched_26 flX4_21 ob0 rfl ?_
    refine Y.iload_n dX4_searched_29 rfl ?_
    refine Y.callV dX4_searched_30 mkX0_searchedOf csX4_123 (obA (Or.inl rfl)) ⟨_, rfl, rfl⟩ (c_X0_searchedOf (Or.inl rfl) ec2 hp a_22 s5 s6 s7) (by omega) rfl rfl (Nat.le_of_ble_eq_true rfl) (fun r_30 s_30 p_30 => ?_)
    obtain ⟨rfl, f_30⟩ := p_30
    have hE3 := hE.tr (f_30.eq (Or.inl rfl))
    have ec3 : cP s_30 = p := hE3.cp.trans ec
    have hT3 : STL s_30 := STL.of ec3 (by rw [f_30.2.2 17 (by omega)]; exact g_22) (a_22.fr (Or.inl rfl) f_30)
    exact Y.iret dX4_searched_33 rfl (hP _ _ ⟨Or.inl ⟨s1, rfl⟩, hE3, hT3⟩)
  · rw [s2]
    refine Y.istore_n dX4_searched_9 (by decide) rfl ?_
    refine Y.iload_n dX4_searched_10 rfl ?_
    refine Y.iconst dX4_searched_11 ?_
    refine Y.icmp_ne 18 dX4_searched_12 (by decide) (by omega) (by omega) (fun h_12 => ?_) (fun h_12 => ?_)
    · exfalso; omega
    refine Y.bipush dX4_searched_15 (by decide +kernel) ?_
    exact Y.iret dX4_searched_17 rfl (hP _ _ ⟨Or.inr ⟨fun z => absurd z s1, rfl⟩, EQ.rf, hs, fun q => by rw [ec]; exact hst q⟩)
set_option maxHeartbeats 1000000 in
theorem c_X4_quick {p : zP} (ec : cP σ = p) (hp : WP p) (hs : σ.1 14 17 = 0 ∨ σ.1 14 17 = 1) (hst : σ.1 14 17 = 0 → SA 14 σ p) {i j : Int} (hi : zB i) (hj : zB j) : YC 7 μX4_quick [.ref 0, .int (zi i), .int (zi j)] σ (fun r s => RQ (stp p i j) (qckA p (i * 3 + j)) r ∧ EQ σ s ∧ STL s) := by
  refine YC.of2 (by decide) (Nat.le_of_ble_eq_true rfl) (fun d P hd hP => ?_)
  refine Y.aload_n dX4_quick_0 rfl ?_
  refine Y.getf dX4_quick_1 flX4_12 ob0 rfl ?_
  refine Y.iload_n dX4_quick_4 rfl ?_
  refine Y.iload_n dX4_quick_5 rfl ?_
  refine Y.cVI dX4_quick_6 mkX2_numberOf csX4_80 ob1 ⟨_, rfl, rfl⟩ (k_X2_numberOf ec hp hi hj) (by omega) rfl rfl (Nat.le_of_ble_eq_true rfl) ?_
  rcases nofc hp i j with ⟨s1, s2, s3, s4, s5, s6, s7⟩ | ⟨s1, s2⟩
  · rw [s2]
    refine Y.istore_n dX4_quick_9 (by decide) rfl ?_
    refine Y.iload_n dX4_quick_10 rfl ?_
    refine Y.iconst dX4_quick_11 ?_
    refine Y.icmp_ne 18 dX4_quick_12 (by decide) (by omega) (by omega) (fun h_12 => ?_) (fun h_12 => ?_)
    rotate_left
    · exfalso; omega
    refine Y.aload_n dX4_quick_18 rfl ?_
    refine Y.getf dX4_quick_19 flX4_21 ob0 rfl ?_
    refine Y.callV dX4_quick_22 mkX0_settle csX4_111 (obA (Or.inl rfl)) ⟨_, rfl, rfl⟩ (c_X0_settle (Or.inl rfl) ec hp hs hst) (by omega) rfl rfl (Nat.le_of_ble_eq_true rfl) (fun r_22 s_22 p_22 => ?_)
    obtain ⟨rfl, f_22, g_22, a_22⟩ := p_22
    have ec2 := (f_22.cp (Or.inl rfl)).trans ec
    have hE := f_22.eq (Or.inl rfl)
    have hT : STL s_22 := STL.of ec2 g_22 a_22
    refine Y.aload_n dX4_quick_25 rfl ?_
    refine Y.getf dX4_quick_26 flX4_21 ob0 rfl ?_
    refine Y.iload_n dX4_quick_29 rfl ?_
    refine Y.callV dX4_quick_30 mkX0_quickOf csX4_126 (obA (Or.inl rfl)) ⟨_, rfl, rfl⟩ (c_X0_quickOf (Or.inl rfl) ec2 hp a_22 s5 s6 s7) (by omega) rfl rfl (Nat.le_of_ble_eq_true rfl) (fun r_30 s_30 p_30 => ?_)
    obtain ⟨rfl, f_30⟩ := p_30
    have hE3 := hE.tr (f_30.eq (Or.inl rfl))
    have ec3 : cP s_30 = p := hE3.cp.trans ec
    have hT3 : STL s_30 := STL.of ec3 (by rw [f_30.2.2 17 (by omega)]; exact g_22) (a_22.fr (Or.inl rfl) f_30)
    exact Y.iret dX4_quick_33 rfl (hP _ _ ⟨Or.inl ⟨s1, rfl⟩, hE3, hT3⟩)
  · rw [s2]
    refine Y.istore_n dX4_quick_9 (by decide) rfl ?_
    refine Y.iload_n dX4_quick_10 rfl ?_
    refine Y.iconst dX4_quick_11 ?_
    refine Y.icmp_ne 18 dX4_quick_12 (by decide) (by omega) (by omega) (fun h_12 => ?_) (fun h_12 => ?_)
    · exfalso; omega
    refine Y.bipush dX4_quick_15 (by decide +kernel) ?_
    exact Y.iret dX4_quick_17 rfl (hP _ _ ⟨Or.inr ⟨fun z => absurd z s1, rfl⟩, EQ.rf, hs, fun q => by rw [ec]; exact hst q⟩)
set_option maxHeartbeats 1000000 in
theorem c_X4_rounds {p : zP} (ec : cP σ = p) (hp : WP p) (hs : σ.1 14 17 = 0 ∨ σ.1 14 17 = 1) (hst : σ.1 14 17 = 0 → SA 14 σ p) : YC 7 μX4_rounds [.ref 0] σ (fun r s => r = some (.int (zi (rndA p))) ∧ EQ σ s ∧ STL s) := by
  refine YC.of2 (by decide) (Nat.le_of_ble_eq_true rfl) (fun d P hd hP => ?_)
  refine Y.aload_n dX4_rounds_0 rfl ?_
  refine Y.getf dX4_rounds_1 flX4_21 ob0 rfl ?_
  refine Y.callV dX4_rounds_4 mkX0_settle csX4_111 (obA (Or.inl rfl)) ⟨_, rfl, rfl⟩ (c_X0_settle (Or.inl rfl) ec hp hs hst) (by omega) rfl rfl (Nat.le_of_ble_eq_true rfl) (fun r_4 s_4 p_4 => ?_)
  obtain ⟨rfl, f_4, g_4, a_4⟩ := p_4
  have ec2 := (f_4.cp (Or.inl rfl)).trans ec
  have hE := f_4.eq (Or.inl rfl)
  have hT : STL s_4 := STL.of ec2 g_4 a_4
  refine Y.aload_n dX4_rounds_7 rfl ?_
  refine Y.getf dX4_rounds_8 flX4_21 ob0 rfl ?_
  refine Y.getf dX4_rounds_11 flX4_129 (obA (Or.inl rfl)) rfl ?_
  exact Y.iret dX4_rounds_14 rfl (hP _ _ ⟨zrI (by rcases a_4 with ⟨h1, h2⟩ | ⟨r, l, h1, h2, _⟩; (· rw [rndA, sv_n h1]; exact h2); rw [rndA, sv_s h1]; exact h2), hE, hT⟩)
set_option maxHeartbeats 1000000 in
theorem c_X4_meets {p : zP} (ec : cP σ = p) (hp : WP p) (hs : σ.1 14 17 = 0 ∨ σ.1 14 17 = 1) (hst : σ.1 14 17 = 0 → SA 14 σ p) : YC 7 μX4_meets [.ref 0] σ (fun r s => r = some (.int (zi (bts (metP p)))) ∧ EQ σ s ∧ STL s) := by
  refine YC.of2 (by decide) (Nat.le_of_ble_eq_true rfl) (fun d P hd hP => ?_)
  refine Y.aload_n dX4_meets_0 rfl ?_
  refine Y.getf dX4_meets_1 flX4_21 ob0 rfl ?_
  refine Y.callV dX4_meets_4 mkX0_settle csX4_111 (obA (Or.inl rfl)) ⟨_, rfl, rfl⟩ (c_X0_settle (Or.inl rfl) ec hp hs hst) (by omega) rfl rfl (Nat.le_of_ble_eq_true rfl) (fun r_4 s_4 p_4 => ?_)
  obtain ⟨rfl, f_4, g_4, a_4⟩ := p_4
  have ec2 := (f_4.cp (Or.inl rfl)).trans ec
  have hE := f_4.eq (Or.inl rfl)
  have hT : STL s_4 := STL.of ec2 g_4 a_4
  refine Y.aload_n dX4_meets_7 rfl ?_
  refine Y.getf dX4_meets_8 flX4_21 ob0 rfl ?_
  refine Y.cVI dX4_meets_11 mkX0_meetingBits csX4_135 (obA (Or.inl rfl)) ⟨_, rfl, rfl⟩ (c_X0_meetingBits (Or.inl rfl) ec2 hp a_4) (by omega) rfl rfl (Nat.le_of_ble_eq_true rfl) ?_
  exact Y.iret dX4_meets_14 rfl (hP _ _ ⟨rfl, hE, hT⟩)
theorem cP_pf {k : Nat} {i v : Int} (hk : k < 9) : cP (zu σ (cC k) i v) = pu (cP σ) k i v := by
  funext l
  by_cases q : l < 10
  · exact cP_pu (by omega) l q
  · rw [cP_9 l (by omega), cP_pu (by omega) 9 (by omega), pu_nc (by omega), pu_nc (by omega), cP_9 l (by omega)]
theorem WP.cost {p : zP} (hp : WJ p) {x v : Int} (h0 : 0 ≤ x) (h9 : x < 9) (v0 : 0 ≤ v) (v8 : v ≤ 8) : WP (pu p 7 x (p 7 x + v)) := by
  obtain ⟨⟨h1, h2, h3⟩, h4⟩ := hp
  have n := fun k q => pu_nc (p := p) (k := 7) (k' := k) (i := x) (v := p 7 x + v) q
  refine ⟨fun j a c => by rw [n 0 (by omega), n 1 (by omega), n 2 (by omega), n 3 (by omega), n 4 (by omega), n 5 (by omega)]; exact h1 j a c, fun y a c => ?_, fun y a c d => ?_⟩
  · rw [n 6 (by omega), n 8 (by omega), n 9 (by omega)]
    have hy := h2 y a c
    have hx := h4 x h0 h9
    by_cases q : y = x
    · rw [q, pu_eq]; rw [q] at hy; omega
    · rw [pu_ne q]; exact hy
  · have d' : th p y := by unfold th at d ⊢; rw [n 5 (by omega)] at d; exact d
    have := h3 y a c d'
    by_cases q : y = x
    · rw [q, pu_eq]; rw [q] at this; omega
    · rw [pu_ne q]; exact this
theorem WP.prio {p : zP} (hp : WP p) {x v : Int} (v0 : 0 ≤ v) (v9 : v ≤ 9) : WP (pu p 8 x v) := by
  obtain ⟨h1, h2, h3⟩ := hp
  have n := fun k q => pu_nc (p := p) (k := 8) (k' := k) (i := x) (v := v) q
  refine ⟨fun j a c => by rw [n 0 (by omega), n 1 (by omega), n 2 (by omega), n 3 (by omega), n 4 (by omega), n 5 (by omega)]; exact h1 j a c, fun y a c => ?_, fun y a c d => ?_⟩
  · rw [n 6 (by omega), n 7 (by omega), n 9 (by omega)]
    have hy := h2 y a c
    by_cases q : y = x
    · rw [q, pu_eq]; rw [q] at hy; omega
    · rw [pu_ne q]; exact hy
  · rw [n 7 (by omega)]
    exact h3 y a c (by unfold th at d ⊢; rw [n 5 (by omega)] at d; exact d)
theorem pu_th {p : zP} {k : Nat} {x v y : Int} (hk : k ≠ 5) : th (pu p k x v) y ↔ th p y := by unfold th; rw [pu_nc (by omega)]
theorem pu_due {p : zP} {k : Nat} {x v : Int} (h5 : k ≠ 5) (h2 : k ≠ 2) : due (pu p k x v) = due p := by unfold due; rw [pu_nc (by omega), pu_nc (by omega)]
/-- the margin -/
noncomputable def mgU (p : zP) (x : Int) : Nat → Int
  | 0 => -1
  | n + 1 => @ite _ (alm (pu p 7 x (p 7 x + (n : Int))) 3) (Classical.propDecidable _) (n : Int) (mgU p x n)
noncomputable def mgA (p : zP) (x : Int) : Int := mgU p x 9
theorem mg_1 {p : zP} {x v : Int} (h0 : 0 ≤ v) (h : alm (pu p 7 x (p 7 x + v)) 3) : mgU p x (v + 1).toNat = v := by
  rw [show (v + 1).toNat = v.toNat + 1 by omega]
  show @ite _ (alm (pu p 7 x (p 7 x + ((v.toNat : Nat) : Int))) 3) (Classical.propDecidable _) _ _ = _
  have e : ((v.toNat : Nat) : Int) = v := by omega
  rw [e, if_pos h]
theorem mg_2 {p : zP} {x v : Int} (h0 : 0 ≤ v) (h : ¬ alm (pu p 7 x (p 7 x + v)) 3) : mgU p x (v + 1).toNat = mgU p x v.toNat := by
  rw [show (v + 1).toNat = v.toNat + 1 by omega]
  show @ite _ (alm (pu p 7 x (p 7 x + ((v.toNat : Nat) : Int))) 3) (Classical.propDecidable _) _ _ = _
  have e : ((v.toNat : Nat) : Int) = v := by omega
  rw [e, if_neg h]
theorem mg_b {p : zP} {x : Int} : ∀ n : Nat, -1 ≤ mgU p x n ∧ mgU p x n < n
  | 0 => ⟨Int.le_refl _, by show (-1 : Int) < 0; omega⟩
  | n + 1 => by
    have := mg_b (p := p) (x := x) n
    show -1 ≤ @ite _ (alm (pu p 7 x (p 7 x + (n : Int))) 3) (Classical.propDecidable _) (n : Int) (mgU p x n) ∧ @ite _ (alm (pu p 7 x (p 7 x + (n : Int))) 3) (Classical.propDecidable _) (n : Int) (mgU p x n) < ((n + 1 : Nat) : Int)
    split <;> omega
/-- the better priority, its bound -/
noncomputable def btc (p : zP) (x l v : Int) (q : Int × Int) : Prop := bndA (pu p 8 x v) l ≠ -1 ∧ (q.1 = -1 ∨ bndA (pu p 8 x v) l < q.2)
noncomputable def btU (p : zP) (x l : Int) : Nat → Int × Int
  | 0 => (-1, -1)
  | n + 1 => @ite _ (btc p x l n (btU p x l n)) (Classical.propDecidable _) ((n : Int), bndA (pu p 8 x (n : Int)) l) (btU p x l n)
theorem bt_n {p : zP} {x l : Int} {n : Nat} : btU p x l (n + 1) = @ite _ (btc p x l n (btU p x l n)) (Classical.propDecidable _) ((n : Int), bndA (pu p 8 x (n : Int)) l) (btU p x l n) := rfl
theorem bt_1 {p : zP} {x l v : Int} (h0 : 0 ≤ v) (h : btc p x l v (btU p x l (v - 0).toNat)) : btU p x l (v + 1 - 0).toNat = (v, bndA (pu p 8 x v) l) := by
  rw [show (v + 1 - 0).toNat = (v - 0).toNat + 1 by omega, bt_n, show (((v - 0).toNat : Nat) : Int) = v by omega, if_pos h]
theorem bt_2 {p : zP} {x l v : Int} (h0 : 0 ≤ v) (h : ¬ btc p x l v (btU p x l (v - 0).toNat)) : btU p x l (v + 1 - 0).toNat = btU p x l (v - 0).toNat := by
  rw [show (v + 1 - 0).toNat = (v - 0).toNat + 1 by omega, bt_n, show (((v - 0).toNat : Nat) : Int) = v by omega, if_neg h]
theorem bt_b {p : zP} (hp : WP p) {x l : Int} (l0 : 0 ≤ l) (l9 : l < 9) (ht : th p l) : ∀ n : Nat, n ≤ 10 → ((btU p x l n).1 = -1 ∧ (btU p x l n).2 = -1) ∨ (0 ≤ (btU p x l n).1 ∧ (btU p x l n).1 ≤ 9 ∧ 1 ≤ (btU p x l n).2 ∧ (btU p x l n).2 ≤ 746)
  | 0, _ => Or.inl ⟨rfl, rfl⟩
  | n + 1, hn => by
    have ih := bt_b hp (x := x) l0 l9 ht n (by omega)
    have hb := bndA_b (hp.prio (x := x) (v := (n : Int)) (by omega) (by omega)) l0 l9 ((pu_th (by omega)).mpr ht)
    rw [bt_n]
    by_cases h : btc p x l n (btU p x l n)
    · rw [if_pos h]
      have h1 := h.1
      refine Or.inr ⟨by show (0 : Int) ≤ n; omega, by show (n : Int) ≤ 9; omega, ?_, hb.2.1⟩
      show 1 ≤ bndA (pu p 8 x (n : Int)) l
      refine hb.2.2 (fun q => h1 ?_)
      rw [bndA, sv_n q]
    · rw [if_neg h]; exact ih
noncomputable def btA (p : zP) (x l w : Int) : Int := if w = 0 then (btU p x l 10).1 else (btU p x l 10).2
/-- while it is tried out -/
def FT (a : Nat) (σ u : zS) (x : Int) : Prop := u.2 = σ.2 ∧ (∀ c : Nat, c ≠ a → (c < 26 ∨ 37 < c) → u.1 c = σ.1 c) ∧ ∀ j : Int, j ≠ x → u.1 a j = σ.1 a j
theorem FT.rf {a : Nat} {x : Int} : FT a σ σ x := ⟨rfl, fun _ _ _ => rfl, fun _ _ => rfl⟩
theorem FT.up {a : Nat} {u : zS} {x v : Int} (h : FT a σ u x) : FT a σ (zu u a x v) x := ⟨h.1, fun c q1 q2 => by rw [zu_nc q1]; exact h.2.1 c q1 q2, fun j q => by rw [zu_ne q]; exact h.2.2 j q⟩
theorem FT.us {a : Nat} {u : zS} {x i v : Int} (h : FT a σ u x) (ha : a < 26) : FT a σ (zu u 26 i v) x := ⟨h.1, fun c q1 q2 => by rw [zu_nc (by omega)]; exact h.2.1 c q1 q2, fun j q => by rw [zu_nc (by omega)]; exact h.2.2 j q⟩
theorem FT.fa {a : Nat} {u t : zS} {x : Int} (h : FT a σ u x) (ha : a < 26) (h2 : zFA 26 u t) : FT a σ t x := ⟨h2.1.trans h.1, fun c q1 q2 => (h2.2 c (by omega)).trans (h.2.1 c q1 q2), fun j q => by rw [h2.2 a (by omega)]; exact h.2.2 j q⟩
theorem FT.end {a : Nat} {u : zS} {x : Int} (h : FT a σ u x) (ha : a < 14) : EQ σ (zu u a x (σ.1 a x)) ∧ ∀ c : Nat, c ≤ 25 → (zu u a x (σ.1 a x)).1 c = σ.1 c := by
  have ea : (zu u a x (σ.1 a x)).1 a = σ.1 a := funext fun j => by
    by_cases q : j = x
    · rw [q, zu_eq]
    · rw [zu_ne q]; exact h.2.2 j q
  refine ⟨⟨by rw [zu_l, h.1], fun c q1 => ?_⟩, fun c q => ?_⟩
  · by_cases e : c = a
    · rw [e]; exact ea
    · rw [zu_nc e]; exact h.2.1 c e (by omega)
  · by_cases e : c = a
    · rw [e]; exact ea
    · rw [zu_nc e]; exact h.2.1 c e (by omega)
theorem FT.cp {u : zS} {x v : Int} {k : Nat} (hk : k < 9) (ha : cC k < 26) (h : FT (cC k) σ u x) (hv : u.1 (cC k) x = v) : cP u = pu (cP σ) k x v := by
  funext l
  have key : ∀ l : Nat, l < 10 → cP u l = pu (cP σ) k x v l := fun l hl => by
    rw [cP_k]
    by_cases e : l = k
    · rw [e]
      funext j
      by_cases q : j = x
      · rw [q, hv, pu_eq]
      · rw [pu_ne q, h.2.2 j q, cP_k]
    · rw [pu_nc e, cP_k]
      refine h.2.1 _ (fun q => e (cC_i hl (by omega) q)) ?_
      rcases l with _ | _ | _ | _ | _ | _ | _ | _ | _ | l <;> exact Or.inl (by first | decide | (show (12 : Nat) < 26; decide))
  by_cases q : l < 10
  · exact key l q
  · rw [cP_9 l (by omega), key 9 (by omega), pu_nc (by omega), pu_nc (by omega), cP_9 l (by omega)]
set_option maxHeartbeats 4000000 in
theorem c_X4_margin {p : zP} (ec : cP σ = p) (hJ : WJ p) (hs : σ.1 14 17 = 0 ∨ σ.1 14 17 = 1) (hst : σ.1 14 17 = 0 → SA 14 σ p) {i j : Int} (hi : zB i) (hj : zB j) : YC 7 μX4_margin [.ref 0, .int (zi i), .int (zi j)] σ (fun r s => RQ (stp p i j) (mgA p (i * 3 + j)) r ∧ EQ σ s ∧ STL s) := by
  refine YC.of2 (by decide) (Nat.le_of_ble_eq_true rfl) (fun d P hd hP => ?_)
  have hp := hJ.1
  have e7 : σ.1 10 = p 7 := by rw [← ec]; rfl
  refine Y.aload_n dX4_margin_0 rfl ?_
  refine Y.getf dX4_margin_1 flX4_12 ob0 rfl ?_
  refine Y.iload_n dX4_margin_4 rfl ?_
  refine Y.iload_n dX4_margin_5 rfl ?_
  refine Y.cVI dX4_margin_6 mkX2_numberOf csX4_80 ob1 ⟨_, rfl, rfl⟩ (k_X2_numberOf ec hp hi hj) (by omega) rfl rfl (Nat.le_of_ble_eq_true rfl) ?_
  rcases nofc hp i j with ⟨s1, s2, s3, s4, s5, s6, s7⟩ | ⟨s1, s2⟩
  · rw [s2]
    refine Y.istore_n dX4_margin_9 (by decide) rfl ?_
    refine Y.iload_n dX4_margin_10 rfl ?_
    refine Y.iconst dX4_margin_11 ?_
    refine Y.icmp_ne 18 dX4_margin_12 (by decide) (by omega) (by omega) (fun h_12 => ?_) (fun h_12 => ?_)
    rotate_left
    · exfalso; omega
    refine Y.aload_n dX4_margin_18 rfl ?_
    refine Y.getf dX4_margin_19 flX4_12 ob0 rfl ?_
    refine Y.getf dX4_margin_22 flX4_84 ob1 rfl ?_
    refine Y.iconst dX4_margin_25 ?_
    refine Y.aald dX4_margin_26 ra8 (by decide) (by decide) (by decide) rfl ?_
    refine Y.iload_n dX4_margin_27 rfl ?_
    refine Y.iald dX4_margin_28 ia10 (by omega) (by omega) ?_
    rw [e7]
    refine Y.istore dX4_margin_29 (by decide) rfl ?_
    refine Y.aload_n dX4_margin_31 rfl ?_
    refine Y.getf dX4_margin_32 flX4_12 ob0 rfl ?_
    refine Y.cVI dX4_margin_35 mkX2_dueBits csX4_139 ob1 ⟨_, rfl, rfl⟩ (k_X2_dueBits ec hp) (by omega) rfl rfl (Nat.le_of_ble_eq_true rfl) ?_
    refine Y.istore dX4_margin_38 (by decide) rfl ?_
    refine Y.iconst dX4_margin_40 ?_
    refine Y.istore dX4_margin_41 (by decide) rfl ?_
    refine Y.bipush dX4_margin_43 (by decide +kernel) ?_
    refine Y.istore dX4_margin_45 (by decide) rfl ?_
    have hbd := bts_b (due p)
    refine zw3 (fun u gr mo => (-1 ≤ mo ∧ mo ≤ 8 ∧ FT 10 σ u (i * 3 + j) ∧ ((gr = -1 ∧ mgU p (i * 3 + j) (mo + 1).toNat = mgA p (i * 3 + j)) ∨ (0 ≤ gr ∧ gr ≤ 8 ∧ gr = mgA p (i * 3 + j))))) (fun u gr mo => Y d μX4_margin 47 [some (.ref 0), some (.int (zi i)), some (.int (zi j)), some (.int (zi (i * 3 + j))), some (.int (zi (p 7 (i * 3 + j)))), some (.int (zi (bts (due p)))), some (.int (zi gr)), some (.int (zi mo))] [] u P) (fun u gr mo => (mo + 1).toNat) ?_ _ _ _ ⟨by omega, by omega, FT.rf, Or.inl ⟨rfl, rfl⟩⟩
    intro u gr mo hI ih
    obtain ⟨m1, m2, m3, m4⟩ := hI
    have hgr : -1 ≤ gr ∧ gr ≤ 8 := by rcases m4 with q | q <;> omega
    refine Y.iload dX4_margin_47 rfl ?_
    refine Y.if_lt 111 dX4_margin_49 (by decide) (by omega) (fun h_49 => ?_) (fun h_49 => ?_)
    · refine Y.aload_n dX4_margin_111 rfl ?_
      refine Y.getf dX4_margin_112 flX4_12 ob0 rfl ?_
      refine Y.getf dX4_margin_115 flX4_84 ob1 rfl ?_
      refine Y.iconst dX4_margin_118 ?_
      refine Y.aald dX4_margin_119 ra8 (by decide) (by decide) (by decide) rfl ?_
      refine Y.iload_n dX4_margin_120 rfl ?_
      refine Y.iload dX4_margin_121 rfl ?_
      refine Y.iast dX4_margin_123 ia10 (by omega) (by omega) ?_
      refine Y.iload dX4_margin_124 rfl ?_
      exact Y.iret dX4_margin_126 rfl (hP _ _ ⟨Or.inl ⟨s1, zrI (by rcases m4 with ⟨q1, q2⟩ | q; (· rw [← q2, show mo = -1 by omega]; exact q1); exact q.2.2)⟩, by rw [show p 7 (i * 3 + j) = σ.1 10 (i * 3 + j) by rw [e7]]; exact ⟨(m3.end (by omega)).1, STL.ag ⟨hs, fun q => by rw [ec]; exact hst q⟩ (m3.end (by omega)).2⟩⟩)
    · refine Y.iload dX4_margin_52 rfl ?_
      refine Y.iconst dX4_margin_54 ?_
      refine Y.icmp_ne 111 dX4_margin_55 (by decide) (by omega) (by omega) (fun h_55 => ?_) (fun h_55 => ?_)
      · refine Y.aload_n dX4_margin_111 rfl ?_
        refine Y.getf dX4_margin_112 flX4_12 ob0 rfl ?_
        refine Y.getf dX4_margin_115 flX4_84 ob1 rfl ?_
        refine Y.iconst dX4_margin_118 ?_
        refine Y.aald dX4_margin_119 ra8 (by decide) (by decide) (by decide) rfl ?_
        refine Y.iload_n dX4_margin_120 rfl ?_
        refine Y.iload dX4_margin_121 rfl ?_
        refine Y.iast dX4_margin_123 ia10 (by omega) (by omega) ?_
        refine Y.iload dX4_margin_124 rfl ?_
        exact Y.iret dX4_margin_126 rfl (hP _ _ ⟨Or.inl ⟨s1, zrI (by rcases m4 with ⟨q1, q2⟩ | q; (· rw [← q2, show mo = -1 by omega]; exact q1); exact q.2.2)⟩, by rw [show p 7 (i * 3 + j) = σ.1 10 (i * 3 + j) by rw [e7]]; exact ⟨(m3.end (by omega)).1, STL.ag ⟨hs, fun q => by rw [ec]; exact hst q⟩ (m3.end (by omega)).2⟩⟩)
      · have hU : mgU p (i * 3 + j) (mo + 1).toNat = mgA p (i * 3 + j) := by rcases m4 with q | q; (· exact q.2); exact absurd q.1 (by omega)
        have hcx := hp.2.1 (i * 3 + j) s5 s6
        refine Y.aload_n dX4_margin_58 rfl ?_
        refine Y.getf dX4_margin_59 flX4_12 ob0 rfl ?_
        refine Y.getf dX4_margin_62 flX4_84 ob1 rfl ?_
        refine Y.iconst dX4_margin_65 ?_
        refine Y.aald dX4_margin_66 ra8 (by decide) (by decide) (by decide) rfl ?_
        refine Y.iload_n dX4_margin_67 rfl ?_
        refine Y.iload dX4_margin_68 rfl ?_
        refine Y.iload dX4_margin_70 rfl ?_
        refine Y.iadd dX4_margin_72 ?_
        refine Y.iast dX4_margin_73 ia10 (by omega) (by omega) ?_
        refine Y.aload_n dX4_margin_74 rfl ?_
        refine Y.getf dX4_margin_75 flX4_25 ob0 rfl ?_
        refine Y.iconst dX4_margin_78 ?_
        refine Y.putf 17 dX4_margin_79 fpX4_65 (obA (Or.inr rfl)) (osA_17 (Or.inr rfl)) (Nat.le_of_ble_eq_true rfl) (Or.inr ⟨rfl, Or.inr rfl⟩) rfl ?_
        refine Y.aload_n dX4_margin_82 rfl ?_
        refine Y.getf dX4_margin_83 flX4_25 ob0 rfl ?_
        have hu1 : FT 10 σ (zu (zu u 10 (i * 3 + j) (p 7 (i * 3 + j) + mo)) 26 17 1) (i * 3 + j) := (m3.up).us (by omega)
        have ec1 : cP (zu (zu u 10 (i * 3 + j) (p 7 (i * 3 + j) + mo)) 26 17 1) = pu p 7 (i * 3 + j) (p 7 (i * 3 + j) + mo) := by
          rw [FT.cp (k := 7) (σ := σ) (x := (i * 3 + j)) (v := p 7 (i * 3 + j) + mo) (by omega) (by decide) hu1 (by show (zu (zu u 10 (i * 3 + j) _) 26 17 1).1 10 (i * 3 + j) = _; rw [zu_nc (by omega), zu_eq]), ec]
        have hp1 := WP.cost hJ (x := (i * 3 + j)) (v := mo) s5 s6 (by omega) (by omega)
        refine Y.callV dX4_margin_86 mkX0_settle csX4_111 (obA (Or.inr rfl)) ⟨_, rfl, rfl⟩ (c_X0_settle (Or.inr rfl) ec1 hp1 (Or.inr (by rw [zu_eq])) (fun q => by rw [zu_eq] at q; omega)) (by omega) rfl rfl (Nat.le_of_ble_eq_true rfl) (fun r_86 s_86 p_86 => ?_)
        obtain ⟨rfl, f_86, g_86, a_86⟩ := p_86
        have ec8 := (f_86.cp (Or.inr rfl)).trans ec1
        refine Y.aload_n dX4_margin_89 rfl ?_
        refine Y.getf dX4_margin_90 flX4_25 ob0 rfl ?_
        refine Y.cVI dX4_margin_93 mkX0_meetingBits csX4_135 (obA (Or.inr rfl)) ⟨_, rfl, rfl⟩ (c_X0_meetingBits (Or.inr rfl) ec8 hp1 a_86) (by omega) rfl rfl (Nat.le_of_ble_eq_true rfl) ?_
        refine Y.iload dX4_margin_96 rfl ?_
        have hbm := bts_b (metP (pu p 7 (i * 3 + j) (p 7 (i * 3 + j) + mo)))
        refine Y.icmp_ne 105 dX4_margin_98 (by decide) (by omega) (by omega) (fun h_98 => ?_) (fun h_98 => ?_)
        · refine Y.iinc dX4_margin_105 rfl (by decide) rfl ?_
          refine Y.goto 47 dX4_margin_108 (by decide) ?_
          refine ih _ _ _ ⟨by omega, by omega, hu1.fa (by omega) f_86, ?_⟩ (by omega)
          rw [show mo + -1 + 1 = mo by omega]
          first
            | (have hal : alm (pu p 7 (i * 3 + j) (p 7 (i * 3 + j) + mo)) 3 := (alm_e _).mpr (by rw [pu_due (by omega) (by omega)]; assumption)
               rw [mg_1 (by omega) hal] at hU
               exact Or.inr ⟨by omega, by omega, hU⟩)
            | (have hal : ¬ alm (pu p 7 (i * 3 + j) (p 7 (i * 3 + j) + mo)) 3 := fun q => absurd ((alm_e _).mp q) (by rw [pu_due (by omega) (by omega)]; assumption)
               rw [mg_2 (by omega) hal] at hU
               exact Or.inl ⟨by omega, hU⟩)
        · refine Y.iload dX4_margin_101 rfl ?_
          refine Y.istore dX4_margin_103 (by decide) rfl ?_
          refine Y.iinc dX4_margin_105 rfl (by decide) rfl ?_
          refine Y.goto 47 dX4_margin_108 (by decide) ?_
          refine ih _ _ _ ⟨by omega, by omega, hu1.fa (by omega) f_86, ?_⟩ (by omega)
          rw [show mo + -1 + 1 = mo by omega]
          first
            | (have hal : alm (pu p 7 (i * 3 + j) (p 7 (i * 3 + j) + mo)) 3 := (alm_e _).mpr (by rw [pu_due (by omega) (by omega)]; assumption)
               rw [mg_1 (by omega) hal] at hU
               exact Or.inr ⟨by omega, by omega, hU⟩)
            | (have hal : ¬ alm (pu p 7 (i * 3 + j) (p 7 (i * 3 + j) + mo)) 3 := fun q => absurd ((alm_e _).mp q) (by rw [pu_due (by omega) (by omega)]; assumption)
               rw [mg_2 (by omega) hal] at hU
               exact Or.inl ⟨by omega, hU⟩)
  · rw [s2]
    refine Y.istore_n dX4_margin_9 (by decide) rfl ?_
    refine Y.iload_n dX4_margin_10 rfl ?_
    refine Y.iconst dX4_margin_11 ?_
    refine Y.icmp_ne 18 dX4_margin_12 (by decide) (by omega) (by omega) (fun h_12 => ?_) (fun h_12 => ?_)
    · exfalso; omega
    refine Y.bipush dX4_margin_15 (by decide +kernel) ?_
    exact Y.iret dX4_margin_17 rfl (hP _ _ ⟨Or.inr ⟨fun z => absurd z s1, rfl⟩, EQ.rf, hs, fun q => by rw [ec]; exact hst q⟩)
set_option maxHeartbeats 4000000 in
theorem c_X4_better {p : zP} (ec : cP σ = p) (hp : WP p) (hs : σ.1 14 17 = 0 ∨ σ.1 14 17 = 1) (hst : σ.1 14 17 = 0 → SA 14 σ p) {i j : Int} (hi : zB i) (hj : zB j) {w : Int} (hw : zB w) : YC 7 μX4_better [.ref 0, .int (zi i), .int (zi j), .int (zi w)] σ (fun r s => RQ (stp p i j ∧ 0 ≤ w ∧ w ≤ 1) (btA p (i * 3 + j) (i * 3 + p 5 i - 1) w) r ∧ EQ σ s ∧ STL s) := by
  refine YC.of2 (by decide) (Nat.le_of_ble_eq_true rfl) (fun d P hd hP => ?_)
  have e8 : σ.1 11 = p 8 := by rw [← ec]; rfl
  refine Y.aload_n dX4_better_0 rfl ?_
  refine Y.getf dX4_better_1 flX4_12 ob0 rfl ?_
  refine Y.iload_n dX4_better_4 rfl ?_
  refine Y.iload_n dX4_better_5 rfl ?_
  refine Y.cVI dX4_better_6 mkX2_numberOf csX4_80 ob1 ⟨_, rfl, rfl⟩ (k_X2_numberOf ec hp hi hj) (by omega) rfl rfl (Nat.le_of_ble_eq_true rfl) ?_
  rcases nofc hp i j with ⟨s1, s2, s3, s4, s5, s6, s7⟩ | ⟨s1, s2⟩
  · rw [s2]
    refine Y.istore dX4_better_9 (by decide) rfl ?_
    refine Y.iload dX4_better_11 rfl ?_
    refine Y.iconst dX4_better_13 ?_
    refine Y.icmp_eq 27 dX4_better_14 (by decide) (by omega) (by omega) (fun h_14 => ?_) (fun h_14 => ?_)
    · exfalso; omega
    refine Y.iload_n dX4_better_17 rfl ?_
    refine Y.i2l dX4_better_18 (by omega) ?_
    refine Y.iconst dX4_better_19 ?_
    refine Y.iconst dX4_better_20 ?_
    refine Y.cSI dX4_better_21 mkX4_within csX4_50 (c_X4_within (by omega) (by omega) (by omega)) (by omega) rfl rfl (Nat.le_of_ble_eq_true rfl) ?_
    refine Y.ifz_ne 30 dX4_better_24 (by decide) (fun h_24 => ?_) (fun h_24 => ?_)
    · refine Y.aload_n dX4_better_30 rfl ?_
      refine Y.getf dX4_better_31 flX4_12 ob0 rfl ?_
      refine Y.iload_n dX4_better_34 rfl ?_
      refine Y.cVI dX4_better_35 mkX2_lastOf csX4_142 ob1 ⟨_, rfl, rfl⟩ (k_X2_lastOf ec hp s3 s4) (by omega) rfl rfl (Nat.le_of_ble_eq_true rfl) ?_
      refine Y.istore dX4_better_38 (by decide) rfl ?_
      refine Y.aload_n dX4_better_40 rfl ?_
      refine Y.getf dX4_better_41 flX4_12 ob0 rfl ?_
      refine Y.getf dX4_better_44 flX4_84 ob1 rfl ?_
      refine Y.iconst dX4_better_47 ?_
      refine Y.aald dX4_better_48 ra8 (by decide) (by decide) (by decide) rfl ?_
      refine Y.iload dX4_better_49 rfl ?_
      refine Y.iald dX4_better_51 ia11 (by omega) (by omega) ?_
      rw [e8]
      refine Y.istore dX4_better_52 (by decide) rfl ?_
      refine Y.iconst dX4_better_54 ?_
      refine Y.istore dX4_better_55 (by decide) rfl ?_
      refine Y.iconst dX4_better_57 ?_
      refine Y.istore dX4_better_58 (by decide) rfl ?_
      refine Y.iconst dX4_better_60 ?_
      refine Y.istore dX4_better_61 (by decide) rfl ?_
      have hlast := last_th hp s3 s4 (by have := s1.2.2.1; have := s1.2.2.2; omega)
      refine zw4 (fun u bp bb v => (0 ≤ v ∧ v ≤ 10 ∧ FT 11 σ u (i * 3 + j) ∧ (btU p (i * 3 + j) (i * 3 + p 5 i - 1) (v - 0).toNat) = (bp, bb))) (fun u bp bb v => Y d μX4_better 63 [some (.ref 0), some (.int (zi i)), some (.int (zi j)), some (.int (zi w)), some (.int (zi (i * 3 + j))), some (.int (zi (i * 3 + p 5 i - 1))), some (.int (zi (p 8 (i * 3 + j)))), some (.int (zi bp)), some (.int (zi bb)), some (.int (zi v)), none] [] u P) (fun u bp bb v => (10 - v).toNat) ?_ _ _ _ _ ⟨by omega, by omega, FT.rf, rfl⟩
      intro u bp bb v hI ih
      obtain ⟨m1, m2, m3, m4⟩ := hI
      have hbb := bt_b hp (x := (i * 3 + j)) hlast.1 hlast.2.1 hlast.2.2 (v - 0).toNat (by omega)
      rw [m4] at hbb
      have hbb : (bp = -1 ∧ bb = -1) ∨ (0 ≤ bp ∧ bp ≤ 9 ∧ 1 ≤ bb ∧ bb ≤ 746) := hbb
      refine Y.iload dX4_better_63 rfl ?_
      refine Y.bipush dX4_better_65 (by decide +kernel) ?_
      refine Y.icmp_gt 143 dX4_better_67 (by decide) (by omega) (by omega) (fun h_67 => ?_) (fun h_67 => ?_)
      · refine Y.aload_n dX4_better_143 rfl ?_
        refine Y.getf dX4_better_144 flX4_12 ob0 rfl ?_
        refine Y.getf dX4_better_147 flX4_84 ob1 rfl ?_
        refine Y.iconst dX4_better_150 ?_
        refine Y.aald dX4_better_151 ra8 (by decide) (by decide) (by decide) rfl ?_
        refine Y.iload dX4_better_152 rfl ?_
        refine Y.iload dX4_better_154 rfl ?_
        refine Y.iast dX4_better_156 ia11 (by omega) (by omega) ?_
        refine Y.iload_n dX4_better_157 rfl ?_
        refine Y.if_ne 166 dX4_better_158 (by decide) (by omega) (fun h_158 => ?_) (fun h_158 => ?_)
        · refine Y.iload dX4_better_166 rfl ?_
          exact Y.iret dX4_better_168 rfl (hP _ _ ⟨Or.inl ⟨⟨s1, by assumption⟩, zrI (by unfold btA; rw [show v = 10 by omega] at m4; rw [show (10 : Nat) = ((10 : Int) - 0).toNat from rfl, m4]; first | rw [if_pos (by omega)] | rw [if_neg (by omega)])⟩, by rw [show p 8 (i * 3 + j) = σ.1 11 (i * 3 + j) by rw [e8]]; exact ⟨(m3.end (by omega)).1, STL.ag ⟨hs, fun q => by rw [ec]; exact hst q⟩ (m3.end (by omega)).2⟩⟩)
        · refine Y.iload dX4_better_161 rfl ?_
          refine Y.goto 168 dX4_better_163 (by decide) ?_
          exact Y.iret dX4_better_168 rfl (hP _ _ ⟨Or.inl ⟨⟨s1, by assumption⟩, zrI (by unfold btA; rw [show v = 10 by omega] at m4; rw [show (10 : Nat) = ((10 : Int) - 0).toNat from rfl, m4]; first | rw [if_pos (by omega)] | rw [if_neg (by omega)])⟩, by rw [show p 8 (i * 3 + j) = σ.1 11 (i * 3 + j) by rw [e8]]; exact ⟨(m3.end (by omega)).1, STL.ag ⟨hs, fun q => by rw [ec]; exact hst q⟩ (m3.end (by omega)).2⟩⟩)
      · refine Y.aload_n dX4_better_70 rfl ?_
        refine Y.getf dX4_better_71 flX4_12 ob0 rfl ?_
        refine Y.getf dX4_better_74 flX4_84 ob1 rfl ?_
        refine Y.iconst dX4_better_77 ?_
        refine Y.aald dX4_better_78 ra8 (by decide) (by decide) (by decide) rfl ?_
        refine Y.iload dX4_better_79 rfl ?_
        refine Y.iload dX4_better_81 rfl ?_
        refine Y.iast dX4_better_83 ia11 (by omega) (by omega) ?_
        refine Y.aload_n dX4_better_84 rfl ?_
        refine Y.getf dX4_better_85 flX4_25 ob0 rfl ?_
        refine Y.iconst dX4_better_88 ?_
        refine Y.putf 17 dX4_better_89 fpX4_65 (obA (Or.inr rfl)) (osA_17 (Or.inr rfl)) (Nat.le_of_ble_eq_true rfl) (Or.inr ⟨rfl, Or.inr rfl⟩) rfl ?_
        refine Y.aload_n dX4_better_92 rfl ?_
        refine Y.getf dX4_better_93 flX4_25 ob0 rfl ?_
        have hu1 : FT 11 σ (zu (zu u 11 (i * 3 + j) v) 26 17 1) (i * 3 + j) := (m3.up).us (by omega)
        have ec1 : cP (zu (zu u 11 (i * 3 + j) v) 26 17 1) = pu p 8 (i * 3 + j) v := by
          rw [FT.cp (k := 8) (σ := σ) (x := (i * 3 + j)) (v := v) (by omega) (by decide) hu1 (by show (zu (zu u 11 (i * 3 + j) _) 26 17 1).1 11 (i * 3 + j) = _; rw [zu_nc (by omega), zu_eq]), ec]
        have hp1 := hp.prio (x := (i * 3 + j)) (v := v) (by omega) (by omega)
        have htl := (pu_th (p := p) (k := 8) (x := (i * 3 + j)) (v := v) (by omega)).mpr hlast.2.2
        have hbl := bndA_b hp1 hlast.1 hlast.2.1 htl
        refine Y.callV dX4_better_96 mkX0_settle csX4_111 (obA (Or.inr rfl)) ⟨_, rfl, rfl⟩ (c_X0_settle (Or.inr rfl) ec1 hp1 (Or.inr (by rw [zu_eq])) (fun q => by rw [zu_eq] at q; omega)) (by omega) rfl rfl (Nat.le_of_ble_eq_true rfl) (fun r_96 s_96 p_96 => ?_)
        obtain ⟨rfl, f_96, g_96, a_96⟩ := p_96
        have ec8 := (f_96.cp (Or.inr rfl)).trans ec1
        refine Y.aload_n dX4_better_99 rfl ?_
        refine Y.getf dX4_better_100 flX4_25 ob0 rfl ?_
        refine Y.iload dX4_better_103 rfl ?_
        refine Y.cVI dX4_better_105 mkX0_boundOf csX4_120 (obA (Or.inr rfl)) ⟨_, rfl, rfl⟩ (c_X0_boundOf (Or.inr rfl) ec8 hp1 a_96 hlast.1 hlast.2.1 htl) (by omega) rfl rfl (Nat.le_of_ble_eq_true rfl) ?_
        refine Y.istore dX4_better_108 (by decide) rfl ?_
        refine Y.iload dX4_better_110 rfl ?_
        refine Y.iconst dX4_better_112 ?_
        refine Y.icmp_eq 137 dX4_better_113 (by decide) (by omega) (by omega) (fun h_113 => ?_) (fun h_113 => ?_)
        · refine Y.iinc dX4_better_137 rfl (by decide) rfl ?_
          refine Y.goto 63 dX4_better_140 (by decide) ?_
          refine Y.sub (zs_s (zs_s (zs_s (zs_s (zs_s (zs_s (zs_s (zs_s (zs_s (zs_s (zs_n zs_0))))))))))) ?_
          first
            | (refine ih _ _ _ _ ⟨by omega, by omega, hu1.fa (by omega) f_96, ?_⟩ (by omega)
               rw [bt_1 m1 ⟨by omega, by rw [m4]; show bp = -1 ∨ _ < bb; omega⟩]; done)
            | (refine ih _ _ _ _ ⟨by omega, by omega, hu1.fa (by omega) f_96, ?_⟩ (by omega)
               rw [bt_2 m1 (fun q => by have q1 := q.1; have q2 := q.2; rw [m4] at q2; have q2 : bp = -1 ∨ _ < bb := q2; omega)]; exact m4)
        · refine Y.iload dX4_better_116 rfl ?_
          refine Y.iconst dX4_better_118 ?_
          refine Y.icmp_eq 129 dX4_better_119 (by decide) (by omega) (by omega) (fun h_119 => ?_) (fun h_119 => ?_)
          · refine Y.iload dX4_better_129 rfl ?_
            refine Y.istore dX4_better_131 (by decide) rfl ?_
            refine Y.iload dX4_better_133 rfl ?_
            refine Y.istore dX4_better_135 (by decide) rfl ?_
            refine Y.iinc dX4_better_137 rfl (by decide) rfl ?_
            refine Y.goto 63 dX4_better_140 (by decide) ?_
            refine Y.sub (zs_s (zs_s (zs_s (zs_s (zs_s (zs_s (zs_s (zs_s (zs_s (zs_s (zs_n zs_0))))))))))) ?_
            first
              | (refine ih _ _ _ _ ⟨by omega, by omega, hu1.fa (by omega) f_96, ?_⟩ (by omega)
                 rw [bt_1 m1 ⟨by omega, by rw [m4]; show bp = -1 ∨ _ < bb; omega⟩]; done)
              | (refine ih _ _ _ _ ⟨by omega, by omega, hu1.fa (by omega) f_96, ?_⟩ (by omega)
                 rw [bt_2 m1 (fun q => by have q1 := q.1; have q2 := q.2; rw [m4] at q2; have q2 : bp = -1 ∨ _ < bb := q2; omega)]; exact m4)
          · refine Y.iload dX4_better_122 rfl ?_
            refine Y.iload dX4_better_124 rfl ?_
            refine Y.icmp_ge 137 dX4_better_126 (by decide) (by omega) (by omega) (fun h_126 => ?_) (fun h_126 => ?_)
            · refine Y.iinc dX4_better_137 rfl (by decide) rfl ?_
              refine Y.goto 63 dX4_better_140 (by decide) ?_
              refine Y.sub (zs_s (zs_s (zs_s (zs_s (zs_s (zs_s (zs_s (zs_s (zs_s (zs_s (zs_n zs_0))))))))))) ?_
              first
                | (refine ih _ _ _ _ ⟨by omega, by omega, hu1.fa (by omega) f_96, ?_⟩ (by omega)
                   rw [bt_1 m1 ⟨by omega, by rw [m4]; show bp = -1 ∨ _ < bb; omega⟩]; done)
                | (refine ih _ _ _ _ ⟨by omega, by omega, hu1.fa (by omega) f_96, ?_⟩ (by omega)
                   rw [bt_2 m1 (fun q => by have q1 := q.1; have q2 := q.2; rw [m4] at q2; have q2 : bp = -1 ∨ _ < bb := q2; omega)]; exact m4)
            · refine Y.iload dX4_better_129 rfl ?_
              refine Y.istore dX4_better_131 (by decide) rfl ?_
              refine Y.iload dX4_better_133 rfl ?_
              refine Y.istore dX4_better_135 (by decide) rfl ?_
              refine Y.iinc dX4_better_137 rfl (by decide) rfl ?_
              refine Y.goto 63 dX4_better_140 (by decide) ?_
              refine Y.sub (zs_s (zs_s (zs_s (zs_s (zs_s (zs_s (zs_s (zs_s (zs_s (zs_s (zs_n zs_0))))))))))) ?_
              first
                | (refine ih _ _ _ _ ⟨by omega, by omega, hu1.fa (by omega) f_96, ?_⟩ (by omega)
                   rw [bt_1 m1 ⟨by omega, by rw [m4]; show bp = -1 ∨ _ < bb; omega⟩]; done)
                | (refine ih _ _ _ _ ⟨by omega, by omega, hu1.fa (by omega) f_96, ?_⟩ (by omega)
                   rw [bt_2 m1 (fun q => by have q1 := q.1; have q2 := q.2; rw [m4] at q2; have q2 : bp = -1 ∨ _ < bb := q2; omega)]; exact m4)
    · refine Y.bipush dX4_better_27 (by decide +kernel) ?_
      exact Y.iret dX4_better_29 rfl (hP _ _ ⟨Or.inr ⟨fun z => absurd z.2 (by assumption), rfl⟩, EQ.rf, hs, fun q => by rw [ec]; exact hst q⟩)
  · rw [s2]
    refine Y.istore dX4_better_9 (by decide) rfl ?_
    refine Y.iload dX4_better_11 rfl ?_
    refine Y.iconst dX4_better_13 ?_
    refine Y.icmp_eq 27 dX4_better_14 (by decide) (by omega) (by omega) (fun h_14 => ?_) (fun h_14 => ?_)
    rotate_left
    · exfalso; omega
    refine Y.bipush dX4_better_27 (by decide +kernel) ?_
    exact Y.iret dX4_better_29 rfl (hP _ _ ⟨Or.inr ⟨fun z => absurd z.1 s1, rfl⟩, EQ.rf, hs, fun q => by rw [ec]; exact hst q⟩)
set_option maxHeartbeats 1000000 in
theorem c_X4_run {p : zP} (ec : cP σ = p) (hp : WP p) {h : Int} (hh : zB h) : YC 4 μX4_run [.ref 0, .int (zi h)] σ (fun r s => ((1 ≤ h ∧ h ≤ 300) ∧ r = some (.int (zi ((crun p h σ).1 38 1))) ∧ s = crun p h σ) ∨ (¬ (1 ≤ h ∧ h ≤ 300) ∧ r = some (.int (zi (-2))) ∧ s = σ)) := by
  refine YC.of2 (by decide) (Nat.le_of_ble_eq_true rfl) (fun d P hd hP => ?_)
  refine Y.iload_n dX4_run_0 rfl ?_
  refine Y.i2l dX4_run_1 (by omega) ?_
  refine Y.iconst dX4_run_2 ?_
  refine Y.sipush dX4_run_3 (by decide +kernel) ?_
  refine Y.cSI dX4_run_6 mkX4_within csX4_50 (c_X4_within (by omega) (by omega) (by omega)) (by omega) rfl rfl (Nat.le_of_ble_eq_true rfl) ?_
  refine Y.ifz_ne 15 dX4_run_9 (by decide) (fun h_9 => ?_) (fun h_9 => ?_)
  · refine Y.aload_n dX4_run_15 rfl ?_
    refine Y.getf dX4_run_16 flX4_31 ob0 rfl ?_
    refine Y.aload_n dX4_run_19 rfl ?_
    refine Y.getf dX4_run_20 flX4_12 ob0 rfl ?_
    refine Y.iload_n dX4_run_23 rfl ?_
    refine Y.cVV dX4_run_24 mkX1_go csX4_145 ob38 ⟨_, rfl, rfl⟩ (c_X1_go ec hp (by omega) (by omega)) (by omega) rfl rfl (Nat.le_of_ble_eq_true rfl) ?_
    refine Y.aload_n dX4_run_27 rfl ?_
    refine Y.getf dX4_run_28 flX4_31 ob0 rfl ?_
    refine Y.getf dX4_run_31 flX4_149 ob38 rfl ?_
    exact Y.iret dX4_run_34 rfl (hP _ _ (Or.inl ⟨by assumption, rfl, rfl⟩))
  · refine Y.bipush dX4_run_12 (by decide +kernel) ?_
    exact Y.iret dX4_run_14 rfl (hP _ _ (Or.inr ⟨by assumption, rfl, rfl⟩))
def snA (σ : zS) (x w : Int) : Int := if w = 0 then σ.1 43 x else if w = 1 then σ.1 44 x else σ.1 45 x
set_option maxHeartbeats 1000000 in
theorem c_X4_seen {p : zP} (ec : cP σ = p) (hp : WP p) {i j : Int} (hi : zB i) (hj : zB j) {w : Int} (hw : zB w) : YC 3 μX4_seen [.ref 0, .int (zi i), .int (zi j), .int (zi w)] σ (fun r s => RQ (stp p i j ∧ 0 ≤ w ∧ w ≤ 2) (snA σ (i * 3 + j) w) r ∧ s = σ) := by
  refine YC.of2 (by decide) (Nat.le_of_ble_eq_true rfl) (fun d P hd hP => ?_)
  refine Y.aload_n dX4_seen_0 rfl ?_
  refine Y.getf dX4_seen_1 flX4_12 ob0 rfl ?_
  refine Y.iload_n dX4_seen_4 rfl ?_
  refine Y.iload_n dX4_seen_5 rfl ?_
  refine Y.cVI dX4_seen_6 mkX2_numberOf csX4_80 ob1 ⟨_, rfl, rfl⟩ (k_X2_numberOf ec hp hi hj) (by omega) rfl rfl (Nat.le_of_ble_eq_true rfl) ?_
  rcases nofc hp i j with ⟨s1, s2, s3, s4, s5, s6, s7⟩ | ⟨s1, s2⟩
  · rw [s2]
    refine Y.istore dX4_seen_9 (by decide) rfl ?_
    refine Y.iload dX4_seen_11 rfl ?_
    refine Y.iconst dX4_seen_13 ?_
    refine Y.icmp_eq 27 dX4_seen_14 (by decide) (by omega) (by omega) (fun h_14 => ?_) (fun h_14 => ?_)
    · exfalso; omega
    refine Y.iload_n dX4_seen_17 rfl ?_
    refine Y.i2l dX4_seen_18 (by omega) ?_
    refine Y.iconst dX4_seen_19 ?_
    refine Y.iconst dX4_seen_20 ?_
    refine Y.cSI dX4_seen_21 mkX4_within csX4_50 (c_X4_within (by omega) (by omega) (by omega)) (by omega) rfl rfl (Nat.le_of_ble_eq_true rfl) ?_
    refine Y.ifz_ne 30 dX4_seen_24 (by decide) (fun h_24 => ?_) (fun h_24 => ?_)
    · refine Y.aload_n dX4_seen_30 rfl ?_
      refine Y.getf dX4_seen_31 flX4_31 ob0 rfl ?_
      refine Y.iload dX4_seen_34 rfl ?_
      refine Y.iload_n dX4_seen_36 rfl ?_
      refine Y.cVI dX4_seen_37 mkX1_seenOf csX4_152 ob38 ⟨_, rfl, rfl⟩ (c_X1_seenOf s5 s6 hw) (by omega) rfl rfl (Nat.le_of_ble_eq_true rfl) ?_
      exact Y.iret dX4_seen_40 rfl (hP _ _ ⟨Or.inl ⟨⟨s1, by assumption⟩, rfl⟩, rfl⟩)
    · refine Y.bipush dX4_seen_27 (by decide +kernel) ?_
      exact Y.iret dX4_seen_29 rfl (hP _ _ ⟨Or.inr ⟨fun z => absurd z.2 (by assumption), rfl⟩, rfl⟩)
  · rw [s2]
    refine Y.istore dX4_seen_9 (by decide) rfl ?_
    refine Y.iload dX4_seen_11 rfl ?_
    refine Y.iconst dX4_seen_13 ?_
    refine Y.icmp_eq 27 dX4_seen_14 (by decide) (by omega) (by omega) (fun h_14 => ?_) (fun h_14 => ?_)
    rotate_left
    · exfalso; omega
    refine Y.bipush dX4_seen_27 (by decide +kernel) ?_
    exact Y.iret dX4_seen_29 rfl (hP _ _ ⟨Or.inr ⟨fun z => absurd z.1 s1, rfl⟩, rfl⟩)
end ZK2
