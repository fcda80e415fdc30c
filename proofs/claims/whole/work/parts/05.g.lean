section ZG5
variable {σ : zS}
/-- what the model's answers rest on -/
def MA (σ : zS) (p : zP) (l : Int → Int) : Prop := mP σ = p ∧ WP p ∧ WL l ∧ ∀ x : Int, 0 ≤ x → x < 9 → σ.1 82 x = l x
def MC (σ : zS) (p : zP) (x : Int) (C : Int → Prop) : Prop := ∀ i j : Int, 0 ≤ i → i < 3 → i ≠ x / 3 → 0 ≤ j → j < 3 → riv p x (i * 3 + j) → (C (i * 3 + j) ↔ (σ.1 83 i = -2 ∨ σ.1 83 i = i * 3 + j))
theorem MA.wp {σ : zS} {p : zP} {l : Int → Int} (h : MA σ p l) : WP p := h.2.1
theorem MA.wl {σ : zS} {p : zP} {l : Int → Int} (h : MA σ p l) : WL l := h.2.2.1
theorem MA.per {σ : zS} {p : zP} {l : Int → Int} (h : MA σ p l) (i : Int) : σ.1 72 i = p 0 i := by rw [← h.1]; rfl
theorem MA.cost {σ : zS} {p : zP} {l : Int → Int} (h : MA σ p l) (i : Int) : σ.1 79 i = p 7 i := by rw [← h.1]; rfl
theorem MA.late {σ : zS} {p : zP} {l : Int → Int} (h : MA σ p l) {x : Int} (h0 : 0 ≤ x) (h9 : x < 9) : σ.1 82 x = l x := h.2.2.2 x h0 h9
theorem mP_c {σ t : zS} (h : ∀ c : Nat, 72 ≤ c → c ≤ 81 → t.1 c = σ.1 c) : mP t = mP σ := by
  funext k
  unfold mP
  rcases k with _ | _ | _ | _ | _ | _ | _ | _ | _ | k <;> exact h _ (by omega) (by omega)
theorem MA.fr {σ t : zS} {p : zP} {l : Int → Int} (hA : MA σ p l) (h : ∀ c : Nat, 72 ≤ c → c ≤ 82 → t.1 c = σ.1 c) : MA t p l :=
  ⟨(mP_c (fun c a b => h c a (by omega))).trans hA.1, hA.2.1, hA.2.2.1, fun i a c => by rw [h _ (by omega) (by omega)]; exact hA.2.2.2 i a c⟩
theorem tm_c {a b : Int} (h0 : 0 < b) : (0 ≤ a.tmod b ∧ a.tmod b = a % b) ∨ (a.tmod b < 0 ∧ a.tmod b + b = a % b) := by
  have he : a.tmod b = if 0 ≤ a ∨ b ∣ a then a % b else a % b - b := by rw [Int.tmod_eq_emod]; split <;> omega
  have m0 := Int.emod_nonneg a (show b ≠ 0 by omega)
  have m1 := Int.emod_lt_of_pos a h0
  by_cases q : 0 ≤ a ∨ b ∣ a
  · rw [if_pos q] at he
    exact Or.inl ⟨by omega, he⟩
  · rw [if_neg q] at he
    exact Or.inr ⟨by omega, by omega⟩
theorem up_cm {t f T : Int} (h1 : 1 ≤ t) (h2 : f ≤ T) (h5 : 5 ≤ T) : (if t - f ≤ 0 then 0 else (t - f + T - 1) / T) = (t - f + T - 1) / T := by
  by_cases q : t - f ≤ 0
  · rw [if_pos q, Int.ediv_eq_zero_of_lt (by omega) (by omega)]
  · rw [if_neg q]
theorem k_X5_isRival {p : zP} (ec : mP σ = p) (hp : WP p) {x y : Int} (h0 : 0 ≤ x) (h9 : x < 9) (g0 : 0 ≤ y) (g9 : y < 9) : YI 1 μX5_isRival [.ref 67, .int (zi x), .int (zi y)] σ (zb (riv p x y)) σ := by
  subst ec; exact c_X5_isRival hp h0 h9 g0 g9
theorem k_X5_isThere {p : zP} (ec : mP σ = p) (hp : WP p) {x : Int} (h0 : 0 ≤ x) (h9 : x < 9) : YI 0 μX5_isThere [.ref 67, .int (zi x)] σ (zb (th p x)) σ := by
  subst ec; exact c_X5_isThere hp h0 h9
theorem k_X5_earliest {p : zP} (ec : mP σ = p) (hp : WP p) {x : Int} (h0 : 0 ≤ x) (h9 : x < 9) : YI 0 μX5_earliest [.ref 67, .int (zi x)] σ (ear p x) σ := by
  subst ec; exact c_X5_earliest hp h0 h9
theorem k_X5_isOver {p : zP} (ec : mP σ = p) (hp : WP p) {x : Int} (h0 : 0 ≤ x) (h9 : x < 9) : YC 3 μX5_isOver [.ref 67, .int (zi x)] σ (fun r s => r = some (.int (zi (zb (ovl p x)))) ∧ zF2 σ s) := by
  subst ec; exact c_X5_isOver hp h0 h9
set_option maxHeartbeats 4000000 in
theorem c_X5_phi {p : zP} {l : Int → Int} (hA : MA σ p l) {j k : Int} (j0 : 0 ≤ j) (j9 : j < 9) (k0 : 0 ≤ k) (k9 : k < 9) : YI 1 μX5_phi [.ref 67, .int (zi j), .int (zi k)] σ (phi p l j k) σ := by
  refine YC.of2 (by decide) (Nat.le_of_ble_eq_true rfl) (fun d P hd hP => ?_)
  have ec := hA.1
  have hp := hA.wp
  have hl := hA.wl
  have hT := hp.per (i := j / 3) (by omega) (by omega)
  have et := hA.per (j / 3)
  have e1 := ear_b hp j0 j9
  have e2 := ear_b hp k0 k9
  have elj := hA.late j0 j9
  have elk := hA.late k0 k9
  have hb1 := hl.b k0 k9
  have hb2 := hl.b j0 j9
  have htm := tm_c (a := ear p k + σ.1 82 k - ear p j) (b := σ.1 72 (j / 3)) (by omega)
  have hm0 := Int.emod_nonneg (ear p k + σ.1 82 k - ear p j) (show σ.1 72 (j / 3) ≠ 0 by omega)
  have hm1 := Int.emod_lt_of_pos (ear p k + σ.1 82 k - ear p j) (show 0 < σ.1 72 (j / 3) by omega)
  refine Y.aload_n dX5_phi_0 rfl ?_
  refine Y.getf dX5_phi_1 flX5_23 ob67 rfl ?_
  refine Y.iload_n dX5_phi_4 rfl ?_
  refine Y.iconst dX5_phi_5 ?_
  refine Y.idivp dX5_phi_6 (by omega) (by omega) (by omega) (by omega) ?_
  refine Y.iald dX5_phi_7 ia72 (by omega) (by omega) ?_
  refine Y.istore_n dX5_phi_8 (by decide) rfl ?_
  refine Y.aload_n dX5_phi_9 rfl ?_
  refine Y.iload_n dX5_phi_10 rfl ?_
  refine Y.cVI dX5_phi_11 mkX5_earliest csX5_183 ob67 ⟨_, rfl, rfl⟩ (k_X5_earliest ec hp (by omega) (by omega)) (by omega) rfl rfl (Nat.le_of_ble_eq_true rfl) ?_
  refine Y.aload_n dX5_phi_14 rfl ?_
  refine Y.getf dX5_phi_15 flX5_53 ob67 rfl ?_
  refine Y.iload_n dX5_phi_18 rfl ?_
  refine Y.iald dX5_phi_19 ia82 (by omega) (by omega) ?_
  refine Y.iadd dX5_phi_20 ?_
  refine Y.aload_n dX5_phi_21 rfl ?_
  refine Y.iload_n dX5_phi_22 rfl ?_
  refine Y.cVI dX5_phi_23 mkX5_earliest csX5_183 ob67 ⟨_, rfl, rfl⟩ (k_X5_earliest ec hp (by omega) (by omega)) (by omega) rfl rfl (Nat.le_of_ble_eq_true rfl) ?_
  refine Y.isub dX5_phi_26 ?_
  refine Y.iload_n dX5_phi_27 rfl ?_
  refine Y.irem dX5_phi_28 (by omega) (by omega) (by omega) ?_
  refine Y.istore dX5_phi_29 (by decide) rfl ?_
  refine Y.iload_n dX5_phi_31 rfl ?_
  refine Y.iload dX5_phi_32 rfl ?_
  refine Y.if_ge 44 dX5_phi_34 (by decide) (by omega) (fun h_34 => ?_) (fun h_34 => ?_)
  · refine Y.iload dX5_phi_44 rfl ?_
    refine Y.isub dX5_phi_46 ?_
    exact Y.iret dX5_phi_47 rfl (hP _ _ ⟨zrI (by unfold phi; rw [← et, ← elk]; omega), rfl⟩)
  · refine Y.iload dX5_phi_37 rfl ?_
    refine Y.iload_n dX5_phi_39 rfl ?_
    refine Y.iadd dX5_phi_40 ?_
    refine Y.goto 46 dX5_phi_41 (by decide) ?_
    refine Y.isub dX5_phi_46 ?_
    exact Y.iret dX5_phi_47 rfl (hP _ _ ⟨zrI (by unfold phi; rw [← et, ← elk]; omega), rfl⟩)
set_option maxHeartbeats 4000000 in
theorem c_X5_up {v a : Int} (hv : zB (v + a - 1)) (hv2 : zB v) (h1 : 0 < a) (h2 : zB a) : YI 0 μX5_up [.int (zi v), .int (zi a)] σ (if v ≤ 0 then 0 else (v + a - 1) / a) σ := by
  refine YC.of2 (by decide) (Nat.le_of_ble_eq_true rfl) (fun d P hd hP => ?_)
  refine Y.iload_n dX5_up_0 rfl ?_
  refine Y.if_gt 8 dX5_up_1 (by decide) (by omega) (fun h_1 => ?_) (fun h_1 => ?_)
  · refine Y.iload_n dX5_up_8 rfl ?_
    refine Y.iload_n dX5_up_9 rfl ?_
    refine Y.iadd dX5_up_10 ?_
    refine Y.iconst dX5_up_11 ?_
    refine Y.isub dX5_up_12 ?_
    refine Y.iload_n dX5_up_13 rfl ?_
    refine Y.idivp dX5_up_14 (by omega) (by omega) (by omega) (by omega) ?_
    exact Y.iret dX5_up_15 rfl (hP _ _ ⟨zrI (by first | rw [if_pos (by omega)] | rw [if_neg (by omega)]), rfl⟩)
  · refine Y.iconst dX5_up_4 ?_
    refine Y.goto 15 dX5_up_5 (by decide) ?_
    exact Y.iret dX5_up_15 rfl (hP _ _ ⟨zrI (by first | rw [if_pos (by omega)] | rw [if_neg (by omega)]), rfl⟩)
set_option maxHeartbeats 4000000 in
theorem c_X5_comes {p : zP} {l : Int → Int} (hA : MA σ p l) {j k : Int} (j0 : 0 ≤ j) (j9 : j < 9) (k0 : 0 ≤ k) (k9 : k < 9) {t : Int} (t1 : 1 ≤ t) (t2 : t ≤ 200) : YI 2 μX5_comes [.ref 67, .int (zi j), .int (zi k), .int (zi t)] σ (cm p l j k t) σ := by
  refine YC.of2 (by decide) (Nat.le_of_ble_eq_true rfl) (fun d P hd hP => ?_)
  have ec := hA.1
  have hp := hA.wp
  have hl := hA.wl
  have hT := hp.per (i := j / 3) (by omega) (by omega)
  have et := hA.per (j / 3)
  have e1 := ear_b hp j0 j9
  have e2 := ear_b hp k0 k9
  have elj := hA.late j0 j9
  have elk := hA.late k0 k9
  have hb1 := hl.b k0 k9
  have hb2 := hl.b j0 j9
  have hf := phi_b hp l (j := j) k j0 j9
  refine Y.aload_n dX5_comes_0 rfl ?_
  refine Y.iload_n dX5_comes_1 rfl ?_
  refine Y.iload_n dX5_comes_2 rfl ?_
  refine Y.cVI dX5_comes_3 mkX5_phi csX5_186 ob67 ⟨_, rfl, rfl⟩ (c_X5_phi hA (by omega) (by omega) (by omega) (by omega)) (by omega) rfl rfl (Nat.le_of_ble_eq_true rfl) ?_
  refine Y.istore dX5_comes_6 (by decide) rfl ?_
  refine Y.aload_n dX5_comes_8 rfl ?_
  refine Y.getf dX5_comes_9 flX5_23 ob67 rfl ?_
  refine Y.iload_n dX5_comes_12 rfl ?_
  refine Y.iconst dX5_comes_13 ?_
  refine Y.idivp dX5_comes_14 (by omega) (by omega) (by omega) (by omega) ?_
  refine Y.iald dX5_comes_15 ia72 (by omega) (by omega) ?_
  refine Y.istore dX5_comes_16 (by decide) rfl ?_
  refine Y.aload_n dX5_comes_18 rfl ?_
  refine Y.getf dX5_comes_19 flX5_53 ob67 rfl ?_
  refine Y.iload_n dX5_comes_22 rfl ?_
  refine Y.iald dX5_comes_23 ia82 (by omega) (by omega) ?_
  refine Y.iload dX5_comes_24 rfl ?_
  refine Y.iadd dX5_comes_26 ?_
  refine Y.iload dX5_comes_27 rfl ?_
  refine Y.idivp dX5_comes_29 (by omega) (by omega) (by omega) (by omega) ?_
  refine Y.iload_n dX5_comes_30 rfl ?_
  refine Y.iload dX5_comes_31 rfl ?_
  refine Y.isub dX5_comes_33 ?_
  refine Y.iload dX5_comes_34 rfl ?_
  refine Y.cSI dX5_comes_36 mkX5_up csX5_189 (c_X5_up (by omega) (by omega) (by omega) (by omega)) (by omega) rfl rfl (Nat.le_of_ble_eq_true rfl) ?_
  refine Y.iadd dX5_comes_39 ?_
  exact Y.iret dX5_comes_40 rfl (hP _ _ ⟨zrI (by unfold cm elr; rw [et, elj, up_cm t1 (by omega) (by omega)]), rfl⟩)
set_option maxHeartbeats 4000000 in
theorem c_X5_work {p : zP} {l : Int → Int} (hA : MA σ p l) {x k t : Int} (h0 : 0 ≤ x) (h9 : x < 9) (k0 : 0 ≤ k) (k9 : k < 9) (t1 : 1 ≤ t) (t2 : t ≤ 200) : YI 3 μX5_work [.ref 67, .int (zi x), .int (zi k), .int (zi t)] σ (wk p l x k t) σ := by
  refine YC.of2 (by decide) (Nat.le_of_ble_eq_true rfl) (fun d P hd hP => ?_)
  have ec := hA.1
  have hp := hA.wp
  have hl := hA.wl
  refine Y.iconst dX5_work_0 ?_
  refine Y.istore dX5_work_1 (by decide) rfl ?_
  refine Y.iload_n dX5_work_3 rfl ?_
  refine Y.iconst dX5_work_4 ?_
  refine Y.idivp dX5_work_5 (by omega) (by omega) (by omega) (by omega) ?_
  refine Y.iconst dX5_work_6 ?_
  refine Y.imul dX5_work_7 ?_
  refine Y.istore dX5_work_8 (by decide) rfl ?_
  refine zw2 (fun s j => (k / 3 * 3 ≤ j ∧ j ≤ k / 3 * 3 + 3 ∧ s = sm (fun j => zb (riv p x j) * (cm p l j k t * p 7 j)) (k / 3 * 3) (j - k / 3 * 3).toNat)) (fun s j => Y d μX5_work 10 [some (.ref 67), some (.int (zi x)), some (.int (zi k)), some (.int (zi t)), some (.int (zi s)), some (.int (zi j))] [] σ P) (fun s j => (k / 3 * 3 + 3 - j).toNat) ?_ _ _ ⟨by omega, by omega, by rw [sm_0]⟩
  intro s j hI ih
  obtain ⟨j1, j2, j3⟩ := hI
  refine Y.iload dX5_work_10 rfl ?_
  refine Y.iload_n dX5_work_12 rfl ?_
  refine Y.iconst dX5_work_13 ?_
  refine Y.idivp dX5_work_14 (by omega) (by omega) (by omega) (by omega) ?_
  refine Y.iconst dX5_work_15 ?_
  refine Y.imul dX5_work_16 ?_
  refine Y.iconst dX5_work_17 ?_
  refine Y.iadd dX5_work_18 ?_
  refine Y.icmp_ge 63 dX5_work_19 (by decide) (by omega) (by omega) (fun h_19 => ?_) (fun h_19 => ?_)
  · refine Y.iload dX5_work_63 rfl ?_
    exact Y.iret dX5_work_65 rfl (hP _ _ ⟨zrI (by unfold wk; rw [j3, show (j - k / 3 * 3).toNat = 3 by omega]), rfl⟩)
  · refine Y.iload dX5_work_22 rfl ?_
    refine Y.aload_n dX5_work_24 rfl ?_
    refine Y.iload_n dX5_work_25 rfl ?_
    refine Y.iload dX5_work_26 rfl ?_
    refine Y.cVI dX5_work_28 mkX5_isRival csX5_163 ob67 ⟨_, rfl, rfl⟩ (k_X5_isRival ec hp (by omega) (by omega) (by omega) (by omega)) (by omega) rfl rfl (Nat.le_of_ble_eq_true rfl) ?_
    refine Y.ifz_eq 53 dX5_work_31 (by decide) (fun h_31 => ?_) (fun h_31 => ?_)
    · refine Y.iconst dX5_work_53 ?_
      refine Y.iadd dX5_work_54 ?_
      refine Y.istore dX5_work_55 (by decide) rfl ?_
      refine Y.iinc dX5_work_57 rfl (by decide) rfl ?_
      refine Y.goto 10 dX5_work_60 (by decide) ?_
      refine ih _ _ ⟨by omega, by omega, ?_⟩ (by omega)
      rw [sm_s (by omega), j3]
      first
        | rw [zb_t (by assumption), Int.one_mul, hA.cost]
        | rw [zb_f (by assumption), Int.zero_mul]
    · refine Y.aload_n dX5_work_34 rfl ?_
      refine Y.iload dX5_work_35 rfl ?_
      refine Y.iload_n dX5_work_37 rfl ?_
      refine Y.iload_n dX5_work_38 rfl ?_
      refine Y.cVI dX5_work_39 mkX5_comes csX5_192 ob67 ⟨_, rfl, rfl⟩ (c_X5_comes hA (by omega) (by omega) (by omega) (by omega) (by omega) (by omega)) (by omega) rfl rfl (Nat.le_of_ble_eq_true rfl) ?_
      refine Y.aload_n dX5_work_42 rfl ?_
      refine Y.getf dX5_work_43 flX5_44 ob67 rfl ?_
      refine Y.iload dX5_work_46 rfl ?_
      refine Y.iald dX5_work_48 ia79 (by omega) (by omega) ?_
      refine Y.imul dX5_work_49 ?_
      refine Y.goto 54 dX5_work_50 (by decide) ?_
      refine Y.iadd dX5_work_54 ?_
      refine Y.istore dX5_work_55 (by decide) rfl ?_
      refine Y.iinc dX5_work_57 rfl (by decide) rfl ?_
      refine Y.goto 10 dX5_work_60 (by decide) ?_
      refine ih _ _ ⟨by omega, by omega, ?_⟩ (by omega)
      rw [sm_s (by omega), j3]
      first
        | rw [zb_t (by assumption), Int.one_mul, hA.cost]
        | rw [zb_f (by assumption), Int.zero_mul]
set_option maxHeartbeats 4000000 in
theorem c_X5_others {p : zP} {l : Int → Int} (hA : MA σ p l) {x : Int} {C : Int → Prop} (hC : MC σ p x C) (hcb : ∀ i : Int, 0 ≤ i → i < 3 → zB (σ.1 83 i)) {t : Int} (h0 : 0 ≤ x) (h9 : x < 9) (t1 : 1 ≤ t) (t2 : t ≤ 200) : YI 4 μX5_others [.ref 67, .int (zi x), .int (zi t)] σ (oth p l x C t) σ := by
  refine YC.of2 (by decide) (Nat.le_of_ble_eq_true rfl) (fun d P hd hP => ?_)
  have ec := hA.1
  have hp := hA.wp
  have hl := hA.wl
  refine Y.iconst dX5_others_0 ?_
  refine Y.istore_n dX5_others_1 (by decide) rfl ?_
  refine Y.iconst dX5_others_2 ?_
  refine Y.istore dX5_others_3 (by decide) rfl ?_
  refine zw2 (fun S i => (0 ≤ i ∧ i ≤ 3 ∧ S = sm (fun i => zb (i ≠ x / 3) * ot p l x C i t) 0 (i - 0).toNat)) (fun S i => Y d μX5_others 5 [some (.ref 67), some (.int (zi x)), some (.int (zi t)), some (.int (zi S)), some (.int (zi i)), none, none] [] σ P) (fun S i => (3 - i).toNat) ?_ _ _ ⟨by omega, by omega, by rw [sm_0]⟩
  intro S i hI ih
  obtain ⟨j1, j2, j3⟩ := hI
  refine Y.iload dX5_others_5 rfl ?_
  refine Y.iconst dX5_others_7 ?_
  refine Y.icmp_ge 110 dX5_others_8 (by decide) (by omega) (by omega) (fun h_8 => ?_) (fun h_8 => ?_)
  · refine Y.iload_n dX5_others_110 rfl ?_
    exact Y.iret dX5_others_111 rfl (hP _ _ ⟨zrI (by unfold oth; rw [j3, show i = 3 by omega]; rfl), rfl⟩)
  · refine Y.iload dX5_others_11 rfl ?_
    refine Y.iload_n dX5_others_13 rfl ?_
    refine Y.iconst dX5_others_14 ?_
    refine Y.idivp dX5_others_15 (by omega) (by omega) (by omega) (by omega) ?_
    refine Y.icmp_eq 104 dX5_others_16 (by decide) (by omega) (by omega) (fun h_16 => ?_) (fun h_16 => ?_)
    · refine Y.iinc dX5_others_104 rfl (by decide) rfl ?_
      refine Y.goto 5 dX5_others_107 (by decide) ?_
      refine Y.sub (zs_s (zs_s (zs_s (zs_s (zs_s (zs_n (zs_n zs_0))))))) (ih _ _ ⟨by omega, by omega, ?_⟩ (by omega))
      rw [sm_s (by omega), j3]
      first
        | (rw [zb_f (fun q => q (by omega)), Int.zero_mul, Int.add_zero]; done)
        | (have hM : m = ot p l x C i t := by
             rw [m3, show (k - i * 3).toNat = 3 by omega]
             rfl
           rw [zb_t (show i ≠ x / 3 by omega), Int.one_mul, hM])
    · refine Y.iconst dX5_others_19 ?_
      refine Y.istore dX5_others_20 (by decide) rfl ?_
      refine Y.iconst dX5_others_22 ?_
      refine Y.iload dX5_others_23 rfl ?_
      refine Y.imul dX5_others_25 ?_
      refine Y.istore dX5_others_26 (by decide) rfl ?_
      refine zw2 (fun m k => (i * 3 ≤ k ∧ k ≤ i * 3 + 3 ∧ 0 ≤ m ∧ m ≤ 13860 ∧ m = mx (fun k => zb (riv p x k) * cw p l x C t k) (i * 3) (k - i * 3).toNat)) (fun m k => Y d μX5_others 28 [some (.ref 67), some (.int (zi x)), some (.int (zi t)), some (.int (zi S)), some (.int (zi i)), some (.int (zi m)), some (.int (zi k))] [] σ P) (fun m k => (i * 3 + 3 - k).toNat) ?_ _ _ ⟨by omega, by omega, by omega, by omega, by rw [show (3 * i - i * 3).toNat = 0 by omega]; rfl⟩
      intro m k hI ih2
      obtain ⟨m1, m2, m4, m5, m3⟩ := hI
      refine Y.iload dX5_others_28 rfl ?_
      refine Y.iconst dX5_others_30 ?_
      refine Y.iload dX5_others_31 rfl ?_
      refine Y.imul dX5_others_33 ?_
      refine Y.iconst dX5_others_34 ?_
      refine Y.iadd dX5_others_35 ?_
      refine Y.icmp_ge 99 dX5_others_36 (by decide) (by omega) (by omega) (fun h_36 => ?_) (fun h_36 => ?_)
      · refine Y.iload_n dX5_others_99 rfl ?_
        refine Y.iload dX5_others_100 rfl ?_
        refine Y.iadd dX5_others_102 ?_
        refine Y.istore_n dX5_others_103 (by decide) rfl ?_
        refine Y.iinc dX5_others_104 rfl (by decide) rfl ?_
        refine Y.goto 5 dX5_others_107 (by decide) ?_
        refine Y.sub (zs_s (zs_s (zs_s (zs_s (zs_s (zs_n (zs_n zs_0))))))) (ih _ _ ⟨by omega, by omega, ?_⟩ (by omega))
        rw [sm_s (by omega), j3]
        first
          | (rw [zb_f (fun q => q (by omega)), Int.zero_mul, Int.add_zero]; done)
          | (have hM : m = ot p l x C i t := by
               rw [m3, show (k - i * 3).toNat = 3 by omega]
               rfl
             rw [zb_t (show i ≠ x / 3 by omega), Int.one_mul, hM])
      · refine Y.aload_n dX5_others_39 rfl ?_
        refine Y.iload_n dX5_others_40 rfl ?_
        refine Y.iload dX5_others_41 rfl ?_
        refine Y.cVI dX5_others_43 mkX5_isRival csX5_163 ob67 ⟨_, rfl, rfl⟩ (k_X5_isRival ec hp (by omega) (by omega) (by omega) (by omega)) (by omega) rfl rfl (Nat.le_of_ble_eq_true rfl) ?_
        refine Y.ifz_eq 89 dX5_others_46 (by decide) (fun h_46 => ?_) (fun h_46 => ?_)
        · refine Y.iload dX5_others_89 rfl ?_
          refine Y.istore dX5_others_91 (by decide) rfl ?_
          refine Y.iinc dX5_others_93 rfl (by decide) rfl ?_
          refine Y.goto 28 dX5_others_96 (by decide) ?_
          refine ih2 _ _ ⟨by omega, by omega, by omega, by omega, ?_⟩ (by omega)
          rw [mx_s (by omega), ← m3]
          first
            | rw [zb_t hr, Int.one_mul, cw_t hch]
            | (rw [zb_t hr, Int.one_mul, cw_f hch]; omega)
            | (rw [zb_f (by assumption), Int.zero_mul]; omega)
        · have hr : riv p x k := by assumption
          have hcc := hC i (k - i * 3) (by omega) (by omega) (by omega) (by omega) (by omega) (by rw [show i * 3 + (k - i * 3) = k by omega]; exact hr)
          rw [show i * 3 + (k - i * 3) = k by omega] at hcc
          have hz := hcb i (by omega) (by omega)
          have hw := wk_b hp hl x (k := k) (t := t) (by omega) (by omega) t1 t2
          refine Y.aload_n dX5_others_49 rfl ?_
          refine Y.getf dX5_others_50 flX5_56 ob67 rfl ?_
          refine Y.iload dX5_others_53 rfl ?_
          refine Y.iald dX5_others_55 ia83 (by omega) (by omega) ?_
          refine Y.bipush dX5_others_56 (by decide +kernel) ?_
          refine Y.icmp_eq 73 dX5_others_58 (by decide) (by omega) (by omega) (fun h_58 => ?_) (fun h_58 => ?_)
          · have hch := hcc.mpr (Or.inl h_58)
            refine Y.iload dX5_others_73 rfl ?_
            refine Y.aload_n dX5_others_75 rfl ?_
            refine Y.iload_n dX5_others_76 rfl ?_
            refine Y.iload dX5_others_77 rfl ?_
            refine Y.iload_n dX5_others_79 rfl ?_
            refine Y.cVI dX5_others_80 mkX5_work csX5_195 ob67 ⟨_, rfl, rfl⟩ (c_X5_work hA (by omega) (by omega) (by omega) (by omega) (by omega) (by omega)) (by omega) rfl rfl (Nat.le_of_ble_eq_true rfl) ?_
            refine Y.cSI dX5_others_83 mkX5_greater csX5_198 (c_X5_greater (by omega) (by omega)) (by omega) rfl rfl (Nat.le_of_ble_eq_true rfl) ?_
            refine Y.goto 91 dX5_others_86 (by decide) ?_
            refine Y.istore dX5_others_91 (by decide) rfl ?_
            refine Y.iinc dX5_others_93 rfl (by decide) rfl ?_
            refine Y.goto 28 dX5_others_96 (by decide) ?_
            refine ih2 _ _ ⟨by omega, by omega, by omega, by omega, ?_⟩ (by omega)
            rw [mx_s (by omega), ← m3]
            first
              | rw [zb_t hr, Int.one_mul, cw_t hch]
              | (rw [zb_t hr, Int.one_mul, cw_f hch]; omega)
              | (rw [zb_f (by assumption), Int.zero_mul]; omega)
          · refine Y.aload_n dX5_others_61 rfl ?_
            refine Y.getf dX5_others_62 flX5_56 ob67 rfl ?_
            refine Y.iload dX5_others_65 rfl ?_
            refine Y.iald dX5_others_67 ia83 (by omega) (by omega) ?_
            refine Y.iload dX5_others_68 rfl ?_
            refine Y.icmp_ne 89 dX5_others_70 (by decide) (by omega) (by omega) (fun h_70 => ?_) (fun h_70 => ?_)
            · have hch : ¬ C k := fun q => (hcc.mp q).elim h_58 h_70
              refine Y.iload dX5_others_89 rfl ?_
              refine Y.istore dX5_others_91 (by decide) rfl ?_
              refine Y.iinc dX5_others_93 rfl (by decide) rfl ?_
              refine Y.goto 28 dX5_others_96 (by decide) ?_
              refine ih2 _ _ ⟨by omega, by omega, by omega, by omega, ?_⟩ (by omega)
              rw [mx_s (by omega), ← m3]
              first
                | rw [zb_t hr, Int.one_mul, cw_t hch]
                | (rw [zb_t hr, Int.one_mul, cw_f hch]; omega)
                | (rw [zb_f (by assumption), Int.zero_mul]; omega)
            · have hch := hcc.mpr (Or.inr (by omega))
              refine Y.iload dX5_others_73 rfl ?_
              refine Y.aload_n dX5_others_75 rfl ?_
              refine Y.iload_n dX5_others_76 rfl ?_
              refine Y.iload dX5_others_77 rfl ?_
              refine Y.iload_n dX5_others_79 rfl ?_
              refine Y.cVI dX5_others_80 mkX5_work csX5_195 ob67 ⟨_, rfl, rfl⟩ (c_X5_work hA (by omega) (by omega) (by omega) (by omega) (by omega) (by omega)) (by omega) rfl rfl (Nat.le_of_ble_eq_true rfl) ?_
              refine Y.cSI dX5_others_83 mkX5_greater csX5_198 (c_X5_greater (by omega) (by omega)) (by omega) rfl rfl (Nat.le_of_ble_eq_true rfl) ?_
              refine Y.goto 91 dX5_others_86 (by decide) ?_
              refine Y.istore dX5_others_91 (by decide) rfl ?_
              refine Y.iinc dX5_others_93 rfl (by decide) rfl ?_
              refine Y.goto 28 dX5_others_96 (by decide) ?_
              refine ih2 _ _ ⟨by omega, by omega, by omega, by omega, ?_⟩ (by omega)
              rw [mx_s (by omega), ← m3]
              first
                | rw [zb_t hr, Int.one_mul, cw_t hch]
                | (rw [zb_t hr, Int.one_mul, cw_f hch]; omega)
                | (rw [zb_f (by assumption), Int.zero_mul]; omega)
set_option maxHeartbeats 4000000 in
theorem c_X5_holds {p : zP} {l : Int → Int} (hA : MA σ p l) {x : Int} {C : Int → Prop} (hC : MC σ p x C) (hcb : ∀ i : Int, 0 ≤ i → i < 3 → zB (σ.1 83 i)) {k q u : Int} (ho : own p x k) (k0 : 0 ≤ k) (k9 : k < 9) (hq : (q = -1 ∧ u = -1) ∨ (0 ≤ q ∧ q ≤ 900 ∧ u = q + 1)) : YI 5 μX5_holds [.ref 67, .int (zi x), .int (zi k), .int (zi q)] σ (lfp (Fn p l C x k u)) σ := by
  refine YC.of2 (by decide) (Nat.le_of_ble_eq_true rfl) (fun d P hd hP => ?_)
  have ec := hA.1
  have hp := hA.wp
  have hl := hA.wl
  have h0 := ho.1
  have h9 := ho.2.1
  have hMF : MF (Fn p l C x k u) := Fn_m hp hl C u ho
  refine Y.iconst dX5_holds_0 ?_
  refine Y.istore dX5_holds_1 (by decide) rfl ?_
  refine Y.iconst dX5_holds_3 ?_
  refine Y.istore dX5_holds_4 (by decide) rfl ?_
  refine zw2 (fun t n => (0 ≤ n ∧ n ≤ 202 ∧ n + 1 ≤ t ∧ t ≤ 100000 ∧ LI (Fn p l C x k u) t)) (fun t n => Y d μX5_holds 6 [some (.ref 67), some (.int (zi x)), some (.int (zi k)), some (.int (zi q)), some (.int (zi t)), some (.int (zi n)), none] [] σ P) (fun t n => (202 - n).toNat) ?_ _ _ ⟨by omega, by omega, by omega, by omega, LI.one (Fn_1 hp hl C (by omega) ho (Int.le_refl 1))⟩
  intro t n hI ih
  obtain ⟨j1, j2, j3, j4, j5⟩ := hI
  refine Y.iload dX5_holds_6 rfl ?_
  refine Y.sipush dX5_holds_8 (by decide +kernel) ?_
  refine Y.icmp_ge 87 dX5_holds_11 (by decide) (by omega) (by omega) (fun h_11 => ?_) (fun h_11 => ?_)
  · refine Y.iconst dX5_holds_87 ?_
    exact Y.iret dX5_holds_88 rfl (hP _ _ ⟨zrI (by first | exact (j5.out (by omega)).symm | exact (j5.hit (by omega) (by omega)).symm), rfl⟩)
  · refine Y.iload dX5_holds_14 rfl ?_
    refine Y.sipush dX5_holds_16 (by decide +kernel) ?_
    refine Y.icmp_gt 87 dX5_holds_19 (by decide) (by omega) (by omega) (fun h_19 => ?_) (fun h_19 => ?_)
    · refine Y.iconst dX5_holds_87 ?_
      exact Y.iret dX5_holds_88 rfl (hP _ _ ⟨zrI (by first | exact (j5.out (by omega)).symm | exact (j5.hit (by omega) (by omega)).symm), rfl⟩)
    · have hB := Fn_b hp hl C (x := x) (k := k) (u := u) (by omega) (by omega) h0 h9 k0 k9 (t := t) (by omega) (by omega)
      refine Y.iload_n dX5_holds_22 rfl ?_
      refine Y.iconst dX5_holds_23 ?_
      refine Y.icmp_ne 38 dX5_holds_24 (by decide) (by omega) (by omega) (fun h_24 => ?_) (fun h_24 => ?_)
      · refine Y.iload_n dX5_holds_38 rfl ?_
        refine Y.iconst dX5_holds_39 ?_
        refine Y.iadd dX5_holds_40 ?_
        refine Y.aload_n dX5_holds_41 rfl ?_
        refine Y.getf dX5_holds_42 flX5_44 ob67 rfl ?_
        refine Y.iload_n dX5_holds_45 rfl ?_
        refine Y.iald dX5_holds_46 ia79 (by omega) (by omega) ?_
        refine Y.imul dX5_holds_47 ?_
        refine Y.aload_n dX5_holds_48 rfl ?_
        refine Y.iload_n dX5_holds_49 rfl ?_
        refine Y.iload_n dX5_holds_50 rfl ?_
        refine Y.iload dX5_holds_51 rfl ?_
        refine Y.cVI dX5_holds_53 mkX5_work csX5_195 ob67 ⟨_, rfl, rfl⟩ (c_X5_work hA (by omega) (by omega) (by omega) (by omega) (by omega) (by omega)) (by omega) rfl rfl (Nat.le_of_ble_eq_true rfl) ?_
        refine Y.iadd dX5_holds_56 ?_
        refine Y.aload_n dX5_holds_57 rfl ?_
        refine Y.iload_n dX5_holds_58 rfl ?_
        refine Y.iload dX5_holds_59 rfl ?_
        refine Y.cVI dX5_holds_61 mkX5_others csX5_201 ob67 ⟨_, rfl, rfl⟩ (c_X5_others hA hC hcb (by omega) (by omega) (by omega) (by omega)) (by omega) rfl rfl (Nat.le_of_ble_eq_true rfl) ?_
        refine Y.iadd dX5_holds_64 ?_
        first
          | (have ev : cm p l x k t * σ.1 79 x + wk p l x k t + oth p l x C t = Fn p l C x k u t := by unfold Fn; rw [if_pos (by omega), hA.cost]
             rw [ev])
          | (have ev : (q + 1) * σ.1 79 x + wk p l x k t + oth p l x C t = Fn p l C x k u t := by unfold Fn; rw [if_neg (by omega), hA.cost, show u = q + 1 by omega]
             rw [ev])
        refine Y.istore dX5_holds_65 (by decide) rfl ?_
        refine Y.iload dX5_holds_67 rfl ?_
        refine Y.iload dX5_holds_69 rfl ?_
        refine Y.icmp_ne 77 dX5_holds_71 (by decide) (by omega) (by omega) (fun h_71 => ?_) (fun h_71 => ?_)
        · refine Y.iload dX5_holds_77 rfl ?_
          refine Y.istore dX5_holds_79 (by decide) rfl ?_
          refine Y.iinc dX5_holds_81 rfl (by decide) rfl ?_
          refine Y.goto 6 dX5_holds_84 (by decide) ?_
          have hst := j5.step hMF
          have hgr := j5.2.1
          exact Y.sub (zs_s (zs_s (zs_s (zs_s (zs_s (zs_s (zs_n zs_0))))))) (ih _ _ ⟨by omega, by omega, by omega, by omega, hst⟩ (by omega))
        · refine Y.iload dX5_holds_74 rfl ?_
          exact Y.iret dX5_holds_76 rfl (hP _ _ ⟨zrI (by first | exact (j5.out (by omega)).symm | exact (j5.hit (by omega) (by omega)).symm), rfl⟩)
      · refine Y.aload_n dX5_holds_27 rfl ?_
        refine Y.iload_n dX5_holds_28 rfl ?_
        refine Y.iload_n dX5_holds_29 rfl ?_
        refine Y.iload dX5_holds_30 rfl ?_
        refine Y.cVI dX5_holds_32 mkX5_comes csX5_192 ob67 ⟨_, rfl, rfl⟩ (c_X5_comes hA (by omega) (by omega) (by omega) (by omega) (by omega) (by omega)) (by omega) rfl rfl (Nat.le_of_ble_eq_true rfl) ?_
        refine Y.goto 41 dX5_holds_35 (by decide) ?_
        refine Y.aload_n dX5_holds_41 rfl ?_
        refine Y.getf dX5_holds_42 flX5_44 ob67 rfl ?_
        refine Y.iload_n dX5_holds_45 rfl ?_
        refine Y.iald dX5_holds_46 ia79 (by omega) (by omega) ?_
        refine Y.imul dX5_holds_47 ?_
        refine Y.aload_n dX5_holds_48 rfl ?_
        refine Y.iload_n dX5_holds_49 rfl ?_
        refine Y.iload_n dX5_holds_50 rfl ?_
        refine Y.iload dX5_holds_51 rfl ?_
        refine Y.cVI dX5_holds_53 mkX5_work csX5_195 ob67 ⟨_, rfl, rfl⟩ (c_X5_work hA (by omega) (by omega) (by omega) (by omega) (by omega) (by omega)) (by omega) rfl rfl (Nat.le_of_ble_eq_true rfl) ?_
        refine Y.iadd dX5_holds_56 ?_
        refine Y.aload_n dX5_holds_57 rfl ?_
        refine Y.iload_n dX5_holds_58 rfl ?_
        refine Y.iload dX5_holds_59 rfl ?_
        refine Y.cVI dX5_holds_61 mkX5_others csX5_201 ob67 ⟨_, rfl, rfl⟩ (c_X5_others hA hC hcb (by omega) (by omega) (by omega) (by omega)) (by omega) rfl rfl (Nat.le_of_ble_eq_true rfl) ?_
        refine Y.iadd dX5_holds_64 ?_
        first
          | (have ev : cm p l x k t * σ.1 79 x + wk p l x k t + oth p l x C t = Fn p l C x k u t := by unfold Fn; rw [if_pos (by omega), hA.cost]
             rw [ev])
          | (have ev : (q + 1) * σ.1 79 x + wk p l x k t + oth p l x C t = Fn p l C x k u t := by unfold Fn; rw [if_neg (by omega), hA.cost, show u = q + 1 by omega]
             rw [ev])
        refine Y.istore dX5_holds_65 (by decide) rfl ?_
        refine Y.iload dX5_holds_67 rfl ?_
        refine Y.iload dX5_holds_69 rfl ?_
        refine Y.icmp_ne 77 dX5_holds_71 (by decide) (by omega) (by omega) (fun h_71 => ?_) (fun h_71 => ?_)
        · refine Y.iload dX5_holds_77 rfl ?_
          refine Y.istore dX5_holds_79 (by decide) rfl ?_
          refine Y.iinc dX5_holds_81 rfl (by decide) rfl ?_
          refine Y.goto 6 dX5_holds_84 (by decide) ?_
          have hst := j5.step hMF
          have hgr := j5.2.1
          exact Y.sub (zs_s (zs_s (zs_s (zs_s (zs_s (zs_s (zs_n zs_0))))))) (ih _ _ ⟨by omega, by omega, by omega, by omega, hst⟩ (by omega))
        · refine Y.iload dX5_holds_74 rfl ?_
          exact Y.iret dX5_holds_76 rfl (hP _ _ ⟨zrI (by first | exact (j5.out (by omega)).symm | exact (j5.hit (by omega) (by omega)).symm), rfl⟩)
def zFm (σ t : zS) : Prop := t.2 = σ.2 ∧ (∀ c : Nat, c ≠ 67 → t.1 c = σ.1 c) ∧ ∀ i : Int, (i < 19 ∨ 22 < i) → t.1 67 i = σ.1 67 i
theorem zFm.rf {σ : zS} : zFm σ σ := ⟨rfl, fun _ _ => rfl, fun _ _ => rfl⟩
theorem zFm.up {σ t : zS} {i v : Int} (h : zFm σ t) (h0 : 19 ≤ i) (h1 : i ≤ 22) : zFm σ (zu t 67 i v) :=
  ⟨h.1, fun c hc => by rw [zu_nc hc]; exact h.2.1 c hc, fun j hj => by rw [zu_ne (by omega)]; exact h.2.2 j hj⟩
theorem zFm.tr {σ t s : zS} (h : zFm σ t) (h2 : zFm t s) : zFm σ s := ⟨h2.1.trans h.1, fun c q => (h2.2.1 c q).trans (h.2.1 c q), fun i q => (h2.2.2 i q).trans (h.2.2 i q)⟩
def MX (σ : zS) (p : zP) (l : Int → Int) (x : Int) (C : Int → Prop) : Prop := MA σ p l ∧ MC σ p x C ∧ ∀ i : Int, 0 ≤ i → i < 3 → zB (σ.1 83 i)
theorem MX.fr {σ t : zS} {p : zP} {l : Int → Int} {x : Int} {C : Int → Prop} (h : MX σ p l x C) (hf : zFm σ t) : MX t p l x C := by
  obtain ⟨h1, h2, h3⟩ := h
  refine ⟨h1.fr (fun c a b => hf.2.1 c (by omega)), ?_, ?_⟩
  · unfold MC
    rw [hf.2.1 83 (by omega)]
    exact h2
  · rw [hf.2.1 83 (by omega)]
    exact h3
def RM (x : Int) (t : zS) (s : aA) : Prop := -20000 ≤ t.1 67 19 ∧ t.1 67 19 ≤ 20000 ∧ ((0 < s.1 ∧ t.1 67 19 = s.1 ∧ t.1 67 20 = x / 3 * 3 + s.2.1 ∧ t.1 67 21 = s.2.2.1 ∧ t.1 67 22 = s.2.2.2) ∨ (s.1 = 0 ∧ t.1 67 19 ≤ 0))
set_option maxHeartbeats 8000000 in
theorem c_X5_answersBy {p : zP} {l : Int → Int} {x : Int} {C : Int → Prop} (hX : MX σ p l x C) {k w : Int} (ho : own p x k) (hw : w = bz p l C x k) (hw0 : w ≠ -1) {s : aA} (hR : RM x σ s) (hs : aAB p l x s) : YC 6 μX5_answersBy [.ref 67, .int (zi x), .int (zi k), .int (zi w)] σ (fun r t => r = some (.int (zi (zb (fk1 p l C x k s ≠ none)))) ∧ zFm σ t ∧ (∀ v : aA, fk1 p l C x k s = some v → RM x t v) ∧ -20000 ≤ t.1 67 19 ∧ t.1 67 19 ≤ 20000) := by
  refine YC.of2 (by decide) (Nat.le_of_ble_eq_true rfl) (fun d P hd hP => ?_)
  have hA := hX.1
  have ec := hA.1
  have hp := hA.wp
  have hl := hA.wl
  have h0 := ho.1
  have h9 := ho.2.1
  have hk3 := ho.2.2.2.1
  have k0 : 0 ≤ k := by omega
  have k9 : k < 9 := by omega
  have hw12 : 1 ≤ w ∧ w ≤ 200 := by
    rcases lfp_b (Fn p l C x k (-1)) with q | q
    · exact absurd (hw.trans q) hw0
    · rw [hw]; exact q
  obtain ⟨hw1, hw2⟩ := hw12
  have hN := cm_b hp hl (j := x) k h0 h9 hw1 hw2
  have et := hA.per (x / 3)
  have hTT := hp.per (i := x / 3) (by omega) (by omega)
  have hee := ear_b hp h0 h9
  have hll := hl.b h0 h9
  have hlx := hA.late h0 h9
  have hph := phi_b hp l (j := x) k h0 h9
  refine Y.aload_n dX5_answersBy_0 rfl ?_
  refine Y.iload_n dX5_answersBy_1 rfl ?_
  refine Y.iload_n dX5_answersBy_2 rfl ?_
  refine Y.cVI dX5_answersBy_3 mkX5_phi csX5_186 ob67 ⟨_, rfl, rfl⟩ (c_X5_phi hA (by omega) (by omega) (by omega) (by omega)) (by omega) rfl rfl (Nat.le_of_ble_eq_true rfl) ?_
  refine Y.istore dX5_answersBy_6 (by decide) rfl ?_
  refine Y.aload_n dX5_answersBy_8 rfl ?_
  refine Y.getf dX5_answersBy_9 flX5_23 ob67 rfl ?_
  refine Y.iload_n dX5_answersBy_12 rfl ?_
  refine Y.iconst dX5_answersBy_13 ?_
  refine Y.idivp dX5_answersBy_14 (by omega) (by omega) (by omega) (by omega) ?_
  refine Y.iald dX5_answersBy_15 ia72 (by omega) (by omega) ?_
  refine Y.istore dX5_answersBy_16 (by decide) rfl ?_
  refine Y.aload_n dX5_answersBy_18 rfl ?_
  refine Y.getf dX5_answersBy_19 flX5_53 ob67 rfl ?_
  refine Y.iload_n dX5_answersBy_22 rfl ?_
  refine Y.iald dX5_answersBy_23 ia82 (by omega) (by omega) ?_
  refine Y.iload dX5_answersBy_24 rfl ?_
  refine Y.iadd dX5_answersBy_26 ?_
  refine Y.iload dX5_answersBy_27 rfl ?_
  refine Y.idivp dX5_answersBy_29 (by omega) (by omega) (by omega) (by omega) ?_
  have ew : (σ.1 82 x + phi p l x k) / σ.1 72 (x / 3) = elr p l x k := by rw [et, hlx]; rfl
  rw [ew]
  refine Y.istore dX5_answersBy_30 (by decide) rfl ?_
  refine Y.aload_n dX5_answersBy_32 rfl ?_
  refine Y.iload_n dX5_answersBy_33 rfl ?_
  refine Y.iload_n dX5_answersBy_34 rfl ?_
  refine Y.iload_n dX5_answersBy_35 rfl ?_
  refine Y.cVI dX5_answersBy_36 mkX5_comes csX5_192 ob67 ⟨_, rfl, rfl⟩ (c_X5_comes hA (by omega) (by omega) (by omega) (by omega) (by omega) (by omega)) (by omega) rfl rfl (Nat.le_of_ble_eq_true rfl) ?_
  refine Y.istore dX5_answersBy_39 (by decide) rfl ?_
  refine Y.iconst dX5_answersBy_41 ?_
  refine Y.istore dX5_answersBy_42 (by decide) rfl ?_
  refine zw3 (fun t2 s2 q => (0 ≤ q ∧ q ≤ (cm p l x k w) ∧ zFm σ t2 ∧ RM x t2 s2 ∧ aAB p l x s2 ∧ fq p l C x k w ((cm p l x k w) - q).toNat q s2 = fk1 p l C x k s)) (fun t2 s2 q => Y d μX5_answersBy 44 [some (.ref 67), some (.int (zi x)), some (.int (zi k)), some (.int (zi w)), some (.int (zi (phi p l x k))), some (.int (zi (σ.1 72 (x / 3)))), some (.int (zi (elr p l x k))), some (.int (zi (cm p l x k w))), some (.int (zi q)), none, none] [] t2 P) (fun t2 s2 q => ((cm p l x k w) - q).toNat) ?_ _ s _ ⟨by omega, by omega, zFm.rf, hR, hs, by unfold fk1; rw [← hw, if_neg (by omega)]⟩
  intro t2 s2 q hI2 ih2
  obtain ⟨m1, m9, m4, m5, m6, m7⟩ := hI2
  have hX2 := hX.fr m4
  have hA2 := hX2.1
  have ec2 := hA2.1
  have hs2 := m6.1
  have hs3 := m6.2.1
  have hr1 := m5.1
  have hr2 := m5.2.1
  refine Y.iload dX5_answersBy_44 rfl ?_
  refine Y.iload dX5_answersBy_46 rfl ?_
  refine Y.icmp_ge 136 dX5_answersBy_48 (by decide) (by omega) (by omega) (fun h_48 => ?_) (fun h_48 => ?_)
  · refine Y.iconst dX5_answersBy_136 ?_
    exact Y.zret dX5_answersBy_137 rfl (by decide) (hP _ _ (by
    rw [fq_0 (by omega)] at m7
    refine ⟨zrI (zb_t (fun q => by rw [← m7] at q; cases q)).symm, m4, fun v hv => ?_, hr1, hr2⟩
    obtain rfl : s2 = v := Option.some.inj (m7.trans hv)
    exact m5))
  · refine Y.aload_n dX5_answersBy_51 rfl ?_
    refine Y.iload_n dX5_answersBy_52 rfl ?_
    refine Y.iload_n dX5_answersBy_53 rfl ?_
    refine Y.iload dX5_answersBy_54 rfl ?_
    refine Y.cVI dX5_answersBy_56 mkX5_holds csX5_207 ob67 ⟨_, rfl, rfl⟩ (c_X5_holds hA2 hX2.2.1 hX2.2.2 ho k0 k9 (Or.inr ⟨by omega, by omega, rfl⟩)) (by omega) rfl rfl (Nat.le_of_ble_eq_true rfl) ?_
    refine Y.istore dX5_answersBy_59 (by decide) rfl ?_
    refine Y.iload dX5_answersBy_61 rfl ?_
    refine Y.iconst dX5_answersBy_63 ?_
    have hlb1 := lfp_b (Fn p l C x k (q + 1))
    refine Y.icmp_ne 69 dX5_answersBy_64 (by decide) (by omega) (by omega) (fun h_64 => ?_) (fun h_64 => ?_)
    · have he : (lfp (Fn p l C x k (q + 1))) ≠ -1 := by omega
      have hfv := fv_b hp hl C (k := k) h0 h9 m1 (by omega) he
      rw [fq_1 (by omega), if_neg he] at m7
      refine Y.iload dX5_answersBy_69 rfl ?_
      refine Y.iload dX5_answersBy_71 rfl ?_
      refine Y.isub dX5_answersBy_73 ?_
      refine Y.iload dX5_answersBy_74 rfl ?_
      refine Y.iload dX5_answersBy_76 rfl ?_
      refine Y.iload dX5_answersBy_78 rfl ?_
      refine Y.isub dX5_answersBy_80 ?_
      refine Y.imul dX5_answersBy_81 ?_
      refine Y.isub dX5_answersBy_82 ?_
      refine Y.aload_n dX5_answersBy_83 rfl ?_
      refine Y.iload_n dX5_answersBy_84 rfl ?_
      refine Y.cVI dX5_answersBy_85 mkX5_earliest csX5_183 ob67 ⟨_, rfl, rfl⟩ (k_X5_earliest ec2 hp (by omega) (by omega)) (by omega) rfl rfl (Nat.le_of_ble_eq_true rfl) ?_
      refine Y.iadd dX5_answersBy_88 ?_
      have ev : (lfp (Fn p l C x k (q + 1))) - phi p l x k - σ.1 72 (x / 3) * (q - elr p l x k) + ear p x = fv p l C x k q := by rw [hA.per]; rfl
      rw [ev]
      refine Y.istore dX5_answersBy_89 (by decide) rfl ?_
      refine Y.aload_n dX5_answersBy_91 rfl ?_
      refine Y.getf dX5_answersBy_92 flX5_204 ob67 rfl ?_
      refine Y.iconst dX5_answersBy_95 ?_
      refine Y.icmp_eq 108 dX5_answersBy_96 (by decide) (by omega) (by omega) (fun h_96 => ?_) (fun h_96 => ?_)
      · refine Y.aload_n dX5_answersBy_108 rfl ?_
        refine Y.iload dX5_answersBy_109 rfl ?_
        refine Y.putf 19 dX5_answersBy_111 fpX5_204 ob67 os67_19 (Nat.le_of_ble_eq_true rfl) (Or.inl rfl) rfl ?_
        refine Y.aload_n dX5_answersBy_114 rfl ?_
        refine Y.iload_n dX5_answersBy_115 rfl ?_
        refine Y.putf 20 dX5_answersBy_116 fpX5_214 ob67 os67_20 (Nat.le_of_ble_eq_true rfl) (Or.inl rfl) rfl ?_
        refine Y.aload_n dX5_answersBy_119 rfl ?_
        refine Y.iload dX5_answersBy_120 rfl ?_
        refine Y.putf 21 dX5_answersBy_122 fpX5_217 ob67 os67_21 (Nat.le_of_ble_eq_true rfl) (Or.inl rfl) rfl ?_
        refine Y.aload_n dX5_answersBy_125 rfl ?_
        refine Y.iload_n dX5_answersBy_126 rfl ?_
        refine Y.putf 22 dX5_answersBy_127 fpX5_220 ob67 os67_22 (Nat.le_of_ble_eq_true rfl) (Or.inl rfl) rfl ?_
        refine Y.iinc dX5_answersBy_130 rfl (by decide) rfl ?_
        refine Y.goto 44 dX5_answersBy_133 (by decide) ?_
        refine Y.sub (zs_s (zs_s (zs_s (zs_s (zs_s (zs_s (zs_s (zs_s (zs_s (zs_n (zs_n zs_0))))))))))) ?_
        rcases m5.2.2 with ⟨r1, r2, r3, r4, r5⟩ | ⟨r1, r2⟩
        · first
            | (rw [if_neg (by omega)] at m7
               exact ih2 _ s2 _ ⟨by omega, by omega, m4, m5, m6, m7⟩ (by omega))
            | (rw [if_pos (by omega)] at m7
               exact ih2 _ (fv p l C x k q, k % 3, q, w) _ ⟨by omega, by omega, (((m4.up (by omega) (by omega)).up (by omega) (by omega)).up (by omega) (by omega)).up (by omega) (by omega), ⟨by rw [zu_ne (by omega), zu_ne (by omega), zu_ne (by omega), zu_eq]; omega, by rw [zu_ne (by omega), zu_ne (by omega), zu_ne (by omega), zu_eq]; omega, Or.inl ⟨by show 0 < fv p l C x k q; omega, by rw [zu_ne (by omega), zu_ne (by omega), zu_ne (by omega), zu_eq], by rw [zu_ne (by omega), zu_ne (by omega), zu_eq]; show k = x / 3 * 3 + k % 3; omega, by rw [zu_ne (by omega), zu_eq], by rw [zu_eq]⟩⟩, ⟨by show 0 ≤ fv p l C x k q; omega, hfv.2, fun _ => ⟨by show 0 ≤ k % 3; omega, by show k % 3 < 3; omega, m1, by show q < 200; omega, hw1, hw2⟩⟩, m7⟩ (by omega))
        · by_cases hv0 : 0 < fv p l C x k q
          · rw [if_pos (by omega)] at m7
            first
            | (exfalso; omega)
            | exact ih2 _ (fv p l C x k q, k % 3, q, w) _ ⟨by omega, by omega, (((m4.up (by omega) (by omega)).up (by omega) (by omega)).up (by omega) (by omega)).up (by omega) (by omega), ⟨by rw [zu_ne (by omega), zu_ne (by omega), zu_ne (by omega), zu_eq]; omega, by rw [zu_ne (by omega), zu_ne (by omega), zu_ne (by omega), zu_eq]; omega, Or.inl ⟨by show 0 < fv p l C x k q; omega, by rw [zu_ne (by omega), zu_ne (by omega), zu_ne (by omega), zu_eq], by rw [zu_ne (by omega), zu_ne (by omega), zu_eq]; show k = x / 3 * 3 + k % 3; omega, by rw [zu_ne (by omega), zu_eq], by rw [zu_eq]⟩⟩, ⟨by show 0 ≤ fv p l C x k q; omega, hfv.2, fun _ => ⟨by show 0 ≤ k % 3; omega, by show k % 3 < 3; omega, m1, by show q < 200; omega, hw1, hw2⟩⟩, m7⟩ (by omega)
          · rw [if_neg (by omega)] at m7
            first
              | (refine ih2 _ s2 _ ⟨by omega, by omega, m4, m5, m6, m7⟩ (by omega); done)
              | exact ih2 _ s2 _ ⟨by omega, by omega, (((m4.up (by omega) (by omega)).up (by omega) (by omega)).up (by omega) (by omega)).up (by omega) (by omega), ⟨by rw [zu_ne (by omega), zu_ne (by omega), zu_ne (by omega), zu_eq]; omega, by rw [zu_ne (by omega), zu_ne (by omega), zu_ne (by omega), zu_eq]; omega, Or.inr ⟨r1, by rw [zu_ne (by omega), zu_ne (by omega), zu_ne (by omega), zu_eq]; omega⟩⟩, m6, m7⟩ (by omega)
      · refine Y.iload dX5_answersBy_99 rfl ?_
        refine Y.aload_n dX5_answersBy_101 rfl ?_
        refine Y.getf dX5_answersBy_102 flX5_204 ob67 rfl ?_
        refine Y.icmp_le 130 dX5_answersBy_105 (by decide) (by omega) (by omega) (fun h_105 => ?_) (fun h_105 => ?_)
        · refine Y.iinc dX5_answersBy_130 rfl (by decide) rfl ?_
          refine Y.goto 44 dX5_answersBy_133 (by decide) ?_
          refine Y.sub (zs_s (zs_s (zs_s (zs_s (zs_s (zs_s (zs_s (zs_s (zs_s (zs_n (zs_n zs_0))))))))))) ?_
          rcases m5.2.2 with ⟨r1, r2, r3, r4, r5⟩ | ⟨r1, r2⟩
          · first
              | (rw [if_neg (by omega)] at m7
                 exact ih2 _ s2 _ ⟨by omega, by omega, m4, m5, m6, m7⟩ (by omega))
              | (rw [if_pos (by omega)] at m7
                 exact ih2 _ (fv p l C x k q, k % 3, q, w) _ ⟨by omega, by omega, (((m4.up (by omega) (by omega)).up (by omega) (by omega)).up (by omega) (by omega)).up (by omega) (by omega), ⟨by rw [zu_ne (by omega), zu_ne (by omega), zu_ne (by omega), zu_eq]; omega, by rw [zu_ne (by omega), zu_ne (by omega), zu_ne (by omega), zu_eq]; omega, Or.inl ⟨by show 0 < fv p l C x k q; omega, by rw [zu_ne (by omega), zu_ne (by omega), zu_ne (by omega), zu_eq], by rw [zu_ne (by omega), zu_ne (by omega), zu_eq]; show k = x / 3 * 3 + k % 3; omega, by rw [zu_ne (by omega), zu_eq], by rw [zu_eq]⟩⟩, ⟨by show 0 ≤ fv p l C x k q; omega, hfv.2, fun _ => ⟨by show 0 ≤ k % 3; omega, by show k % 3 < 3; omega, m1, by show q < 200; omega, hw1, hw2⟩⟩, m7⟩ (by omega))
          · by_cases hv0 : 0 < fv p l C x k q
            · rw [if_pos (by omega)] at m7
              first
              | (exfalso; omega)
              | exact ih2 _ (fv p l C x k q, k % 3, q, w) _ ⟨by omega, by omega, (((m4.up (by omega) (by omega)).up (by omega) (by omega)).up (by omega) (by omega)).up (by omega) (by omega), ⟨by rw [zu_ne (by omega), zu_ne (by omega), zu_ne (by omega), zu_eq]; omega, by rw [zu_ne (by omega), zu_ne (by omega), zu_ne (by omega), zu_eq]; omega, Or.inl ⟨by show 0 < fv p l C x k q; omega, by rw [zu_ne (by omega), zu_ne (by omega), zu_ne (by omega), zu_eq], by rw [zu_ne (by omega), zu_ne (by omega), zu_eq]; show k = x / 3 * 3 + k % 3; omega, by rw [zu_ne (by omega), zu_eq], by rw [zu_eq]⟩⟩, ⟨by show 0 ≤ fv p l C x k q; omega, hfv.2, fun _ => ⟨by show 0 ≤ k % 3; omega, by show k % 3 < 3; omega, m1, by show q < 200; omega, hw1, hw2⟩⟩, m7⟩ (by omega)
            · rw [if_neg (by omega)] at m7
              first
                | (refine ih2 _ s2 _ ⟨by omega, by omega, m4, m5, m6, m7⟩ (by omega); done)
                | exact ih2 _ s2 _ ⟨by omega, by omega, (((m4.up (by omega) (by omega)).up (by omega) (by omega)).up (by omega) (by omega)).up (by omega) (by omega), ⟨by rw [zu_ne (by omega), zu_ne (by omega), zu_ne (by omega), zu_eq]; omega, by rw [zu_ne (by omega), zu_ne (by omega), zu_ne (by omega), zu_eq]; omega, Or.inr ⟨r1, by rw [zu_ne (by omega), zu_ne (by omega), zu_ne (by omega), zu_eq]; omega⟩⟩, m6, m7⟩ (by omega)
        · refine Y.aload_n dX5_answersBy_108 rfl ?_
          refine Y.iload dX5_answersBy_109 rfl ?_
          refine Y.putf 19 dX5_answersBy_111 fpX5_204 ob67 os67_19 (Nat.le_of_ble_eq_true rfl) (Or.inl rfl) rfl ?_
          refine Y.aload_n dX5_answersBy_114 rfl ?_
          refine Y.iload_n dX5_answersBy_115 rfl ?_
          refine Y.putf 20 dX5_answersBy_116 fpX5_214 ob67 os67_20 (Nat.le_of_ble_eq_true rfl) (Or.inl rfl) rfl ?_
          refine Y.aload_n dX5_answersBy_119 rfl ?_
          refine Y.iload dX5_answersBy_120 rfl ?_
          refine Y.putf 21 dX5_answersBy_122 fpX5_217 ob67 os67_21 (Nat.le_of_ble_eq_true rfl) (Or.inl rfl) rfl ?_
          refine Y.aload_n dX5_answersBy_125 rfl ?_
          refine Y.iload_n dX5_answersBy_126 rfl ?_
          refine Y.putf 22 dX5_answersBy_127 fpX5_220 ob67 os67_22 (Nat.le_of_ble_eq_true rfl) (Or.inl rfl) rfl ?_
          refine Y.iinc dX5_answersBy_130 rfl (by decide) rfl ?_
          refine Y.goto 44 dX5_answersBy_133 (by decide) ?_
          refine Y.sub (zs_s (zs_s (zs_s (zs_s (zs_s (zs_s (zs_s (zs_s (zs_s (zs_n (zs_n zs_0))))))))))) ?_
          rcases m5.2.2 with ⟨r1, r2, r3, r4, r5⟩ | ⟨r1, r2⟩
          · first
              | (rw [if_neg (by omega)] at m7
                 exact ih2 _ s2 _ ⟨by omega, by omega, m4, m5, m6, m7⟩ (by omega))
              | (rw [if_pos (by omega)] at m7
                 exact ih2 _ (fv p l C x k q, k % 3, q, w) _ ⟨by omega, by omega, (((m4.up (by omega) (by omega)).up (by omega) (by omega)).up (by omega) (by omega)).up (by omega) (by omega), ⟨by rw [zu_ne (by omega), zu_ne (by omega), zu_ne (by omega), zu_eq]; omega, by rw [zu_ne (by omega), zu_ne (by omega), zu_ne (by omega), zu_eq]; omega, Or.inl ⟨by show 0 < fv p l C x k q; omega, by rw [zu_ne (by omega), zu_ne (by omega), zu_ne (by omega), zu_eq], by rw [zu_ne (by omega), zu_ne (by omega), zu_eq]; show k = x / 3 * 3 + k % 3; omega, by rw [zu_ne (by omega), zu_eq], by rw [zu_eq]⟩⟩, ⟨by show 0 ≤ fv p l C x k q; omega, hfv.2, fun _ => ⟨by show 0 ≤ k % 3; omega, by show k % 3 < 3; omega, m1, by show q < 200; omega, hw1, hw2⟩⟩, m7⟩ (by omega))
          · by_cases hv0 : 0 < fv p l C x k q
            · rw [if_pos (by omega)] at m7
              first
              | (exfalso; omega)
              | exact ih2 _ (fv p l C x k q, k % 3, q, w) _ ⟨by omega, by omega, (((m4.up (by omega) (by omega)).up (by omega) (by omega)).up (by omega) (by omega)).up (by omega) (by omega), ⟨by rw [zu_ne (by omega), zu_ne (by omega), zu_ne (by omega), zu_eq]; omega, by rw [zu_ne (by omega), zu_ne (by omega), zu_ne (by omega), zu_eq]; omega, Or.inl ⟨by show 0 < fv p l C x k q; omega, by rw [zu_ne (by omega), zu_ne (by omega), zu_ne (by omega), zu_eq], by rw [zu_ne (by omega), zu_ne (by omega), zu_eq]; show k = x / 3 * 3 + k % 3; omega, by rw [zu_ne (by omega), zu_eq], by rw [zu_eq]⟩⟩, ⟨by show 0 ≤ fv p l C x k q; omega, hfv.2, fun _ => ⟨by show 0 ≤ k % 3; omega, by show k % 3 < 3; omega, m1, by show q < 200; omega, hw1, hw2⟩⟩, m7⟩ (by omega)
            · rw [if_neg (by omega)] at m7
              first
                | (refine ih2 _ s2 _ ⟨by omega, by omega, m4, m5, m6, m7⟩ (by omega); done)
                | exact ih2 _ s2 _ ⟨by omega, by omega, (((m4.up (by omega) (by omega)).up (by omega) (by omega)).up (by omega) (by omega)).up (by omega) (by omega), ⟨by rw [zu_ne (by omega), zu_ne (by omega), zu_ne (by omega), zu_eq]; omega, by rw [zu_ne (by omega), zu_ne (by omega), zu_ne (by omega), zu_eq]; omega, Or.inr ⟨r1, by rw [zu_ne (by omega), zu_ne (by omega), zu_ne (by omega), zu_eq]; omega⟩⟩, m6, m7⟩ (by omega)
    · have hnn : fk1 p l C x k s = none := by rw [← m7, fq_1 (by omega), if_pos (by omega)]
      refine Y.iconst dX5_answersBy_67 ?_
      exact Y.zret dX5_answersBy_68 rfl (by decide) (hP _ _ ⟨zrI (zb_f (fun q => q hnn)).symm, m4, (fun v hv => by rw [hnn] at hv; cases hv), hr1, hr2⟩)
set_option maxHeartbeats 8000000 in
theorem c_X5_answers {p : zP} {l : Int → Int} {x : Int} {C : Int → Prop} (hX : MX σ p l x C) (h0 : 0 ≤ x) (h9 : x < 9) (ht : th p x) : YC 7 μX5_answers [.ref 67, .int (zi x)] σ (fun r t => r = some (.int (zi (zb (fnd p l C x ≠ none)))) ∧ zFm σ t ∧ (∀ v : aA, fnd p l C x = some v → t.1 67 19 = v.1 ∧ t.1 67 20 = x / 3 * 3 + v.2.1 ∧ t.1 67 21 = v.2.2.1 ∧ t.1 67 22 = v.2.2.2) ∧ -20000 ≤ t.1 67 19 ∧ t.1 67 19 ≤ 20000) := by
  refine YC.of2 (by decide) (Nat.le_of_ble_eq_true rfl) (fun d P hd hP => ?_)
  have hA := hX.1
  have ec := hA.1
  have hp := hA.wp
  have hl := hA.wl
  have hee := ear_b hp h0 h9
  have hll := hl.b h0 h9
  refine Y.iload_n dX5_answers_0 rfl ?_
  refine Y.iconst dX5_answers_1 ?_
  refine Y.idivp dX5_answers_2 (by omega) (by omega) (by omega) (by omega) ?_
  refine Y.iconst dX5_answers_3 ?_
  refine Y.imul dX5_answers_4 ?_
  refine Y.istore_n dX5_answers_5 (by decide) rfl ?_
  refine Y.aload_n dX5_answers_6 rfl ?_
  refine Y.iconst dX5_answers_7 ?_
  refine Y.putf 19 dX5_answers_8 fpX5_204 ob67 os67_19 (Nat.le_of_ble_eq_true rfl) (Or.inl rfl) rfl ?_
  refine Y.iload_n dX5_answers_11 rfl ?_
  refine Y.istore_n dX5_answers_12 (by decide) rfl ?_
  refine zw4 (fun t s j k => (k = x / 3 * 3 + j ∧ 0 ≤ j ∧ j ≤ 3 ∧ zFm σ t ∧ RM x t s ∧ aAB p l x s ∧ fk p l C x (3 - j).toNat j s = fnd p l C x)) (fun t s j k => Y d μX5_answers 13 [some (.ref 67), some (.int (zi x)), some (.int (zi (x / 3 * 3))), some (.int (zi k)), none] [] t P) (fun t s j k => (3 - j).toNat) ?_ _ (0, 0, 0, 0) 0 _ ⟨by omega, by omega, by omega, zFm.rf.up (by omega) (by omega), ⟨by rw [zu_eq]; omega, by rw [zu_eq]; omega, Or.inr ⟨rfl, by rw [zu_eq]; omega⟩⟩, ⟨by show (0 : Int) ≤ 0; omega, by show (0 : Int) ≤ 200 + l x + ear p x; omega, fun q => absurd q (by decide)⟩, rfl⟩
  intro t s j k hI ih
  obtain ⟨hkj, j1, j2, j3, j4, j5, j6⟩ := hI
  have hX1 := hX.fr j3
  have hA1 := hX1.1
  have ec1 := hA1.1
  refine Y.iload_n dX5_answers_13 rfl ?_
  refine Y.iload_n dX5_answers_14 rfl ?_
  refine Y.iconst dX5_answers_15 ?_
  refine Y.iadd dX5_answers_16 ?_
  refine Y.icmp_ge 68 dX5_answers_17 (by decide) (by omega) (by omega) (fun h_17 => ?_) (fun h_17 => ?_)
  · refine Y.iconst dX5_answers_68 ?_
    exact Y.zret dX5_answers_69 rfl (by decide) (hP _ _ (by
    rw [fk_3 (by omega)] at j6
    have hb9 := fnd_b hp hl C h0 h9 ht j6.symm
    refine ⟨zrI (zb_t (fun q => by rw [← j6] at q; cases q)).symm, j3, fun v hv => ?_, j4.1, j4.2.1⟩
    obtain rfl : s = v := Option.some.inj (j6.trans hv)
    rcases j4.2.2 with h5 | h5
    · exact ⟨h5.2.1, h5.2.2.1, h5.2.2.2.1, h5.2.2.2.2⟩
    · omega))
  · have k34 : own p x k → Y d μX5_answers 34 [some (.ref 67), some (.int (zi x)), some (.int (zi (x / 3 * 3))), some (.int (zi k)), none] [] t P := by
      intro ho
      have ho2 : own p x (x / 3 * 3 + j) := by rw [← hkj]; exact ho
      rw [fk_1 (by omega) ho2] at j6
      refine Y.aload_n dX5_answers_34 rfl ?_
      refine Y.iload_n dX5_answers_35 rfl ?_
      refine Y.iload_n dX5_answers_36 rfl ?_
      refine Y.iconst dX5_answers_37 ?_
      refine Y.cVI dX5_answers_38 mkX5_holds csX5_207 ob67 ⟨_, rfl, rfl⟩ (c_X5_holds hA1 hX1.2.1 hX1.2.2 ho (by omega) (by omega) (Or.inl ⟨rfl, rfl⟩)) (by omega) rfl rfl (Nat.le_of_ble_eq_true rfl) ?_
      refine Y.istore dX5_answers_41 (by decide) rfl ?_
      refine Y.iload dX5_answers_43 rfl ?_
      refine Y.iconst dX5_answers_45 ?_
      have hlb0 := lfp_b (Fn p l C x k (-1))
      refine Y.icmp_eq 60 dX5_answers_46 (by decide) (by omega) (by omega) (fun h_46 => ?_) (fun h_46 => ?_)
      · have hnn : fnd p l C x = none := by
          rw [← j6, ← hkj]
          first
            | (rw [show fk1 p l C x k s = none from Classical.byContradiction h_57]; rfl)
            | (unfold fk1 bz; rw [if_pos (by omega)]; rfl)
        refine Y.iconst dX5_answers_60 ?_
        exact Y.zret dX5_answers_61 rfl (by decide) (hP _ _ ⟨zrI (zb_f (fun q => q hnn)).symm, (by first | exact j3.tr f_54 | exact j3), (fun v hv => by rw [hnn] at hv; cases hv), (by first | exact u_54 | exact j4.1), (by first | exact v_54 | exact j4.2.1)⟩)
      · refine Y.aload_n dX5_answers_49 rfl ?_
        refine Y.iload_n dX5_answers_50 rfl ?_
        refine Y.iload_n dX5_answers_51 rfl ?_
        refine Y.iload dX5_answers_52 rfl ?_
        refine Y.callV dX5_answers_54 mkX5_answersBy csX5_210 ob67 ⟨_, rfl, rfl⟩ (c_X5_answersBy hX1 ho rfl (by unfold bz; omega) j4 j5) (by omega) rfl rfl (Nat.le_of_ble_eq_true rfl) (fun r_54 s_54 p_54 => ?_)
        obtain ⟨rfl, f_54, g_54, u_54, v_54⟩ := p_54
        refine Y.ifz_ne 62 dX5_answers_57 (by decide) (fun h_57 => ?_) (fun h_57 => ?_)
        · refine Y.iinc dX5_answers_62 rfl (by decide) rfl ?_
          refine Y.goto 13 dX5_answers_65 (by decide) ?_
          refine Y.sub (zs_s (zs_s (zs_s (zs_s (zs_n zs_0))))) ?_
          cases hf : fk1 p l C x (x / 3 * 3 + j) s with
          | none => exact absurd hf (by rw [← hkj]; assumption)
          | some v =>
            rw [hf] at j6
            rw [← hkj] at hf
            have hb9 := fk1_b hp hl C ho j5 hf
            exact ih _ v (j + 1) _ ⟨by omega, by omega, by omega, j3.tr f_54, g_54 v hf, hb9.1, j6⟩ (by omega)
        · have hnn : fnd p l C x = none := by
            rw [← j6, ← hkj]
            first
              | (rw [show fk1 p l C x k s = none from Classical.byContradiction h_57]; rfl)
              | (unfold fk1 bz; rw [if_pos (by omega)]; rfl)
          refine Y.iconst dX5_answers_60 ?_
          exact Y.zret dX5_answers_61 rfl (by decide) (hP _ _ ⟨zrI (zb_f (fun q => q hnn)).symm, (by first | exact j3.tr f_54 | exact j3), (fun v hv => by rw [hnn] at hv; cases hv), (by first | exact u_54 | exact j4.1), (by first | exact v_54 | exact j4.2.1)⟩)
    refine Y.iload_n dX5_answers_20 rfl ?_
    refine Y.iload_n dX5_answers_21 rfl ?_
    refine Y.icmp_eq 34 dX5_answers_22 (by decide) (by omega) (by omega) (fun h_22 => ?_) (fun h_22 => ?_)
    · exact k34 ⟨h0, h9, ht, by omega, by first | exact Or.inl (by omega) | exact Or.inr (by assumption)⟩
    · refine Y.aload_n dX5_answers_25 rfl ?_
      refine Y.iload_n dX5_answers_26 rfl ?_
      refine Y.iload_n dX5_answers_27 rfl ?_
      refine Y.cVI dX5_answers_28 mkX5_isRival csX5_163 ob67 ⟨_, rfl, rfl⟩ (k_X5_isRival ec1 hp (by omega) (by omega) (by omega) (by omega)) (by omega) rfl rfl (Nat.le_of_ble_eq_true rfl) ?_
      refine Y.ifz_eq 62 dX5_answers_31 (by decide) (fun h_31 => ?_) (fun h_31 => ?_)
      · refine Y.iinc dX5_answers_62 rfl (by decide) rfl ?_
        refine Y.goto 13 dX5_answers_65 (by decide) ?_
        refine Y.sub (zs_s (zs_s (zs_s (zs_s (zs_n zs_0))))) ?_
        rw [fk_2 (by omega) (fun ho => ho.2.2.2.2.elim (by omega) (by rw [← hkj]; assumption))] at j6
        exact ih _ s (j + 1) _ ⟨by omega, by omega, by omega, j3, j4, j5, j6⟩ (by omega)
      · exact k34 ⟨h0, h9, ht, by omega, by first | exact Or.inl (by omega) | exact Or.inr (by assumption)⟩
end ZG5
