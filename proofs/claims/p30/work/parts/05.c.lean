section ZG1
variable {σ : zS}
/-- what the answers' methods rest on: the plan, its periods, the lates -/
def AP (b : Nat) (σ : zS) (p : zP) (l : Int → Int) : Prop := cP σ = p ∧ WP p ∧ WL l ∧ (∀ i : Int, 0 ≤ i → i < 3 → σ.1 (b + 1) i = p 0 i) ∧ (∀ x : Int, 0 ≤ x → x < 9 → σ.1 (b + 2) x = l x)
/-- the comings are placed -/
def PP (b : Nat) (σ : zS) (p : zP) (l : Int → Int) : Prop := ∀ x k : Int, 0 ≤ x → x < 9 → 0 ≤ k → k < 3 → th p x → th p (x / 3 * 3 + k) → σ.1 (b + 7) (x * 3 + k) = phi p l x (x / 3 * 3 + k) ∧ σ.1 (b + 8) (x * 3 + k) = elr p l x (x / 3 * 3 + k)
/-- the rivals of x are gathered -/
def GP (b : Nat) (σ : zS) (p : zP) (x : Int) : Prop := ∀ i : Int, 0 ≤ i → i < 3 → σ.1 (b + 10) i = rn p x i ∧ ∀ n : Int, 0 ≤ n → n < rn p x i → σ.1 (b + 9) (i * 3 + n) = rl p x i n
/-- the moments are chosen -/
def CC (b : Nat) (σ : zS) (p : zP) (x : Int) (C : Int → Prop) : Prop := ∀ i j : Int, 0 ≤ i → i < 3 → i ≠ x / 3 → 0 ≤ j → j < 3 → riv p x (i * 3 + j) → (C (i * 3 + j) ↔ (σ.1 (b + 11) i = -1 ∨ σ.1 (b + 11) i = j))
theorem AP.wp {b : Nat} {σ : zS} {p : zP} {l : Int → Int} (h : AP b σ p l) : WP p := h.2.1
theorem AP.wl {b : Nat} {σ : zS} {p : zP} {l : Int → Int} (h : AP b σ p l) : WL l := h.2.2.1
theorem AP.per {b : Nat} {σ : zS} {p : zP} {l : Int → Int} (h : AP b σ p l) {i : Int} (h0 : 0 ≤ i) (h3 : i < 3) : σ.1 (b + 1) i = p 0 i := h.2.2.2.1 i h0 h3
theorem AP.late {b : Nat} {σ : zS} {p : zP} {l : Int → Int} (h : AP b σ p l) {x : Int} (h0 : 0 ≤ x) (h9 : x < 9) : σ.1 (b + 2) x = l x := h.2.2.2.2 x h0 h9
theorem AP.cost {b : Nat} {σ : zS} {p : zP} {l : Int → Int} (h : AP b σ p l) (x : Int) : σ.1 10 x = p 7 x := by rw [← h.1]; rfl
theorem rv_b {p : zP} {x y : Int} (h : riv p x y) : th p y := h.1
set_option maxHeartbeats 4000000 in
theorem c_X0_comes {b : Nat} (hb : zAb b) {p : zP} {l : Int → Int} (hA : AP b σ p l) (hP9 : PP b σ p l) {y k t : Int} (h0 : 0 ≤ y) (h9 : y < 9) (k0 : 0 ≤ k) (k3 : k < 3) (hy : th p y) (hk : th p (y / 3 * 3 + k)) (t1 : 1 ≤ t) (t2 : t ≤ 200) : YI 0 μX0_comes [.ref b, .int (zi y), .int (zi k), .int (zi t)] σ (cm p l y (y / 3 * 3 + k) t) σ := by
  refine YC.of2 (by decide) (Nat.le_of_ble_eq_true rfl) (fun d P hd hP => ?_)
  have e1 := hA.per (i := y / 3) (by omega) (by omega)
  have e2 := hP9 y k h0 h9 k0 k3 hy hk
  have hT := hA.wp.per (i := y / 3) (by omega) (by omega)
  have hf := phi_b hA.wp l (y / 3 * 3 + k) h0 h9
  refine Y.aload_n dX0_comes_0 rfl ?_
  refine Y.getf dX0_comes_1 flX0_9 (obA hb) rfl ?_
  refine Y.iload_n dX0_comes_4 rfl ?_
  refine Y.iconst dX0_comes_5 ?_
  refine Y.idivp dX0_comes_6 (by omega) (by omega) (by omega) (by omega) ?_
  refine Y.iald dX0_comes_7 (iaA1 hb) (by omega) (by omega) ?_
  refine Y.istore dX0_comes_8 (by decide) rfl ?_
  refine Y.iload_n dX0_comes_10 rfl ?_
  refine Y.iconst dX0_comes_11 ?_
  refine Y.imul dX0_comes_12 ?_
  refine Y.iload_n dX0_comes_13 rfl ?_
  refine Y.iadd dX0_comes_14 ?_
  refine Y.istore dX0_comes_15 (by decide) rfl ?_
  refine Y.aload_n dX0_comes_17 rfl ?_
  refine Y.getf dX0_comes_18 flX0_33 (obA hb) rfl ?_
  refine Y.iload dX0_comes_21 rfl ?_
  refine Y.iald dX0_comes_23 (iaA8 hb) (by omega) (by omega) ?_
  refine Y.iload_n dX0_comes_24 rfl ?_
  refine Y.aload_n dX0_comes_25 rfl ?_
  refine Y.getf dX0_comes_26 flX0_30 (obA hb) rfl ?_
  refine Y.iload dX0_comes_29 rfl ?_
  refine Y.iald dX0_comes_31 (iaA7 hb) (by omega) (by omega) ?_
  refine Y.isub dX0_comes_32 ?_
  refine Y.iload dX0_comes_33 rfl ?_
  refine Y.iadd dX0_comes_35 ?_
  refine Y.iconst dX0_comes_36 ?_
  refine Y.isub dX0_comes_37 ?_
  refine Y.iload dX0_comes_38 rfl ?_
  refine Y.idivp dX0_comes_40 (by omega) (by omega) (by omega) (by omega) ?_
  refine Y.iadd dX0_comes_41 ?_
  exact Y.iret dX0_comes_42 rfl (hP _ _ ⟨zrI (by rw [e2.1, e2.2, e1]; rfl), rfl⟩)
set_option maxHeartbeats 4000000 in
theorem c_X0_work {b : Nat} (hb : zAb b) {p : zP} {l : Int → Int} (hA : AP b σ p l) (hP9 : PP b σ p l) {x : Int} (hG : GP b σ p x) {i k t : Int} (i0 : 0 ≤ i) (i3 : i < 3) (k0 : 0 ≤ k) (k3 : k < 3) (hk : th p (i * 3 + k)) (t1 : 1 ≤ t) (t2 : t ≤ 200) : YI 1 μX0_work [.ref b, .int (zi i), .int (zi k), .int (zi t)] σ (wk p l x (i * 3 + k) t) σ := by
  refine YC.of2 (by decide) (Nat.le_of_ble_eq_true rfl) (fun d P hd hP => ?_)
  refine Y.iconst dX0_work_0 ?_
  refine Y.istore dX0_work_1 (by decide) rfl ?_
  refine Y.iconst dX0_work_3 ?_
  refine Y.istore dX0_work_4 (by decide) rfl ?_
  have hrn := rn_b p x i
  have hg := hG i i0 i3
  refine zw2 (fun s n => (0 ≤ n ∧ n ≤ rn p x i ∧ s = sm (fun n => (fun j => cm p l j (i * 3 + k) t * p 7 j) (i * 3 + rl p x i n)) 0 (n - 0).toNat)) (fun s n => Y d μX0_work 6 [some (.ref b), some (.int (zi i)), some (.int (zi k)), some (.int (zi t)), some (.int (zi s)), some (.int (zi n)), none] [] σ P) (fun s n => (rn p x i - n).toNat) ?_ _ _ ⟨by omega, by omega, by rw [sm_0]⟩
  intro s n hI ih
  obtain ⟨j1, j2, j3⟩ := hI
  refine Y.iload dX0_work_6 rfl ?_
  refine Y.aload_n dX0_work_8 rfl ?_
  refine Y.getf dX0_work_9 flX0_39 (obA hb) rfl ?_
  refine Y.iload_n dX0_work_12 rfl ?_
  refine Y.iald dX0_work_13 (iaA10 hb) (by omega) (by omega) ?_
  refine Y.icmp_ge 66 dX0_work_14 (by decide) (by omega) (by omega) (fun h_14 => ?_) (fun h_14 => ?_)
  · refine Y.iload dX0_work_66 rfl ?_
    exact Y.iret dX0_work_68 rfl (hP _ _ ⟨zrI (by rw [j3, show n = rn p x i by omega, Int.sub_zero]; refine (rl_sm (p := p) (x := x) (i := i) (fun j => cm p l j (i * 3 + k) t * p 7 j)).trans ?_; unfold wk; rw [show (i * 3 + k) / 3 * 3 = i * 3 by omega]), rfl⟩)
  · have hr := rl_r (p := p) (x := x) (i := i) (n := n) (by omega) (by omega)
    have hr3 := hg.2 n (by omega) (by omega)
    have hk2 : th p ((i * 3 + σ.1 (b + 9) (i * 3 + n)) / 3 * 3 + k) := by rw [show (i * 3 + σ.1 (b + 9) (i * 3 + n)) / 3 = i by omega]; exact hk
    have hk3 : th p (i * 3 + σ.1 (b + 9) (i * 3 + n)) := by rw [hr3]; exact hr.2.2.1
    have eq : (i * 3 + rl p x i n) / 3 * 3 + k = i * 3 + k := by omega
    refine Y.iload_n dX0_work_17 rfl ?_
    refine Y.iconst dX0_work_18 ?_
    refine Y.imul dX0_work_19 ?_
    refine Y.aload_n dX0_work_20 rfl ?_
    refine Y.getf dX0_work_21 flX0_36 (obA hb) rfl ?_
    refine Y.iload_n dX0_work_24 rfl ?_
    refine Y.iconst dX0_work_25 ?_
    refine Y.imul dX0_work_26 ?_
    refine Y.iload dX0_work_27 rfl ?_
    refine Y.iadd dX0_work_29 ?_
    refine Y.iald dX0_work_30 (iaA9 hb) (by omega) (by omega) ?_
    refine Y.iadd dX0_work_31 ?_
    refine Y.istore dX0_work_32 (by decide) rfl ?_
    refine Y.iload dX0_work_34 rfl ?_
    refine Y.aload_n dX0_work_36 rfl ?_
    refine Y.iload dX0_work_37 rfl ?_
    refine Y.iload_n dX0_work_39 rfl ?_
    refine Y.iload_n dX0_work_40 rfl ?_
    refine Y.cVI dX0_work_41 mkX0_comes csX0_139 (obA hb) ⟨_, rfl, rfl⟩ (c_X0_comes hb hA hP9 (by omega) (by omega) (by omega) (by omega) hk3 hk2 (by omega) (by omega)) (by omega) rfl rfl (Nat.le_of_ble_eq_true rfl) ?_
    refine Y.aload_n dX0_work_44 rfl ?_
    refine Y.getf dX0_work_45 flX0_45 (obA hb) rfl ?_
    refine Y.getf dX0_work_48 flX0_98 ob1 rfl ?_
    refine Y.iconst dX0_work_51 ?_
    refine Y.aald dX0_work_52 ra8 (by decide) (by decide) (by decide) rfl ?_
    refine Y.iload dX0_work_53 rfl ?_
    refine Y.iald dX0_work_55 ia10 (by omega) (by omega) ?_
    refine Y.imul dX0_work_56 ?_
    refine Y.iadd dX0_work_57 ?_
    refine Y.istore dX0_work_58 (by decide) rfl ?_
    refine Y.iinc dX0_work_60 rfl (by decide) rfl ?_
    refine Y.goto 6 dX0_work_63 (by decide) ?_
    exact Y.sub (zs_s (zs_s (zs_s (zs_s (zs_s (zs_s (zs_n zs_0))))))) (ih _ _ ⟨by omega, by omega, by rw [sm_s (by omega), j3, hr3, hA.cost, eq]⟩ (by omega))
set_option maxHeartbeats 4000000 in
theorem c_X0_needed {b : Nat} (hb : zAb b) {p : zP} {l : Int → Int} (hA : AP b σ p l) (hP9 : PP b σ p l) {x : Int} (hG : GP b σ p x) {C : Int → Prop} (hC : CC b σ p x C) (h0 : 0 ≤ x) (h9 : x < 9) (ht : th p x) (hcb : ∀ i : Int, 0 ≤ i → i < 3 → zB (σ.1 (b + 11) i)) {k u t : Int} (k0 : 0 ≤ k) (k3 : k < 3) (hk : th p (x / 3 * 3 + k)) (hu0 : -1 ≤ u) (hu : u ≤ 1000) (t1 : 1 ≤ t) (t2 : t ≤ 200) : YI 2 μX0_needed [.ref b, .int (zi x), .int (zi k), .int (zi u), .int (zi t)] σ (Fn p l C x (x / 3 * 3 + k) u t) σ := by
  refine YC.of2 (by decide) (Nat.le_of_ble_eq_true rfl) (fun d P hd hP => ?_)
  have k22 : ∀ v : Int, v = (if u = -1 then cm p l x (x / 3 * 3 + k) t else u) → Y d μX0_needed 22 [some (.ref b), some (.int (zi x)), some (.int (zi k)), some (.int (zi u)), some (.int (zi t)), some (.int (zi (x / 3))), none, none, none, none, none, none] [.int (zi v)] σ P := by
    intro v hv
    refine Y.istore dX0_needed_22 (by decide) rfl ?_
    refine Y.iload dX0_needed_24 rfl ?_
    refine Y.aload_n dX0_needed_26 rfl ?_
    refine Y.getf dX0_needed_27 flX0_45 (obA hb) rfl ?_
    refine Y.getf dX0_needed_30 flX0_98 ob1 rfl ?_
    refine Y.iconst dX0_needed_33 ?_
    refine Y.aald dX0_needed_34 ra8 (by decide) (by decide) (by decide) rfl ?_
    refine Y.iload_n dX0_needed_35 rfl ?_
    refine Y.iald dX0_needed_36 ia10 (by omega) (by omega) ?_
    refine Y.imul dX0_needed_37 ?_
    refine Y.aload_n dX0_needed_38 rfl ?_
    refine Y.iload dX0_needed_39 rfl ?_
    refine Y.iload_n dX0_needed_41 rfl ?_
    refine Y.iload dX0_needed_42 rfl ?_
    refine Y.cVI dX0_needed_44 mkX0_work csX0_149 (obA hb) ⟨_, rfl, rfl⟩ (c_X0_work hb hA hP9 hG (by omega) (by omega) (by omega) (by omega) (by assumption) (by omega) (by omega)) (by omega) rfl rfl (Nat.le_of_ble_eq_true rfl) ?_
    refine Y.iadd dX0_needed_47 ?_
    refine Y.istore dX0_needed_48 (by decide) rfl ?_
    refine Y.iconst dX0_needed_50 ?_
    refine Y.istore dX0_needed_51 (by decide) rfl ?_
    refine zw2 (fun S i => (0 ≤ i ∧ i ≤ 3 ∧ S = (if u = -1 then cm p l x (x / 3 * 3 + k) t else u) * p 7 x + wk p l x (x / 3 * 3 + k) t + sm (fun i => zb (i ≠ x / 3) * ot p l x C i t) 0 (i - 0).toNat)) (fun S i => Y d μX0_needed 53 [some (.ref b), some (.int (zi x)), some (.int (zi k)), some (.int (zi u)), some (.int (zi t)), some (.int (zi (x / 3))), some (.int (zi v)), some (.int (zi S)), some (.int (zi i)), none, none, none] [] σ P) (fun S i => (3 - i).toNat) ?_ _ _ ⟨by omega, by omega, by rw [sm_0, Int.add_zero, ← hv, hA.cost]⟩
    intro S i hI ih
    obtain ⟨j1, j2, j3⟩ := hI
    refine Y.iload dX0_needed_53 rfl ?_
    refine Y.iconst dX0_needed_55 ?_
    refine Y.icmp_ge 160 dX0_needed_56 (by decide) (by omega) (by omega) (fun h_56 => ?_) (fun h_56 => ?_)
    · refine Y.iload dX0_needed_160 rfl ?_
      exact Y.iret dX0_needed_162 rfl (hP _ _ ⟨zrI (by unfold Fn oth; rw [j3, show i = 3 by omega]; rfl), rfl⟩)
    · refine Y.iload dX0_needed_59 rfl ?_
      refine Y.iload dX0_needed_61 rfl ?_
      refine Y.icmp_ne 69 dX0_needed_63 (by decide) (by omega) (by omega) (fun h_63 => ?_) (fun h_63 => ?_)
      · refine Y.iconst dX0_needed_69 ?_
        refine Y.istore dX0_needed_70 (by decide) rfl ?_
        refine Y.iconst dX0_needed_72 ?_
        refine Y.istore dX0_needed_73 (by decide) rfl ?_
        have hrn := rn_b p x i
        have hg := hG i (by omega) (by omega)
        refine zw2 (fun M n => (0 ≤ n ∧ n ≤ rn p x i ∧ 0 ≤ M ∧ M ≤ 13860 ∧ M = mx (fun n => cw p l x C t (i * 3 + rl p x i n)) 0 (n - 0).toNat)) (fun M n => Y d μX0_needed 75 [some (.ref b), some (.int (zi x)), some (.int (zi k)), some (.int (zi u)), some (.int (zi t)), some (.int (zi (x / 3))), some (.int (zi v)), some (.int (zi S)), some (.int (zi i)), some (.int (zi M)), some (.int (zi n)), none] [] σ P) (fun M n => (rn p x i - n).toNat) ?_ _ _ ⟨by omega, by omega, by omega, by omega, by rw [mx_0]⟩
        intro M n hI ih2
        obtain ⟨m1, m2, m4, m5, m3⟩ := hI
        refine Y.iload dX0_needed_75 rfl ?_
        refine Y.aload_n dX0_needed_77 rfl ?_
        refine Y.getf dX0_needed_78 flX0_39 (obA hb) rfl ?_
        refine Y.iload dX0_needed_81 rfl ?_
        refine Y.iald dX0_needed_83 (iaA10 hb) (by omega) (by omega) ?_
        refine Y.icmp_ge 147 dX0_needed_84 (by decide) (by omega) (by omega) (fun h_84 => ?_) (fun h_84 => ?_)
        · refine Y.iload dX0_needed_147 rfl ?_
          refine Y.iload dX0_needed_149 rfl ?_
          refine Y.iadd dX0_needed_151 ?_
          refine Y.istore dX0_needed_152 (by decide) rfl ?_
          refine Y.iinc dX0_needed_154 rfl (by decide) rfl ?_
          refine Y.goto 53 dX0_needed_157 (by decide) ?_
          refine Y.sub (zs_s (zs_s (zs_s (zs_s (zs_s (zs_s (zs_s (zs_s (zs_s (zs_n (zs_n (zs_n zs_0)))))))))))) (ih _ _ ⟨by omega, by omega, ?_⟩ (by omega))
          rw [sm_s (by omega), j3]
          first
            | (rw [zb_f (fun q => q (by omega)), Int.zero_mul]; omega)
            | (have hM : M = ot p l x C i t := by
                 rw [m3, show n = rn p x i by omega, Int.sub_zero]
                 exact ot_rl hA.wp hA.wl (by omega) (by omega) (by omega)
               rw [zb_t (show i ≠ x / 3 by omega), Int.one_mul, hM]
               omega)
        · have hr := rl_r (p := p) (x := x) (i := i) (n := n) (by omega) (by omega)
          have hr3 := hg.2 n (by omega) (by omega)
          have hkk : th p (i * 3 + σ.1 (b + 9) (i * 3 + n)) := by rw [hr3]; exact hr.2.2.1
          have hcc := hC i (rl p x i n) (by omega) (by omega) (by omega) hr.1 hr.2.1 hr.2.2
          refine Y.aload_n dX0_needed_87 rfl ?_
          refine Y.getf dX0_needed_88 flX0_36 (obA hb) rfl ?_
          refine Y.iload dX0_needed_91 rfl ?_
          refine Y.iconst dX0_needed_93 ?_
          refine Y.imul dX0_needed_94 ?_
          refine Y.iload dX0_needed_95 rfl ?_
          refine Y.iadd dX0_needed_97 ?_
          refine Y.iald dX0_needed_98 (iaA9 hb) (by omega) (by omega) ?_
          refine Y.istore dX0_needed_99 (by decide) rfl ?_
          refine Y.aload_n dX0_needed_101 rfl ?_
          refine Y.getf dX0_needed_102 flX0_42 (obA hb) rfl ?_
          refine Y.iload dX0_needed_105 rfl ?_
          refine Y.iald dX0_needed_107 (iaA11 hb) (by omega) (by omega) ?_
          refine Y.iconst dX0_needed_108 ?_
          refine Y.icmp_eq 124 dX0_needed_109 (by decide) (by have := hcb i (by omega) (by omega); omega) (by omega) (fun h_109 => ?_) (fun h_109 => ?_)
          · have hch := hcc.mpr (Or.inl h_109)
            have hw := wk_b hA.wp hA.wl x (k := i * 3 + σ.1 (b + 9) (i * 3 + n)) (t := t) (by omega) (by omega) (by omega) (by omega)
            refine Y.iload dX0_needed_124 rfl ?_
            refine Y.aload_n dX0_needed_126 rfl ?_
            refine Y.iload dX0_needed_127 rfl ?_
            refine Y.iload dX0_needed_129 rfl ?_
            refine Y.iload dX0_needed_131 rfl ?_
            refine Y.cVI dX0_needed_133 mkX0_work csX0_149 (obA hb) ⟨_, rfl, rfl⟩ (c_X0_work hb hA hP9 hG (by omega) (by omega) (by omega) (by omega) (by assumption) (by omega) (by omega)) (by omega) rfl rfl (Nat.le_of_ble_eq_true rfl) ?_
            refine Y.mmax dX0_needed_136 csX0_92 (by omega) (Nat.le_of_ble_eq_true rfl) (by omega) (by omega) ?_
            refine Y.istore dX0_needed_139 (by decide) rfl ?_
            refine Y.iinc dX0_needed_141 rfl (by decide) rfl ?_
            refine Y.goto 75 dX0_needed_144 (by decide) ?_
            refine Y.sub (zs_s (zs_s (zs_s (zs_s (zs_s (zs_s (zs_s (zs_s (zs_s (zs_s (zs_s (zs_n zs_0)))))))))))) (ih2 _ _ ⟨by omega, by omega, by omega, by omega, ?_⟩ (by omega))
            rw [mx_s (by omega), ← m3]
            first
              | (rw [cw_t hch, ← hr3]; done)
              | (rw [cw_f hch]; omega)
          · refine Y.aload_n dX0_needed_112 rfl ?_
            refine Y.getf dX0_needed_113 flX0_42 (obA hb) rfl ?_
            refine Y.iload dX0_needed_116 rfl ?_
            refine Y.iald dX0_needed_118 (iaA11 hb) (by omega) (by omega) ?_
            refine Y.iload dX0_needed_119 rfl ?_
            refine Y.icmp_ne 141 dX0_needed_121 (by decide) (by have := hcb i (by omega) (by omega); omega) (by omega) (fun h_121 => ?_) (fun h_121 => ?_)
            · have hch : ¬ C (i * 3 + rl p x i n) := fun q => (hcc.mp q).elim h_109 (fun e => h_121 (by omega))
              refine Y.iinc dX0_needed_141 rfl (by decide) rfl ?_
              refine Y.goto 75 dX0_needed_144 (by decide) ?_
              refine Y.sub (zs_s (zs_s (zs_s (zs_s (zs_s (zs_s (zs_s (zs_s (zs_s (zs_s (zs_s (zs_n zs_0)))))))))))) (ih2 _ _ ⟨by omega, by omega, by omega, by omega, ?_⟩ (by omega))
              rw [mx_s (by omega), ← m3]
              first
                | (rw [cw_t hch, ← hr3]; done)
                | (rw [cw_f hch]; omega)
            · have hch := hcc.mpr (Or.inr (by omega))
              have hw := wk_b hA.wp hA.wl x (k := i * 3 + σ.1 (b + 9) (i * 3 + n)) (t := t) (by omega) (by omega) (by omega) (by omega)
              refine Y.iload dX0_needed_124 rfl ?_
              refine Y.aload_n dX0_needed_126 rfl ?_
              refine Y.iload dX0_needed_127 rfl ?_
              refine Y.iload dX0_needed_129 rfl ?_
              refine Y.iload dX0_needed_131 rfl ?_
              refine Y.cVI dX0_needed_133 mkX0_work csX0_149 (obA hb) ⟨_, rfl, rfl⟩ (c_X0_work hb hA hP9 hG (by omega) (by omega) (by omega) (by omega) (by assumption) (by omega) (by omega)) (by omega) rfl rfl (Nat.le_of_ble_eq_true rfl) ?_
              refine Y.mmax dX0_needed_136 csX0_92 (by omega) (Nat.le_of_ble_eq_true rfl) (by omega) (by omega) ?_
              refine Y.istore dX0_needed_139 (by decide) rfl ?_
              refine Y.iinc dX0_needed_141 rfl (by decide) rfl ?_
              refine Y.goto 75 dX0_needed_144 (by decide) ?_
              refine Y.sub (zs_s (zs_s (zs_s (zs_s (zs_s (zs_s (zs_s (zs_s (zs_s (zs_s (zs_s (zs_n zs_0)))))))))))) (ih2 _ _ ⟨by omega, by omega, by omega, by omega, ?_⟩ (by omega))
              rw [mx_s (by omega), ← m3]
              first
                | (rw [cw_t hch, ← hr3]; done)
                | (rw [cw_f hch]; omega)
      · refine Y.goto 154 dX0_needed_66 (by decide) ?_
        refine Y.iinc dX0_needed_154 rfl (by decide) rfl ?_
        refine Y.goto 53 dX0_needed_157 (by decide) ?_
        refine Y.sub (zs_s (zs_s (zs_s (zs_s (zs_s (zs_s (zs_s (zs_s (zs_s (zs_n (zs_n (zs_n zs_0)))))))))))) (ih _ _ ⟨by omega, by omega, ?_⟩ (by omega))
        rw [sm_s (by omega), j3]
        first
          | (rw [zb_f (fun q => q (by omega)), Int.zero_mul]; omega)
          | (have hM : M = ot p l x C i t := by
               rw [m3, show n = rn p x i by omega, Int.sub_zero]
               exact ot_rl hA.wp hA.wl (by omega) (by omega) (by omega)
             rw [zb_t (show i ≠ x / 3 by omega), Int.one_mul, hM]
             omega)
  refine Y.iload_n dX0_needed_0 rfl ?_
  refine Y.iconst dX0_needed_1 ?_
  refine Y.idivp dX0_needed_2 (by omega) (by omega) (by omega) (by omega) ?_
  refine Y.istore dX0_needed_3 (by decide) rfl ?_
  refine Y.iload_n dX0_needed_5 rfl ?_
  refine Y.iconst dX0_needed_6 ?_
  refine Y.icmp_ne 21 dX0_needed_7 (by decide) (by omega) (by omega) (fun h_7 => ?_) (fun h_7 => ?_)
  · refine Y.iload_n dX0_needed_21 rfl ?_
    exact k22 _ (by first | rw [if_pos (by assumption)] | rw [if_neg (by assumption)])
  · refine Y.aload_n dX0_needed_10 rfl ?_
    refine Y.iload_n dX0_needed_11 rfl ?_
    refine Y.iload_n dX0_needed_12 rfl ?_
    refine Y.iload dX0_needed_13 rfl ?_
    refine Y.cVI dX0_needed_15 mkX0_comes csX0_139 (obA hb) ⟨_, rfl, rfl⟩ (c_X0_comes hb hA hP9 (by omega) (by omega) (by omega) (by omega) ht hk (by omega) (by omega)) (by omega) rfl rfl (Nat.le_of_ble_eq_true rfl) ?_
    refine Y.goto 22 dX0_needed_18 (by decide) ?_
    exact k22 _ (by first | rw [if_pos (by assumption)] | rw [if_neg (by assumption)])
end ZG1
