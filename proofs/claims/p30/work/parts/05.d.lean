section ZG2
variable {σ : zS}
/-! the rough count -/
def qc (p : zP) (l : Int → Int) (j t : Int) : Int := (l j + t + p 0 (j / 3) - 1) / p 0 (j / 3)
def gq (p : zP) (l : Int → Int) (t j : Int) : Int := qc p l j t * p 7 j
noncomputable def wq (p : zP) (l : Int → Int) (x t : Int) : Int := sm (fun j => zb (riv p x j) * gq p l t j) 0 9
noncomputable def Fq (p : zP) (l : Int → Int) (x u t : Int) : Int := (if u = -1 then qc p l x t else u) * p 7 x + wq p l x t
theorem qc_b {p : zP} (hp : WP p) {l : Int → Int} (hl : WL l) {j t : Int} (h0 : 0 ≤ j) (h9 : j < 9) (t1 : 1 ≤ t) : 1 ≤ qc p l j t ∧ (t ≤ 200 → qc p l j t ≤ 145) := by
  have hT := hp.per (i := j / 3) (by omega) (by omega)
  have hb := hl.b h0 h9
  constructor
  · unfold qc
    exact (Int.le_ediv_iff_mul_le (by omega)).mpr (by omega)
  · intro t2
    have := ediv_b (a := l j + t + p 0 (j / 3) - 1) (T := p 0 (j / 3)) (A := 729) hT.1 (by omega) (by omega)
    unfold qc
    omega
theorem qc_m {p : zP} (hp : WP p) (l : Int → Int) {j s t : Int} (h0 : 0 ≤ j) (h9 : j < 9) (h : s ≤ t) : qc p l j s ≤ qc p l j t := by
  have hT := hp.per (i := j / 3) (by omega) (by omega)
  exact Int.ediv_le_ediv (by omega) (by omega)
theorem gq_m {p : zP} (hp : WP p) {l : Int → Int} (hl : WL l) {j s t : Int} (h0 : 0 ≤ j) (h9 : j < 9) (hs : 1 ≤ s) (h : s ≤ t) : 0 ≤ gq p l s j ∧ gq p l s j ≤ gq p l t j := by
  have h1 := (qc_b hp hl h0 h9 hs).1
  have h2 := qc_m hp l h0 h9 h
  have h3 := (hp.2.1 j h0 h9).2.1
  exact ⟨Int.mul_nonneg (by omega) h3.1, Int.mul_le_mul_of_nonneg_right h2 h3.1⟩
theorem wq_m {p : zP} (hp : WP p) {l : Int → Int} (hl : WL l) (x : Int) {s t : Int} (hs : 1 ≤ s) (h : s ≤ t) : 0 ≤ wq p l x s ∧ wq p l x s ≤ wq p l x t := by
  constructor
  · have := sm_m (f := fun _ => 0) (g := fun j => zb (riv p x j) * gq p l s j) (a := 0) 9 (fun i a b => (zb_m (gq_m hp hl (by omega) (by omega) hs (Int.le_refl _)).1 (Int.le_refl _)).1)
    have e : sm (fun _ => 0) 0 9 = 0 := rfl
    unfold wq
    omega
  · exact sm_m 9 (fun i a b => by
      have q := gq_m hp hl (j := i) (by omega) (by omega) hs h
      exact (zb_m q.1 q.2).2.1)
theorem wq_b {p : zP} (hp : WP p) {l : Int → Int} (hl : WL l) (x : Int) {t : Int} (ht : 1 ≤ t) (ht2 : t ≤ 200) : 0 ≤ wq p l x t ∧ wq p l x t ≤ 36540 := by
  refine ⟨(wq_m hp hl x ht (Int.le_refl _)).1, ?_⟩
  have := sm_m (f := fun j => zb (riv p x j) * gq p l t j) (g := fun _ => 4060) (a := 0) 9 (fun i a b => by
    have q := gq_m hp hl (j := i) (by omega) (by omega) ht (Int.le_refl _)
    have q2 := (zb_m (Q := riv p x i) q.1 (Int.le_refl _)).2.2
    have q3 := qc_b hp hl (j := i) (by omega) (by omega) ht
    have q6 := q3.2 ht2
    have q4 := (hp.2.1 i (by omega) (by omega)).2.1
    have q5 := mul_b (show 0 ≤ qc p l i t by omega) q6 q4.1 q4.2 (by omega) (by omega)
    unfold gq at *
    omega)
  have e : sm (fun _ => 4060) 0 9 = 36540 := rfl
  unfold wq
  omega
theorem Fq_m {p : zP} (hp : WP p) {l : Int → Int} (hl : WL l) {x : Int} (u : Int) (h0 : 0 ≤ x) (h9 : x < 9) : MF (Fq p l x u) := by
  intro s t hs h
  have h2 := wq_m hp hl x hs h
  have h3 := gq_m hp hl (j := x) h0 h9 hs h
  unfold gq at h3
  unfold Fq
  by_cases q : u = -1
  · rw [if_pos q, if_pos q]; omega
  · rw [if_neg q, if_neg q]; omega
theorem Fq_1 {p : zP} (hp : WP p) {l : Int → Int} (hl : WL l) {x u : Int} (hu : u = -1 ∨ 1 ≤ u) (h0 : 0 ≤ x) (h9 : x < 9) (ht : th p x) {t : Int} (t1 : 1 ≤ t) : 1 ≤ Fq p l x u t := by
  have hx := hp.2.2 x h0 h9 ht
  have h2 := wq_m hp hl x t1 (Int.le_refl t)
  unfold Fq
  by_cases q : u = -1
  · rw [if_pos q]
    have h4 := (qc_b hp hl h0 h9 t1).1
    have h5 : 1 * 1 ≤ qc p l x t * p 7 x := Int.mul_le_mul h4 hx (by omega) (by omega)
    omega
  · rw [if_neg q]
    have h5 : 1 * 1 ≤ u * p 7 x := Int.mul_le_mul (by omega) hx (by omega) (by omega)
    omega
theorem Fq_b {p : zP} (hp : WP p) {l : Int → Int} (hl : WL l) {x u : Int} (hu0 : -1 ≤ u) (hu : u ≤ 1000) (h0 : 0 ≤ x) (h9 : x < 9) {t : Int} (t1 : 1 ≤ t) (t2 : t ≤ 200) : 0 ≤ Fq p l x u t ∧ Fq p l x u t ≤ 100000 := by
  have h2 := wq_b hp hl x t1 t2
  have h3 := qc_b hp hl (j := x) h0 h9 t1
  have h6 := h3.2 t2
  have h4 := (hp.2.1 x h0 h9).2.1
  unfold Fq
  by_cases q : u = -1
  · rw [if_pos q]
    have h5 := mul_b (show 0 ≤ qc p l x t by omega) h6 h4.1 h4.2 (by omega) (by omega)
    omega
  · rw [if_neg q]
    have h5 := mul_b (show 0 ≤ u by omega) hu h4.1 h4.2 (by omega) (by omega)
    omega
theorem Fq_s {p : zP} {l : Int → Int} {x u : Int} (hu : 0 ≤ u) (t : Int) : Fq p l x (u + 1) t = Fq p l x u t + p 7 x := by
  unfold Fq
  rw [if_neg (by omega), if_neg (by omega), Int.add_mul]
  omega
theorem Fq_w {p : zP} (hp : WP p) {l : Int → Int} (hl : WL l) {x : Int} (h0 : 0 ≤ x) (h9 : x < 9) (ht : th p x) : LI (Fq p l x 1) (p 7 x) := by
  have hx := hp.2.2 x h0 h9 ht
  have e : ∀ t : Int, Fq p l x 1 t = p 7 x + wq p l x t := fun t => by
    unfold Fq
    rw [if_neg (by omega), Int.one_mul]
  refine ⟨hx, ?_, fun s a b c => ?_⟩
  · rw [e]
    have h2 := wq_m hp hl x hx (Int.le_refl _)
    omega
  · rw [e] at c
    have h2 := wq_m hp hl x a (Int.le_refl _)
    omega
set_option maxHeartbeats 4000000 in
theorem c_X0_quickComes {b : Nat} (hb : zAb b) {p : zP} {l : Int → Int} (hA : AP b σ p l) {y t : Int} (h0 : 0 ≤ y) (h9 : y < 9) (t1 : 1 ≤ t) (t2 : t ≤ 200) : YI 0 μX0_quickComes [.ref b, .int (zi y), .int (zi t)] σ (qc p l y t) σ := by
  refine YC.of2 (by decide) (Nat.le_of_ble_eq_true rfl) (fun d P hd hP => ?_)
  have e1 := hA.per (i := y / 3) (by omega) (by omega)
  have e2 := hA.late h0 h9
  have hT := hA.wp.per (i := y / 3) (by omega) (by omega)
  have hb1 := hA.wl.b h0 h9
  refine Y.aload_n dX0_quickComes_0 rfl ?_
  refine Y.getf dX0_quickComes_1 flX0_9 (obA hb) rfl ?_
  refine Y.iload_n dX0_quickComes_4 rfl ?_
  refine Y.iconst dX0_quickComes_5 ?_
  refine Y.idivp dX0_quickComes_6 (by omega) (by omega) (by omega) (by omega) ?_
  refine Y.iald dX0_quickComes_7 (iaA1 hb) (by omega) (by omega) ?_
  refine Y.istore_n dX0_quickComes_8 (by decide) rfl ?_
  refine Y.aload_n dX0_quickComes_9 rfl ?_
  refine Y.getf dX0_quickComes_10 flX0_15 (obA hb) rfl ?_
  refine Y.iload_n dX0_quickComes_13 rfl ?_
  refine Y.iald dX0_quickComes_14 (iaA2 hb) (by omega) (by omega) ?_
  refine Y.iload_n dX0_quickComes_15 rfl ?_
  refine Y.iadd dX0_quickComes_16 ?_
  refine Y.iload_n dX0_quickComes_17 rfl ?_
  refine Y.iadd dX0_quickComes_18 ?_
  refine Y.iconst dX0_quickComes_19 ?_
  refine Y.isub dX0_quickComes_20 ?_
  refine Y.iload_n dX0_quickComes_21 rfl ?_
  refine Y.idivp dX0_quickComes_22 (by omega) (by omega) (by omega) (by omega) ?_
  exact Y.iret dX0_quickComes_23 rfl (hP _ _ ⟨zrI (by rw [e2, e1]; rfl), rfl⟩)
set_option maxHeartbeats 4000000 in
theorem c_X0_quickNeeded {b : Nat} (hb : zAb b) {p : zP} {l : Int → Int} (hA : AP b σ p l) {x : Int} (hG : GP b σ p x) (h0 : 0 ≤ x) (h9 : x < 9) {u t : Int} (hu0 : -1 ≤ u) (hu : u ≤ 1000) (t1 : 1 ≤ t) (t2 : t ≤ 200) : YI 1 μX0_quickNeeded [.ref b, .int (zi x), .int (zi u), .int (zi t)] σ (Fq p l x u t) σ := by
  refine YC.of2 (by decide) (Nat.le_of_ble_eq_true rfl) (fun d P hd hP => ?_)
  have k15 : ∀ v : Int, v = (if u = -1 then qc p l x t else u) → Y d μX0_quickNeeded 15 [some (.ref b), some (.int (zi x)), some (.int (zi u)), some (.int (zi t)), none, none, none, none, none] [.int (zi v)] σ P := by
    intro v hv
    refine Y.istore dX0_quickNeeded_15 (by decide) rfl ?_
    refine Y.iload dX0_quickNeeded_17 rfl ?_
    refine Y.aload_n dX0_quickNeeded_19 rfl ?_
    refine Y.getf dX0_quickNeeded_20 flX0_45 (obA hb) rfl ?_
    refine Y.getf dX0_quickNeeded_23 flX0_98 ob1 rfl ?_
    refine Y.iconst dX0_quickNeeded_26 ?_
    refine Y.aald dX0_quickNeeded_27 ra8 (by decide) (by decide) (by decide) rfl ?_
    refine Y.iload_n dX0_quickNeeded_28 rfl ?_
    refine Y.iald dX0_quickNeeded_29 ia10 (by omega) (by omega) ?_
    refine Y.imul dX0_quickNeeded_30 ?_
    refine Y.istore dX0_quickNeeded_31 (by decide) rfl ?_
    refine Y.iconst dX0_quickNeeded_33 ?_
    refine Y.istore dX0_quickNeeded_34 (by decide) rfl ?_
    refine zw2 (fun S i => (0 ≤ i ∧ i ≤ 3 ∧ S = (if u = -1 then qc p l x t else u) * p 7 x + sm (fun i => sm (fun j => zb (riv p x j) * gq p l t j) (i * 3) 3) 0 (i - 0).toNat)) (fun S i => Y d μX0_quickNeeded 36 [some (.ref b), some (.int (zi x)), some (.int (zi u)), some (.int (zi t)), some (.int (zi v)), some (.int (zi S)), some (.int (zi i)), none, none] [] σ P) (fun S i => (3 - i).toNat) ?_ _ _ ⟨by omega, by omega, by rw [sm_0, Int.add_zero, ← hv, hA.cost]⟩
    intro S i hI ih
    obtain ⟨j1, j2, j3⟩ := hI
    refine Y.iload dX0_quickNeeded_36 rfl ?_
    refine Y.iconst dX0_quickNeeded_38 ?_
    refine Y.icmp_ge 113 dX0_quickNeeded_39 (by decide) (by omega) (by omega) (fun h_39 => ?_) (fun h_39 => ?_)
    · refine Y.iload dX0_quickNeeded_113 rfl ?_
      exact Y.iret dX0_quickNeeded_115 rfl (hP _ _ ⟨zrI (by unfold Fq wq; rw [j3, show i = 3 by omega, sm_3]; rfl), rfl⟩)
    · refine Y.iconst dX0_quickNeeded_42 ?_
      refine Y.istore dX0_quickNeeded_43 (by decide) rfl ?_
      have hrn := rn_b p x i
      have hg := hG i (by omega) (by omega)
      refine zw2 (fun S n => (0 ≤ n ∧ n ≤ rn p x i ∧ S = (if u = -1 then qc p l x t else u) * p 7 x + sm (fun i => sm (fun j => zb (riv p x j) * gq p l t j) (i * 3) 3) 0 (i - 0).toNat + sm (fun n => gq p l t (i * 3 + rl p x i n)) 0 (n - 0).toNat)) (fun S n => Y d μX0_quickNeeded 45 [some (.ref b), some (.int (zi x)), some (.int (zi u)), some (.int (zi t)), some (.int (zi v)), some (.int (zi S)), some (.int (zi i)), some (.int (zi n)), none] [] σ P) (fun S n => (rn p x i - n).toNat) ?_ _ _ ⟨by omega, by omega, by rw [sm_0, Int.add_zero]; exact j3⟩
      intro S n hI ih2
      obtain ⟨m1, m2, m3⟩ := hI
      refine Y.iload dX0_quickNeeded_45 rfl ?_
      refine Y.aload_n dX0_quickNeeded_47 rfl ?_
      refine Y.getf dX0_quickNeeded_48 flX0_39 (obA hb) rfl ?_
      refine Y.iload dX0_quickNeeded_51 rfl ?_
      refine Y.iald dX0_quickNeeded_53 (iaA10 hb) (by omega) (by omega) ?_
      refine Y.icmp_ge 107 dX0_quickNeeded_54 (by decide) (by omega) (by omega) (fun h_54 => ?_) (fun h_54 => ?_)
      · refine Y.iinc dX0_quickNeeded_107 rfl (by decide) rfl ?_
        refine Y.goto 36 dX0_quickNeeded_110 (by decide) ?_
        refine Y.sub (zs_s (zs_s (zs_s (zs_s (zs_s (zs_s (zs_s (zs_n (zs_n zs_0))))))))) (ih _ _ ⟨by omega, by omega, ?_⟩ (by omega))
        rw [sm_s (by omega), m3, show n = rn p x i by omega, Int.sub_zero (rn p x i), rl_sm (gq p l t)]
        omega
      · have hr := rl_r (p := p) (x := x) (i := i) (n := n) (by omega) (by omega)
        have hr3 := hg.2 n (by omega) (by omega)
        refine Y.iload dX0_quickNeeded_57 rfl ?_
        refine Y.iconst dX0_quickNeeded_59 ?_
        refine Y.imul dX0_quickNeeded_60 ?_
        refine Y.aload_n dX0_quickNeeded_61 rfl ?_
        refine Y.getf dX0_quickNeeded_62 flX0_36 (obA hb) rfl ?_
        refine Y.iload dX0_quickNeeded_65 rfl ?_
        refine Y.iconst dX0_quickNeeded_67 ?_
        refine Y.imul dX0_quickNeeded_68 ?_
        refine Y.iload dX0_quickNeeded_69 rfl ?_
        refine Y.iadd dX0_quickNeeded_71 ?_
        refine Y.iald dX0_quickNeeded_72 (iaA9 hb) (by omega) (by omega) ?_
        refine Y.iadd dX0_quickNeeded_73 ?_
        refine Y.istore dX0_quickNeeded_74 (by decide) rfl ?_
        refine Y.iload dX0_quickNeeded_76 rfl ?_
        refine Y.aload_n dX0_quickNeeded_78 rfl ?_
        refine Y.iload dX0_quickNeeded_79 rfl ?_
        refine Y.iload_n dX0_quickNeeded_81 rfl ?_
        refine Y.cVI dX0_quickNeeded_82 mkX0_quickComes csX0_105 (obA hb) ⟨_, rfl, rfl⟩ (c_X0_quickComes hb hA (by omega) (by omega) (by omega) (by omega)) (by omega) rfl rfl (Nat.le_of_ble_eq_true rfl) ?_
        refine Y.aload_n dX0_quickNeeded_85 rfl ?_
        refine Y.getf dX0_quickNeeded_86 flX0_45 (obA hb) rfl ?_
        refine Y.getf dX0_quickNeeded_89 flX0_98 ob1 rfl ?_
        refine Y.iconst dX0_quickNeeded_92 ?_
        refine Y.aald dX0_quickNeeded_93 ra8 (by decide) (by decide) (by decide) rfl ?_
        refine Y.iload dX0_quickNeeded_94 rfl ?_
        refine Y.iald dX0_quickNeeded_96 ia10 (by omega) (by omega) ?_
        refine Y.imul dX0_quickNeeded_97 ?_
        refine Y.iadd dX0_quickNeeded_98 ?_
        refine Y.istore dX0_quickNeeded_99 (by decide) rfl ?_
        refine Y.iinc dX0_quickNeeded_101 rfl (by decide) rfl ?_
        refine Y.goto 45 dX0_quickNeeded_104 (by decide) ?_
        refine Y.sub (zs_s (zs_s (zs_s (zs_s (zs_s (zs_s (zs_s (zs_s (zs_n zs_0))))))))) (ih2 _ _ ⟨by omega, by omega, ?_⟩ (by omega))
        rw [sm_s (by omega), m3, hr3, hA.cost]
        unfold gq
        omega
  refine Y.iload_n dX0_quickNeeded_0 rfl ?_
  refine Y.iconst dX0_quickNeeded_1 ?_
  refine Y.icmp_ne 14 dX0_quickNeeded_2 (by decide) (by omega) (by omega) (fun h_2 => ?_) (fun h_2 => ?_)
  · refine Y.iload_n dX0_quickNeeded_14 rfl ?_
    exact k15 _ (by first | rw [if_pos (by assumption)] | rw [if_neg (by assumption)])
  · refine Y.aload_n dX0_quickNeeded_5 rfl ?_
    refine Y.iload_n dX0_quickNeeded_6 rfl ?_
    refine Y.iload_n dX0_quickNeeded_7 rfl ?_
    refine Y.cVI dX0_quickNeeded_8 mkX0_quickComes csX0_105 (obA hb) ⟨_, rfl, rfl⟩ (c_X0_quickComes hb hA (by omega) (by omega) (by omega) (by omega)) (by omega) rfl rfl (Nat.le_of_ble_eq_true rfl) ?_
    refine Y.goto 15 dX0_quickNeeded_11 (by decide) ?_
    exact k15 _ (by first | rw [if_pos (by assumption)] | rw [if_neg (by assumption)])
set_option maxHeartbeats 4000000 in
theorem c_X0_leastTime {b : Nat} (hb : zAb b) {p : zP} {l : Int → Int} (hA : AP b σ p l) (hP9 : PP b σ p l) {x : Int} (hG : GP b σ p x) {C : Int → Prop} (hC : CC b σ p x C) (hcb : ∀ i : Int, 0 ≤ i → i < 3 → zB (σ.1 (b + 11) i)) {k u a : Int} (ho : own p x (x / 3 * 3 + k)) (k0 : 0 ≤ k) (k3 : k < 3) (hk : th p (x / 3 * 3 + k)) (hu0 : -1 ≤ u) (hu : u ≤ 1000) (ha : a ≤ 1000) (hI0 : LI (Fn p l C x (x / 3 * 3 + k) u) a) : YI 3 μX0_leastTime [.ref b, .int (zi x), .int (zi k), .int (zi u), .int (zi a)] σ (lfp (Fn p l C x (x / 3 * 3 + k) u)) σ := by
  refine YC.of2 (by decide) (Nat.le_of_ble_eq_true rfl) (fun d P hd hP => ?_)
  have hMF : MF (Fn p l C x (x / 3 * 3 + k) u) := Fn_m hA.wp hA.wl C u ho
  refine Y.iload dX0_leastTime_0 rfl ?_
  refine Y.istore dX0_leastTime_2 (by decide) rfl ?_
  refine Y.iconst dX0_leastTime_4 ?_
  refine Y.istore dX0_leastTime_5 (by decide) rfl ?_
  refine zw2 (fun t i => (0 ≤ i ∧ i ≤ 201 ∧ i + 1 ≤ t ∧ t ≤ 100000 ∧ LI (Fn p l C x (x / 3 * 3 + k) u) t)) (fun t i => Y d μX0_leastTime 7 [some (.ref b), some (.int (zi x)), some (.int (zi k)), some (.int (zi u)), some (.int (zi a)), some (.int (zi t)), some (.int (zi i)), none] [] σ P) (fun t i => (201 - i).toNat) ?_ _ _ ⟨by omega, by omega, by have := hI0.1; omega, by omega, hI0⟩
  intro t i hI ih
  obtain ⟨j1, j2, j3, j4, j5⟩ := hI
  refine Y.iload dX0_leastTime_7 rfl ?_
  refine Y.sipush dX0_leastTime_9 (by decide +kernel) ?_
  refine Y.icmp_gt 70 dX0_leastTime_12 (by decide) (by omega) (by omega) (fun h_12 => ?_) (fun h_12 => ?_)
  · refine Y.iconst dX0_leastTime_70 ?_
    exact Y.iret dX0_leastTime_71 rfl (hP _ _ ⟨zrI (by first | exact (j5.out (by omega)).symm | exact (j5.hit (by omega) (by omega)).symm), rfl⟩)
  · refine Y.iload dX0_leastTime_15 rfl ?_
    refine Y.sipush dX0_leastTime_17 (by decide +kernel) ?_
    refine Y.icmp_gt 70 dX0_leastTime_20 (by decide) (by omega) (by omega) (fun h_20 => ?_) (fun h_20 => ?_)
    · refine Y.iconst dX0_leastTime_70 ?_
      exact Y.iret dX0_leastTime_71 rfl (hP _ _ ⟨zrI (by first | exact (j5.out (by omega)).symm | exact (j5.hit (by omega) (by omega)).symm), rfl⟩)
    · have hB := Fn_b hA.wp hA.wl C (x := x) (k := x / 3 * 3 + k) hu0 hu ho.1 ho.2.1 (by have := ho.1; have := ho.2.1; omega) (by have := ho.1; have := ho.2.1; omega) (t := t) (by omega) (by omega)
      refine Y.iload_n dX0_leastTime_23 rfl ?_
      refine Y.iconst dX0_leastTime_24 ?_
      refine Y.icmp_ne 39 dX0_leastTime_25 (by decide) (by omega) (by omega) (fun h_25 => ?_) (fun h_25 => ?_)
      rotate_left
      · exfalso; omega
      refine Y.aload_n dX0_leastTime_39 rfl ?_
      refine Y.iload_n dX0_leastTime_40 rfl ?_
      refine Y.iload_n dX0_leastTime_41 rfl ?_
      refine Y.iload_n dX0_leastTime_42 rfl ?_
      refine Y.iload dX0_leastTime_43 rfl ?_
      refine Y.cVI dX0_leastTime_45 mkX0_needed csX0_146 (obA hb) ⟨_, rfl, rfl⟩ (c_X0_needed hb hA hP9 hG hC ho.1 ho.2.1 ho.2.2.1 hcb k0 k3 hk (by omega) (by omega) (by omega) (by omega)) (by omega) rfl rfl (Nat.le_of_ble_eq_true rfl) ?_
      refine Y.istore dX0_leastTime_48 (by decide) rfl ?_
      refine Y.iload dX0_leastTime_50 rfl ?_
      refine Y.iload dX0_leastTime_52 rfl ?_
      refine Y.icmp_ne 60 dX0_leastTime_54 (by decide) (by omega) (by omega) (fun h_54 => ?_) (fun h_54 => ?_)
      · refine Y.iload dX0_leastTime_60 rfl ?_
        refine Y.istore dX0_leastTime_62 (by decide) rfl ?_
        refine Y.iinc dX0_leastTime_64 rfl (by decide) rfl ?_
        refine Y.goto 7 dX0_leastTime_67 (by decide) ?_
        have hst := j5.step hMF
        have hgr := j5.2.1
        exact Y.sub (zs_s (zs_s (zs_s (zs_s (zs_s (zs_s (zs_s (zs_n zs_0)))))))) (ih _ _ ⟨by omega, by omega, by omega, by omega, hst⟩ (by omega))
      · refine Y.iload dX0_leastTime_57 rfl ?_
        exact Y.iret dX0_leastTime_59 rfl (hP _ _ ⟨zrI (by first | exact (j5.out (by omega)).symm | exact (j5.hit (by omega) (by omega)).symm), rfl⟩)
set_option maxHeartbeats 4000000 in
theorem c_X0_leastTimeQ {b : Nat} (hb : zAb b) {p : zP} {l : Int → Int} (hA : AP b σ p l) {x : Int} (hG : GP b σ p x) (h0 : 0 ≤ x) (h9 : x < 9) {u a : Int} (hu0 : -1 ≤ u) (hu : u ≤ 1000) (ha : a ≤ 1000) (hI0 : LI (Fq p l x u) a) : YI 3 μX0_leastTime [.ref b, .int (zi x), .int (zi (-1)), .int (zi u), .int (zi a)] σ (lfp (Fq p l x u)) σ := by
  refine YC.of2 (by decide) (Nat.le_of_ble_eq_true rfl) (fun d P hd hP => ?_)
  have hMF : MF (Fq p l x u) := Fq_m hA.wp hA.wl u h0 h9
  refine Y.iload dX0_leastTime_0 rfl ?_
  refine Y.istore dX0_leastTime_2 (by decide) rfl ?_
  refine Y.iconst dX0_leastTime_4 ?_
  refine Y.istore dX0_leastTime_5 (by decide) rfl ?_
  refine zw2 (fun t i => (0 ≤ i ∧ i ≤ 201 ∧ i + 1 ≤ t ∧ t ≤ 100000 ∧ LI (Fq p l x u) t)) (fun t i => Y d μX0_leastTime 7 [some (.ref b), some (.int (zi x)), some (.int (zi (-1))), some (.int (zi u)), some (.int (zi a)), some (.int (zi t)), some (.int (zi i)), none] [] σ P) (fun t i => (201 - i).toNat) ?_ _ _ ⟨by omega, by omega, by have := hI0.1; omega, by omega, hI0⟩
  intro t i hI ih
  obtain ⟨j1, j2, j3, j4, j5⟩ := hI
  refine Y.iload dX0_leastTime_7 rfl ?_
  refine Y.sipush dX0_leastTime_9 (by decide +kernel) ?_
  refine Y.icmp_gt 70 dX0_leastTime_12 (by decide) (by omega) (by omega) (fun h_12 => ?_) (fun h_12 => ?_)
  · refine Y.iconst dX0_leastTime_70 ?_
    exact Y.iret dX0_leastTime_71 rfl (hP _ _ ⟨zrI (by first | exact (j5.out (by omega)).symm | exact (j5.hit (by omega) (by omega)).symm), rfl⟩)
  · refine Y.iload dX0_leastTime_15 rfl ?_
    refine Y.sipush dX0_leastTime_17 (by decide +kernel) ?_
    refine Y.icmp_gt 70 dX0_leastTime_20 (by decide) (by omega) (by omega) (fun h_20 => ?_) (fun h_20 => ?_)
    · refine Y.iconst dX0_leastTime_70 ?_
      exact Y.iret dX0_leastTime_71 rfl (hP _ _ ⟨zrI (by first | exact (j5.out (by omega)).symm | exact (j5.hit (by omega) (by omega)).symm), rfl⟩)
    · have hB := Fq_b hA.wp hA.wl hu0 hu h0 h9 (t := t) (by omega) (by omega)
      refine Y.iload_n dX0_leastTime_23 rfl ?_
      refine Y.iconst dX0_leastTime_24 ?_
      refine Y.icmp_ne 39 dX0_leastTime_25 (by decide) (by omega) (by omega) (fun h_25 => ?_) (fun h_25 => ?_)
      · exfalso; omega
      refine Y.aload_n dX0_leastTime_28 rfl ?_
      refine Y.iload_n dX0_leastTime_29 rfl ?_
      refine Y.iload_n dX0_leastTime_30 rfl ?_
      refine Y.iload dX0_leastTime_31 rfl ?_
      refine Y.cVI dX0_leastTime_33 mkX0_quickNeeded csX0_143 (obA hb) ⟨_, rfl, rfl⟩ (c_X0_quickNeeded hb hA hG h0 h9 (by omega) (by omega) (by omega) (by omega)) (by omega) rfl rfl (Nat.le_of_ble_eq_true rfl) ?_
      refine Y.goto 48 dX0_leastTime_36 (by decide) ?_
      refine Y.istore dX0_leastTime_48 (by decide) rfl ?_
      refine Y.iload dX0_leastTime_50 rfl ?_
      refine Y.iload dX0_leastTime_52 rfl ?_
      refine Y.icmp_ne 60 dX0_leastTime_54 (by decide) (by omega) (by omega) (fun h_54 => ?_) (fun h_54 => ?_)
      · refine Y.iload dX0_leastTime_60 rfl ?_
        refine Y.istore dX0_leastTime_62 (by decide) rfl ?_
        refine Y.iinc dX0_leastTime_64 rfl (by decide) rfl ?_
        refine Y.goto 7 dX0_leastTime_67 (by decide) ?_
        have hst := j5.step hMF
        have hgr := j5.2.1
        exact Y.sub (zs_s (zs_s (zs_s (zs_s (zs_s (zs_s (zs_s (zs_n zs_0)))))))) (ih _ _ ⟨by omega, by omega, by omega, by omega, hst⟩ (by omega))
      · refine Y.iload dX0_leastTime_57 rfl ?_
        exact Y.iret dX0_leastTime_59 rfl (hP _ _ ⟨zrI (by first | exact (j5.out (by omega)).symm | exact (j5.hit (by omega) (by omega)).symm), rfl⟩)
end ZG2
