section ZGb
variable {σ : zS}
noncomputable def qq (p : zP) (l : Int → Int) (x : Int) : Nat → Int → Int → Option Int
  | 0, _, m => some m
  | n + 1, q, m => if lfp (Fq p l x (q + 1)) = -1 then none else qq p l x n (q + 1) (max m (lfp (Fq p l x (q + 1)) - p 0 (x / 3) * q + l x + ear p x))
noncomputable def bq (p : zP) (l : Int → Int) (x : Int) : Int := lfp (Fq p l x (-1))
noncomputable def qkS (p : zP) (l : Int → Int) (x : Int) : Int := if bq p l x = -1 then -1 else (qq p l x (qc p l x (bq p l x) - 0).toNat 0 (-1)).getD (-1)
noncomputable def qckA (p : zP) (x : Int) : Int := sv p (fun _ l => qkS p l x)
theorem qq_1 {p : zP} {l : Int → Int} {x q N m : Int} (h : q < N) : qq p l x (N - q).toNat q m = if lfp (Fq p l x (q + 1)) = -1 then none else qq p l x (N - (q + 1)).toNat (q + 1) (max m (lfp (Fq p l x (q + 1)) - p 0 (x / 3) * q + l x + ear p x)) := by
  rw [show (N - q).toNat = (N - (q + 1)).toNat + 1 by omega]
  rfl
theorem qq_0 {p : zP} {l : Int → Int} {x q N m : Int} (h : N ≤ q) : qq p l x (N - q).toNat q m = some m := by
  rw [show (N - q).toNat = 0 by omega]
  rfl
set_option maxHeartbeats 4000000 in
theorem c_X0_quickOf {b : Nat} (hb : zAb b) {p : zP} (ec : cP σ = p) (hp : WP p) (hS : SA b σ p) {x : Int} (h0 : 0 ≤ x) (h9 : x < 9) (ht : th p x) : YC 4 μX0_quickOf [.ref b, .int (zi x)] σ (fun r s => r = some (.int (zi (qckA p x))) ∧ zFQ b σ s) := by
  refine YC.of2 (by decide) (Nat.le_of_ble_eq_true rfl) (fun d P hd hP => ?_)
  rcases hS with ⟨h, e⟩ | ⟨r, l, h, e, hA, hPP, hBV⟩
  · refine Y.aload_n dX0_quickOf_0 rfl ?_
    refine Y.getf dX0_quickOf_1 flX0_49 (obA hb) rfl ?_
    refine Y.iconst dX0_quickOf_4 ?_
    refine Y.icmp_ne 10 dX0_quickOf_5 (by decide) (by omega) (by omega) (fun h_5 => ?_) (fun h_5 => ?_)
    · exfalso; omega
    refine Y.iconst dX0_quickOf_8 ?_
    exact Y.iret dX0_quickOf_9 rfl (hP _ _ ⟨zrI (by rw [qckA, sv_n h]), zFQ.rf⟩)
  · have hr : WL l ∧ bA p l ∧ 1 ≤ r ∧ r ≤ 20 := SR_b hp h
    have hl := hr.1
    refine Y.aload_n dX0_quickOf_0 rfl ?_
    refine Y.getf dX0_quickOf_1 flX0_49 (obA hb) rfl ?_
    refine Y.iconst dX0_quickOf_4 ?_
    refine Y.icmp_ne 10 dX0_quickOf_5 (by decide) (by omega) (by omega) (fun h_5 => ?_) (fun h_5 => ?_)
    rotate_left
    · exfalso; omega
    refine Y.aload_n dX0_quickOf_10 rfl ?_
    refine Y.iload_n dX0_quickOf_11 rfl ?_
    refine Y.callV dX0_quickOf_12 mkX0_gatherRivals csX0_81 (obA hb) ⟨_, rfl, rfl⟩ (c_X0_gatherRivals hb ec hp h0 h9) (by omega) rfl rfl (Nat.le_of_ble_eq_true rfl) (fun r_12 s_12 p_12 => ?_)
    obtain ⟨rfl, f_12, g_12, a_12⟩ := p_12
    have hb' : b = 14 ∨ b = 26 := hb
    have hA2 : AP b s_12 p l := hA.fr (fun c hc => f_12.2 c (by omega) (by omega) (by omega))
    have ec2 := hA2.1
    have hc1 := hA2.cost x
    have hT1 := hA2.per (i := x / 3) (by omega) (by omega)
    have hTT := hp.per (i := x / 3) (by omega) (by omega)
    have hcc := (hp.2.1 x h0 h9).2.1
    have hlx := hA2.late h0 h9
    have hll := hl.b h0 h9
    have hee := ear_b hp h0 h9
    refine Y.aload_n dX0_quickOf_15 rfl ?_
    refine Y.getf dX0_quickOf_16 flX0_45 (obA hb) rfl ?_
    refine Y.getf dX0_quickOf_19 flX0_98 ob1 rfl ?_
    refine Y.iconst dX0_quickOf_22 ?_
    refine Y.aald dX0_quickOf_23 ra8 (by decide) (by decide) (by decide) rfl ?_
    refine Y.iload_n dX0_quickOf_24 rfl ?_
    refine Y.iald dX0_quickOf_25 ia10 (by omega) (by omega) ?_
    refine Y.istore_n dX0_quickOf_26 (by decide) rfl ?_
    refine Y.aload_n dX0_quickOf_27 rfl ?_
    refine Y.getf dX0_quickOf_28 flX0_9 (obA hb) rfl ?_
    refine Y.iload_n dX0_quickOf_31 rfl ?_
    refine Y.iconst dX0_quickOf_32 ?_
    refine Y.idivp dX0_quickOf_33 (by omega) (by omega) (by omega) (by omega) ?_
    refine Y.iald dX0_quickOf_34 (iaA1 hb) (by omega) (by omega) ?_
    refine Y.istore_n dX0_quickOf_35 (by decide) rfl ?_
    refine Y.aload_n dX0_quickOf_36 rfl ?_
    refine Y.iload_n dX0_quickOf_37 rfl ?_
    refine Y.iconst dX0_quickOf_38 ?_
    refine Y.iconst dX0_quickOf_39 ?_
    refine Y.iconst dX0_quickOf_40 ?_
    refine Y.cVI dX0_quickOf_41 mkX0_leastTime csX0_101 (obA hb) ⟨_, rfl, rfl⟩ (c_X0_leastTimeQ hb hA2 g_12 h0 h9 (by omega) (by omega) (by omega) (LI.one (Fq_1 hp hl (Or.inl rfl) h0 h9 ht (Int.le_refl 1)))) (by omega) rfl rfl (Nat.le_of_ble_eq_true rfl) ?_
    refine Y.istore dX0_quickOf_44 (by decide) rfl ?_
    refine Y.iload dX0_quickOf_46 rfl ?_
    refine Y.iconst dX0_quickOf_48 ?_
    have hlb0 := lfp_b (Fq p l x (-1))
    refine Y.icmp_ne 54 dX0_quickOf_49 (by decide) (by omega) (by omega) (fun h_49 => ?_) (fun h_49 => ?_)
    · refine Y.aload_n dX0_quickOf_54 rfl ?_
      refine Y.iload_n dX0_quickOf_55 rfl ?_
      refine Y.iload dX0_quickOf_56 rfl ?_
      refine Y.cVI dX0_quickOf_58 mkX0_quickComes csX0_105 (obA hb) ⟨_, rfl, rfl⟩ (c_X0_quickComes hb hA2 h0 h9 (by have := lfp_b (Fq p l x (-1)); omega) (by have := lfp_b (Fq p l x (-1)); omega)) (by omega) rfl rfl (Nat.le_of_ble_eq_true rfl) ?_
      refine Y.istore dX0_quickOf_61 (by decide) rfl ?_
      refine Y.iconst dX0_quickOf_63 ?_
      refine Y.istore dX0_quickOf_64 (by decide) rfl ?_
      refine Y.iconst dX0_quickOf_66 ?_
      refine Y.istore dX0_quickOf_67 (by decide) rfl ?_
      refine Y.iconst dX0_quickOf_69 ?_
      refine Y.istore dX0_quickOf_70 (by decide) rfl ?_
      rw [hT1]
      have hbq : 1 ≤ lfp (Fq p l x (-1)) ∧ lfp (Fq p l x (-1)) ≤ 200 := (lfp_b _).elim (fun q => absurd q (by omega)) id
      have hN := qc_b hp hl h0 h9 hbq.1
      have hN2 := hN.2 hbq.2
      refine zw3 (fun m e9 q => (0 ≤ q ∧ q ≤ (qc p l x (lfp (Fq p l x (-1)))) ∧ -1 ≤ m ∧ m ≤ 1000 ∧ 0 ≤ e9 ∧ e9 ≤ 200 ∧ LI (Fq p l x (q + 1)) (e9 + p 7 x) ∧ (qq p l x ((qc p l x (lfp (Fq p l x (-1)))) - q).toNat q m).getD (-1) = qkS p l x)) (fun m e9 q => Y d μX0_quickOf 72 [some (.ref b), some (.int (zi x)), some (.int (zi (s_12.1 10 x))), some (.int (zi (p 0 (x / 3)))), some (.int (zi (lfp (Fq p l x (-1))))), some (.int (zi (qc p l x (lfp (Fq p l x (-1)))))), some (.int (zi m)), some (.int (zi e9)), some (.int (zi q))] [] s_12 P) (fun m e9 q => ((qc p l x (lfp (Fq p l x (-1)))) - q).toNat) ?_ _ _ _ ⟨by omega, by omega, by omega, by omega, by omega, by omega, by rw [Int.zero_add, Int.zero_add]; exact Fq_w hp hl h0 h9 ht, by unfold qkS bq; rw [if_neg (by omega)]⟩
      intro m e9 q hI ih
      obtain ⟨m1, m2, m3, m4, m5, m6, m7, m8⟩ := hI
      refine Y.iload dX0_quickOf_72 rfl ?_
      refine Y.iload dX0_quickOf_74 rfl ?_
      refine Y.icmp_ge 139 dX0_quickOf_76 (by decide) (by omega) (by omega) (fun h_76 => ?_) (fun h_76 => ?_)
      · refine Y.iload dX0_quickOf_139 rfl ?_
        exact Y.iret dX0_quickOf_141 rfl (hP _ _ ⟨zrI (by rw [qckA, sv_s h, ← m8, qq_0 (by omega)]; rfl), zFQ.rf.tg f_12⟩)
      · refine Y.aload_n dX0_quickOf_79 rfl ?_
        refine Y.iload_n dX0_quickOf_80 rfl ?_
        refine Y.iconst dX0_quickOf_81 ?_
        refine Y.iload dX0_quickOf_82 rfl ?_
        refine Y.iconst dX0_quickOf_84 ?_
        refine Y.iadd dX0_quickOf_85 ?_
        refine Y.iload dX0_quickOf_86 rfl ?_
        refine Y.iload_n dX0_quickOf_88 rfl ?_
        refine Y.iadd dX0_quickOf_89 ?_
        refine Y.cVI dX0_quickOf_90 mkX0_leastTime csX0_101 (obA hb) ⟨_, rfl, rfl⟩ (c_X0_leastTimeQ hb hA2 g_12 h0 h9 (by omega) (by omega) (by omega) (by rw [hc1]; exact m7)) (by omega) rfl rfl (Nat.le_of_ble_eq_true rfl) ?_
        refine Y.istore dX0_quickOf_93 (by decide) rfl ?_
        refine Y.iload dX0_quickOf_95 rfl ?_
        refine Y.iconst dX0_quickOf_97 ?_
        have hlb1 := lfp_b (Fq p l x (q + 1))
        refine Y.icmp_ne 103 dX0_quickOf_98 (by decide) (by omega) (by omega) (fun h_98 => ?_) (fun h_98 => ?_)
        · have he : (lfp (Fq p l x (q + 1))) ≠ -1 := by omega
          have heb : 1 ≤ (lfp (Fq p l x (q + 1))) ∧ (lfp (Fq p l x (q + 1))) ≤ 200 := (lfp_b _).elim (fun q => absurd q he) id
          have hwm := LI.warm (c := p 7 x) (G := Fq p l x (q + 1 + 1)) (Fq_m hp hl (q + 1) h0 h9) (Fq_1 hp hl (Or.inr (by omega)) h0 h9 ht (Int.le_refl 1)) (by omega) (Fq_s (by omega)) he
          rw [qq_1 (by omega), if_neg he] at m8
          have hmul : 0 ≤ p 0 (x / 3) * q ∧ p 0 (x / 3) * q ≤ 100 * 145 := by
            constructor
            · exact Int.mul_nonneg (by omega) m1
            · exact Int.mul_le_mul (by omega) (by omega) m1 (by omega)
          refine Y.iload dX0_quickOf_103 rfl ?_
          refine Y.iload dX0_quickOf_105 rfl ?_
          refine Y.iload_n dX0_quickOf_107 rfl ?_
          refine Y.iload dX0_quickOf_108 rfl ?_
          refine Y.imul dX0_quickOf_110 ?_
          refine Y.isub dX0_quickOf_111 ?_
          refine Y.aload_n dX0_quickOf_112 rfl ?_
          refine Y.getf dX0_quickOf_113 flX0_15 (obA hb) rfl ?_
          refine Y.iload_n dX0_quickOf_116 rfl ?_
          refine Y.iald dX0_quickOf_117 (iaA2 hb) (by omega) (by omega) ?_
          refine Y.iadd dX0_quickOf_118 ?_
          refine Y.aload_n dX0_quickOf_119 rfl ?_
          refine Y.getf dX0_quickOf_120 flX0_45 (obA hb) rfl ?_
          refine Y.iload_n dX0_quickOf_123 rfl ?_
          refine Y.cVI dX0_quickOf_124 mkX2_earliestOf csX0_108 ob1 ⟨_, rfl, rfl⟩ (k_X2_earliestOf ec2 hp h0 h9) (by omega) rfl rfl (Nat.le_of_ble_eq_true rfl) ?_
          refine Y.iadd dX0_quickOf_127 ?_
          rw [hlx]
          refine Y.mmax dX0_quickOf_128 csX0_92 (by omega) (Nat.le_of_ble_eq_true rfl) (by omega) (by omega) ?_
          refine Y.istore dX0_quickOf_131 (by decide) rfl ?_
          refine Y.iinc dX0_quickOf_133 rfl (by decide) rfl ?_
          refine Y.goto 72 dX0_quickOf_136 (by decide) ?_
          refine ih _ _ _ ⟨by omega, by omega, by omega, by omega, by omega, by omega, hwm, ?_⟩ (by omega)
          exact m8
        · refine Y.iconst dX0_quickOf_101 ?_
          exact Y.iret dX0_quickOf_102 rfl (hP _ _ ⟨zrI (by rw [qckA, sv_s h, ← m8, qq_1 (by omega), if_pos (by omega)]; rfl), zFQ.rf.tg f_12⟩)
    · refine Y.iconst dX0_quickOf_52 ?_
      exact Y.iret dX0_quickOf_53 rfl (hP _ _ ⟨zrI (by rw [qckA, sv_s h]; unfold qkS bq; rw [if_pos (by omega)]), zFQ.rf.tg f_12⟩)
set_option maxHeartbeats 4000000 in
theorem c_X5_comesQuick {p : zP} {l : Int → Int} (hA : MA σ p l) {j t : Int} (j0 : 0 ≤ j) (j9 : j < 9) (t1 : 1 ≤ t) (t2 : t ≤ 200) : YI 1 μX5_comesQuick [.ref 67, .int (zi j), .int (zi t)] σ (qc p l j t) σ := by
  refine YC.of2 (by decide) (Nat.le_of_ble_eq_true rfl) (fun d P hd hP => ?_)
  have ec := hA.1
  have hp := hA.wp
  have hl := hA.wl
  have hT := hp.per (i := j / 3) (by omega) (by omega)
  have et := hA.per (j / 3)
  have elj := hA.late j0 j9
  have hb2 := hl.b j0 j9
  refine Y.aload_n dX5_comesQuick_0 rfl ?_
  refine Y.getf dX5_comesQuick_1 flX5_53 ob67 rfl ?_
  refine Y.iload_n dX5_comesQuick_4 rfl ?_
  refine Y.iald dX5_comesQuick_5 ia82 (by omega) (by omega) ?_
  refine Y.iload_n dX5_comesQuick_6 rfl ?_
  refine Y.iadd dX5_comesQuick_7 ?_
  refine Y.aload_n dX5_comesQuick_8 rfl ?_
  refine Y.getf dX5_comesQuick_9 flX5_23 ob67 rfl ?_
  refine Y.iload_n dX5_comesQuick_12 rfl ?_
  refine Y.iconst dX5_comesQuick_13 ?_
  refine Y.idivp dX5_comesQuick_14 (by omega) (by omega) (by omega) (by omega) ?_
  refine Y.iald dX5_comesQuick_15 ia72 (by omega) (by omega) ?_
  refine Y.cSI dX5_comesQuick_16 mkX5_up csX5_189 (c_X5_up (by omega) (by omega) (by omega) (by omega)) (by omega) rfl rfl (Nat.le_of_ble_eq_true rfl) ?_
  exact Y.iret dX5_comesQuick_19 rfl (hP _ _ ⟨zrI (by rw [if_neg (by omega), elj, et]; rfl), rfl⟩)
set_option maxHeartbeats 4000000 in
theorem c_X5_holdsQuick {p : zP} {l : Int → Int} (hA : MA σ p l) {x : Int} (h0 : 0 ≤ x) (h9 : x < 9) (ht : th p x) {q u : Int} (hq : (q = -1 ∧ u = -1) ∨ (0 ≤ q ∧ q ≤ 900 ∧ u = q + 1)) : YI 2 μX5_holdsQuick [.ref 67, .int (zi x), .int (zi q)] σ (lfp (Fq p l x u)) σ := by
  refine YC.of2 (by decide) (Nat.le_of_ble_eq_true rfl) (fun d P hd hP => ?_)
  have ec := hA.1
  have hp := hA.wp
  have hl := hA.wl
  have hMF : MF (Fq p l x u) := Fq_m hp hl u h0 h9
  refine Y.iconst dX5_holdsQuick_0 ?_
  refine Y.istore_n dX5_holdsQuick_1 (by decide) rfl ?_
  refine Y.iconst dX5_holdsQuick_2 ?_
  refine Y.istore dX5_holdsQuick_3 (by decide) rfl ?_
  refine zw2 (fun t n => (0 ≤ n ∧ n ≤ 202 ∧ n + 1 ≤ t ∧ t ≤ 100000 ∧ LI (Fq p l x u) t)) (fun t n => Y d μX5_holdsQuick 5 [some (.ref 67), some (.int (zi x)), some (.int (zi q)), some (.int (zi t)), some (.int (zi n)), none, none] [] σ P) (fun t n => (202 - n).toNat) ?_ _ _ ⟨by omega, by omega, by omega, by omega, LI.one (Fq_1 hp hl (by omega) h0 h9 ht (Int.le_refl 1))⟩
  intro t n hI ih
  obtain ⟨j1, j2, j3, j4, j5⟩ := hI
  refine Y.iload dX5_holdsQuick_5 rfl ?_
  refine Y.sipush dX5_holdsQuick_7 (by decide +kernel) ?_
  refine Y.icmp_ge 113 dX5_holdsQuick_10 (by decide) (by omega) (by omega) (fun h_10 => ?_) (fun h_10 => ?_)
  · refine Y.iconst dX5_holdsQuick_113 ?_
    exact Y.iret dX5_holdsQuick_114 rfl (hP _ _ ⟨zrI (by exact (j5.out (by omega)).symm), rfl⟩)
  · refine Y.iload_n dX5_holdsQuick_13 rfl ?_
    refine Y.sipush dX5_holdsQuick_14 (by decide +kernel) ?_
    refine Y.icmp_gt 113 dX5_holdsQuick_17 (by decide) (by omega) (by omega) (fun h_17 => ?_) (fun h_17 => ?_)
    · refine Y.iconst dX5_holdsQuick_113 ?_
      exact Y.iret dX5_holdsQuick_114 rfl (hP _ _ ⟨zrI (by exact (j5.out (by omega)).symm), rfl⟩)
    · have hB := Fq_b hp hl (x := x) (u := u) (by omega) (by omega) h0 h9 (t := t) (by omega) (by omega)
      have k44 : ∀ v : Int, v = (if u = -1 then qc p l x t else u) * p 7 x → Y d μX5_holdsQuick 44 [some (.ref 67), some (.int (zi x)), some (.int (zi q)), some (.int (zi t)), some (.int (zi n)), none, none] [.int (zi v)] σ P := by
        intro v hv
        refine Y.istore dX5_holdsQuick_44 (by decide) rfl ?_
        refine Y.iconst dX5_holdsQuick_46 ?_
        refine Y.istore dX5_holdsQuick_47 (by decide) rfl ?_
        refine zw2 (fun s j => (0 ≤ j ∧ j ≤ 9 ∧ s = (if u = -1 then qc p l x t else u) * p 7 x + sm (fun j => zb (riv p x j) * gq p l t j) 0 (j - 0).toNat)) (fun s j => Y d μX5_holdsQuick 49 [some (.ref 67), some (.int (zi x)), some (.int (zi q)), some (.int (zi t)), some (.int (zi n)), some (.int (zi s)), some (.int (zi j))] [] σ P) (fun s j => (9 - j).toNat) ?_ _ _ ⟨by omega, by omega, by rw [sm_0, Int.add_zero]; exact hv⟩
        intro s j hI ih2
        obtain ⟨k1, k2, k3⟩ := hI
        refine Y.iload dX5_holdsQuick_49 rfl ?_
        refine Y.bipush dX5_holdsQuick_51 (by decide +kernel) ?_
        refine Y.icmp_ge 96 dX5_holdsQuick_53 (by decide) (by omega) (by omega) (fun h_53 => ?_) (fun h_53 => ?_)
        · have hs : s = Fq p l x u t := by
            unfold Fq wq
            rw [k3, show j = 9 by omega]
            rfl
          refine Y.iload dX5_holdsQuick_96 rfl ?_
          refine Y.iload_n dX5_holdsQuick_98 rfl ?_
          refine Y.icmp_ne 104 dX5_holdsQuick_99 (by decide) (by omega) (by omega) (fun h_99 => ?_) (fun h_99 => ?_)
          · refine Y.iload dX5_holdsQuick_104 rfl ?_
            refine Y.istore_n dX5_holdsQuick_106 (by decide) rfl ?_
            refine Y.iinc dX5_holdsQuick_107 rfl (by decide) rfl ?_
            refine Y.goto 5 dX5_holdsQuick_110 (by decide) ?_
            have hst := j5.step hMF
            have hgr := j5.2.1
            rw [← hs] at hst hgr
            exact Y.sub (zs_s (zs_s (zs_s (zs_s (zs_s (zs_n (zs_n zs_0))))))) (ih _ _ ⟨by omega, by omega, by omega, by omega, hst⟩ (by omega))
          · refine Y.iload_n dX5_holdsQuick_102 rfl ?_
            exact Y.iret dX5_holdsQuick_103 rfl (hP _ _ ⟨zrI (by exact (j5.hit (by omega) (by omega)).symm), rfl⟩)
        · refine Y.iload dX5_holdsQuick_56 rfl ?_
          refine Y.aload_n dX5_holdsQuick_58 rfl ?_
          refine Y.iload_n dX5_holdsQuick_59 rfl ?_
          refine Y.iload dX5_holdsQuick_60 rfl ?_
          refine Y.cVI dX5_holdsQuick_62 mkX5_isRival csX5_163 ob67 ⟨_, rfl, rfl⟩ (k_X5_isRival ec hp (by omega) (by omega) (by omega) (by omega)) (by omega) rfl rfl (Nat.le_of_ble_eq_true rfl) ?_
          refine Y.ifz_eq 86 dX5_holdsQuick_65 (by decide) (fun h_65 => ?_) (fun h_65 => ?_)
          · refine Y.iconst dX5_holdsQuick_86 ?_
            refine Y.iadd dX5_holdsQuick_87 ?_
            refine Y.istore dX5_holdsQuick_88 (by decide) rfl ?_
            refine Y.iinc dX5_holdsQuick_90 rfl (by decide) rfl ?_
            refine Y.goto 49 dX5_holdsQuick_93 (by decide) ?_
            refine ih2 _ _ ⟨by omega, by omega, ?_⟩ (by omega)
            rw [sm_s (by omega), k3]
            first
              | (rw [zb_t (by assumption), Int.one_mul, hA.cost]; unfold gq; omega)
              | (rw [zb_f (by assumption), Int.zero_mul]; omega)
          · refine Y.aload_n dX5_holdsQuick_68 rfl ?_
            refine Y.iload dX5_holdsQuick_69 rfl ?_
            refine Y.iload_n dX5_holdsQuick_71 rfl ?_
            refine Y.cVI dX5_holdsQuick_72 mkX5_comesQuick csX5_263 ob67 ⟨_, rfl, rfl⟩ (c_X5_comesQuick hA (by omega) (by omega) (by omega) (by omega)) (by omega) rfl rfl (Nat.le_of_ble_eq_true rfl) ?_
            refine Y.aload_n dX5_holdsQuick_75 rfl ?_
            refine Y.getf dX5_holdsQuick_76 flX5_44 ob67 rfl ?_
            refine Y.iload dX5_holdsQuick_79 rfl ?_
            refine Y.iald dX5_holdsQuick_81 ia79 (by omega) (by omega) ?_
            refine Y.imul dX5_holdsQuick_82 ?_
            refine Y.goto 87 dX5_holdsQuick_83 (by decide) ?_
            refine Y.iadd dX5_holdsQuick_87 ?_
            refine Y.istore dX5_holdsQuick_88 (by decide) rfl ?_
            refine Y.iinc dX5_holdsQuick_90 rfl (by decide) rfl ?_
            refine Y.goto 49 dX5_holdsQuick_93 (by decide) ?_
            refine ih2 _ _ ⟨by omega, by omega, ?_⟩ (by omega)
            rw [sm_s (by omega), k3]
            first
              | (rw [zb_t (by assumption), Int.one_mul, hA.cost]; unfold gq; omega)
              | (rw [zb_f (by assumption), Int.zero_mul]; omega)
      refine Y.iload_n dX5_holdsQuick_20 rfl ?_
      refine Y.iconst dX5_holdsQuick_21 ?_
      refine Y.icmp_ne 34 dX5_holdsQuick_22 (by decide) (by omega) (by omega) (fun h_22 => ?_) (fun h_22 => ?_)
      · refine Y.iload_n dX5_holdsQuick_34 rfl ?_
        refine Y.iconst dX5_holdsQuick_35 ?_
        refine Y.iadd dX5_holdsQuick_36 ?_
        refine Y.aload_n dX5_holdsQuick_37 rfl ?_
        refine Y.getf dX5_holdsQuick_38 flX5_44 ob67 rfl ?_
        refine Y.iload_n dX5_holdsQuick_41 rfl ?_
        refine Y.iald dX5_holdsQuick_42 ia79 (by omega) (by omega) ?_
        refine Y.imul dX5_holdsQuick_43 ?_
        exact k44 _ (by rw [hA.cost]; first | rw [if_pos (by omega)] | rw [if_neg (by omega), show u = q + 1 by omega])
      · refine Y.aload_n dX5_holdsQuick_25 rfl ?_
        refine Y.iload_n dX5_holdsQuick_26 rfl ?_
        refine Y.iload_n dX5_holdsQuick_27 rfl ?_
        refine Y.cVI dX5_holdsQuick_28 mkX5_comesQuick csX5_263 ob67 ⟨_, rfl, rfl⟩ (c_X5_comesQuick hA (by omega) (by omega) (by omega) (by omega)) (by omega) rfl rfl (Nat.le_of_ble_eq_true rfl) ?_
        refine Y.goto 37 dX5_holdsQuick_31 (by decide) ?_
        refine Y.aload_n dX5_holdsQuick_37 rfl ?_
        refine Y.getf dX5_holdsQuick_38 flX5_44 ob67 rfl ?_
        refine Y.iload_n dX5_holdsQuick_41 rfl ?_
        refine Y.iald dX5_holdsQuick_42 ia79 (by omega) (by omega) ?_
        refine Y.imul dX5_holdsQuick_43 ?_
        exact k44 _ (by rw [hA.cost]; first | rw [if_pos (by omega)] | rw [if_neg (by omega), show u = q + 1 by omega])
set_option maxHeartbeats 2000000 in
theorem c_X5_quickBy {p : zP} (ec : mP σ = p) (hp : WP p) (hS : MS σ p) {x : Int} (h0 : 0 ≤ x) (h9 : x < 9) (ht : th p x) : YI 3 μX5_quickBy [.ref 67, .int (zi x)] σ (qckA p x) σ := by
  refine YC.of2 (by decide) (Nat.le_of_ble_eq_true rfl) (fun d P hd hP => ?_)
  rcases hS with ⟨h, e⟩ | ⟨r, l, h, e, e2, hA, hMV⟩
  · refine Y.aload_n dX5_quickBy_0 rfl ?_
    refine Y.getf dX5_quickBy_1 flX5_232 ob67 rfl ?_
    refine Y.if_eq 16 dX5_quickBy_4 (by decide) (by omega) (fun h_4 => ?_) (fun h_4 => ?_)
    rotate_left
    · exfalso; omega
    refine Y.iconst dX5_quickBy_16 ?_
    refine Y.istore_n dX5_quickBy_17 (by decide) rfl ?_
    refine Y.iload_n dX5_quickBy_18 rfl ?_
    refine Y.iconst dX5_quickBy_19 ?_
    refine Y.icmp_ne 25 dX5_quickBy_20 (by decide) (by omega) (by omega) (fun h_20 => ?_) (fun h_20 => ?_)
    · exfalso; omega
    refine Y.iconst dX5_quickBy_23 ?_
    exact Y.iret dX5_quickBy_24 rfl (hP _ _ ⟨zrI (by rw [qckA, sv_n h]), rfl⟩)
  · have hr : WL l ∧ bA p l ∧ 1 ≤ r ∧ r ≤ 20 := SR_b hp h
    have hl := hr.1
    have et := hA.per (x / 3)
    have hTT := hp.per (i := x / 3) (by omega) (by omega)
    have hlx := hA.late h0 h9
    have hll := hl.b h0 h9
    have hee := ear_b hp h0 h9
    refine Y.aload_n dX5_quickBy_0 rfl ?_
    refine Y.getf dX5_quickBy_1 flX5_232 ob67 rfl ?_
    refine Y.if_eq 16 dX5_quickBy_4 (by decide) (by omega) (fun h_4 => ?_) (fun h_4 => ?_)
    · exfalso; omega
    refine Y.aload_n dX5_quickBy_7 rfl ?_
    refine Y.iload_n dX5_quickBy_8 rfl ?_
    refine Y.iconst dX5_quickBy_9 ?_
    refine Y.cVI dX5_quickBy_10 mkX5_holdsQuick csX5_266 ob67 ⟨_, rfl, rfl⟩ (c_X5_holdsQuick hA h0 h9 ht (Or.inl ⟨rfl, rfl⟩)) (by omega) rfl rfl (Nat.le_of_ble_eq_true rfl) ?_
    refine Y.goto 17 dX5_quickBy_13 (by decide) ?_
    refine Y.istore_n dX5_quickBy_17 (by decide) rfl ?_
    refine Y.iload_n dX5_quickBy_18 rfl ?_
    refine Y.iconst dX5_quickBy_19 ?_
    have hlb0 := lfp_b (Fq p l x (-1))
    refine Y.icmp_ne 25 dX5_quickBy_20 (by decide) (by omega) (by omega) (fun h_20 => ?_) (fun h_20 => ?_)
    · refine Y.iconst dX5_quickBy_25 ?_
      refine Y.istore_n dX5_quickBy_26 (by decide) rfl ?_
      refine Y.aload_n dX5_quickBy_27 rfl ?_
      refine Y.iload_n dX5_quickBy_28 rfl ?_
      refine Y.iload_n dX5_quickBy_29 rfl ?_
      refine Y.cVI dX5_quickBy_30 mkX5_comesQuick csX5_263 ob67 ⟨_, rfl, rfl⟩ (c_X5_comesQuick hA (by omega) (by omega) (by have := lfp_b (Fq p l x (-1)); omega) (by have := lfp_b (Fq p l x (-1)); omega)) (by omega) rfl rfl (Nat.le_of_ble_eq_true rfl) ?_
      refine Y.istore dX5_quickBy_33 (by decide) rfl ?_
      refine Y.iconst dX5_quickBy_35 ?_
      refine Y.istore dX5_quickBy_36 (by decide) rfl ?_
      have hbq : 1 ≤ lfp (Fq p l x (-1)) ∧ lfp (Fq p l x (-1)) ≤ 200 := (lfp_b _).elim (fun q => absurd q (by omega)) id
      have hN := qc_b hp hl h0 h9 hbq.1
      have hN2 := hN.2 hbq.2
      refine zw2 (fun m q => (0 ≤ q ∧ q ≤ (qc p l x (lfp (Fq p l x (-1)))) ∧ -1 ≤ m ∧ m ≤ 1000 ∧ (qq p l x ((qc p l x (lfp (Fq p l x (-1)))) - q).toNat q m).getD (-1) = qkS p l x)) (fun m q => Y d μX5_quickBy 38 [some (.ref 67), some (.int (zi x)), some (.int (zi (lfp (Fq p l x (-1))))), some (.int (zi m)), some (.int (zi (qc p l x (lfp (Fq p l x (-1)))))), some (.int (zi q)), none] [] σ P) (fun m q => ((qc p l x (lfp (Fq p l x (-1)))) - q).toNat) ?_ _ _ ⟨by omega, by omega, by omega, by omega, by unfold qkS bq; rw [if_neg (by omega)]⟩
      intro m q hI ih
      obtain ⟨m1, m2, m3, m4, m8⟩ := hI
      refine Y.iload dX5_quickBy_38 rfl ?_
      refine Y.iload dX5_quickBy_40 rfl ?_
      refine Y.icmp_ge 100 dX5_quickBy_42 (by decide) (by omega) (by omega) (fun h_42 => ?_) (fun h_42 => ?_)
      · refine Y.iload_n dX5_quickBy_100 rfl ?_
        exact Y.iret dX5_quickBy_101 rfl (hP _ _ ⟨zrI (by rw [qckA, sv_s h, ← m8, qq_0 (by omega)]; rfl), rfl⟩)
      · refine Y.aload_n dX5_quickBy_45 rfl ?_
        refine Y.iload_n dX5_quickBy_46 rfl ?_
        refine Y.iload dX5_quickBy_47 rfl ?_
        refine Y.cVI dX5_quickBy_49 mkX5_holdsQuick csX5_266 ob67 ⟨_, rfl, rfl⟩ (c_X5_holdsQuick hA h0 h9 ht (Or.inr ⟨by omega, by omega, rfl⟩)) (by omega) rfl rfl (Nat.le_of_ble_eq_true rfl) ?_
        refine Y.istore dX5_quickBy_52 (by decide) rfl ?_
        refine Y.iload dX5_quickBy_54 rfl ?_
        refine Y.iconst dX5_quickBy_56 ?_
        have hlb1 := lfp_b (Fq p l x (q + 1))
        refine Y.icmp_ne 62 dX5_quickBy_57 (by decide) (by omega) (by omega) (fun h_57 => ?_) (fun h_57 => ?_)
        · have he : (lfp (Fq p l x (q + 1))) ≠ -1 := by omega
          have heb : 1 ≤ (lfp (Fq p l x (q + 1))) ∧ (lfp (Fq p l x (q + 1))) ≤ 200 := (lfp_b _).elim (fun q => absurd q he) id
          rw [qq_1 (by omega), if_neg he] at m8
          have hmul : 0 ≤ p 0 (x / 3) * q ∧ p 0 (x / 3) * q ≤ 100 * 145 := by
            constructor
            · exact Int.mul_nonneg (by omega) m1
            · exact Int.mul_le_mul (by omega) (by omega) m1 (by omega)
          refine Y.iload_n dX5_quickBy_62 rfl ?_
          refine Y.iload dX5_quickBy_63 rfl ?_
          refine Y.aload_n dX5_quickBy_65 rfl ?_
          refine Y.getf dX5_quickBy_66 flX5_23 ob67 rfl ?_
          refine Y.iload_n dX5_quickBy_69 rfl ?_
          refine Y.iconst dX5_quickBy_70 ?_
          refine Y.idivp dX5_quickBy_71 (by omega) (by omega) (by omega) (by omega) ?_
          refine Y.iald dX5_quickBy_72 ia72 (by omega) (by omega) ?_
          refine Y.iload dX5_quickBy_73 rfl ?_
          refine Y.imul dX5_quickBy_75 ?_
          refine Y.isub dX5_quickBy_76 ?_
          refine Y.aload_n dX5_quickBy_77 rfl ?_
          refine Y.getf dX5_quickBy_78 flX5_53 ob67 rfl ?_
          refine Y.iload_n dX5_quickBy_81 rfl ?_
          refine Y.iald dX5_quickBy_82 ia82 (by omega) (by omega) ?_
          refine Y.iadd dX5_quickBy_83 ?_
          refine Y.aload_n dX5_quickBy_84 rfl ?_
          refine Y.iload_n dX5_quickBy_85 rfl ?_
          refine Y.cVI dX5_quickBy_86 mkX5_earliest csX5_183 ob67 ⟨_, rfl, rfl⟩ (k_X5_earliest ec hp h0 h9) (by omega) rfl rfl (Nat.le_of_ble_eq_true rfl) ?_
          refine Y.iadd dX5_quickBy_89 ?_
          rw [et, hlx]
          refine Y.cSI dX5_quickBy_90 mkX5_greater csX5_198 (c_X5_greater (by omega) (by omega)) (by omega) rfl rfl (Nat.le_of_ble_eq_true rfl) ?_
          refine Y.istore_n dX5_quickBy_93 (by decide) rfl ?_
          refine Y.iinc dX5_quickBy_94 rfl (by decide) rfl ?_
          refine Y.goto 38 dX5_quickBy_97 (by decide) ?_
          refine Y.sub (zs_s (zs_s (zs_s (zs_s (zs_s (zs_s (zs_n zs_0))))))) ?_
          exact ih _ _ ⟨by omega, by omega, by omega, by omega, m8⟩ (by omega)
        · refine Y.iconst dX5_quickBy_60 ?_
          exact Y.iret dX5_quickBy_61 rfl (hP _ _ ⟨zrI (by rw [qckA, sv_s h, ← m8, qq_1 (by omega), if_pos (by omega)]; rfl), rfl⟩)
    · refine Y.iconst dX5_quickBy_23 ?_
      exact Y.iret dX5_quickBy_24 rfl (hP _ _ ⟨zrI (by rw [qckA, sv_s h]; unfold qkS bq; rw [if_pos (by omega)]), rfl⟩)
end ZGb
