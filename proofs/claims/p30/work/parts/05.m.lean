section ZGb
variable {σ : zS}
noncomputable def qq (p : zP) (l : Int → Int) (x : Int) : Nat → Int → Int → Option Int
  | 0, _, m => some m
  | n + 1, q, m => if lfp (Fq p l x (q + 1)) = -1 then none else qq p l x n (q + 1) (max m (lfp (Fq p l x (q + 1)) - p 0 (x / 3) * q + l x + ear p x))
noncomputable def bq (p : zP) (l : Int → Int) (x : Int) : Int := lfp (Fq p l x (-1))
noncomputable def qkS (p : zP) (l : Int → Int) (x : Int) : Int := if bq p l x = -1 then -1 else (qq p l x (qc p l x (bq p l x) - 0).toNat 0 (-1)).getD (-1)
noncomputable def qckA (p : zP) (x : Int) : Int := sv p (fun _ l => qkS p l x)
theorem qq_1 {p : zP} {l : Int → Int} {x q N m : Int} (h : q < N) : qq p l x (N - q).toNat q m = if lfp (Fq p l x (q + 1)) = -1 then none else qq p l x (N - (q + 1)).toNat (q + 1) (max m (lfp (Fq p l x (q + 1)) - p 0 (x / 3) * q + l x + ear p x)) := by
  rw [show (N - q).toNat = (N - (q + 1)).toNat + 1 by omega]
  rfl
theorem qq_0 {p : zP} {l : Int → Int} {x q N m : Int} (h : N ≤ q) : qq p l x (N - q).toNat q m = some m := by
  rw [show (N - q).toNat = 0 by omega]
  rfl
set_option maxHeartbeats 4000000 in
theorem c_X0_quickOf {b : Nat} (hb : zAb b) {p : zP} (ec : cP σ = p) (hp : WP p) (hS : SA b σ p) {x : Int} (h0 : 0 ≤ x) (h9 : x < 9) (ht : th p x) : YC 4 μX0_quickOf [.ref b, .int (zi x)] σ (fun r s => r = some (.int (zi (qckA p x))) ∧ zFQ b σ s) := by
  refine YC.of2 (by decide) (Nat.le_of_ble_eq_true rfl) (fun d P hd hP => ?_)
  rcases hS with ⟨h, e⟩ | ⟨r, l, h, e, hA, hPP, hBV⟩
  · refine Y.aload_n dX0_quickOf_0 rfl ?_
    refine Y.getf dX0_quickOf_1 flX0_49 (obA hb) rfl ?_
    refine Y.iconst dX0_quickOf_4 ?_
    refine Y.icmp_ne 10 dX0_quickOf_5 (by decide) (by omega) (by omega) (fun h_5 => ?_) (fun h_5 => ?_)
    · exfalso; omega
    refine Y.iconst dX0_quickOf_8 ?_
    exact Y.iret dX0_quickOf_9 rfl (hP _ _ ⟨zrI (by rw [qckA, sv_n h]), zFQ.rf⟩)
  · have hr : WL l ∧ bA p l ∧ 1 ≤ r ∧ r ≤ 20 := SR_b hp h
    have hl := hr.1
    refine Y.aload_n dX0_quickOf_0 rfl ?_
    refine Y.getf dX0_quickOf_1 flX0_49 (obA hb) rfl ?_
    refine Y.iconst dX0_quickOf_4 ?_
    refine Y.icmp_ne 10 dX0_quickOf_5 (by decide) (by omega) (by omega) (fun h_5 => ?_) (fun h_5 => ?_)
    rotate_left
    · exfalso; omega
    refine Y.aload_n dX0_quickOf_10 rfl ?_
    refine Y.iload_n dX0_quickOf_11 rfl ?_
    refine Y.callV dX0_quickOf_12 mkX0_gatherRivals csX0_81 (obA hb) ⟨_, rfl, rfl⟩ (c_X0_gatherRivals hb ec hp h0 h9) (by omega) rfl rfl (Nat.le_of_ble_eq_true rfl) (fun r_12 s_12 p_12 => ?_)
    obtain ⟨rfl, f_12, g_12, a_12⟩ := p_12
    have hb' : b = 14 ∨ b = 26 := hb
    have hA2 : AP b s_12 p l := hA.fr (fun c hc => f_12.2 c (by omega) (by omega) (by omega))
    have ec2 := hA2.1
    have hc1 := hA2.cost x
    have hT1 := hA2.per (i := x / 3) (by omega) (by omega)
    have hTT := hp.per (i := x / 3) (by omega) (by omega)
    have hcc := (hp.2.1 x h0 h9).2.1
    have hlx := hA2.late h0 h9
    have hll := hl.b h0 h9
    have hee := ear_b hp h0 h9
    refine Y.aload_n dX0_quickOf_15 rfl ?_
    refine Y.getf dX0_quickOf_16 flX0_45 (obA hb) rfl ?_
    refine Y.getf dX0_quickOf_19 flX0_98 ob1 rfl ?_
    refine Y.iconst dX0_quickOf_22 ?_
    refine Y.aald dX0_quickOf_23 ra8 (by decide) (by decide) (by decide) rfl ?_
    refine Y.iload_n dX0_quickOf_24 rfl ?_
    refine Y.iald dX0_quickOf_25 ia10 (by omega) (by omega) ?_
    refine Y.istore_n dX0_quickOf_26 (by decide) rfl ?_
    refine Y.aload_n dX0_quickOf_27 rfl ?_
    refine Y.getf dX0_quickOf_28 flX0_9 (obA hb) rfl ?_
    refine Y.iload_n dX0_quickOf_31 rfl ?_
    refine Y.iconst dX0_quickOf_32 ?_
    refine Y.idivp dX0_quickOf_33 (by omega) (by omega) (by omega) (by omega) ?_
    refine Y.iald dX0_quickOf_34 (iaA1 hb) (by omega) (by omega) ?_
    refine Y.istore_n dX0_quickOf_35 (by decide) rfl ?_
    refine Y.aload_n dX0_quickOf_36 rfl ?_
    refine Y.iload_n dX0_quickOf_37 rfl ?_
    refine Y.iconst dX0_quickOf_38 ?_
    refine Y.iconst dX0_quickOf_39 ?_
    refine Y.iconst dX0_quickOf_40 ?_
    refine Y.cVI dX0_quickOf_41 mkX0_leastTime csX0_101 (obA hb) ⟨_, rfl, rfl⟩ (c_X0_leastTimeQ hb hA2 g_12 h0 h9 (by omega) (by omega) (by omega) (LI.one (Fq_1 hp hl (Or.inl rfl) h0 h9 ht (Int.le_refl 1)))) (by omega) rfl rfl (Nat.le_of_ble_eq_true rfl) ?_
    refine Y.istore dX0_quickOf_44 (by decide) rfl ?_
    refine Y.iload dX0_quickOf_46 rfl ?_
    refine Y.iconst dX0_quickOf_48 ?_
    have hlb0 := lfp_b (Fq p l x (-1))
    refine Y.icmp_ne 54 dX0_quickOf_49 (by decide) (by omega) (by omega) (fun h_49 => ?_) (fun h_49 => ?_)
    · refine Y.aload_n dX0_quickOf_54 rfl ?_
      refine Y.iload_n dX0_quickOf_55 rfl ?_
      refine Y.iload dX0_quickOf_56 rfl ?_
      refine Y.cVI dX0_quickOf_58 mkX0_quickComes csX0_105 (obA hb) ⟨_, rfl, rfl⟩ (c_X0_quickComes hb hA2 h0 h9 (by have := lfp_b (Fq p l x (-1)); omega) (by have := lfp_b (Fq p l x (-1)); omega)) (by omega) rfl rfl (Nat.le_of_ble_eq_true rfl) ?_
      refine Y.istore dX0_quickOf_61 (by decide) rfl ?_
      refine Y.iconst dX0_quickOf_63 ?_
      refine Y.istore dX0_quickOf_64 (by decide) rfl ?_
      refine Y.iconst dX0_quickOf_66 ?_
      refine Y.istore dX0_quickOf_67 (by decide) rfl ?_
      refine Y.iconst dX0_quickOf_69 ?_
      refine Y.istore dX0_quickOf_70 (by decide) rfl ?_
      rw [hT1]
      have hbq : 1 ≤ lfp (Fq p l x (-1)) ∧ lfp (Fq p l x (-1)) ≤ 200 := (lfp_b _).elim (fun q => absurd q (by omega)) id
      have hN := qc_b hp hl h0 h9 hbq.1
      have hN2 := hN.2 hbq.2
      refine zw3 (fun m e9 q => (0 ≤ q ∧ q ≤ (qc p l x (lfp (Fq p l x (-1)))) ∧ -1 ≤ m ∧ m ≤ 1000 ∧ 0 ≤ e9 ∧ e9 ≤ 200 ∧ LI (Fq p l x (q + 1)) (e9 + p 7 x) ∧ (qq p l x ((qc p l x (lfp (Fq p l x (-1)))) - q).toNat q m).getD (-1) = qkS p l x)) (fun m e9 q => Y d μX0_quickOf 72 [some (.ref b), some (.int (zi x)), some (.int (zi (s_12.1 10 x))), some (.int (zi (p 0 (x / 3)))), some (.int (zi (lfp (Fq p l x (-1))))), some (.int (zi (qc p l x (lfp (Fq p l x (-1)))))), some (.int (zi m)), some (.int (zi e9)), some (.int (zi q))] [] s_12 P) (fun m e9 q => ((qc p l x (lfp (Fq p l x (-1)))) - q).toNat) ?_ _ _ _ ⟨by omega, by omega, by omega, by omega, by omega, by omega, by rw [Int.zero_add, Int.zero_add]; exact Fq_w hp hl h0 h9 ht, by unfold qkS bq; rw [if_neg (by omega)]⟩
      intro m e9 q hI ih
      obtain ⟨m1, m2, m3, m4, m5, m6, m7, m8⟩ := hI
      refine Y.iload dX0_quickOf_72 rfl ?_
      refine Y.iload dX0_quickOf_74 rfl ?_
      refine Y.icmp_ge 139 dX0_quickOf_76 (by decide) (by omega) (by omega) (fun h_76 => ?_) (fun h_76 => ?_)
      · refine Y.iload dX0_quickOf_139 rfl ?_
        exact Y.iret dX0_quickOf_141 rfl (hP _ _ ⟨zrI (by rw [qckA, sv_s h, ← m8, qq_0 (by omega)]; rfl), zFQ.rf.tg f_12⟩)
      · refine Y.aload_n dX0_quickOf_79 rfl ?_
        refine Y.iload_n dX0_quickOf_80 rfl ?_
        refine Y.iconst dX0_quickOf_81 ?_
        refine Y.iload dX0_quickOf_82 rfl ?_
        refine Y.iconst dX0_quickOf_84 ?_
        refine Y.iadd dX0_quickOf_85 ?_
        refine Y.iload dX0_quickOf_86 rfl ?_
        refine Y.iload_n dX0_quickOf_88 rfl ?_
        refine Y.iadd dX0_quickOf_89 ?_
        refine Y.cVI dX0_quickOf_90 mkX0_leastTime csX0_101 (obA hb) ⟨_, rfl, rfl⟩ (c_X0_leastTimeQ hb hA2 g_12 h0 h9 (by omega) (by omega) (by omega) (by rw [hc1]; exact m7)) (by omega) rfl rfl (Nat.le_of_ble_eq_true rfl) ?_
        refine Y.istore dX0_quickOf_93 (by decide) rfl ?_
        refine Y.iload dX0_quickOf_95 rfl ?_
        refine Y.iconst dX0_quickOf_97 ?_
        have hlb1 := lfp_b (Fq p l x (q + 1))
        refine Y.icmp_ne 103 dX0_quickOf_98 (by decide) (by omega) (by omega) (fun h_98 => ?_) (fun h_98 => ?_)
        · have he : (lfp (Fq p l x (q + 1))) ≠ -1 := by omega
          have heb : 1 ≤ (lfp (Fq p l x (q + 1))) ∧ (lfp (Fq p l x (q + 1))) ≤ 200 := (lfp_b _).elim (fun q => absurd q he) id
          have hwm := LI.warm (c := p 7 x) (G := Fq p l x (q + 1 + 1)) (Fq_m hp hl (q + 1) h0 h9) (Fq_1 hp hl (Or.inr (by omega)) h0 h9 ht (Int.le_refl 1)) (by omega) (Fq_s (by omega)) he
          rw [qq_1 (by omega), if_neg he] at m8
          have hmul : 0 ≤ p 0 (x / 3) * q ∧ p 0 (x / 3) * q ≤ 100 * 145 := by
            constructor
            · exact Int.mul_nonneg (by omega) m1
            · exact Int.mul_le_mul (by omega) (by omega) m1 (by omega)
          refine Y.iload dX0_quickOf_103 rfl ?_
          refine Y.iload dX0_quickOf_105 rfl ?_
          refine Y.iload_n dX0_quickOf_107 rfl ?_
          refine Y.iload dX0_quickOf_108 rfl ?_
          refine Y.imul dX0_quickOf_110 ?_
          refine Y.isub dX0_quickOf_111 ?_
          refine Y.aload_n dX0_quickOf_112 rfl ?_
          refine Y.getf dX0_quickOf_113 flX0_15 (obA hb) rfl ?_
          refine Y.iload_n dX0_quickOf_116 rfl ?_
          refine Y.iald dX0_quickOf_117 (iaA2 hb) (by omega) (by omega) ?_
          refine Y.iadd dX0_quickOf_118 ?_
          refine Y.aload_n dX0_quickOf_119 rfl ?_
          refine Y.getf dX0_quickOf_120 flX0_45 (obA hb) rfl ?_
          refine Y.iload_n dX0_quickOf_123 rfl ?_
          refine Y.cVI dX0_quickOf_124 mkX2_earliestOf csX0_108 ob1 ⟨_, rfl, rfl⟩ (k_X2_earliestOf ec2 hp h0 h9) (by omega) rfl rfl (Nat.le_of_ble_eq_true rfl) ?_
          refine Y.iadd dX0_quickOf_127 ?_
          rw [hlx]
          refine Y.mmax dX0_quickOf_128 csX0_92 (by omega) (Nat.le_of_ble_eq_true rfl) (by omega) (by omega) ?_
          refine Y.istore dX0_quickOf_131 (by decide) rfl ?_
          refine Y.iinc dX0_quickOf_133 rfl (by decide) rfl ?_
          refine Y.goto 72 dX0_quickOf_136 (by decide) ?_
          refine ih _ _ _ ⟨by omega, by omega, by omega, by omega, by omega, by omega, hwm, ?_⟩ (by omega)
          exact m8
        · refine Y.iconst dX0_quickOf_101 ?_
          exact Y.iret dX0_quickOf_102 rfl (hP _ _ ⟨zrI (by rw [qckA, sv_s h, ← m8, qq_1 (by omega), if_pos (by omega)]; rfl), zFQ.rf.tg f_12⟩)
    · refine Y.iconst dX0_quickOf_52 ?_
      exact Y.iret dX0_quickOf_53 rfl (hP _ _ ⟨zrI (by rw [qckA, sv_s h]; unfold qkS bq; rw [if_pos (by omega)]), zFQ.rf.tg f_12⟩)
end ZGb
