section ZL2
variable {σ : zS}
/-- while the model tries something out -/
def FU (a : Nat) (σ u : zS) (x : Int) : Prop := (∀ (c : Nat) (i : Int), ¬ (c = 67 ∧ (i = 15 ∨ i = 16)) → u.2 c i = σ.2 c i) ∧ (∀ c : Nat, c ≠ 67 → c ≠ a → (c < 82 ∨ 87 < c) → u.1 c = σ.1 c) ∧ (∀ j : Int, j ≠ x → u.1 a j = σ.1 a j) ∧ ∀ i : Int, (i < 19 ∨ (22 < i ∧ i < 27) ∨ 28 < i) → u.1 67 i = σ.1 67 i
theorem FU.rf {a : Nat} {x : Int} : FU a σ σ x := ⟨fun _ _ _ => rfl, fun _ _ _ _ => rfl, fun _ _ => rfl, fun _ _ => rfl⟩
theorem FU.up {a : Nat} (ha : a ≠ 67) {u : zS} {x v : Int} (h : FU a σ u x) : FU a σ (zu u a x v) x := ⟨h.1, fun c q1 q2 q3 => by rw [zu_nc q2]; exact h.2.1 c q1 q2 q3, fun j q => by rw [zu_ne q]; exact h.2.2.1 j q, fun i q => by rw [zu_nc (by omega)]; exact h.2.2.2 i q⟩
theorem FU.fs {a : Nat} (ha : a < 82 ∨ 87 < a) (ha2 : a ≠ 67) {u t : zS} {x : Int} (h : FU a σ u x) (h2 : zFS u t) : FU a σ t x := ⟨fun c i q => (h2.1 c i q).trans (h.1 c i q), fun c q1 q2 q3 => (h2.2.1 c q1 (by omega)).trans (h.2.1 c q1 q2 q3), fun j q => by rw [h2.2.1 a ha2 (by omega)]; exact h.2.2.1 j q, fun i q => (h2.2.2 i q).trans (h.2.2.2 i q)⟩
theorem FU.end {a : Nat} (ha : 67 < a) {u : zS} {x : Int} (h : FU a σ u x) : EM σ (zu u a x (σ.1 a x)) := by
  have ea : (zu u a x (σ.1 a x)).1 a = σ.1 a := funext fun j => by
    by_cases q : j = x
    · rw [q, zu_eq]
    · rw [zu_ne q]; exact h.2.2.1 j q
  refine ⟨⟨h.1, fun c q1 q2 q3 => ?_, fun i q => by rw [zu_nc (by omega)]; exact h.2.2.2 i q⟩, fun c q => by rw [zu_nc (by omega)]; exact h.2.1 c (by omega) (by omega) (by omega)⟩
  by_cases e : c = a
  · rw [e]; exact ea
  · rw [zu_nc e]; exact h.2.1 c q1 e q3
theorem FU.mp {u : zS} {x v : Int} {k : Nat} (hk : k < 9) (h : FU (72 + k) σ u x) (hv : u.1 (72 + k) x = v) : mP u = pu (mP σ) k x v := by
  have key : ∀ l : Nat, l < 10 → mP u l = pu (mP σ) k x v l := fun l hl => by
    rw [mP_k hl]
    by_cases e : l = k
    · rw [e]
      funext j
      by_cases q : j = x
      · rw [q, hv, pu_eq]
      · rw [pu_ne q, h.2.2.1 j q, mP_k (by omega)]
    · rw [pu_nc e, mP_k hl]
      exact h.2.1 _ (by omega) (by omega) (by omega)
  funext l
  by_cases q : l < 10
  · exact key l q
  · rw [mP_9 l (by omega), key 9 (by omega), pu_nc (by omega), pu_nc (by omega), mP_9 l (by omega)]
set_option maxHeartbeats 4000000 in
theorem c_X5_marginBy {p : zP} (ec : mP σ = p) (hJ : WJ p) {x : Int} (h0 : 0 ≤ x) (h9 : x < 9) : YC 10 μX5_marginBy [.ref 67, .int (zi x)] σ (fun r s => r = some (.int (zi (mgA p x))) ∧ EM σ s) := by
  refine YC.of2 (by decide) (Nat.le_of_ble_eq_true rfl) (fun d P hd hP => ?_)
  have hp := hJ.1
  have e7 : σ.1 79 = p 7 := by rw [← ec]; rfl
  refine Y.aload_n dX5_marginBy_0 rfl ?_
  refine Y.getf dX5_marginBy_1 flX5_44 ob67 rfl ?_
  refine Y.iload_n dX5_marginBy_4 rfl ?_
  refine Y.iald dX5_marginBy_5 ia79 (by omega) (by omega) ?_
  rw [e7]
  refine Y.istore_n dX5_marginBy_6 (by decide) rfl ?_
  refine Y.iconst dX5_marginBy_7 ?_
  refine Y.istore_n dX5_marginBy_8 (by decide) rfl ?_
  refine Y.iconst dX5_marginBy_9 ?_
  refine Y.istore dX5_marginBy_10 (by decide) rfl ?_
  refine zw3 (fun u b v => (0 ≤ v ∧ v ≤ 9 ∧ FU 79 σ u x ∧ b = mgU p x v.toNat)) (fun u b v => Y d μX5_marginBy 12 [some (.ref 67), some (.int (zi x)), some (.int (zi (p 7 x))), some (.int (zi b)), some (.int (zi v))] [] u P) (fun u b v => (9 - v).toNat) ?_ _ _ _ ⟨by omega, by omega, FU.rf, rfl⟩
  intro u b v hI ih
  obtain ⟨m1, m2, m3, m4⟩ := hI
  refine Y.iload dX5_marginBy_12 rfl ?_
  refine Y.bipush dX5_marginBy_14 (by decide +kernel) ?_
  refine Y.icmp_gt 53 dX5_marginBy_16 (by decide) (by omega) (by omega) (fun h_16 => ?_) (fun h_16 => ?_)
  · refine Y.aload_n dX5_marginBy_53 rfl ?_
    refine Y.getf dX5_marginBy_54 flX5_44 ob67 rfl ?_
    refine Y.iload_n dX5_marginBy_57 rfl ?_
    refine Y.iload_n dX5_marginBy_58 rfl ?_
    refine Y.iast dX5_marginBy_59 ia79 (by omega) (by omega) ?_
    refine Y.iload_n dX5_marginBy_60 rfl ?_
    exact Y.iret dX5_marginBy_61 rfl (hP _ _ ⟨zrI (by rw [m4, show v = 9 by omega]; rfl), by rw [show p 7 x = σ.1 79 x by rw [e7]]; exact m3.end (by omega)⟩)
  · refine Y.aload_n dX5_marginBy_19 rfl ?_
    refine Y.getf dX5_marginBy_20 flX5_44 ob67 rfl ?_
    refine Y.iload_n dX5_marginBy_23 rfl ?_
    refine Y.iload_n dX5_marginBy_24 rfl ?_
    refine Y.iload dX5_marginBy_25 rfl ?_
    refine Y.iadd dX5_marginBy_27 ?_
    refine Y.iast dX5_marginBy_28 ia79 (by omega) (by omega) ?_
    refine Y.aload_n dX5_marginBy_29 rfl ?_
    have hu1 : FU 79 σ (zu u 79 x (p 7 x + v)) x := m3.up (by omega)
    have ec1 : mP (zu u 79 x (p 7 x + v)) = pu p 7 x (p 7 x + v) := by
      rw [FU.mp (k := 7) (σ := σ) (x := x) (v := p 7 x + v) (by omega) hu1 (by show (zu u 79 x _).1 79 x = _; rw [zu_eq]), ec]
    have hp1 := WP.cost hJ (x := x) (v := v) h0 h9 (by omega) (by omega)
    refine Y.callV dX5_marginBy_30 mkX5_settles csX5_248 ob67 ⟨_, rfl, rfl⟩ (c_X5_settles ec1 hp1) (by omega) rfl rfl (Nat.le_of_ble_eq_true rfl) (fun r_30 s_30 p_30 => ?_)
    obtain ⟨rfl, f_30, k_30, g_30⟩ := p_30
    have ec3 := f_30.mp.trans ec1
    refine Y.aload_n dX5_marginBy_33 rfl ?_
    refine Y.cVI dX5_marginBy_34 mkX5_allMeet csX5_288 ob67 ⟨_, rfl, rfl⟩ (c_X5_allMeet ec3 hp1 g_30) (by omega) rfl rfl (Nat.le_of_ble_eq_true rfl) ?_
    refine Y.ifz_eq 45 dX5_marginBy_37 (by decide) (fun h_37 => ?_) (fun h_37 => ?_)
    · refine Y.iload_n dX5_marginBy_45 rfl ?_
      refine Y.istore_n dX5_marginBy_46 (by decide) rfl ?_
      refine Y.iinc dX5_marginBy_47 rfl (by decide) rfl ?_
      refine Y.goto 12 dX5_marginBy_50 (by decide) ?_
      refine ih _ _ _ ⟨by omega, by omega, hu1.fs (by omega) (by omega) f_30, ?_⟩ (by omega)
      first
        | (rw [mg_1 (by omega) (by assumption)]; done)
        | (rw [mg_2 (by omega) (by assumption)]; exact m4)
    · refine Y.iload dX5_marginBy_40 rfl ?_
      refine Y.goto 46 dX5_marginBy_42 (by decide) ?_
      refine Y.istore_n dX5_marginBy_46 (by decide) rfl ?_
      refine Y.iinc dX5_marginBy_47 rfl (by decide) rfl ?_
      refine Y.goto 12 dX5_marginBy_50 (by decide) ?_
      refine ih _ _ _ ⟨by omega, by omega, hu1.fs (by omega) (by omega) f_30, ?_⟩ (by omega)
      first
        | (rw [mg_1 (by omega) (by assumption)]; done)
        | (rw [mg_2 (by omega) (by assumption)]; exact m4)
set_option maxHeartbeats 1000000 in
theorem c_X5_margin {p : zP} (ec : mP σ = p) (hJ : WJ p) {i j : Int} (hi : zB i) (hj : zB j) : YC 11 μX5_margin [.ref 67, .int (zi i), .int (zi j)] σ (fun r s => RQ (stp p i j) (mgA p (i * 3 + j)) r ∧ EM σ s) := by
  refine YC.of2 (by decide) (Nat.le_of_ble_eq_true rfl) (fun d P hd hP => ?_)
  have hp := hJ.1
  refine Y.aload_n dX5_margin_0 rfl ?_
  refine Y.iload_n dX5_margin_1 rfl ?_
  refine Y.iload_n dX5_margin_2 rfl ?_
  refine Y.cVI dX5_margin_3 mkX5_isStep csX5_154 ob67 ⟨_, rfl, rfl⟩ (k_X5_isStep ec hp hi hj) (by omega) rfl rfl (Nat.le_of_ble_eq_true rfl) ?_
  refine Y.ifz_eq 21 dX5_margin_6 (by decide) (fun h_6 => ?_) (fun h_6 => ?_)
  · refine Y.bipush dX5_margin_21 (by decide +kernel) ?_
    exact Y.iret dX5_margin_23 rfl (hP _ _ (by first | exact ⟨Or.inl ⟨by assumption, rfl⟩, f_15⟩ | exact ⟨Or.inr ⟨by assumption, rfl⟩, EM.rf⟩))
  · obtain ⟨s3, s4, s5, s6, s7, s8, s9⟩ := stp_f hp (by assumption)
    refine Y.aload_n dX5_margin_9 rfl ?_
    refine Y.iconst dX5_margin_10 ?_
    refine Y.iload_n dX5_margin_11 rfl ?_
    refine Y.imul dX5_margin_12 ?_
    refine Y.iload_n dX5_margin_13 rfl ?_
    refine Y.iadd dX5_margin_14 ?_
    rw [s8]
    refine Y.callV dX5_margin_15 mkX5_marginBy csX5_291 ob67 ⟨_, rfl, rfl⟩ (c_X5_marginBy ec hJ s6 s7) (by omega) rfl rfl (Nat.le_of_ble_eq_true rfl) (fun r_15 s_15 p_15 => ?_)
    obtain ⟨rfl, f_15⟩ := p_15
    refine Y.goto 23 dX5_margin_18 (by decide) ?_
    exact Y.iret dX5_margin_23 rfl (hP _ _ (by first | exact ⟨Or.inl ⟨by assumption, rfl⟩, f_15⟩ | exact ⟨Or.inr ⟨by assumption, rfl⟩, EM.rf⟩))
set_option maxHeartbeats 4000000 in
theorem c_X5_betterBy {p : zP} (ec : mP σ = p) (hp : WP p) {x w : Int} (h0 : 0 ≤ x) (h9 : x < 9) (ht : th p x) (hw : zB w) : YC 10 μX5_betterBy [.ref 67, .int (zi x), .int (zi w)] σ (fun r s => r = some (.int (zi (btA p x (x / 3 * 3 + p 5 (x / 3) - 1) w))) ∧ EM σ s) := by
  refine YC.of2 (by decide) (Nat.le_of_ble_eq_true rfl) (fun d P hd hP => ?_)
  have e8 : σ.1 80 = p 8 := by rw [← ec]; rfl
  have e5 : σ.1 77 = p 5 := by rw [← ec]; rfl
  have hm := (hp.1 (x / 3) (by omega) (by omega)).2.2.2.2.2
  have htx : x % 3 < p 5 (x / 3) := ht
  have hlast := last_th hp (i := x / 3) (by omega) (by omega) (by omega)
  refine Y.aload_n dX5_betterBy_0 rfl ?_
  refine Y.getf dX5_betterBy_1 flX5_47 ob67 rfl ?_
  refine Y.iload_n dX5_betterBy_4 rfl ?_
  refine Y.iald dX5_betterBy_5 ia80 (by omega) (by omega) ?_
  rw [e8]
  refine Y.istore_n dX5_betterBy_6 (by decide) rfl ?_
  refine Y.iconst dX5_betterBy_7 ?_
  refine Y.istore dX5_betterBy_8 (by decide) rfl ?_
  refine Y.iconst dX5_betterBy_10 ?_
  refine Y.istore dX5_betterBy_11 (by decide) rfl ?_
  refine Y.iload_n dX5_betterBy_13 rfl ?_
  refine Y.iconst dX5_betterBy_14 ?_
  refine Y.idivp dX5_betterBy_15 (by omega) (by omega) (by omega) (by omega) ?_
  refine Y.iconst dX5_betterBy_16 ?_
  refine Y.imul dX5_betterBy_17 ?_
  refine Y.aload_n dX5_betterBy_18 rfl ?_
  refine Y.getf dX5_betterBy_19 flX5_38 ob67 rfl ?_
  refine Y.iload_n dX5_betterBy_22 rfl ?_
  refine Y.iconst dX5_betterBy_23 ?_
  refine Y.idivp dX5_betterBy_24 (by omega) (by omega) (by omega) (by omega) ?_
  refine Y.iald dX5_betterBy_25 ia77 (by omega) (by omega) ?_
  rw [e5]
  refine Y.iadd dX5_betterBy_26 ?_
  refine Y.iconst dX5_betterBy_27 ?_
  refine Y.isub dX5_betterBy_28 ?_
  refine Y.istore dX5_betterBy_29 (by decide) rfl ?_
  refine Y.iconst dX5_betterBy_31 ?_
  refine Y.istore dX5_betterBy_32 (by decide) rfl ?_
  refine zw4 (fun u bp bb v => (0 ≤ v ∧ v ≤ 10 ∧ FU 80 σ u x ∧ btU p x (x / 3 * 3 + p 5 (x / 3) - 1) (v - 0).toNat = (bp, bb))) (fun u bp bb v => Y d μX5_betterBy 34 [some (.ref 67), some (.int (zi x)), some (.int (zi w)), some (.int (zi (p 8 x))), some (.int (zi bp)), some (.int (zi bb)), some (.int (zi (x / 3 * 3 + p 5 (x / 3) - 1))), some (.int (zi v)), none] [] u P) (fun u bp bb v => (10 - v).toNat) ?_ _ _ _ _ ⟨by omega, by omega, FU.rf, rfl⟩
  intro u bp bb v hI ih
  obtain ⟨m1, m2, m3, m4⟩ := hI
  have hbb := bt_b hp (x := x) hlast.1 hlast.2.1 hlast.2.2 (v - 0).toNat (by omega)
  rw [m4] at hbb
  have hbb : (bp = -1 ∧ bb = -1) ∨ (0 ≤ bp ∧ bp ≤ 9 ∧ 1 ≤ bb ∧ bb ≤ 746) := hbb
  refine Y.iload dX5_betterBy_34 rfl ?_
  refine Y.bipush dX5_betterBy_36 (by decide +kernel) ?_
  refine Y.icmp_gt 124 dX5_betterBy_38 (by decide) (by omega) (by omega) (fun h_38 => ?_) (fun h_38 => ?_)
  · refine Y.aload_n dX5_betterBy_124 rfl ?_
    refine Y.getf dX5_betterBy_125 flX5_47 ob67 rfl ?_
    refine Y.iload_n dX5_betterBy_128 rfl ?_
    refine Y.iload_n dX5_betterBy_129 rfl ?_
    refine Y.iast dX5_betterBy_130 ia80 (by omega) (by omega) ?_
    refine Y.iload_n dX5_betterBy_131 rfl ?_
    refine Y.if_ne 140 dX5_betterBy_132 (by decide) (by omega) (fun h_132 => ?_) (fun h_132 => ?_)
    · refine Y.iload dX5_betterBy_140 rfl ?_
      exact Y.iret dX5_betterBy_142 rfl (hP _ _ ⟨zrI (by unfold btA; rw [show v = 10 by omega] at m4; rw [show (10 : Nat) = ((10 : Int) - 0).toNat from rfl, m4]; first | rw [if_pos (by omega)] | rw [if_neg (by omega)]), by rw [show p 8 x = σ.1 80 x by rw [e8]]; exact m3.end (by omega)⟩)
    · refine Y.iload dX5_betterBy_135 rfl ?_
      refine Y.goto 142 dX5_betterBy_137 (by decide) ?_
      exact Y.iret dX5_betterBy_142 rfl (hP _ _ ⟨zrI (by unfold btA; rw [show v = 10 by omega] at m4; rw [show (10 : Nat) = ((10 : Int) - 0).toNat from rfl, m4]; first | rw [if_pos (by omega)] | rw [if_neg (by omega)]), by rw [show p 8 x = σ.1 80 x by rw [e8]]; exact m3.end (by omega)⟩)
  · refine Y.aload_n dX5_betterBy_41 rfl ?_
    refine Y.getf dX5_betterBy_42 flX5_47 ob67 rfl ?_
    refine Y.iload_n dX5_betterBy_45 rfl ?_
    refine Y.iload dX5_betterBy_46 rfl ?_
    refine Y.iast dX5_betterBy_48 ia80 (by omega) (by omega) ?_
    refine Y.aload_n dX5_betterBy_49 rfl ?_
    have hu1 : FU 80 σ (zu u 80 x v) x := m3.up (by omega)
    have ec1 : mP (zu u 80 x v) = pu p 8 x v := by
      rw [FU.mp (k := 8) (σ := σ) (x := x) (v := v) (by omega) hu1 (by show (zu u 80 x _).1 80 x = _; rw [zu_eq]), ec]
    have hp1 := hp.prio (x := x) (v := v) (by omega) (by omega)
    have htl := (pu_th (p := p) (k := 8) (x := x) (v := v) (by omega)).mpr hlast.2.2
    have hbl := bndA_b hp1 hlast.1 hlast.2.1 htl
    refine Y.callV dX5_betterBy_50 mkX5_settles csX5_248 ob67 ⟨_, rfl, rfl⟩ (c_X5_settles ec1 hp1) (by omega) rfl rfl (Nat.le_of_ble_eq_true rfl) (fun r_50 s_50 p_50 => ?_)
    obtain ⟨rfl, f_50, k_50, g_50⟩ := p_50
    have ec3 := f_50.mp.trans ec1
    have hF5 := hu1.fs (by omega) (by omega) f_50
    have hst : (s_50.1 67 27 = 0 ∧ bndA (pu p 8 x v) (x / 3 * 3 + p 5 (x / 3) - 1) = -1) ∨ (s_50.1 67 27 = 1 ∧ s_50.1 84 (x / 3 * 3 + p 5 (x / 3) - 1) = bndA (pu p 8 x v) (x / 3 * 3 + p 5 (x / 3) - 1) ∧ 1 ≤ bndA (pu p 8 x v) (x / 3 * 3 + p 5 (x / 3) - 1)) := by
      rcases g_50 with ⟨q1, q2⟩ | ⟨r, l, q1, q2, q3, q4, q5⟩
      · exact Or.inl ⟨q2, by rw [bndA, sv_n q1]⟩
      · refine Or.inr ⟨q2, by rw [bndA, sv_s q1]; exact (q5 _ hlast.1 hlast.2.1 htl).1, hbl.2.2 (by rw [q1]; exact Option.some_ne_none _)⟩
    have k83a : btc p x (x / 3 * 3 + p 5 (x / 3) - 1) v (bp, bb) → Y d μX5_betterBy 83 [some (.ref 67), some (.int (zi x)), some (.int (zi w)), some (.int (zi (p 8 x))), some (.int (zi bp)), some (.int (zi bb)), some (.int (zi (x / 3 * 3 + p 5 (x / 3) - 1))), some (.int (zi v)), none] [.int (zi 1)] s_50 P := by
      intro hbc
      have hb84 : s_50.1 84 (x / 3 * 3 + p 5 (x / 3) - 1) = bndA (pu p 8 x v) (x / 3 * 3 + p 5 (x / 3) - 1) := by rcases hst with q | q; (· exact absurd q.2 hbc.1); exact q.2.1
      refine Y.istore dX5_betterBy_83 (by decide) rfl ?_
      refine Y.iload dX5_betterBy_85 rfl ?_
      refine Y.if_eq 95 dX5_betterBy_87 (by decide) (by omega) (fun h_87 => ?_) (fun h_87 => ?_)
      · exfalso; omega
      refine Y.iload dX5_betterBy_90 rfl ?_
      refine Y.goto 97 dX5_betterBy_92 (by decide) ?_
      refine Y.istore dX5_betterBy_97 (by decide) rfl ?_
      refine Y.iload dX5_betterBy_99 rfl ?_
      refine Y.if_eq 114 dX5_betterBy_101 (by decide) (by omega) (fun h_101 => ?_) (fun h_101 => ?_)
      · exfalso; omega
      refine Y.aload_n dX5_betterBy_104 rfl ?_
      refine Y.getf dX5_betterBy_105 flX5_59 ob67 rfl ?_
      refine Y.iload dX5_betterBy_108 rfl ?_
      refine Y.iald dX5_betterBy_110 ia84 (by omega) (by omega) ?_
      refine Y.goto 116 dX5_betterBy_111 (by decide) ?_
      refine Y.istore dX5_betterBy_116 (by decide) rfl ?_
      refine Y.iinc dX5_betterBy_118 rfl (by decide) rfl ?_
      refine Y.goto 34 dX5_betterBy_121 (by decide) ?_
      refine Y.sub (zs_s (zs_s (zs_s (zs_s (zs_s (zs_s (zs_s (zs_s (zs_n zs_0))))))))) ?_
      refine ih _ _ _ _ ⟨by omega, by omega, hF5, ?_⟩ (by omega)
      rw [bt_1 m1 (by rw [m4]; exact hbc), hb84]
    have k83b : ¬ btc p x (x / 3 * 3 + p 5 (x / 3) - 1) v (bp, bb) → Y d μX5_betterBy 83 [some (.ref 67), some (.int (zi x)), some (.int (zi w)), some (.int (zi (p 8 x))), some (.int (zi bp)), some (.int (zi bb)), some (.int (zi (x / 3 * 3 + p 5 (x / 3) - 1))), some (.int (zi v)), none] [.int (zi 0)] s_50 P := by
      intro hbc
      refine Y.istore dX5_betterBy_83 (by decide) rfl ?_
      refine Y.iload dX5_betterBy_85 rfl ?_
      refine Y.if_eq 95 dX5_betterBy_87 (by decide) (by omega) (fun h_87 => ?_) (fun h_87 => ?_)
      rotate_left
      · exfalso; omega
      refine Y.iload dX5_betterBy_95 rfl ?_
      refine Y.istore dX5_betterBy_97 (by decide) rfl ?_
      refine Y.iload dX5_betterBy_99 rfl ?_
      refine Y.if_eq 114 dX5_betterBy_101 (by decide) (by omega) (fun h_101 => ?_) (fun h_101 => ?_)
      rotate_left
      · exfalso; omega
      refine Y.iload dX5_betterBy_114 rfl ?_
      refine Y.istore dX5_betterBy_116 (by decide) rfl ?_
      refine Y.iinc dX5_betterBy_118 rfl (by decide) rfl ?_
      refine Y.goto 34 dX5_betterBy_121 (by decide) ?_
      refine Y.sub (zs_s (zs_s (zs_s (zs_s (zs_s (zs_s (zs_s (zs_s (zs_n zs_0))))))))) ?_
      refine ih _ _ _ _ ⟨by omega, by omega, hF5, ?_⟩ (by omega)
      rw [bt_2 m1 (by rw [m4]; exact hbc)]
      exact m4
    refine Y.aload_n dX5_betterBy_53 rfl ?_
    refine Y.getf dX5_betterBy_54 flX5_232 ob67 rfl ?_
    refine Y.if_eq 82 dX5_betterBy_57 (by decide) (by omega) (fun h_57 => ?_) (fun h_57 => ?_)
    · refine Y.iconst dX5_betterBy_82 ?_
      first
        | exact k83a ⟨by omega, by show bp = -1 ∨ _ < bb; omega⟩
        | exact k83b (fun q => by have q1 := q.1; have q2 : bp = -1 ∨ _ < bb := q.2; omega)
    · refine Y.iload dX5_betterBy_60 rfl ?_
      refine Y.iconst dX5_betterBy_62 ?_
      refine Y.icmp_eq 78 dX5_betterBy_63 (by decide) (by omega) (by omega) (fun h_63 => ?_) (fun h_63 => ?_)
      · refine Y.iconst dX5_betterBy_78 ?_
        refine Y.goto 83 dX5_betterBy_79 (by decide) ?_
        first
          | exact k83a ⟨by omega, by show bp = -1 ∨ _ < bb; omega⟩
          | exact k83b (fun q => by have q1 := q.1; have q2 : bp = -1 ∨ _ < bb := q.2; omega)
      · refine Y.aload_n dX5_betterBy_66 rfl ?_
        refine Y.getf dX5_betterBy_67 flX5_59 ob67 rfl ?_
        refine Y.iload dX5_betterBy_70 rfl ?_
        refine Y.iald dX5_betterBy_72 ia84 (by omega) (by omega) ?_
        refine Y.iload dX5_betterBy_73 rfl ?_
        refine Y.icmp_ge 82 dX5_betterBy_75 (by decide) (by omega) (by omega) (fun h_75 => ?_) (fun h_75 => ?_)
        · refine Y.iconst dX5_betterBy_82 ?_
          first
            | exact k83a ⟨by omega, by show bp = -1 ∨ _ < bb; omega⟩
            | exact k83b (fun q => by have q1 := q.1; have q2 : bp = -1 ∨ _ < bb := q.2; omega)
        · refine Y.iconst dX5_betterBy_78 ?_
          refine Y.goto 83 dX5_betterBy_79 (by decide) ?_
          first
            | exact k83a ⟨by omega, by show bp = -1 ∨ _ < bb; omega⟩
            | exact k83b (fun q => by have q1 := q.1; have q2 : bp = -1 ∨ _ < bb := q.2; omega)
set_option maxHeartbeats 1000000 in
theorem c_X5_better {p : zP} (ec : mP σ = p) (hp : WP p) {i j : Int} (hi : zB i) (hj : zB j) {w : Int} (hw : zB w) : YC 11 μX5_better [.ref 67, .int (zi i), .int (zi j), .int (zi w)] σ (fun r s => RQ (stp p i j ∧ 0 ≤ w ∧ w ≤ 1) (btA p (i * 3 + j) (i * 3 + p 5 i - 1) w) r ∧ EM σ s) := by
  refine YC.of2 (by decide) (Nat.le_of_ble_eq_true rfl) (fun d P hd hP => ?_)
  refine Y.aload_n dX5_better_0 rfl ?_
  refine Y.iload_n dX5_better_1 rfl ?_
  refine Y.iload_n dX5_better_2 rfl ?_
  refine Y.cVI dX5_better_3 mkX5_isStep csX5_154 ob67 ⟨_, rfl, rfl⟩ (k_X5_isStep ec hp hi hj) (by omega) rfl rfl (Nat.le_of_ble_eq_true rfl) ?_
  refine Y.ifz_eq 29 dX5_better_6 (by decide) (fun h_6 => ?_) (fun h_6 => ?_)
  · refine Y.bipush dX5_better_29 (by decide +kernel) ?_
    exact Y.iret dX5_better_31 rfl (hP _ _ (by first | exact ⟨Or.inl ⟨⟨by assumption, by assumption⟩, by rw [show (i * 3 + j) / 3 = i by omega]⟩, f_23⟩ | exact ⟨Or.inr ⟨fun z => by first | exact absurd z.1 (by assumption) | exact absurd z.2 (by assumption), rfl⟩, EM.rf⟩))
  · refine Y.iload_n dX5_better_9 rfl ?_
    refine Y.cSI dX5_better_10 mkX5_isTwo csX5_177 (c_X5_isTwo (by omega)) (by omega) rfl rfl (Nat.le_of_ble_eq_true rfl) ?_
    refine Y.ifz_eq 29 dX5_better_13 (by decide) (fun h_13 => ?_) (fun h_13 => ?_)
    · refine Y.bipush dX5_better_29 (by decide +kernel) ?_
      exact Y.iret dX5_better_31 rfl (hP _ _ (by first | exact ⟨Or.inl ⟨⟨by assumption, by assumption⟩, by rw [show (i * 3 + j) / 3 = i by omega]⟩, f_23⟩ | exact ⟨Or.inr ⟨fun z => by first | exact absurd z.1 (by assumption) | exact absurd z.2 (by assumption), rfl⟩, EM.rf⟩))
    · obtain ⟨s3, s4, s5, s6, s7, s8, s9⟩ := stp_f hp (by assumption)
      have hj3 : j < 3 := by
        have q1 := (hp.1 i s3 s4).2.2.2.2.2
        have q2 := h_6.2.2.2
        omega
      refine Y.aload_n dX5_better_16 rfl ?_
      refine Y.iconst dX5_better_17 ?_
      refine Y.iload_n dX5_better_18 rfl ?_
      refine Y.imul dX5_better_19 ?_
      refine Y.iload_n dX5_better_20 rfl ?_
      refine Y.iadd dX5_better_21 ?_
      refine Y.iload_n dX5_better_22 rfl ?_
      rw [s8]
      refine Y.callV dX5_better_23 mkX5_betterBy csX5_294 ob67 ⟨_, rfl, rfl⟩ (c_X5_betterBy ec hp s6 s7 s9 hw) (by omega) rfl rfl (Nat.le_of_ble_eq_true rfl) (fun r_23 s_23 p_23 => ?_)
      obtain ⟨rfl, f_23⟩ := p_23
      refine Y.goto 31 dX5_better_26 (by decide) ?_
      exact Y.iret dX5_better_31 rfl (hP _ _ (by first | exact ⟨Or.inl ⟨⟨by assumption, by assumption⟩, by rw [show (i * 3 + j) / 3 = i by omega]⟩, f_23⟩ | exact ⟨Or.inr ⟨fun z => by first | exact absurd z.1 (by assumption) | exact absurd z.2 (by assumption), rfl⟩, EM.rf⟩))
set_option maxHeartbeats 1000000 in
theorem c_X5_seen {p : zP} (ec : mP σ = p) (hp : WP p) (hJ : JD σ) {i j : Int} (hi : zB i) (hj : zB j) {w : Int} (hw : zB w) : YC 3 μX5_seen [.ref 67, .int (zi i), .int (zi j), .int (zi w)] σ (fun r s => RQ (stp p i j ∧ 0 ≤ w ∧ w ≤ 2) (snA σ (i * 3 + j) w) r ∧ EM σ s) := by
  refine YC.of2 (by decide) (Nat.le_of_ble_eq_true rfl) (fun d P hd hP => ?_)
  refine Y.aload_n dX5_seen_0 rfl ?_
  refine Y.iload_n dX5_seen_1 rfl ?_
  refine Y.iload_n dX5_seen_2 rfl ?_
  refine Y.cVI dX5_seen_3 mkX5_isStep csX5_154 ob67 ⟨_, rfl, rfl⟩ (k_X5_isStep ec hp hi hj) (by omega) rfl rfl (Nat.le_of_ble_eq_true rfl) ?_
  refine Y.ifz_eq 34 dX5_seen_6 (by decide) (fun h_6 => ?_) (fun h_6 => ?_)
  · refine Y.bipush dX5_seen_34 (by decide +kernel) ?_
    exact Y.iret dX5_seen_36 rfl (hP _ _ (by first | exact ⟨Or.inl ⟨⟨by assumption, by assumption⟩, rfl⟩, EM.rf⟩ | exact ⟨Or.inr ⟨fun z => by first | exact absurd z.1 (by assumption) | exact absurd z.2 (by assumption), rfl⟩, EM.rf⟩))
  · refine Y.iload_n dX5_seen_9 rfl ?_
    refine Y.i2l dX5_seen_10 (by omega) ?_
    refine Y.lconst 0 dX5_seen_11 rfl ?_
    refine Y.ldc2 (2) dX5_seen_12 kX5_105 ?_
    refine Y.cSI dX5_seen_15 mkX5_in csX5_89 (c_X5_in (by omega) (by omega) (by omega)) (by omega) rfl rfl (Nat.le_of_ble_eq_true rfl) ?_
    refine Y.ifz_eq 34 dX5_seen_18 (by decide) (fun h_18 => ?_) (fun h_18 => ?_)
    · refine Y.bipush dX5_seen_34 (by decide +kernel) ?_
      exact Y.iret dX5_seen_36 rfl (hP _ _ (by first | exact ⟨Or.inl ⟨⟨by assumption, by assumption⟩, rfl⟩, EM.rf⟩ | exact ⟨Or.inr ⟨fun z => by first | exact absurd z.1 (by assumption) | exact absurd z.2 (by assumption), rfl⟩, EM.rf⟩))
    · obtain ⟨s3, s4, s5, s6, s7, s8, s9⟩ := stp_f hp (by assumption)
      refine Y.aload_n dX5_seen_21 rfl ?_
      refine Y.iconst dX5_seen_22 ?_
      refine Y.iload_n dX5_seen_23 rfl ?_
      refine Y.imul dX5_seen_24 ?_
      refine Y.iload_n dX5_seen_25 rfl ?_
      refine Y.iadd dX5_seen_26 ?_
      rw [s8]
      refine Y.iload_n dX5_seen_27 rfl ?_
      refine Y.cVI dX5_seen_28 mkX5_seenBy csX5_321 ob67 ⟨_, rfl, rfl⟩ (c_X5_seenBy s6 s7 hw) (by omega) rfl rfl (Nat.le_of_ble_eq_true rfl) ?_
      have hr := hJ.2.2.2.1.2.2.1 (i * 3 + j) s6 s7
      rw [show (if w = 0 then σ.1 90 (i * 3 + j) else if w = 1 then σ.1 91 (i * 3 + j) else σ.1 92 (i * 3 + j)) = snA σ (i * 3 + j) w by unfold snA; rw [hr.1, hr.2.1, hr.2.2]]
      refine Y.goto 36 dX5_seen_31 (by decide) ?_
      exact Y.iret dX5_seen_36 rfl (hP _ _ (by first | exact ⟨Or.inl ⟨⟨by assumption, by assumption⟩, rfl⟩, EM.rf⟩ | exact ⟨Or.inr ⟨fun z => by first | exact absurd z.1 (by assumption) | exact absurd z.2 (by assumption), rfl⟩, EM.rf⟩))
theorem tick_j (hJ : JD σ) {k : Nat} (hk : k < 2) {t : Int} (t0 : 0 ≤ t) (t3 : t < 300) : (if t < σ.1 67 35 then σ.1 93 (300 * (k : Int) + t) else -1) = σ.1 (41 + k) t := by
  obtain ⟨r1, r2, r3, r4, r5⟩ := hJ.2.2.2.1
  obtain ⟨g, h⟩ := r5 k hk
  by_cases q : t < σ.1 67 35
  · rw [if_pos q]; exact h t t0 q
  · rw [if_neg q]; exact (g.1 t (by omega) t3).symm
set_option maxHeartbeats 1000000 in
theorem c_X5_tick (hJ : JD σ) {n t : Int} (hn : zB n) (ht : zB t) : YC 2 μX5_tick [.ref 67, .int (zi n), .int (zi t)] σ (fun r s => RQ ((0 ≤ n ∧ n ≤ 1) ∧ 0 ≤ t ∧ t ≤ 299) (σ.1 (41 + n.toNat) t) r ∧ EM σ s) := by
  refine YC.of2 (by decide) (Nat.le_of_ble_eq_true rfl) (fun d P hd hP => ?_)
  have hr := hJ.2.2.2.1.2.1
  refine Y.iload_n dX5_tick_0 rfl ?_
  refine Y.cSI dX5_tick_1 mkX5_isTwo csX5_177 (c_X5_isTwo (by omega)) (by omega) rfl rfl (Nat.le_of_ble_eq_true rfl) ?_
  refine Y.ifz_eq 28 dX5_tick_4 (by decide) (fun h_4 => ?_) (fun h_4 => ?_)
  · refine Y.bipush dX5_tick_28 (by decide +kernel) ?_
    exact Y.iret dX5_tick_30 rfl (hP _ _ (by first | exact ⟨Or.inl ⟨⟨by assumption, by assumption⟩, rfl⟩, EM.rf⟩ | exact ⟨Or.inr ⟨fun z => by first | exact absurd z.1 (by assumption) | exact absurd z.2 (by assumption), rfl⟩, EM.rf⟩))
  · refine Y.iload_n dX5_tick_7 rfl ?_
    refine Y.i2l dX5_tick_8 (by omega) ?_
    refine Y.lconst 0 dX5_tick_9 rfl ?_
    refine Y.ldc2 (299) dX5_tick_10 kX5_324 ?_
    refine Y.cSI dX5_tick_13 mkX5_in csX5_89 (c_X5_in (by omega) (by omega) (by omega)) (by omega) rfl rfl (Nat.le_of_ble_eq_true rfl) ?_
    refine Y.ifz_eq 28 dX5_tick_16 (by decide) (fun h_16 => ?_) (fun h_16 => ?_)
    · refine Y.bipush dX5_tick_28 (by decide +kernel) ?_
      exact Y.iret dX5_tick_30 rfl (hP _ _ (by first | exact ⟨Or.inl ⟨⟨by assumption, by assumption⟩, rfl⟩, EM.rf⟩ | exact ⟨Or.inr ⟨fun z => by first | exact absurd z.1 (by assumption) | exact absurd z.2 (by assumption), rfl⟩, EM.rf⟩))
    · obtain ⟨k, rfl⟩ : ∃ k : Nat, n = (k : Int) := ⟨n.toNat, by omega⟩
      refine Y.aload_n dX5_tick_19 rfl ?_
      refine Y.iload_n dX5_tick_20 rfl ?_
      refine Y.iload_n dX5_tick_21 rfl ?_
      refine Y.cVI dX5_tick_22 mkX5_tickBy csX5_326 ob67 ⟨_, rfl, rfl⟩ (c_X5_tickBy (by omega) (by omega) (by omega) (by omega) hr) (by omega) rfl rfl (Nat.le_of_ble_eq_true rfl) ?_
      rw [tick_j hJ (by omega) (by omega) (by omega)]
      refine Y.goto 30 dX5_tick_25 (by decide) ?_
      exact Y.iret dX5_tick_30 rfl (hP _ _ (by first | exact ⟨Or.inl ⟨⟨by assumption, by assumption⟩, rfl⟩, EM.rf⟩ | exact ⟨Or.inr ⟨fun z => by first | exact absurd z.1 (by assumption) | exact absurd z.2 (by assumption), rfl⟩, EM.rf⟩))
end ZL2
